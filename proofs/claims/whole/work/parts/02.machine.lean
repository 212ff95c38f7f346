/-! THE SMALL MACHINE: the instructions that the claim's methods use, over cells by number. A cell's row: tag, number, contents (of what is only read), references (of final fields, of rows of references).
 tags: 0 an object (number: which kind), 1 ints, 2 bytes, 3 booleans, 4 longs (number: how many), 5 and 6 references (to kind 6, to kind 7), 7 ints that are only read, 8 bytes that are only read, 9 a text (number: the cell of its bytes), 11 what is only carried -/
abbrev mm_D : Type := Nat × Nat × (Nat → Int32) × List (Option Nat)
abbrev mm_M : Type := (Nat → Nat → Int32) × (Nat → Nat → Int64) × (Nat → Nat → Option Nat)
abbrev mm_W : Type := List mm_D × mm_M
abbrev mm_L : Type := List (Option Value)
/-- an instruction's row: itself, (pc, length), (a, b, c), (int, long), a switch's places -/
abbrev mm_R : Type := Instr × (Nat × Nat) × (Nat × Nat × Nat) × (Int32 × Int64) × List (Int32 × Nat)
abbrev mm_C : Type := Nat × mm_L × List Value × mm_W
def mm_sI (μ : mm_M) (q : Nat) (f : Nat → Int32) : mm_M := (fun c => if c = q then f else μ.1 c, μ.2.1, μ.2.2)
def mm_sJ (μ : mm_M) (q : Nat) (f : Nat → Int64) : mm_M := (μ.1, fun c => if c = q then f else μ.2.1 c, μ.2.2)
def mm_sR (μ : mm_M) (q : Nat) (f : Nat → Option Nat) : mm_M := (μ.1, μ.2.1, fun c => if c = q then f else μ.2.2 c)
def mm_ld (L : mm_L) (k : Nat) : Option Value := match L[k]? with
  | some o => o
  | none => none
def mm_lg (L : mm_L) (k : Nat) : Bool := match k with
  | 0 => false
  | j + 1 => match L[j]? with
    | some (some (.long _)) => true
    | some (some (.double _)) => true
    | _ => false
def mm_st1 (L : mm_L) (k : Nat) (v : Value) : Option mm_L := match mm_lg L k, Nat.blt k L.length with
  | false, true => some (L.set k (some v))
  | _, _ => none
def mm_st2 (L : mm_L) (k : Nat) (v : Value) : Option mm_L := match mm_lg L k, Nat.blt (k + 1) L.length with
  | false, true => some ((L.set k (some v)).set (k + 1) none)
  | _, _ => none
def mm_sw : List (Int32 × Nat) → Nat → Int32 → Nat
  | [], d, _ => d
  | (v, t) :: r, d, x => if x = v then t else mm_sw r d x
/-- how many words the operands take -/
def mm_wd : List Value → Nat
  | [] => 0
  | .long _ :: s => mm_wd s + 2
  | .double _ :: s => mm_wd s + 2
  | _ :: s => mm_wd s + 1
/-- a copy of items -/
def mm_cp (st : List Value) (w : mm_W) : Option (List Value × mm_W) := match st with
  | .int n :: .int dp :: .ref b :: .int sp :: .ref a :: s => match w.1[a]?, w.1[b]? with
    | some (ta, na, _, _), some (tb, nb, _, _) =>
      if n < 0 ∨ sp < 0 ∨ dp < 0 ∨ na < sp.toNatClampNeg + n.toNatClampNeg ∨ nb < dp.toNatClampNeg + n.toNatClampNeg ∨ 8 < mm_wd s then none
      else match ta == 1 && tb == 1, ta == 4 && tb == 4 with
        | true, _ => some (s, (w.1, mm_sI w.2 b (va_cpy (w.2.1 a) (w.2.1 b) sp.toNatClampNeg dp.toNatClampNeg n.toNatClampNeg)))
        | _, true => some (s, (w.1, mm_sJ w.2 b (va_cpy (w.2.2.1 a) (w.2.2.1 b) sp.toNatClampNeg dp.toNatClampNeg n.toNatClampNeg)))
        | _, _ => none
    | _, _ => none
  | _ => none
/-- how many fields of each kind -/
def mm_N : List Nat := [5, 4, 10, 2, 5, 4, 6, 3, 10, 47]
/-- a new object, new items: the cell comes behind all others, with nothing in it -/
def mm_new (w : mm_W) (d : mm_D) : mm_W := (w.1 ++ [d], mm_sR (mm_sJ (mm_sI w.2 w.1.length (fun _ => 0)) w.1.length (fun _ => 0)) w.1.length (fun _ => none))
/-- items of an array come as numbers: which tags, by the instruction -/
def mm_ial (w : mm_W) (q : Nat) (j : Int32) : Option Int32 := match w.1[q]? with
  | some (t, n, f, _) => if j < 0 ∨ n ≤ j.toNatClampNeg then none else match t == 1, t == 7 with
    | true, _ => some (w.2.1 q j.toNatClampNeg)
    | _, true => some (f j.toNatClampNeg)
    | _, _ => none
  | none => none
def mm_bal (w : mm_W) (q : Nat) (j : Int32) : Option Int32 := match w.1[q]? with
  | some (t, n, f, _) => if j < 0 ∨ n ≤ j.toNatClampNeg then none else match t == 2 || t == 3, t == 8 with
    | true, _ => some (w.2.1 q j.toNatClampNeg)
    | _, true => some (f j.toNatClampNeg)
    | _, _ => none
  | none => none
def mm_ias (w : mm_W) (q : Nat) (j x : Int32) : Option mm_W := match w.1[q]? with
  | some (t, n, _, _) => if j < 0 ∨ n ≤ j.toNatClampNeg then none else match t == 1 with
    | true => some (w.1, mm_sI w.2 q (upd (w.2.1 q) j.toNatClampNeg x))
    | _ => none
  | none => none
def mm_bas (w : mm_W) (q : Nat) (j x : Int32) : Option mm_W := match w.1[q]? with
  | some (t, n, _, _) => if j < 0 ∨ n ≤ j.toNatClampNeg then none else match t == 2, t == 3 with
    | true, _ => some (w.1, mm_sI w.2 q (upd (w.2.1 q) j.toNatClampNeg (vp_nar .byte x)))
    | _, true => some (w.1, mm_sI w.2 q (upd (w.2.1 q) j.toNatClampNeg (vp_nar .boolean x)))
    | _, _ => none
  | none => none
def mm_lal (w : mm_W) (q : Nat) (j : Int32) : Option Int64 := match w.1[q]? with
  | some (t, n, _, _) => if j < 0 ∨ n ≤ j.toNatClampNeg then none else match t == 4 with
    | true => some (w.2.2.1 q j.toNatClampNeg)
    | _ => none
  | none => none
def mm_las (w : mm_W) (q : Nat) (j : Int32) (x : Int64) : Option mm_W := match w.1[q]? with
  | some (t, n, _, _) => if j < 0 ∨ n ≤ j.toNatClampNeg then none else match t == 4 with
    | true => some (w.1, mm_sJ w.2 q (vp_updL (w.2.2.1 q) j.toNatClampNeg x))
    | _ => none
  | none => none
def mm_aal (w : mm_W) (q : Nat) (j : Int32) : Option Value := match w.1[q]? with
  | some (t, n, _, rs) => if j < 0 ∨ n ≤ j.toNatClampNeg then none else match t == 5 || t == 6 with
    | true => some (va_rf (rs.getD j.toNatClampNeg none))
    | _ => none
  | none => none
def mm_aas (w : mm_W) (q : Nat) (j : Int32) (x : Nat) : Option mm_W := match w.1[q]?, w.1[x]? with
  | some (t, n, f, rs), some (tx, nx, _, _) => if j < 0 ∨ n ≤ j.toNatClampNeg ∨ rs.length ≤ j.toNatClampNeg then none else match (t == 5 && (tx == 0 && nx == 6)) || (t == 6 && (tx == 0 && nx == 7)) with
    | true => some (w.1.set q (t, n, f, rs.set j.toNatClampNeg (some x)), w.2)
    | _ => none
  | _, _ => none
def mm_len (w : mm_W) (q : Nat) : Option Int32 := match w.1[q]? with
  | some (t, n, _, _) => match Nat.blt 0 t && Nat.blt t 9 with
    | true => some (Int32.ofNat n)
    | _ => none
  | none => none
/-- a field read: a the object's kind, b the place, c how it is kept (0 a number, 1 a reference, 2 a final reference, 3 a text's bytes, 4 a text's coder) -/
def mm_gf (w : mm_W) (q a b c : Nat) : Option Value := match w.1[q]? with
  | some (t, n, _, rs) => match t == 0 && n == a, t == 9, c with
    | true, _, 0 => some (.int (w.2.1 q b))
    | true, _, 1 => some (va_rf (w.2.2.2 q b))
    | true, _, 2 => some (va_rf (rs.getD b none))
    | _, true, 3 => some (.ref n)
    | _, true, 4 => some (.int 0)
    | _, _, _ => none
  | none => none
/-- a field written: as above; 5: a boolean -/
def mm_pf (w : mm_W) (q a b c : Nat) (v : Value) : Option mm_W := match w.1[q]? with
  | some (t, n, f, rs) => match t == 0 && n == a, c, v with
    | true, 0, .int x => some (w.1, mm_sI w.2 q (upd (w.2.1 q) b x))
    | true, 5, .int x => if x = 0 ∨ x = 1 then some (w.1, mm_sI w.2 q (upd (w.2.1 q) b x)) else none
    | true, 1, .ref x => some (w.1, mm_sR w.2 q (va_up (w.2.2.2 q) b (some x)))
    | true, 1, .null => some (w.1, mm_sR w.2 q (va_up (w.2.2.2 q) b none))
    | true, 2, .ref x => match Nat.blt b rs.length with
      | true => some (w.1.set q (t, n, f, rs.set b (some x)), w.2)
      | _ => none
    | _, _, _ => none
  | none => none
def mm_i1 (st : List Value) (g : Int32 → Option Value) : Option (List Value) := match st with
  | .int x :: s => match g x with
    | some v => some (v :: s)
    | none => none
  | _ => none
def mm_i2 (st : List Value) (g : Int32 → Int32 → Option Value) : Option (List Value) := match st with
  | .int y :: .int x :: s => match g x y with
    | some v => some (v :: s)
    | none => none
  | _ => none
def mm_j2 (st : List Value) (g : Int64 → Int64 → Option Value) : Option (List Value) := match st with
  | .long y :: .long x :: s => match g x y with
    | some v => some (v :: s)
    | none => none
  | _ => none
/-- what only changes the operands -/
def mm_op (r : mm_R) (st : List Value) : Option (List Value) := match r.1 with
  | .iconst _ => some (.int r.2.2.2.1.1 :: st)
  | .bipush _ => some (.int r.2.2.2.1.1 :: st)
  | .sipush _ => some (.int r.2.2.2.1.1 :: st)
  | .ldc _ => match r.2.2.1.2.2 with
    | 0 => some (.int r.2.2.2.1.1 :: st)
    | _ => some (.ref r.2.2.1.1 :: st)
  | .ldc_w _ => some (.int r.2.2.2.1.1 :: st)
  | .ldc2_w _ => some (.long r.2.2.2.1.2 :: st)
  | .lconst _ => some (.long r.2.2.2.1.2 :: st)
  | .getstatic _ => match r.2.2.1.2.2 with
    | 0 => some (.int r.2.2.2.1.1 :: st)
    | _ => some (.ref r.2.2.1.1 :: st)
  | .iadd => mm_i2 st (fun x y => some (.int (x + y)))
  | .isub => mm_i2 st (fun x y => some (.int (x - y)))
  | .imul => mm_i2 st (fun x y => some (.int (x * y)))
  | .iand => mm_i2 st (fun x y => some (.int (x &&& y)))
  | .ior => mm_i2 st (fun x y => some (.int (x ||| y)))
  | .ixor => mm_i2 st (fun x y => some (.int (x ^^^ y)))
  | .ishl => mm_i2 st (fun x y => some (.int (x <<< (y &&& 31))))
  | .ishr => mm_i2 st (fun x y => some (.int (x >>> (y &&& 31))))
  | .iushr => mm_i2 st (fun x y => some (.int (x.toUInt32 >>> (y.toUInt32 &&& Int32.toUInt32 31)).toInt32))
  | .idiv => mm_i2 st (fun x y => if y = 0 then none else some (.int (x / y)))
  | .irem => mm_i2 st (fun x y => if y = 0 then none else some (.int (x - x / y * y)))
  | .ineg => mm_i1 st (fun x => some (.int (-x)))
  | .i2l => mm_i1 st (fun x => some (.long x.toInt64))
  | .i2b => mm_i1 st (fun x => some (.int x.toInt8.toInt32))
  | .i2s => mm_i1 st (fun x => some (.int x.toInt16.toInt32))
  | .i2c => mm_i1 st (fun x => some (.int (x.toUInt32 % 65536).toInt32))
  | .ladd => mm_j2 st (fun x y => some (.long (x + y)))
  | .land => mm_j2 st (fun x y => some (.long (x &&& y)))
  | .lor => mm_j2 st (fun x y => some (.long (x ||| y)))
  | .lxor => mm_j2 st (fun x y => some (.long (x ^^^ y)))
  | .ldiv => mm_j2 st (fun x y => if y = 0 then none else some (.long (x / y)))
  | .lrem => mm_j2 st (fun x y => if y = 0 then none else some (.long (x - x / y * y)))
  | .lcmp => mm_j2 st (fun x y => some (.int (lg_cmp x y)))
  | .lneg => match st with
    | .long x :: s => some (.long (-x) :: s)
    | _ => none
  | .l2i => match st with
    | .long x :: s => some (.int x.toInt32 :: s)
    | _ => none
  | .lshl => match st with
    | .int y :: .long x :: s => some (.long (x <<< (y.toInt64 &&& 63)) :: s)
    | _ => none
  | .lshr => match st with
    | .int y :: .long x :: s => some (.long (x >>> (y.toInt64 &&& 63)) :: s)
    | _ => none
  | .dup => match st with
    | .int x :: s => some (.int x :: .int x :: s)
    | .ref x :: s => some (.ref x :: .ref x :: s)
    | _ => none
  | .pop => match st with
    | .int _ :: s => some s
    | .ref _ :: s => some s
    | _ => none
  | .dup_x1 => match st with
    | .int x :: .ref y :: s => some (.int x :: .ref y :: .int x :: s)
    | _ => none
  | .dup2 => match st with
    | .int x :: .ref y :: s => some (.int x :: .ref y :: .int x :: .ref y :: s)
    | _ => none
  | _ => none
/-- where it goes on, what is left of the operands -/
def mm_jp (r : mm_R) (i : Nat) (st : List Value) : Option (Nat × List Value) := match r.1 with
  | .goto _ => some (r.2.2.1.2.1, st)
  | .ifCond cd _ => match st with
    | .int x :: s => match cd with
      | .eq => some (if x = 0 then r.2.2.1.2.1 else i + 1, s)
      | .ne => some (if x = 0 then i + 1 else r.2.2.1.2.1, s)
      | .lt => some (if x < 0 then r.2.2.1.2.1 else i + 1, s)
      | .ge => some (if 0 ≤ x then r.2.2.1.2.1 else i + 1, s)
      | .gt => some (if 0 < x then r.2.2.1.2.1 else i + 1, s)
      | .le => some (if x ≤ 0 then r.2.2.1.2.1 else i + 1, s)
    | _ => none
  | .if_icmp cd _ => match st with
    | .int y :: .int x :: s => match cd with
      | .eq => some (if x = y then r.2.2.1.2.1 else i + 1, s)
      | .ne => some (if x = y then i + 1 else r.2.2.1.2.1, s)
      | .lt => some (if x < y then r.2.2.1.2.1 else i + 1, s)
      | .ge => some (if y ≤ x then r.2.2.1.2.1 else i + 1, s)
      | .gt => some (if y < x then r.2.2.1.2.1 else i + 1, s)
      | .le => some (if x ≤ y then r.2.2.1.2.1 else i + 1, s)
    | _ => none
  | .ifnonnull _ => match st with
    | .ref x :: s => match x == 13 with
      | false => some (r.2.2.1.2.1, s)
      | _ => none
    | .null :: s => some (i + 1, s)
    | _ => none
  | .tableswitch _ _ _ _ => match st with
    | .int x :: s => some (mm_sw r.2.2.2.2 r.2.2.1.2.1 x, s)
    | _ => none
  | .lookupswitch _ _ => match st with
    | .int x :: s => some (mm_sw r.2.2.2.2 r.2.2.1.2.1 x, s)
    | _ => none
  | _ => none
/-- what reads and writes the method's own places -/
def mm_lo (r : mm_R) (L : mm_L) (st : List Value) : Option (mm_L × List Value) := match r.1 with
  | .iload _ => match mm_ld L r.2.2.1.1 with
    | some (.int x) => some (L, .int x :: st)
    | _ => none
  | .iload_n _ => match mm_ld L r.2.2.1.1 with
    | some (.int x) => some (L, .int x :: st)
    | _ => none
  | .lload _ => match mm_ld L r.2.2.1.1 with
    | some (.long x) => some (L, .long x :: st)
    | _ => none
  | .lload_n _ => match mm_ld L r.2.2.1.1 with
    | some (.long x) => some (L, .long x :: st)
    | _ => none
  | .aload _ => match mm_ld L r.2.2.1.1 with
    | some (.ref x) => some (L, .ref x :: st)
    | _ => none
  | .aload_n _ => match mm_ld L r.2.2.1.1 with
    | some (.ref x) => some (L, .ref x :: st)
    | _ => none
  | .istore _ => match st with
    | .int x :: s => match mm_st1 L r.2.2.1.1 (.int x) with
      | some L' => some (L', s)
      | none => none
    | _ => none
  | .istore_n _ => match st with
    | .int x :: s => match mm_st1 L r.2.2.1.1 (.int x) with
      | some L' => some (L', s)
      | none => none
    | _ => none
  | .lstore _ => match st with
    | .long x :: s => match mm_st2 L r.2.2.1.1 (.long x) with
      | some L' => some (L', s)
      | none => none
    | _ => none
  | .astore _ => match st with
    | .ref x :: s => match mm_st1 L r.2.2.1.1 (.ref x) with
      | some L' => some (L', s)
      | none => none
    | _ => none
  | .astore_n _ => match st with
    | .ref x :: s => match mm_st1 L r.2.2.1.1 (.ref x) with
      | some L' => some (L', s)
      | none => none
    | _ => none
  | .iinc _ _ => match mm_ld L r.2.2.1.1 with
    | some (.int x) => match mm_st1 L r.2.2.1.1 (.int (x + r.2.2.2.1.1)) with
      | some L' => some (L', st)
      | none => none
    | _ => none
  | _ => none
/-- what reads and writes cells -/
def mm_he (r : mm_R) (st : List Value) (w : mm_W) : Option (List Value × mm_W) := match r.1 with
  | .getfield _ => match st with
    | .ref q :: s => match mm_gf w q r.2.2.1.1 r.2.2.1.2.1 r.2.2.1.2.2 with
      | some v => some (v :: s, w)
      | none => none
    | _ => none
  | .putfield _ => match st with
    | v :: .ref q :: s => match mm_pf w q r.2.2.1.1 r.2.2.1.2.1 r.2.2.1.2.2 v with
      | some w' => some (s, w')
      | none => none
    | _ => none
  | .iaload => match st with
    | .int j :: .ref q :: s => match mm_ial w q j with
      | some x => some (.int x :: s, w)
      | none => none
    | _ => none
  | .baload => match st with
    | .int j :: .ref q :: s => match mm_bal w q j with
      | some x => some (.int x :: s, w)
      | none => none
    | _ => none
  | .laload => match st with
    | .int j :: .ref q :: s => match mm_lal w q j with
      | some x => some (.long x :: s, w)
      | none => none
    | _ => none
  | .aaload => match st with
    | .int j :: .ref q :: s => match mm_aal w q j with
      | some x => some (x :: s, w)
      | none => none
    | _ => none
  | .iastore => match st with
    | .int x :: .int j :: .ref q :: s => match mm_ias w q j x with
      | some w' => some (s, w')
      | none => none
    | _ => none
  | .bastore => match st with
    | .int x :: .int j :: .ref q :: s => match mm_bas w q j x with
      | some w' => some (s, w')
      | none => none
    | _ => none
  | .lastore => match st with
    | .long x :: .int j :: .ref q :: s => match mm_las w q j x with
      | some w' => some (s, w')
      | none => none
    | _ => none
  | .aastore => match st with
    | .ref x :: .int j :: .ref q :: s => match mm_aas w q j x with
      | some w' => some (s, w')
      | none => none
    | _ => none
  | .arraylength => match st with
    | .ref q :: s => match mm_len w q with
      | some x => some (.int x :: s, w)
      | none => none
    | _ => none
  | .new _ => some (.ref w.1.length :: st, mm_new w (0, r.2.2.1.1, (fun _ => 0), List.replicate (mm_N.getD r.2.2.1.1 0) none))
  | .newarray _ => match st with
    | .int n :: s => if n < 0 ∨ 100000 < n.toNatClampNeg then none else some (.ref w.1.length :: s, mm_new w (r.2.2.1.1, n.toNatClampNeg, (fun _ => 0), []))
    | _ => none
  | .anewarray _ => match st with
    | .int n :: s => if n < 0 ∨ 100000 < n.toNatClampNeg then none else some (.ref w.1.length :: s, mm_new w (r.2.2.1.1, n.toNatClampNeg, (fun _ => 0), List.replicate n.toNatClampNeg none))
    | _ => none
  | .invokespecial _ => match r.2.2.1.2.2, st with
    | 4, .ref x :: s => match Nat.ble (mm_wd s) 8 && !(x == 13) with
      | true => some (s, w)
      | _ => none
    | _, _ => none
  | .invokestatic _ => match r.2.2.1.2.2 with
    | 5 => mm_cp st w
    | 6 => match st with
      | .int y :: .int x :: s => match Nat.ble (mm_wd s) 8 with
        | true => some (.int (if x < y then y else x) :: s, w)
        | _ => none
      | _ => none
    | 7 => match st with
      | .int y :: .int x :: s => match Nat.ble (mm_wd s) 8 with
        | true => some (.int (if y < x then y else x) :: s, w)
        | _ => none
      | _ => none
    | 8 => match st with
      | .long x :: s => match Nat.ble (mm_wd s) 8 with
        | true => some (.long (if 0 < x then x else -x) :: s, w)
        | _ => none
      | _ => none
    | _ => none
  | _ => none
/-- one instruction that is no call and no end -/
def mm_stp (r : mm_R) (i : Nat) (L : mm_L) (st : List Value) (w : mm_W) : Option mm_C :=
  match mm_op r st with
  | some st' => some (i + 1, L, st', w)
  | none => match mm_lo r L st with
    | some (L', st') => some (i + 1, L', st', w)
    | none => match mm_jp r i st with
      | some (i', st') => some (i', L, st', w)
      | none => match mm_he r st w with
        | some (st', w') => some (i + 1, L, st', w')
        | none => none
/-- an end -/
def mm_ret (r : mm_R) (st : List Value) : Option (Option Value) := match r.1 with
  | .ireturn => match st with
    | [.int x] => match r.2.2.1.1 with
      | 0 => some (some (.int x))
      | 1 => if x = 0 ∨ x = 1 then some (some (.int x)) else none
      | 2 => if vp_nar .char x = x then some (some (.int x)) else none
      | _ => if vp_nar .byte x = x then some (some (.int x)) else none
    | _ => none
  | .lreturn => match st with
    | [.long x] => some (some (.long x))
    | _ => none
  | .areturn => match st with
    | [.ref x] => some (some (.ref x))
    | _ => none
  | .return_ => match st with
    | [] => some none
    | _ => none
  | _ => none
/-- a call: whom, with what, what is left: the row's a, b (how many values), c (0 static, 1 by the object, 2 a making, 3 a making of a nest mate) -/
def mm_cl (r : mm_R) (st : List Value) : Option (Nat × List Value × List Value) :=
  match Nat.ble r.2.2.1.2.1 st.length && Nat.ble (mm_wd (st.drop r.2.2.1.2.1)) 8, Nat.blt r.2.2.1.2.2 4 with
  | true, true => match r.1 with
    | .invokevirtual _ => some (r.2.2.1.1, (st.take r.2.2.1.2.1).reverse, st.drop r.2.2.1.2.1)
    | .invokestatic _ => some (r.2.2.1.1, (st.take r.2.2.1.2.1).reverse, st.drop r.2.2.1.2.1)
    | .invokespecial _ => some (r.2.2.1.1, (st.take r.2.2.1.2.1).reverse, st.drop r.2.2.1.2.1)
    | _ => none
  | _, _ => none
def mm_sl : List Value → mm_L
  | [] => []
  | .long x :: r => some (.long x) :: none :: mm_sl r
  | .double x :: r => some (.double x) :: none :: mm_sl r
  | v :: r => some v :: mm_sl r
def mm_ent (ml : Nat) (as : List Value) : mm_L := mm_sl as ++ List.replicate (ml - (mm_sl as).length) none
