/-! THE ROWS ARE THE CODE'S: what a row must be, checked by program -/
/-- a word of the tables, by its place: 1000 * part + place -/
def mm_seg (n : Nat) : List Cond := match n with
  | 0 => k2_sels lw_privs
  | 1 => tables_1_1
  | 2 => tables_1_2
  | 3 => tables_1_3
  | 4 => tables_1_4
  | 5 => tables_1_5
  | _ => tables_1_6
def mm_has (h : Nat) (w : Cond) : Bool := match (mm_seg (h / 1000))[h % 1000]? with
  | some v => decide (v = w) && goodWord w
  | none => false
def mm_good : List Cond := lw_tbl.filter goodWord
theorem mm_seg_mem (n : Nat) {w : Cond} (h : w ∈ mm_seg n) : w ∈ lw_tbl := by
  unfold lw_tbl tables_1
  unfold mm_seg at h
  split at h <;> simp only [List.mem_append] <;> simp [h]
theorem mm_has_mem {h : Nat} {w : Cond} (e : mm_has h w = true) : w ∈ mm_good := by
  unfold mm_has at e
  split at e
  · rename_i v hv
    simp only [Bool.and_eq_true, decide_eq_true_eq] at e
    obtain ⟨rfl, e2⟩ := e
    exact List.mem_filter.mpr ⟨mm_seg_mem _ (List.mem_of_getElem? hv), e2⟩
  · cases e
/-- the next row's pc, a jump's -/
def mm_pcis (R : List (List mm_R)) (i : Nat) (n : Int) : Bool := match mm_rw R i with
  | some r => decide ((r.2.1.1 : Int) = n)
  | none => true
def mm_pcj (R : List (List mm_R)) (i : Nat) (n : Int) : Bool := match mm_rw R i with
  | some r => decide ((r.2.1.1 : Int) = n)
  | none => false
def mm_T1 (a : Nat) : vw_C := vwCl.getD a (RX0, TX0, 5)
def mm_fc (a b : Nat) : Nat := (mm_FC.getD a []).getD b 9
/-- String constants: whose, which place, which cell -/
def mm_strs : List (String × Nat × Nat) := [("GlobeCorner$Reader", 67, 5), ("GlobeCorner$Reader", 46, 3), ("GlobeCorner$Reader", 48, 4), ("GlobeCorner$Reader", 84, 6), ("GlobeCornerModel", 213, 3), ("GlobeCornerModel", 219, 4), ("GlobeCornerModel", 221, 5), ("GlobeCornerModel", 182, 6), ("GlobeCornerModel", 187, 7)]
/-- makings of nest mates: which place of GlobeCorner's, whose -/
def mm_nest : List (Nat × Nat) := [(11, 24), (36, 55), (43, 48), (50, 18), (61, 73), (62, 80)]
def mm_par (y : Nat) : Option Nat := (parseMethodDescriptor (mm_I y).1.desc).map (fun d => d.parameters.length)
def mm_swok (R : List (List mm_R)) (pc : Int) : List (Int32 × Nat) → List (Int × Int) → Bool
  | [], [] => true
  | (v, t) :: r, (k, off) :: q => decide (v.toInt = k) && mm_pcj R t (pc + off) && mm_swok R pc r q
  | _, _ => false
def mm_seq : Int → List Int → List (Int × Int)
  | _, [] => []
  | k, x :: l => (k, x) :: mm_seq (k + 1) l
def mm_ok (Y : MethodName × ByteArray × Option FieldType) (R : List (List mm_R)) (i h : Nat) (r : mm_R) : Bool :=
  decide (decode Y.2.1 r.2.1.1 = .ok (r.1, r.2.1.2)) && mm_pcis R (i + 1) ((r.2.1.1 + r.2.1.2 : Nat) : Int) && match r.1 with
  | .iconst n => decide (Int32.ofInt n = r.2.2.2.1.1) && decide (r.2.1.2 = 1)
  | .bipush n => decide ((Int8.ofInt n).toInt32 = r.2.2.2.1.1) && decide (r.2.1.2 = 2)
  | .sipush n => decide ((Int16.ofInt n).toInt32 = r.2.2.2.1.1) && decide (r.2.1.2 = 3)
  | .ldc k => decide (r.2.1.2 = 2) && match r.2.2.1.2.2 with
    | 0 => mm_has h (.constant Y.1.cls k r.2.2.2.1.1)
    | _ => decide ((Y.1.cls, k, r.2.2.1.1) ∈ mm_strs)
  | .ldc_w k => decide (r.2.1.2 = 3) && mm_has h (.constant Y.1.cls k r.2.2.2.1.1)
  | .ldc2_w k => decide (r.2.1.2 = 3) && mm_has h (.constantLong Y.1.cls k r.2.2.2.1.2)
  | .lconst n => decide (Int64.ofNat (n : Nat) = r.2.2.2.1.2) && decide (r.2.1.2 = 1)
  | .getstatic k => decide (r.2.1.2 = 3) && match r.2.2.1.2.2 with
    | 0 => decide (r.2.2.2.1.1 = 1) && mm_has h (.fieldLink Y.1.cls k "java/lang/String" "COMPACT_STRINGS" "Z")
    | _ => match r.2.2.1.1 with
      | 1 => mm_has h (.fieldLink Y.1.cls k "GlobeCorner" "KIND_ABOVE" "[I") || decide (Y.1.cls = "GlobeCorner$Acts" ∧ k = 47)
      | 2 => mm_has h (.fieldLink Y.1.cls k "GlobeCorner$Acts" "BODIES" "[I")
      | 13 => mm_has h (.fieldLink Y.1.cls k "jdk/internal/util/Preconditions" "SIOOBE_FORMATTER" "Ljava/util/function/BiFunction;")
      | _ => false
  | .goto off => mm_pcj R r.2.2.1.2.1 ((r.2.1.1 : Int) + off) && decide (r.2.1.2 = 3)
  | .ifCond _ off => mm_pcj R r.2.2.1.2.1 ((r.2.1.1 : Int) + off) && decide (r.2.1.2 = 3)
  | .if_icmp _ off => mm_pcj R r.2.2.1.2.1 ((r.2.1.1 : Int) + off) && decide (r.2.1.2 = 3)
  | .ifnonnull off => mm_pcj R r.2.2.1.2.1 ((r.2.1.1 : Int) + off) && decide (r.2.1.2 = 3)
  | .tableswitch df lo hi offs => mm_pcj R r.2.2.1.2.1 ((r.2.1.1 : Int) + df) && decide (hi = lo + offs.size - 1) && decide (-2147483648 ≤ lo) && decide (hi ≤ 2147483647) && mm_swok R r.2.1.1 r.2.2.2.2 (mm_seq lo offs.toList)
  | .lookupswitch df ps => mm_pcj R r.2.2.1.2.1 ((r.2.1.1 : Int) + df) && (ps.toList.zip (ps.toList.drop 1)).all (fun (a, next) => a.1 < next.1) && mm_swok R r.2.1.1 r.2.2.2.2 ps.toList
  | .iload k => decide (k = r.2.2.1.1) && decide (r.2.1.2 = 2)
  | .iload_n k => decide ((k : Nat) = r.2.2.1.1) && decide (r.2.1.2 = 1)
  | .lload k => decide (k = r.2.2.1.1) && decide (r.2.1.2 = 2)
  | .lload_n k => decide ((k : Nat) = r.2.2.1.1) && decide (r.2.1.2 = 1)
  | .aload k => decide (k = r.2.2.1.1) && decide (r.2.1.2 = 2)
  | .aload_n k => decide ((k : Nat) = r.2.2.1.1) && decide (r.2.1.2 = 1)
  | .istore k => decide (k = r.2.2.1.1) && decide (r.2.1.2 = 2)
  | .istore_n k => decide ((k : Nat) = r.2.2.1.1) && decide (r.2.1.2 = 1)
  | .lstore k => decide (k = r.2.2.1.1) && decide (r.2.1.2 = 2)
  | .astore k => decide (k = r.2.2.1.1) && decide (r.2.1.2 = 2)
  | .astore_n k => decide ((k : Nat) = r.2.2.1.1) && decide (r.2.1.2 = 1)
  | .iinc k n => decide (k = r.2.2.1.1) && decide (Int32.ofInt n = r.2.2.2.1.1) && decide (r.2.1.2 = 3)
  | .getfield k => decide (r.2.1.2 = 3) && match r.2.2.1.2.2 with
    | 3 => mm_has h (.fieldLink Y.1.cls k "java/lang/String" "value" "[B")
    | 4 => mm_has h (.fieldLink Y.1.cls k "java/lang/String" "coder" "B")
    | c => Nat.blt r.2.2.1.1 10 && Nat.blt r.2.2.1.2.1 (mm_N.getD r.2.2.1.1 0) && decide (mm_fc r.2.2.1.1 r.2.2.1.2.1 = c) && mm_has h (.fieldLink Y.1.cls k (((mm_T1 r.2.2.1.1).2.1 r.2.2.1.2.1).1) (((mm_T1 r.2.2.1.1).2.1 r.2.2.1.2.1).2.1) (((mm_T1 r.2.2.1.1).2.1 r.2.2.1.2.1).2.2.1))
  | .putfield k => decide (r.2.1.2 = 3) && Nat.blt r.2.2.1.1 10 && Nat.blt r.2.2.1.2.1 (mm_N.getD r.2.2.1.1 0) && mm_has h (.fieldLink Y.1.cls k (((mm_T1 r.2.2.1.1).2.1 r.2.2.1.2.1).1) (((mm_T1 r.2.2.1.1).2.1 r.2.2.1.2.1).2.1) (((mm_T1 r.2.2.1.1).2.1 r.2.2.1.2.1).2.2.1)) && match r.2.2.1.2.2 with
    | 0 => decide (mm_fc r.2.2.1.1 r.2.2.1.2.1 = 0) && !((mm_T1 r.2.2.1.1).2.1 r.2.2.1.2.1).2.2.2 && decide (parseFieldDescriptor ((mm_T1 r.2.2.1.1).2.1 r.2.2.1.2.1).2.2.1 = some .int)
    | 5 => decide (mm_fc r.2.2.1.1 r.2.2.1.2.1 = 0) && !((mm_T1 r.2.2.1.1).2.1 r.2.2.1.2.1).2.2.2 && decide (parseFieldDescriptor ((mm_T1 r.2.2.1.1).2.1 r.2.2.1.2.1).2.2.1 = some .boolean)
    | 1 => decide (mm_fc r.2.2.1.1 r.2.2.1.2.1 = 1) && !((mm_T1 r.2.2.1.1).2.1 r.2.2.1.2.1).2.2.2 && decide (parseFieldDescriptor ((mm_T1 r.2.2.1.1).2.1 r.2.2.1.2.1).2.2.1 = some (.object "GlobeCorner$School"))
    | 2 => decide (mm_fc r.2.2.1.1 r.2.2.1.2.1 = 2) && ((mm_T1 r.2.2.1.1).2.1 r.2.2.1.2.1).2.2.2 && decide (((mm_T1 r.2.2.1.1).2.1 r.2.2.1.2.1).1 = Y.1.cls) && decide (Y.1.name = "<init>") && (match parseFieldDescriptor ((mm_T1 r.2.2.1.1).2.1 r.2.2.1.2.1).2.2.1 with
      | some (.object _) => true
      | some (.array _) => true
      | _ => false)
    | _ => false
  | .new k => decide (r.2.1.2 = 3) && Nat.blt r.2.2.1.1 10 && mm_has h (.classLink Y.1.cls k (mm_T1 r.2.2.1.1).1)
  | .newarray ty => decide (r.2.1.2 = 2) && match ty with
    | .int => decide (r.2.2.1.1 = 1)
    | .byte => decide (r.2.2.1.1 = 2)
    | .boolean => decide (r.2.2.1.1 = 3)
    | .long => decide (r.2.2.1.1 = 4)
    | _ => false
  | .anewarray k => decide (r.2.1.2 = 3) && match r.2.2.1.1 with
    | 5 => mm_has h (.classLink Y.1.cls k RX6)
    | 6 => mm_has h (.classLink Y.1.cls k RX7)
    | _ => false
  | .invokespecial k => decide (r.2.1.2 = 3) && match r.2.2.1.2.2 with
    | 4 => mm_has h (.methodLink Y.1.cls k Lib.objectInit)
    | 2 => mm_has h (.methodLink Y.1.cls k (mm_I r.2.2.1.1).1) && decide (mm_par r.2.2.1.1 = some (r.2.2.1.2.1 - 1)) && Nat.blt 0 r.2.2.1.2.1 && decide ((mm_I r.2.2.1.1).1.name = "<init>")
    | 3 => decide (Y.1.cls = "GlobeCorner") && decide ((k, r.2.2.1.1) ∈ mm_nest) && decide (mm_par r.2.2.1.1 = some (r.2.2.1.2.1 - 1)) && Nat.blt 0 r.2.2.1.2.1 && decide ((mm_I r.2.2.1.1).1.name = "<init>")
    | c => Nat.ble 4 c
  | .invokestatic k => decide (r.2.1.2 = 3) && match r.2.2.1.2.2 with
    | 5 => mm_has h (.methodLink Y.1.cls k arraycopyName)
    | 6 => mm_has h (.methodLink Y.1.cls k Lib.Math.max.name)
    | 7 => mm_has h (.methodLink Y.1.cls k Lib.Math.min.name)
    | 8 => mm_has h (.methodLink Y.1.cls k Lib.MathLoose.abs_long.x)
    | 0 => mm_has h (.methodLink Y.1.cls k (mm_I r.2.2.1.1).1) && decide (mm_par r.2.2.1.1 = some r.2.2.1.2.1)
    | c => Nat.ble 4 c
  | .invokevirtual k => decide (r.2.1.2 = 3) && match r.2.2.1.2.2 with
    | 1 => mm_has h (.methodLink Y.1.cls k (mm_I r.2.2.1.1).1) && decide (mm_par r.2.2.1.1 = some (r.2.2.1.2.1 - 1)) && Nat.blt 0 r.2.2.1.2.1
    | c => Nat.ble 4 c
  | .lstore_n _ => false
  | .ireturn => decide (r.2.1.2 = 1) && match r.2.2.1.1 with
    | 0 => decide (Y.2.2 = some .int)
    | 1 => decide (Y.2.2 = some .boolean)
    | 2 => decide (Y.2.2 = some .char)
    | _ => decide (Y.2.2 = some .byte)
  | .lreturn => decide (r.2.1.2 = 1) && decide (Y.2.2 = some .long)
  | .areturn => decide (r.2.1.2 = 1) && decide (Y.2.2 = some (.array .int))
  | .return_ => decide (r.2.1.2 = 1) && decide (Y.2.2 = none)
  | _ => decide (r.2.1.2 = 1)
def mm_okc (Y : MethodName × ByteArray × Option FieldType) (R : List (List mm_R)) : Nat → List Nat → List mm_R → Bool
  | _, _, [] => true
  | _, [], _ :: _ => false
  | i, h :: hs, r :: rs => mm_ok Y R i h r && mm_okc Y R (i + 1) hs rs
theorem mm_okc_at {Y : MethodName × ByteArray × Option FieldType} {R : List (List mm_R)} : ∀ (i : Nat) (hs : List Nat) (rs : List mm_R), mm_okc Y R i hs rs = true → ∀ (k : Nat) (r : mm_R), rs[k]? = some r → ∃ h, mm_ok Y R (i + k) h r = true
  | i, hs, [], _, k, r, h2 => by simp at h2
  | i, [], _ :: _, h, _, _, _ => by cases h
  | i, h :: hs, r0 :: rs, h1, k, r, h2 => by
    rw [mm_okc, Bool.and_eq_true] at h1
    cases k with
    | zero => rw [List.getElem?_cons_zero] at h2; cases h2; exact ⟨h, h1.1⟩
    | succ k =>
      rw [List.getElem?_cons_succ] at h2
      obtain ⟨h', e⟩ := mm_okc_at (i + 1) hs rs h1.2 k r h2
      exact ⟨h', by rw [show i + (k + 1) = i + 1 + k by omega]; exact e⟩
/-- a method that is called: its code's word, that it is begun, how it is chosen -/
def mm_okm (y : Nat) (h1 h2 h3 h4 : Nat) : Bool := match mm_T y with
  | some t => mm_has h1 (.code (mm_I y).1 (mm_I y).2.1 t.1 (mm_I y).2.2) && mm_has h2 (.initialized (mm_I y).1.cls) && plainName (mm_I y).1.cls && decide ((mm_I y).1.cls ≠ "java/lang/invoke/MethodHandle") && decide ((mm_I y).1.cls ≠ "java/lang/invoke/VarHandle") && (mm_has h3 (.static (mm_I y).1) || (mm_has h3 (.instanceMethod (mm_I y).1) && (decide ((mm_I y).1.name = "<init>") || mm_has h4 (.selects (mm_I y).1.cls (mm_I y).1 (mm_I y).1))))
  | none => false
