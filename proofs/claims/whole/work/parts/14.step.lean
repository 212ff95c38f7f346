/-! WHAT STANDS FIXED -/
def sm_St (bs : Nat) (cy : Nat → ClassId) (ad : Nat → Nat) (fm : Value) (Dg : va_G) (Ls : Nat) (xs : Nat → Int32) (s : State) : Prop :=
  va_K Dg vwCl (sm_t cy) s ∧ (va_AO RX6 s ∧ va_AO RX7 s) ∧
  (∀ q ∈ mm_nest, va_Nw (.methodLinkNest "GlobeCorner" q.1 (mm_I q.2).1 "GlobeCorner") s) ∧ va_Nw (.fieldLinkNest "GlobeCorner$Acts" 47 "GlobeCorner" "KIND_ABOVE" "[I" "GlobeCorner") s ∧
  (∀ q ∈ mm_strs, ∃ tx, vk_R q.1 q.2.1 tx (ad q.2.2) s) ∧
  (va_Z "java/lang/String" "COMPACT_STRINGS" "Z" (.int 1) (sm_A bs) s s.heap ∧ va_Z "GlobeCorner" "KIND_ABOVE" "[I" (.ref (ad 1)) (sm_A bs) s s.heap ∧ va_Z "GlobeCorner$Acts" "BODIES" "[I" (.ref (ad 2)) (sm_A bs) s s.heap ∧ va_Z "jdk/internal/util/Preconditions" "SIOOBE_FORMATTER" "Ljava/util/function/BiFunction;" fm (sm_A bs) s s.heap) ∧
  (∀ (i : Nat) (D : mm_D), (sm_O Ls xs)[i]? = some D → D.1 = 7 → va_T .int (ad i) D.2.1 (fun j => .int (D.2.2.1 j)) (sm_A bs) s s.heap) ∧
  (∀ (i : Nat) (D : mm_D), (sm_O Ls xs)[i]? = some D → D.1 = 8 → va_T .byte (ad i) D.2.1 (fun j => .int (D.2.2.1 j)) (sm_A bs) s s.heap) ∧
  (∀ (i : Nat) (D : mm_D), (sm_O Ls xs)[i]? = some D → D.1 = 9 → va_O "java/lang/String" (ad i) (sm_A bs) s s.heap ∧ va_OF "java/lang/String" "coder" "B" (.int 0) (ad i) (sm_A bs) s s.heap ∧ va_OF "java/lang/String" "value" "[B" (.ref (ad D.2.1)) (ad i) (sm_A bs) s s.heap) ∧ (fm = .null ∨ ∃ t, fm = .ref t)
theorem sm_St_fm {bs : Nat} {cy : Nat → ClassId} {ad : Nat → Nat} {fm : Value} {Dg : va_G} {Ls : Nat} {xs : Nat → Int32} {s : State} (h : sm_St bs cy ad fm Dg Ls xs s) : fm.category = 1 := by
  rcases h.2.2.2.2.2.2.2.2.2 with e | ⟨t, e⟩ <;> rw [e] <;> rfl
theorem sm_St.mv {bs : Nat} {cy : Nat → ClassId} {ad : Nat → Nat} {fm : Value} {Dg : va_G} {Ls : Nat} {xs : Nat → Int32} {u U : State} (h : sm_St bs cy ad fm Dg Ls xs u) (hvm : u.vm.Alike U.vm) (hm : ∀ (a : String) (i : Nat) (x : MethodName) (b : String), va_Nw (.methodLinkNest a i x b) u → va_Nw (.methodLinkNest a i x b) U) (hf : ∀ (a : String) (i : Nat) (x y z b : String), va_Nw (.fieldLinkNest a i x y z b) u → va_Nw (.fieldLinkNest a i x y z b) U)
    (hr : ∀ (o : String) (k : Nat) (tx : String) (a : Nat), vk_R o k tx a u → vk_R o k tx a U) (hh : ∀ a : Nat, a < u.heap.size → ¬ sm_A bs a → U.heap[a]? = u.heap[a]?) : sm_St bs cy ad fm Dg Ls xs U := by
  obtain ⟨h1, ⟨h2, h3⟩, h4, h5, h6, ⟨z1, z2, z3, z4⟩, h7, h8, h9, h10⟩ := h
  refine ⟨va_K.moved hvm h1, ⟨va_AO.moved hvm h2, va_AO.moved hvm h3⟩, fun q hq => hm _ _ _ _ (h4 q hq), hf _ _ _ _ _ _ h5, fun q hq => ?_, ⟨(va_Z.moved hvm z1).kept hh, (va_Z.moved hvm z2).kept hh, (va_Z.moved hvm z3).kept hh, (va_Z.moved hvm z4).kept hh⟩, fun i D hD ht => (va_T.moved hvm (h7 i D hD ht)).kept hh, fun i D hD ht => (va_T.moved hvm (h8 i D hD ht)).kept hh, fun i D hD ht => ?_, h10⟩
  · obtain ⟨tx, ht⟩ := h6 q hq
    exact ⟨tx, hr _ _ _ _ ht⟩
  · obtain ⟨a1, a2, a3⟩ := h9 i D hD ht
    exact ⟨(va_O.moved hvm a1).kept hh, (va_OF.moved hvm a2).kept hh, (va_OF.moved hvm a3).kept hh⟩
theorem sm_St.warm {bs : Nat} {cy : Nat → ClassId} {ad : Nat → Nat} {fm : Value} {Dg : va_G} {Ls : Nat} {xs : Nat → Int32} {s U : State} {H : Heap} {locs : List Loc} (h : sm_St bs cy ad fm Dg Ls xs s) (hW : s.WarmedH U.vm) (hU : U.heap = H) (hS : va_S (sm_A bs) s.heap H locs) : sm_St bs cy ad fm Dg Ls xs U :=
  h.mv hW.alike (fun _ _ _ _ z => va_Nw.warmM hW z) (fun _ _ _ _ _ _ z => va_Nw.warmF hW z) (fun _ _ _ _ z => vk_R.warm hW z) (fun a h1 h2 => by rw [hU]; exact hS.2.1 a h1 h2)
theorem sm_St.same {bs : Nat} {cy : Nat → ClassId} {ad : Nat → Nat} {fm : Value} {Dg : va_G} {Ls : Nat} {xs : Nat → Int32} {u U : State} (h : sm_St bs cy ad fm Dg Ls xs u) (hv : U.vm = u.vm) (hh : U.heap = u.heap) : sm_St bs cy ad fm Dg Ls xs U :=
  h.mv (by rw [hv]; exact Vm.Alike.refl _) (fun _ _ _ _ z => va_Nw.same rfl hv.symm z) (fun _ _ _ _ _ _ z => va_Nw.same rfl hv.symm z) (fun _ _ _ _ z => vk_R.same hv z) (fun a h1 h2 => by rw [hh])
def sm_En (p : Program) (R : Room) (s : State) (m : MethodId) (args : Array Value) (meth : Method) (c : Code) (Y : MethodName × ByteArray × Option FieldType) (ml d : Nat) : Prop :=
  p.tables.exec = Jvm.exec ∧ c.code = Y.2.1 ∧ meth.sig.returnType = Y.2.2 ∧ c.maxLocals = ml ∧ s.vm.findClass Y.1.cls = some m.cls ∧ (∀ w ∈ mm_good, w.before args s = true) ∧ meth.locks = false ∧ (Y.1.name = "<init>" → meth.name = "<init>") ∧ d + 1 ≤ R.frames ∧ 64 * (d + 1) ≤ R.locals
theorem mm_ok_d {Y : MethodName × ByteArray × Option FieldType} {RR : List (List mm_R)} {i h : Nat} {r : mm_R} (e : mm_ok Y RR i h r = true) : decode Y.2.1 r.2.1.1 = .ok (r.1, r.2.1.2) ∧ mm_pcis RR (i + 1) ((r.2.1.1 + r.2.1.2 : Nat) : Int) = true := by
  unfold mm_ok at e
  simp only [Bool.and_eq_true, decide_eq_true_eq] at e
  exact e.1
theorem mm_i1_inv {st st' : List Value} {g : Int32 → Option Value} (h : mm_i1 st g = some st') : ∃ x s v, st = .int x :: s ∧ g x = some v ∧ st' = v :: s := by
  unfold mm_i1 at h
  split at h
  · rename_i x s
    cases hg : g x with
    | none => rw [hg] at h; cases h
    | some v => rw [hg] at h; cases h; exact ⟨x, s, v, rfl, hg, rfl⟩
  · cases h
theorem mm_i2_inv {st st' : List Value} {g : Int32 → Int32 → Option Value} (h : mm_i2 st g = some st') : ∃ x y s v, st = .int y :: .int x :: s ∧ g x y = some v ∧ st' = v :: s := by
  unfold mm_i2 at h
  split at h
  · rename_i y x s
    cases hg : g x y with
    | none => rw [hg] at h; cases h
    | some v => rw [hg] at h; cases h; exact ⟨x, y, s, v, rfl, hg, rfl⟩
  · cases h
theorem mm_j2_inv {st st' : List Value} {g : Int64 → Int64 → Option Value} (h : mm_j2 st g = some st') : ∃ x y s v, st = .long y :: .long x :: s ∧ g x y = some v ∧ st' = v :: s := by
  unfold mm_j2 at h
  split at h
  · rename_i y x s
    cases hg : g x y with
    | none => rw [hg] at h; cases h
    | some v => rw [hg] at h; cases h; exact ⟨x, y, s, v, rfl, hg, rfl⟩
  · cases h
section
variable {p : Program} {l : Launch} {e : Env} {R : Room} {s : State} {m : MethodId} {args : Array Value} {below : List Frame} {meth : Method} {c : Code} {H : Heap} {locs : List Loc} {cells slots : Nat} {Q : State → Prop}
variable {bs : Nat} {cy : Nat → ClassId} {ad : Nat → Nat} {fm : Value} {Dg : va_G} {Ls : Nat} {xs : Nat → Int32} {Y : MethodName × ByteArray × Option FieldType} {RR : List (List mm_R)} {i hh ml d : Nat} {r : mm_R} {ls : Array Slot} {st st' : List Value}
set_option maxHeartbeats 4000000 in
set_option maxRecDepth 100000 in
theorem sm_op (hE : sm_En p R s m args meth c Y ml d) (hSt : sm_St bs cy ad fm Dg Ls xs s) (hS : va_S (sm_A bs) s.heap H locs) (ok : mm_ok Y RR i hh r = true) (h : mm_op r st = some st') (k : W p l e R s m args below meth c H locs cells slots Q (F0 m (r.2.1.1 + r.2.1.2) ls (st'.map (sm_v ad fm)))) : W p l e R s m args below meth c H locs cells slots Q (F0 m r.2.1.1 ls (st.map (sm_v ad fm))) := by
  obtain ⟨hx, hb, hr, hml, hown, hts, hlocks, hnm, hfr, hlo⟩ := hE
  have hd := (mm_ok_d ok).1
  obtain ⟨ins, ⟨pc, len⟩, ⟨a, b, c0⟩, ⟨z, w⟩, ts⟩ := r
  unfold mm_ok at ok
  rw [Bool.and_eq_true] at ok
  replace ok := ok.2
  unfold mm_op at h
  dsimp only at h ok hd k ⊢
  cases ins
  case iconst n =>
    dsimp only at h ok
    simp only [Bool.and_eq_true, decide_eq_true_eq] at ok
    obtain ⟨h1, rfl⟩ := ok
    cases h
    exact lv_iconst hx hb hd h1 k
  case bipush n =>
    dsimp only at h ok
    simp only [Bool.and_eq_true, decide_eq_true_eq] at ok
    obtain ⟨h1, rfl⟩ := ok
    cases h
    exact lv_bipush hx hb hd h1 k
  case sipush n =>
    dsimp only at h ok
    simp only [Bool.and_eq_true, decide_eq_true_eq] at ok
    obtain ⟨h1, rfl⟩ := ok
    cases h
    exact lv_sipush hx hb hd h1 k
  case lconst n =>
    dsimp only at h ok
    simp only [Bool.and_eq_true, decide_eq_true_eq] at ok
    obtain ⟨h1, rfl⟩ := ok
    cases h
    exact lv_lconst hx hb hd h1 k
  case ldc_w n =>
    dsimp only at h ok
    simp only [Bool.and_eq_true, decide_eq_true_eq] at ok
    obtain ⟨rfl, h1⟩ := ok
    cases h
    exact lv_ldcw hx hb hown (hts _ (mm_has_mem h1)) hd k
  case ldc2_w n =>
    dsimp only at h ok
    simp only [Bool.and_eq_true, decide_eq_true_eq] at ok
    obtain ⟨rfl, h1⟩ := ok
    cases h
    exact lv_ldc2 hx hb hown (hts _ (mm_has_mem h1)) hd k
  case ldc n =>
    dsimp only at h ok
    simp only [Bool.and_eq_true, decide_eq_true_eq] at ok
    obtain ⟨rfl, h1⟩ := ok
    cases c0 with
    | zero =>
      cases h
      exact lv_ldc hx hb hown (hts _ (mm_has_mem h1)) hd k
    | succ c0 =>
      cases h
      simp only [decide_eq_true_eq] at h1
      obtain ⟨tx, ht⟩ := hSt.2.2.2.2.1 _ h1
      have ha : a ≠ 13 := by
        intro e
        subst e
        simp [mm_strs] at h1
      refine va_ldcS hx hb hown ht hd ?_
      have e1 : sm_v ad fm (.ref a) = .ref (ad a) := by simp [sm_v, ha]
      rw [List.map_cons, e1] at k
      exact k
  case getstatic n =>
    dsimp only at h ok
    simp only [Bool.and_eq_true, decide_eq_true_eq] at ok
    obtain ⟨rfl, h1⟩ := ok
    obtain ⟨z1, z2, z3, z4⟩ := hSt.2.2.2.2.2.1
    cases c0 with
    | zero =>
      try dsimp only at h h1
      cases h
      simp only [Bool.and_eq_true, decide_eq_true_eq] at h1
      obtain ⟨rfl, h1⟩ := h1
      exact va_gets hx hb z1 hS hown (hts _ (mm_has_mem h1)) (fun _ q => q) hd k
    | succ c0 =>
      try dsimp only at h h1
      cases h
      split at h1
      · rename_i heq
        exact absurd heq (by omega)
      · split at h1
        · rw [Bool.or_eq_true] at h1
          rcases h1 with h1 | h1
          · exact va_gets hx hb z2 hS hown (hts _ (mm_has_mem h1)) (fun _ q => q) hd k
          · simp only [decide_eq_true_eq] at h1
            obtain ⟨h2, rfl⟩ := h1
            rw [h2] at hown
            exact va_getsN hx hb z2 hS hown (va_Nw.use rfl hSt.2.2.2.1) (fun _ q => q) hd k
        · exact va_gets hx hb z3 hS hown (hts _ (mm_has_mem h1)) (fun _ q => q) hd k
        · exact va_gets hx hb z4 hS hown (hts _ (mm_has_mem h1)) (fun _ q => q) hd k
        · cases h1
  case iadd => simp only [decide_eq_true_eq] at ok; subst ok; obtain ⟨x, y, s1, v, rfl, hg, rfl⟩ := mm_i2_inv h; cases hg; exact lv_iadd hx hb hd k
  case isub => simp only [decide_eq_true_eq] at ok; subst ok; obtain ⟨x, y, s1, v, rfl, hg, rfl⟩ := mm_i2_inv h; cases hg; exact lv_isub hx hb hd k
  case imul => simp only [decide_eq_true_eq] at ok; subst ok; obtain ⟨x, y, s1, v, rfl, hg, rfl⟩ := mm_i2_inv h; cases hg; exact lv_imul hx hb hd k
  case iand => simp only [decide_eq_true_eq] at ok; subst ok; obtain ⟨x, y, s1, v, rfl, hg, rfl⟩ := mm_i2_inv h; cases hg; exact lv_iand hx hb hd k
  case ior => simp only [decide_eq_true_eq] at ok; subst ok; obtain ⟨x, y, s1, v, rfl, hg, rfl⟩ := mm_i2_inv h; cases hg; exact lv_ior hx hb hd k
  case ixor => simp only [decide_eq_true_eq] at ok; subst ok; obtain ⟨x, y, s1, v, rfl, hg, rfl⟩ := mm_i2_inv h; cases hg; exact lv_ixor hx hb hd k
  case ishl => simp only [decide_eq_true_eq] at ok; subst ok; obtain ⟨x, y, s1, v, rfl, hg, rfl⟩ := mm_i2_inv h; cases hg; exact lv_ishl hx hb hd k
  case ishr => simp only [decide_eq_true_eq] at ok; subst ok; obtain ⟨x, y, s1, v, rfl, hg, rfl⟩ := mm_i2_inv h; cases hg; exact lv_ishr hx hb hd k
  case iushr => simp only [decide_eq_true_eq] at ok; subst ok; obtain ⟨x, y, s1, v, rfl, hg, rfl⟩ := mm_i2_inv h; cases hg; exact lv_iushr hx hb hd rfl k
  case idiv =>
    simp only [decide_eq_true_eq] at ok; subst ok; obtain ⟨x, y, s1, v, rfl, hg, rfl⟩ := mm_i2_inv h
    by_cases hy : y = 0
    · rw [if_pos hy] at hg; cases hg
    · rw [if_neg hy] at hg; cases hg; exact lv_idiv hx hb hd hy k
  case irem =>
    simp only [decide_eq_true_eq] at ok; subst ok; obtain ⟨x, y, s1, v, rfl, hg, rfl⟩ := mm_i2_inv h
    by_cases hy : y = 0
    · rw [if_pos hy] at hg; cases hg
    · rw [if_neg hy] at hg; cases hg; exact lv_irem hx hb hd hy k
  case ineg => simp only [decide_eq_true_eq] at ok; subst ok; obtain ⟨x, s1, v, rfl, hg, rfl⟩ := mm_i1_inv h; cases hg; exact lv_ineg hx hb hd k
  case i2l => simp only [decide_eq_true_eq] at ok; subst ok; obtain ⟨x, s1, v, rfl, hg, rfl⟩ := mm_i1_inv h; cases hg; exact lv_i2l hx hb hd rfl k
  case i2b => simp only [decide_eq_true_eq] at ok; subst ok; obtain ⟨x, s1, v, rfl, hg, rfl⟩ := mm_i1_inv h; cases hg; exact lv_i2b hx hb hd rfl k
  case i2s => simp only [decide_eq_true_eq] at ok; subst ok; obtain ⟨x, s1, v, rfl, hg, rfl⟩ := mm_i1_inv h; cases hg; exact lv_i2s hx hb hd rfl k
  case i2c => simp only [decide_eq_true_eq] at ok; subst ok; obtain ⟨x, s1, v, rfl, hg, rfl⟩ := mm_i1_inv h; cases hg; exact lv_i2c hx hb hd rfl k
  case ladd => simp only [decide_eq_true_eq] at ok; subst ok; obtain ⟨x, y, s1, v, rfl, hg, rfl⟩ := mm_j2_inv h; cases hg; exact lv_ladd hx hb hd k
  case land => simp only [decide_eq_true_eq] at ok; subst ok; obtain ⟨x, y, s1, v, rfl, hg, rfl⟩ := mm_j2_inv h; cases hg; exact lv_land hx hb hd k
  case lor => simp only [decide_eq_true_eq] at ok; subst ok; obtain ⟨x, y, s1, v, rfl, hg, rfl⟩ := mm_j2_inv h; cases hg; exact lv_lor hx hb hd k
  case lxor => simp only [decide_eq_true_eq] at ok; subst ok; obtain ⟨x, y, s1, v, rfl, hg, rfl⟩ := mm_j2_inv h; cases hg; exact lv_lxor hx hb hd k
  case ldiv =>
    simp only [decide_eq_true_eq] at ok; subst ok; obtain ⟨x, y, s1, v, rfl, hg, rfl⟩ := mm_j2_inv h
    by_cases hy : y = 0
    · rw [if_pos hy] at hg; cases hg
    · rw [if_neg hy] at hg; cases hg; exact lv_ldiv hx hb hd hy k
  case lrem =>
    simp only [decide_eq_true_eq] at ok; subst ok; obtain ⟨x, y, s1, v, rfl, hg, rfl⟩ := mm_j2_inv h
    by_cases hy : y = 0
    · rw [if_pos hy] at hg; cases hg
    · rw [if_neg hy] at hg; cases hg; exact lv_lrem hx hb hd hy k
  case lcmp => simp only [decide_eq_true_eq] at ok; subst ok; obtain ⟨x, y, s1, v, rfl, hg, rfl⟩ := mm_j2_inv h; cases hg; exact W.lcmp hx hb hd k
  case lneg =>
    simp only [decide_eq_true_eq] at ok
    subst ok
    dsimp only at h
    split at h
    · cases h
      exact lv_lneg hx hb hd k
    · cases h
  case l2i =>
    simp only [decide_eq_true_eq] at ok
    subst ok
    dsimp only at h
    split at h
    · cases h
      exact lv_l2i hx hb hd rfl k
    · cases h
  case lshl =>
    simp only [decide_eq_true_eq] at ok
    subst ok
    dsimp only at h
    split at h
    · cases h
      exact lv_lshl hx hb hd rfl k
    · cases h
  case lshr =>
    simp only [decide_eq_true_eq] at ok
    subst ok
    dsimp only at h
    split at h
    · cases h
      exact lv_lshr hx hb hd rfl k
    · cases h
  case dup =>
    simp only [decide_eq_true_eq] at ok; subst ok; dsimp only at h
    have hf1 := sm_St_fm hSt
    split at h
    · cases h; exact lv_dup hx hb hd rfl k
    · cases h; exact lv_dup hx hb hd (by rw [sm_v_cat hf1]; rfl) k
    · cases h
  case pop =>
    simp only [decide_eq_true_eq] at ok; subst ok; dsimp only at h
    have hf1 := sm_St_fm hSt
    split at h
    · cases h; exact lv_pop hx hb hd rfl k
    · cases h; exact lv_pop hx hb hd (by rw [sm_v_cat hf1]; rfl) k
    · cases h
  case dup_x1 =>
    simp only [decide_eq_true_eq] at ok; subst ok; dsimp only at h
    have hf1 := sm_St_fm hSt
    split at h
    · cases h; exact lv_dup_x1 hx hb hd rfl (by rw [sm_v_cat hf1]; rfl) k
    · cases h
  case dup2 =>
    simp only [decide_eq_true_eq] at ok; subst ok; dsimp only at h
    have hf1 := sm_St_fm hSt
    split at h
    · cases h; exact lv_dup2_11 hx hb hd rfl (by rw [sm_v_cat hf1]; rfl) k
    · cases h
  all_goals cases h
end
