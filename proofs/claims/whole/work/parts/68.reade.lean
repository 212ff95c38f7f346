/-! THE CLASS'S READER: conditions -/
abbrev rQ (q n : Nat) (tx : Nat → Int32) (g : Int32) (kk : Nat) (FA FB : Nat → Int32) (cs : List Nat) (μ : mm_M) (z : pZ) (v : Option Value) (μ' : mm_M) : Prop := v = some (.int (bI (z.1 = true))) ∧ rP q n tx g kk FA FB z.2.1 (cs ++ z.2.2) μ' ∧ mf (rd q) μ μ'
theorem pN_at {n : Nat} {tx : Nat → Int32} {a : Nat} (ht : okT n tx) (h : a < n) : ∃ c, c < 128 ∧ pN n tx a = nI c := by
  obtain ⟨c, hc, e⟩ := ht.2 a h
  exact ⟨c, hc, by rw [pN, if_pos h, e]⟩
theorem pN_end {n : Nat} {tx : Nat → Int32} {a : Nat} (h : ¬ a < n) : pN n tx a = -1 := if_neg h
theorem pLp_s (n : Nat) (tx : Nat → Int32) (f : Nat → pZ) (s : Int32) (op m a : Nat) : pLp n tx f s op (m + 1) a = if pN n tx a = s then (if (f (a + 1)).1 = true then ((pLp n tx f s op m (f (a + 1)).2.1).1, (pLp n tx f s op m (f (a + 1)).2.1).2.1, (f (a + 1)).2.2 ++ (op :: (pLp n tx f s op m (f (a + 1)).2.1).2.2)) else (false, (f (a + 1)).2.1, (f (a + 1)).2.2)) else (true, a, []) := rfl
theorem bI_f {z : Nat × List Nat} : bI ((false, z).1 = true) = 0 := rfl
theorem bI_t {z : Nat × List Nat} : bI ((true, z).1 = true) = 1 := rfl
section
variable {d q n kk a : Nat} {tx : Nat → Int32} {g : Int32} {FA FB : Nat → Int32} {cs : List Nat} {μ : mm_M}
set_option maxRecDepth 100000 in
theorem C67 (hq6 : q6 q) (h : rP q n tx g kk FA FB a cs μ) (ht : okT n tx) (ha : a ≤ n) (hc : cs.length ≤ a) : mm_call la_C (d + 4) 67 [.ref 66] μ (rQ q n tx g kk FA FB cs μ (pTs n tx a)) := by
  have h100 := ht.1
  have hN := C59 (d := d + 3) h ht ha
  unfold pTs
  by_cases h1 : pLt (pN n tx a) < 6
  · rw [if_pos h1]
    have hlt := pLt_lt h1
    obtain ⟨c, hc2, ec⟩ := pN_at ht hlt
    rw [ec] at hN h1 ⊢
    have hS := S11C_6 (d := d) (μ := μ) hc2
    rw [if_pos h1] at hS
    have hP1 := h.s2 hq6 (a' := a + 1)
    have hN1 := C59 (d := d + 3) hP1 ht hlt
    have hW := C68 (d := d + 3) (μ := mm_sI μ 66 (upd (μ.1 66) 2 (nI (a + 1)))) (Λ := la_C) (pN n tx (a + 1))
    by_cases h2 : pWy (pN n tx (a + 1)) < 3
    · rw [if_pos h2]
      rw [if_pos h2] at hW
      have hlt2 := pWy_lt h2
      have hP2 := hP1.s2 hq6 (a' := a + 2)
      have hM := C63 (d := d + 3) hq6 hP2 ht (show a + 2 ≤ n by omega)
      have hm3 := (pM_le (tx := tx) (show a + 2 ≤ n by omega)).2.2.1
      by_cases h3 : (pM n tx (a + 2)).1 = true
      · rw [bI_1 (p := (pM n tx (a + 2)).1 = true) h3] at hM
        rw [if_pos h3]
        refine mm_call.of mm_t67 ?_
        refine mm_ev.run mm_y67 1 rfl ?_
        refine mm_ev.call mm_y67 rfl rfl rfl rfl rfl hN (fun v1 μ1 hq => ?_)
        obtain ⟨rfl, hμ⟩ := hq
        obtain rfl := hμ.symm
        refine mm_ev.run mm_y67 1 rfl ?_
        refine mm_ev.pos (nI_pos' (by omega)) ?_
        refine mm_ev.run mm_y67 2 rfl ?_
        refine mm_ev.call mm_y67 rfl rfl rfl rfl rfl hN (fun v1 μ1 hq => ?_)
        obtain ⟨rfl, hμ⟩ := hq
        obtain rfl := hμ.symm
        refine mm_ev.run mm_y67 1 rfl ?_
        refine mm_ev.val (i2c_n c hc2) ?_
        refine mm_ev.call mm_y67 rfl rfl rfl rfl rfl hS (fun v1 μ1 hq => ?_)
        obtain ⟨rfl, hμ⟩ := hq
        obtain rfl := hμ.symm
        refine mm_ev.run mm_y67 3 rfl ?_
        refine mm_ev.pos (nI_pos' (by omega)) ?_
        refine mm_ev.run mm_y67 3 rfl ?_
        refine mm_ev.val h.1.2.1 ?_
        refine mm_ev.run mm_y67 2 rfl ?_
        refine mm_ev.val (nI_1 a) ?_
        refine mm_ev.run mm_y67 1 rfl ?_
        refine mm_ev.run mm_y67 1 rfl ?_
        refine mm_ev.call mm_y67 rfl rfl rfl rfl rfl hN1 (fun v1 μ1 hq => ?_)
        obtain ⟨rfl, hμ⟩ := hq
        obtain rfl := hμ.symm
        refine mm_ev.call mm_y67 rfl rfl rfl rfl rfl hW (fun v1 μ1 hq => ?_)
        obtain ⟨rfl, hμ⟩ := hq
        obtain rfl := hμ.symm
        refine mm_ev.run mm_y67 3 rfl ?_
        refine mm_ev.pos (nI_pos' (by omega)) ?_
        refine mm_ev.run mm_y67 3 rfl ?_
        refine mm_ev.val hP1.1.2.1 ?_
        refine mm_ev.run mm_y67 2 rfl ?_
        refine mm_ev.val (nI_1 (a + 1)) ?_
        refine mm_ev.run mm_y67 1 rfl ?_
        refine mm_ev.run mm_y67 1 rfl ?_
        refine mm_ev.call mm_y67 rfl rfl rfl rfl rfl hM (fun v1 μ1 hq => ?_)
        obtain ⟨rfl, e1, e2, e3⟩ := hq
        refine mm_ev.run mm_y67 1 rfl ?_
        refine mm_ev.neg (by decide) ?_
        refine mm_ev.run mm_y67 2 rfl ?_
        refine mm_ev.vav e1.into ?_
        refine mm_ev.run mm_y67 4 rfl ?_
        refine mm_ev.val e2 ?_
        refine mm_ev.call mm_y67 rfl rfl rfl rfl rfl (C77 h1 h2 hm3) (fun v1 μ1 hq => ?_)
        obtain ⟨rfl, hμ⟩ := hq
        obtain rfl := hμ.symm
        refine mm_ev.call mm_y67 rfl rfl rfl rfl (by rcases hq6 with rfl | rfl | rfl | rfl | rfl | rfl <;> rfl) (C78 hq6 e1 (by omega) _ rfl) (fun v1 μ1 hq => ?_)
        obtain ⟨rfl, k1, k2⟩ := hq
        refine mm_ev.run mm_y67 1 rfl ?_
        exact mm_ev.ret mm_y67 rfl rfl rfl ⟨rfl, k1, (((mf.rf.sI (Or.inl rfl)).sI (Or.inl rfl)).tr e3).tr k2⟩
      · rw [bI_0 (p := (pM n tx (a + 2)).1 = true) h3] at hM
        rw [if_neg h3]
        refine mm_call.of mm_t67 ?_
        refine mm_ev.run mm_y67 1 rfl ?_
        refine mm_ev.call mm_y67 rfl rfl rfl rfl rfl hN (fun v1 μ1 hq => ?_)
        obtain ⟨rfl, hμ⟩ := hq
        obtain rfl := hμ.symm
        refine mm_ev.run mm_y67 1 rfl ?_
        refine mm_ev.pos (nI_pos' (by omega)) ?_
        refine mm_ev.run mm_y67 2 rfl ?_
        refine mm_ev.call mm_y67 rfl rfl rfl rfl rfl hN (fun v1 μ1 hq => ?_)
        obtain ⟨rfl, hμ⟩ := hq
        obtain rfl := hμ.symm
        refine mm_ev.run mm_y67 1 rfl ?_
        refine mm_ev.val (i2c_n c hc2) ?_
        refine mm_ev.call mm_y67 rfl rfl rfl rfl rfl hS (fun v1 μ1 hq => ?_)
        obtain ⟨rfl, hμ⟩ := hq
        obtain rfl := hμ.symm
        refine mm_ev.run mm_y67 3 rfl ?_
        refine mm_ev.pos (nI_pos' (by omega)) ?_
        refine mm_ev.run mm_y67 3 rfl ?_
        refine mm_ev.val h.1.2.1 ?_
        refine mm_ev.run mm_y67 2 rfl ?_
        refine mm_ev.val (nI_1 a) ?_
        refine mm_ev.run mm_y67 1 rfl ?_
        refine mm_ev.run mm_y67 1 rfl ?_
        refine mm_ev.call mm_y67 rfl rfl rfl rfl rfl hN1 (fun v1 μ1 hq => ?_)
        obtain ⟨rfl, hμ⟩ := hq
        obtain rfl := hμ.symm
        refine mm_ev.call mm_y67 rfl rfl rfl rfl rfl hW (fun v1 μ1 hq => ?_)
        obtain ⟨rfl, hμ⟩ := hq
        obtain rfl := hμ.symm
        refine mm_ev.run mm_y67 3 rfl ?_
        refine mm_ev.pos (nI_pos' (by omega)) ?_
        refine mm_ev.run mm_y67 3 rfl ?_
        refine mm_ev.val hP1.1.2.1 ?_
        refine mm_ev.run mm_y67 2 rfl ?_
        refine mm_ev.val (nI_1 (a + 1)) ?_
        refine mm_ev.run mm_y67 1 rfl ?_
        refine mm_ev.run mm_y67 1 rfl ?_
        refine mm_ev.call mm_y67 rfl rfl rfl rfl rfl hM (fun v1 μ1 hq => ?_)
        obtain ⟨rfl, e1, e2, e3⟩ := hq
        refine mm_ev.run mm_y67 1 rfl ?_
        refine mm_ev.pos rfl ?_
        refine mm_ev.run mm_y67 1 rfl ?_
        exact mm_ev.ret mm_y67 rfl rfl rfl ⟨rfl, by rw [List.append_nil]; exact e1, ((mf.rf.sI (Or.inl rfl)).sI (Or.inl rfl)).tr e3⟩
    · rw [if_neg h2]
      rw [if_neg h2] at hW
      refine mm_call.of mm_t67 ?_
      refine mm_ev.run mm_y67 1 rfl ?_
      refine mm_ev.call mm_y67 rfl rfl rfl rfl rfl hN (fun v1 μ1 hq => ?_)
      obtain ⟨rfl, hμ⟩ := hq
      obtain rfl := hμ.symm
      refine mm_ev.run mm_y67 1 rfl ?_
      refine mm_ev.pos (nI_pos' (by omega)) ?_
      refine mm_ev.run mm_y67 2 rfl ?_
      refine mm_ev.call mm_y67 rfl rfl rfl rfl rfl hN (fun v1 μ1 hq => ?_)
      obtain ⟨rfl, hμ⟩ := hq
      obtain rfl := hμ.symm
      refine mm_ev.run mm_y67 1 rfl ?_
      refine mm_ev.val (i2c_n c hc2) ?_
      refine mm_ev.call mm_y67 rfl rfl rfl rfl rfl hS (fun v1 μ1 hq => ?_)
      obtain ⟨rfl, hμ⟩ := hq
      obtain rfl := hμ.symm
      refine mm_ev.run mm_y67 3 rfl ?_
      refine mm_ev.pos (nI_pos' (by omega)) ?_
      refine mm_ev.run mm_y67 3 rfl ?_
      refine mm_ev.val h.1.2.1 ?_
      refine mm_ev.run mm_y67 2 rfl ?_
      refine mm_ev.val (nI_1 a) ?_
      refine mm_ev.run mm_y67 1 rfl ?_
      refine mm_ev.run mm_y67 1 rfl ?_
      refine mm_ev.call mm_y67 rfl rfl rfl rfl rfl hN1 (fun v1 μ1 hq => ?_)
      obtain ⟨rfl, hμ⟩ := hq
      obtain rfl := hμ.symm
      refine mm_ev.call mm_y67 rfl rfl rfl rfl rfl hW (fun v1 μ1 hq => ?_)
      obtain ⟨rfl, hμ⟩ := hq
      obtain rfl := hμ.symm
      refine mm_ev.run mm_y67 3 rfl ?_
      refine mm_ev.neg (by decide) ?_
      refine mm_ev.run mm_y67 1 rfl ?_
      exact mm_ev.ret mm_y67 rfl rfl rfl ⟨rfl, by rw [List.append_nil]; exact hP1, mf.rf.sI (Or.inl rfl)⟩
  · rw [if_neg h1]
    by_cases hlt : a < n
    · obtain ⟨c, hc2, ec⟩ := pN_at ht hlt
      rw [ec] at hN h1
      have hS := S11C_6 (d := d) (μ := μ) hc2
      rw [if_neg h1] at hS
      refine mm_call.of mm_t67 ?_
      refine mm_ev.run mm_y67 1 rfl ?_
      refine mm_ev.call mm_y67 rfl rfl rfl rfl rfl hN (fun v1 μ1 hq => ?_)
      obtain ⟨rfl, hμ⟩ := hq
      obtain rfl := hμ.symm
      refine mm_ev.run mm_y67 1 rfl ?_
      refine mm_ev.pos (nI_pos' (by omega)) ?_
      refine mm_ev.run mm_y67 2 rfl ?_
      refine mm_ev.call mm_y67 rfl rfl rfl rfl rfl hN (fun v1 μ1 hq => ?_)
      obtain ⟨rfl, hμ⟩ := hq
      obtain rfl := hμ.symm
      refine mm_ev.run mm_y67 1 rfl ?_
      refine mm_ev.val (i2c_n c hc2) ?_
      refine mm_ev.call mm_y67 rfl rfl rfl rfl rfl hS (fun v1 μ1 hq => ?_)
      obtain ⟨rfl, hμ⟩ := hq
      obtain rfl := hμ.symm
      refine mm_ev.run mm_y67 3 rfl ?_
      refine mm_ev.neg (by decide) ?_
      refine mm_ev.run mm_y67 1 rfl ?_
      exact mm_ev.ret mm_y67 rfl rfl rfl ⟨rfl, by rw [List.append_nil]; exact h, mf.rf⟩
    · rw [pN_end hlt] at hN
      refine mm_call.of mm_t67 ?_
      refine mm_ev.run mm_y67 1 rfl ?_
      refine mm_ev.call mm_y67 rfl rfl rfl rfl rfl hN (fun v1 μ1 hq => ?_)
      obtain ⟨rfl, hμ⟩ := hq
      obtain rfl := hμ.symm
      refine mm_ev.run mm_y67 1 rfl ?_
      refine mm_ev.neg (by decide) ?_
      refine mm_ev.run mm_y67 5 rfl ?_
      refine mm_ev.neg (by decide) ?_
      refine mm_ev.run mm_y67 1 rfl ?_
      exact mm_ev.ret mm_y67 rfl rfl rfl ⟨rfl, by rw [List.append_nil]; exact h, mf.rf⟩
set_option maxRecDepth 100000 in
theorem C65_l (hq6 : q6 q) (ht : okT n tx) {f : Nat → pZ} {hh : Nat} (hG : pG n hh f) {dep : Int32} (hf : ∀ a cs μ1, a ≤ n → cs.length ≤ a → rP q n tx g kk FA FB a cs μ1 → mm_call la_C d 66 [.ref 66, .int dep] μ1 (rQ q n tx g kk FA FB cs μ1 (f a))) : ∀ m i a cs μ1, i + m = 100 → a ≤ n → cs.length ≤ a → rP q n tx g kk FA FB a cs μ1 → mf (rd q) μ μ1 → mm_ev la_C (d + 1) 65 8 [some (.ref 66), some (.int dep), some (.int (nI i))] [] μ1 (rQ q n tx g kk FA FB cs μ (pLp n tx f 38 1 m a)) := by
  intro m
  have h100 := ht.1
  induction m with
  | zero =>
    intro i a cs μ1 hi ha hc h hm
    have hi : i = 100 := by omega
    subst hi
    rw [show pLp n tx f 38 1 0 a = (true, a, []) from rfl]
    refine mm_ev.run mm_y65 3 rfl ?_
    refine mm_ev.pos (by decide) ?_
    refine mm_ev.run mm_y65 1 rfl ?_
    exact mm_ev.ret mm_y65 rfl rfl rfl ⟨rfl, by rw [List.append_nil]; exact h, hm⟩
  | succ m ih =>
    intro i a cs μ1 hi ha hc h hm
    have ih := fun a cs μ1 => ih (i + 1) a cs μ1 (by omega)
    rw [nI_succ] at ih
    rw [pLp_s]
    refine mm_ev.run mm_y65 3 rfl ?_
    refine mm_ev.neg (nI_ge (b := 100) (by omega) (by decide)) ?_
    refine mm_ev.run mm_y65 1 rfl ?_
    refine mm_ev.call mm_y65 rfl rfl rfl rfl rfl (C59 h ht ha) (fun v1 μ1 hq => ?_)
    obtain ⟨rfl, hμ⟩ := hq
    obtain rfl := hμ.symm
    refine mm_ev.run mm_y65 2 rfl ?_
    refine mm_ev.ite (fun h1 => ?_) (fun h1 => ?_)
    · have hlt := pN_lt h1 (by decide)
      rw [if_pos h1]
      have hP1 := h.s2 hq6 (a' := a + 1)
      have hF := hf (a + 1) cs _ hlt (by omega) hP1
      obtain ⟨g1, g2, g3, g4⟩ := hG (a + 1) hlt
      refine mm_ev.run mm_y65 3 rfl ?_
      refine mm_ev.val h.1.2.1 ?_
      refine mm_ev.run mm_y65 2 rfl ?_
      refine mm_ev.val (nI_1 a) ?_
      refine mm_ev.run mm_y65 1 rfl ?_
      by_cases h2 : (f (a + 1)).1 = true
      · rw [if_pos h2]
        unfold rQ at hF
        rw [bI_1 (p := (f (a + 1)).1 = true) h2] at hF
        refine mm_ev.run mm_y65 2 rfl ?_
        refine mm_ev.call mm_y65 rfl rfl rfl rfl rfl hF (fun v1 μ1 hq => ?_)
        obtain ⟨rfl, e1, e2⟩ := hq
        refine mm_ev.run mm_y65 1 rfl ?_
        refine mm_ev.neg (by decide) ?_
        have hl : (cs ++ (f (a + 1)).2.2).length < 100 := by rw [List.length_append]; omega
        refine mm_ev.run mm_y65 2 rfl ?_
        refine mm_ev.vav e1.into ?_
        refine mm_ev.run mm_y65 1 rfl ?_
        refine mm_ev.call mm_y65 rfl rfl rfl rfl (by rcases hq6 with rfl | rfl | rfl | rfl | rfl | rfl <;> rfl) (C78 hq6 e1 hl 1 rfl) (fun v1 μ1 hq => ?_)
        obtain ⟨rfl, k1, k2⟩ := hq
        refine mm_ev.run mm_y65 2 rfl ?_
        have hl2 : (cs ++ (f (a + 1)).2.2 ++ [1]).length ≤ (f (a + 1)).2.1 := by rw [List.length_append, List.length_append, List.length_singleton]; omega
        have fin := ih _ _ _ g2 hl2 k1 (((hm.sI (Or.inl rfl)).tr e2).tr k2)
        unfold rQ at fin
        rw [List.append_assoc, List.append_assoc] at fin
        exact fin
      · rw [if_neg h2]
        unfold rQ at hF
        rw [bI_0 (p := (f (a + 1)).1 = true) h2] at hF
        refine mm_ev.run mm_y65 2 rfl ?_
        refine mm_ev.call mm_y65 rfl rfl rfl rfl rfl hF (fun v1 μ1 hq => ?_)
        obtain ⟨rfl, e1, e2⟩ := hq
        refine mm_ev.run mm_y65 1 rfl ?_
        refine mm_ev.pos rfl ?_
        refine mm_ev.run mm_y65 1 rfl ?_
        exact mm_ev.ret mm_y65 rfl rfl rfl ⟨rfl, e1, (hm.sI (Or.inl rfl)).tr e2⟩
    · rw [if_neg h1]
      refine mm_ev.run mm_y65 1 rfl ?_
      exact mm_ev.ret mm_y65 rfl rfl rfl ⟨rfl, by rw [List.append_nil]; exact h, hm⟩
set_option maxRecDepth 100000 in
theorem C65 (hq6 : q6 q) (ht : okT n tx) {f : Nat → pZ} {hh : Nat} (hG : pG n hh f) {dep : Int32} (hf : ∀ a cs μ1, a ≤ n → cs.length ≤ a → rP q n tx g kk FA FB a cs μ1 → mm_call la_C d 66 [.ref 66, .int dep] μ1 (rQ q n tx g kk FA FB cs μ1 (f a))) : ∀ a cs μ1, a ≤ n → cs.length ≤ a → rP q n tx g kk FA FB a cs μ1 → mm_call la_C (d + 1) 65 [.ref 66, .int dep] μ1 (rQ q n tx g kk FA FB cs μ1 (pJ n tx f 38 1 a)) := by
  intro a cs μ ha hc h
  have hF := hf a cs μ ha hc h
  obtain ⟨g1, g2, g3, g4⟩ := hG a ha
  unfold pJ
  by_cases h2 : (f a).1 = true
  · rw [if_pos h2]
    unfold rQ at hF
    rw [bI_1 (p := (f a).1 = true) h2] at hF
    refine mm_call.of mm_t65 ?_
    refine mm_ev.run mm_y65 2 rfl ?_
    refine mm_ev.call mm_y65 rfl rfl rfl rfl rfl hF (fun v1 μ1 hq => ?_)
    obtain ⟨rfl, e1, e2⟩ := hq
    refine mm_ev.run mm_y65 1 rfl ?_
    refine mm_ev.neg (by decide) ?_
    refine mm_ev.run mm_y65 2 rfl ?_
    have hl : (cs ++ (f a).2.2).length ≤ (f a).2.1 := by rw [List.length_append]; omega
    have fin := C65_l (μ := μ) hq6 ht hG hf 100 0 (f a).2.1 _ _ (by omega) g2 hl e1 e2
    unfold rQ at fin
    rw [List.append_assoc] at fin
    exact fin
  · rw [if_neg h2]
    unfold rQ at hF
    rw [bI_0 (p := (f a).1 = true) h2] at hF
    refine mm_call.of mm_t65 ?_
    refine mm_ev.run mm_y65 2 rfl ?_
    refine mm_ev.call mm_y65 rfl rfl rfl rfl rfl hF (fun v1 μ1 hq => ?_)
    obtain ⟨rfl, e1, e2⟩ := hq
    refine mm_ev.run mm_y65 1 rfl ?_
    refine mm_ev.pos rfl ?_
    refine mm_ev.run mm_y65 1 rfl ?_
    exact mm_ev.ret mm_y65 rfl rfl rfl ⟨rfl, e1, e2⟩
set_option maxRecDepth 100000 in
theorem C64_l (hq6 : q6 q) (ht : okT n tx) {f : Nat → pZ} {hh : Nat} (hG : pG n hh f) {dep : Int32} (hf : ∀ a cs μ1, a ≤ n → cs.length ≤ a → rP q n tx g kk FA FB a cs μ1 → mm_call la_C d 65 [.ref 66, .int dep] μ1 (rQ q n tx g kk FA FB cs μ1 (f a))) : ∀ m i a cs μ1, i + m = 100 → a ≤ n → cs.length ≤ a → rP q n tx g kk FA FB a cs μ1 → mf (rd q) μ μ1 → mm_ev la_C (d + 1) 64 8 [some (.ref 66), some (.int dep), some (.int (nI i))] [] μ1 (rQ q n tx g kk FA FB cs μ (pLp n tx f 124 2 m a)) := by
  intro m
  have h100 := ht.1
  induction m with
  | zero =>
    intro i a cs μ1 hi ha hc h hm
    have hi : i = 100 := by omega
    subst hi
    rw [show pLp n tx f 124 2 0 a = (true, a, []) from rfl]
    refine mm_ev.run mm_y64 3 rfl ?_
    refine mm_ev.pos (by decide) ?_
    refine mm_ev.run mm_y64 1 rfl ?_
    exact mm_ev.ret mm_y64 rfl rfl rfl ⟨rfl, by rw [List.append_nil]; exact h, hm⟩
  | succ m ih =>
    intro i a cs μ1 hi ha hc h hm
    have ih := fun a cs μ1 => ih (i + 1) a cs μ1 (by omega)
    rw [nI_succ] at ih
    rw [pLp_s]
    refine mm_ev.run mm_y64 3 rfl ?_
    refine mm_ev.neg (nI_ge (b := 100) (by omega) (by decide)) ?_
    refine mm_ev.run mm_y64 1 rfl ?_
    refine mm_ev.call mm_y64 rfl rfl rfl rfl rfl (C59 h ht ha) (fun v1 μ1 hq => ?_)
    obtain ⟨rfl, hμ⟩ := hq
    obtain rfl := hμ.symm
    refine mm_ev.run mm_y64 2 rfl ?_
    refine mm_ev.ite (fun h1 => ?_) (fun h1 => ?_)
    · have hlt := pN_lt h1 (by decide)
      rw [if_pos h1]
      have hP1 := h.s2 hq6 (a' := a + 1)
      have hF := hf (a + 1) cs _ hlt (by omega) hP1
      obtain ⟨g1, g2, g3, g4⟩ := hG (a + 1) hlt
      refine mm_ev.run mm_y64 3 rfl ?_
      refine mm_ev.val h.1.2.1 ?_
      refine mm_ev.run mm_y64 2 rfl ?_
      refine mm_ev.val (nI_1 a) ?_
      refine mm_ev.run mm_y64 1 rfl ?_
      by_cases h2 : (f (a + 1)).1 = true
      · rw [if_pos h2]
        unfold rQ at hF
        rw [bI_1 (p := (f (a + 1)).1 = true) h2] at hF
        refine mm_ev.run mm_y64 2 rfl ?_
        refine mm_ev.call mm_y64 rfl rfl rfl rfl rfl hF (fun v1 μ1 hq => ?_)
        obtain ⟨rfl, e1, e2⟩ := hq
        refine mm_ev.run mm_y64 1 rfl ?_
        refine mm_ev.neg (by decide) ?_
        have hl : (cs ++ (f (a + 1)).2.2).length < 100 := by rw [List.length_append]; omega
        refine mm_ev.run mm_y64 2 rfl ?_
        refine mm_ev.vav e1.into ?_
        refine mm_ev.run mm_y64 1 rfl ?_
        refine mm_ev.call mm_y64 rfl rfl rfl rfl (by rcases hq6 with rfl | rfl | rfl | rfl | rfl | rfl <;> rfl) (C78 hq6 e1 hl 2 rfl) (fun v1 μ1 hq => ?_)
        obtain ⟨rfl, k1, k2⟩ := hq
        refine mm_ev.run mm_y64 2 rfl ?_
        have hl2 : (cs ++ (f (a + 1)).2.2 ++ [2]).length ≤ (f (a + 1)).2.1 := by rw [List.length_append, List.length_append, List.length_singleton]; omega
        have fin := ih _ _ _ g2 hl2 k1 (((hm.sI (Or.inl rfl)).tr e2).tr k2)
        unfold rQ at fin
        rw [List.append_assoc, List.append_assoc] at fin
        exact fin
      · rw [if_neg h2]
        unfold rQ at hF
        rw [bI_0 (p := (f (a + 1)).1 = true) h2] at hF
        refine mm_ev.run mm_y64 2 rfl ?_
        refine mm_ev.call mm_y64 rfl rfl rfl rfl rfl hF (fun v1 μ1 hq => ?_)
        obtain ⟨rfl, e1, e2⟩ := hq
        refine mm_ev.run mm_y64 1 rfl ?_
        refine mm_ev.pos rfl ?_
        refine mm_ev.run mm_y64 1 rfl ?_
        exact mm_ev.ret mm_y64 rfl rfl rfl ⟨rfl, e1, (hm.sI (Or.inl rfl)).tr e2⟩
    · rw [if_neg h1]
      refine mm_ev.run mm_y64 1 rfl ?_
      exact mm_ev.ret mm_y64 rfl rfl rfl ⟨rfl, by rw [List.append_nil]; exact h, hm⟩
set_option maxRecDepth 100000 in
theorem C64 (hq6 : q6 q) (ht : okT n tx) {f : Nat → pZ} {hh : Nat} (hG : pG n hh f) {dep : Int32} (hf : ∀ a cs μ1, a ≤ n → cs.length ≤ a → rP q n tx g kk FA FB a cs μ1 → mm_call la_C d 65 [.ref 66, .int dep] μ1 (rQ q n tx g kk FA FB cs μ1 (f a))) : ∀ a cs μ1, a ≤ n → cs.length ≤ a → rP q n tx g kk FA FB a cs μ1 → mm_call la_C (d + 1) 64 [.ref 66, .int dep] μ1 (rQ q n tx g kk FA FB cs μ1 (pJ n tx f 124 2 a)) := by
  intro a cs μ ha hc h
  have hF := hf a cs μ ha hc h
  obtain ⟨g1, g2, g3, g4⟩ := hG a ha
  unfold pJ
  by_cases h2 : (f a).1 = true
  · rw [if_pos h2]
    unfold rQ at hF
    rw [bI_1 (p := (f a).1 = true) h2] at hF
    refine mm_call.of mm_t64 ?_
    refine mm_ev.run mm_y64 2 rfl ?_
    refine mm_ev.call mm_y64 rfl rfl rfl rfl rfl hF (fun v1 μ1 hq => ?_)
    obtain ⟨rfl, e1, e2⟩ := hq
    refine mm_ev.run mm_y64 1 rfl ?_
    refine mm_ev.neg (by decide) ?_
    refine mm_ev.run mm_y64 2 rfl ?_
    have hl : (cs ++ (f a).2.2).length ≤ (f a).2.1 := by rw [List.length_append]; omega
    have fin := C64_l (μ := μ) hq6 ht hG hf 100 0 (f a).2.1 _ _ (by omega) g2 hl e1 e2
    unfold rQ at fin
    rw [List.append_assoc] at fin
    exact fin
  · rw [if_neg h2]
    unfold rQ at hF
    rw [bI_0 (p := (f a).1 = true) h2] at hF
    refine mm_call.of mm_t64 ?_
    refine mm_ev.run mm_y64 2 rfl ?_
    refine mm_ev.call mm_y64 rfl rfl rfl rfl rfl hF (fun v1 μ1 hq => ?_)
    obtain ⟨rfl, e1, e2⟩ := hq
    refine mm_ev.run mm_y64 1 rfl ?_
    refine mm_ev.pos rfl ?_
    refine mm_ev.run mm_y64 1 rfl ?_
    exact mm_ev.ret mm_y64 rfl rfl rfl ⟨rfl, e1, e2⟩
theorem pF_s (n : Nat) (tx : Nat → Int32) (r a : Nat) : pF n tx (r + 1) a = if pN n tx a = 33 then (if (pF n tx r (a + 1)).1 = true then (true, (pF n tx r (a + 1)).2.1, (pF n tx r (a + 1)).2.2 ++ [0]) else (false, (pF n tx r (a + 1)).2.1, (pF n tx r (a + 1)).2.2)) else if pN n tx a = 40 then (if (pE n tx (pF n tx r) (a + 1)).1 = true then (if pN n tx (pE n tx (pF n tx r) (a + 1)).2.1 = 41 then (true, (pE n tx (pF n tx r) (a + 1)).2.1 + 1, (pE n tx (pF n tx r) (a + 1)).2.2) else (false, (pE n tx (pF n tx r) (a + 1)).2.1, (pE n tx (pF n tx r) (a + 1)).2.2)) else (false, (pE n tx (pF n tx r) (a + 1)).2.1, (pE n tx (pF n tx r) (a + 1)).2.2)) else pTs n tx a := rfl
theorem pTs_no {x : Int32} (h : pN n tx a = x) (hx : pLt x = 6) : pTs n tx a = (false, a, []) := by
  unfold pTs
  rw [h, if_neg (by omega)]
set_option maxRecDepth 100000 in
theorem C66 (hq6 : q6 q) (ht : okT n tx) : ∀ r d dep a cs μ, dep + r = 4 → a ≤ n → cs.length ≤ a → rP q n tx g kk FA FB a cs μ → mm_call la_C (d + 5 + 3 * r) 66 [.ref 66, .int (nI dep)] μ (rQ q n tx g kk FA FB cs μ (pF n tx r a)) := by
  have h100 := ht.1
  intro r
  induction r with
  | zero =>
    intro d dep a cs μ hd ha hc h
    have hd : dep = 4 := by omega
    subst hd
    show mm_call la_C (d + 4 + 1) 66 _ _ _
    rw [show pF n tx 0 a = pTs n tx a from rfl]
    refine mm_call.of mm_t66 ?_
    refine mm_ev.run mm_y66 1 rfl ?_
    refine mm_ev.call mm_y66 rfl rfl rfl rfl rfl (C59 h ht ha) (fun v1 μ1 hq => ?_)
    obtain ⟨rfl, hμ⟩ := hq
    obtain rfl := hμ.symm
    refine mm_ev.run mm_y66 4 rfl ?_
    refine mm_ev.ite (fun h1 => ?_) (fun h1 => ?_)
    · rw [pTs_no h1 (by decide)]
      refine mm_ev.run mm_y66 3 rfl ?_
      refine mm_ev.neg (by decide) ?_
      refine mm_ev.run mm_y66 1 rfl ?_
      exact mm_ev.ret mm_y66 rfl rfl rfl ⟨rfl, by rw [List.append_nil]; exact h, mf.rf⟩
    · refine mm_ev.run mm_y66 3 rfl ?_
      refine mm_ev.ite (fun h2 => ?_) (fun h2 => ?_)
      · rw [pTs_no h2 (by decide)]
        refine mm_ev.run mm_y66 3 rfl ?_
        refine mm_ev.neg (by decide) ?_
        refine mm_ev.run mm_y66 1 rfl ?_
        exact mm_ev.ret mm_y66 rfl rfl rfl ⟨rfl, by rw [List.append_nil]; exact h, mf.rf⟩
      · refine mm_ev.run mm_y66 1 rfl ?_
        refine mm_ev.call mm_y66 rfl rfl rfl rfl rfl (C67 (d := d) hq6 h ht ha hc) (fun v1 μ1 hq => ?_)
        obtain ⟨rfl, e1, e2⟩ := hq
        exact mm_ev.ret mm_y66 rfl rfl mm_retb ⟨rfl, e1, e2⟩
  | succ r ih =>
    intro d dep a cs μ hd ha hc h
    rw [show d + 5 + 3 * (r + 1) = (d + 5 + 3 * r + 2) + 1 by omega, pF_s]
    have hP1 := h.s2 hq6 (a' := a + 1)
    refine mm_call.of mm_t66 ?_
    refine mm_ev.run mm_y66 1 rfl ?_
    refine mm_ev.call mm_y66 rfl rfl rfl rfl rfl (C59 h ht ha) (fun v1 μ1 hq => ?_)
    obtain ⟨rfl, hμ⟩ := hq
    obtain rfl := hμ.symm
    refine mm_ev.run mm_y66 4 rfl ?_
    refine mm_ev.ite (fun h1 => ?_) (fun h1 => ?_)
    · have hlt := pN_lt h1 (by decide)
      rw [if_pos h1]
      have hF := (ih d (dep + 1) (a + 1) cs _ (by omega) hlt (by omega) hP1).deep (show d + 5 + 3 * r ≤ d + 5 + 3 * r + 2 by omega)
      rw [nI_succ] at hF
      obtain ⟨g1, g2, g3, g4⟩ := pF_G (tx := tx) r (a + 1) hlt
      refine mm_ev.run mm_y66 3 rfl ?_
      refine mm_ev.pos (nI_lt (b := 4) (by omega) (by decide)) ?_
      refine mm_ev.run mm_y66 3 rfl ?_
      refine mm_ev.val h.1.2.1 ?_
      refine mm_ev.run mm_y66 2 rfl ?_
      refine mm_ev.val (nI_1 a) ?_
      refine mm_ev.run mm_y66 1 rfl ?_
      refine mm_ev.run mm_y66 3 rfl ?_
      refine mm_ev.neg (show ¬ pN n tx a = 40 from fun z => absurd (h1.symm.trans z) (by decide)) ?_
      by_cases h2 : (pF n tx r (a + 1)).1 = true
      · rw [if_pos h2]
        unfold rQ at hF
        rw [bI_1 (p := (pF n tx r (a + 1)).1 = true) h2] at hF
        refine mm_ev.run mm_y66 4 rfl ?_
        refine mm_ev.call mm_y66 rfl rfl rfl rfl rfl hF (fun v1 μ1 hq => ?_)
        obtain ⟨rfl, e1, e2⟩ := hq
        refine mm_ev.run mm_y66 1 rfl ?_
        refine mm_ev.neg (by decide) ?_
        have hl : (cs ++ (pF n tx r (a + 1)).2.2).length < 100 := by rw [List.length_append]; omega
        refine mm_ev.run mm_y66 2 rfl ?_
        refine mm_ev.vav e1.into ?_
        refine mm_ev.run mm_y66 1 rfl ?_
        refine mm_ev.call mm_y66 rfl rfl rfl rfl (by rcases hq6 with rfl | rfl | rfl | rfl | rfl | rfl <;> rfl) (C78 hq6 e1 hl 0 rfl) (fun v1 μ1 hq => ?_)
        obtain ⟨rfl, k1, k2⟩ := hq
        refine mm_ev.run mm_y66 1 rfl ?_
        exact mm_ev.ret mm_y66 rfl rfl rfl ⟨rfl, by rw [← List.append_assoc]; exact k1, ((mf.rf.sI (Or.inl rfl)).tr e2).tr k2⟩
      · rw [if_neg h2]
        unfold rQ at hF
        rw [bI_0 (p := (pF n tx r (a + 1)).1 = true) h2] at hF
        refine mm_ev.run mm_y66 4 rfl ?_
        refine mm_ev.call mm_y66 rfl rfl rfl rfl rfl hF (fun v1 μ1 hq => ?_)
        obtain ⟨rfl, e1, e2⟩ := hq
        refine mm_ev.run mm_y66 1 rfl ?_
        refine mm_ev.pos rfl ?_
        refine mm_ev.run mm_y66 1 rfl ?_
        exact mm_ev.ret mm_y66 rfl rfl rfl ⟨rfl, e1, (mf.rf.sI (Or.inl rfl)).tr e2⟩
    · rw [if_neg h1]
      refine mm_ev.run mm_y66 3 rfl ?_
      refine mm_ev.ite (fun h2 => ?_) (fun h2 => ?_)
      · have hlt := pN_lt h2 (by decide)
        rw [if_pos h2]
        have hG := pF_G (n := n) (tx := tx) r
        have hF1 := fun a cs μ1 (ha : a ≤ n) (hc : cs.length ≤ a) (h : rP q n tx g kk FA FB a cs μ1) => ih d (dep + 1) a cs μ1 (by omega) ha hc h
        have hF := C64 hq6 ht (pJ_G hG (by decide) (Or.inl rfl)) (C65 hq6 ht hG hF1) (a + 1) cs _ hlt (by omega) hP1
        rw [nI_succ] at hF
        obtain ⟨g1, g2, g3, g4⟩ := pE_G (tx := tx) hG (a + 1) hlt
        have eE : pJ n tx (pJ n tx (pF n tx r) 38 1) 124 2 (a + 1) = pE n tx (pF n tx r) (a + 1) := rfl
        rw [eE] at hF
        refine mm_ev.run mm_y66 3 rfl ?_
        refine mm_ev.pos (nI_lt (b := 4) (by omega) (by decide)) ?_
        refine mm_ev.run mm_y66 3 rfl ?_
        refine mm_ev.val h.1.2.1 ?_
        refine mm_ev.run mm_y66 2 rfl ?_
        refine mm_ev.val (nI_1 a) ?_
        refine mm_ev.run mm_y66 1 rfl ?_
        refine mm_ev.run mm_y66 3 rfl ?_
        refine mm_ev.pos h2 ?_
        by_cases h3 : (pE n tx (pF n tx r) (a + 1)).1 = true
        · rw [if_pos h3]
          unfold rQ at hF
          rw [bI_1 (p := (pE n tx (pF n tx r) (a + 1)).1 = true) h3] at hF
          refine mm_ev.run mm_y66 4 rfl ?_
          refine mm_ev.call mm_y66 rfl rfl rfl rfl rfl hF (fun v1 μ1 hq => ?_)
          obtain ⟨rfl, e1, e2⟩ := hq
          refine mm_ev.run mm_y66 1 rfl ?_
          refine mm_ev.neg (by decide) ?_
          refine mm_ev.run mm_y66 2 rfl ?_
          refine mm_ev.call mm_y66 rfl rfl rfl rfl rfl (C62 hq6 e1 ht g2 41) (fun v1 μ1 hq => ?_)
          obtain ⟨rfl, k1, k2⟩ := hq
          refine mm_ev.run mm_y66 1 rfl ?_
          refine mm_ev.ifb (fun h4 => ?_) (fun h4 => ?_)
          · rw [if_neg h4] at k1 ⊢
            refine mm_ev.run mm_y66 1 rfl ?_
            exact mm_ev.ret mm_y66 rfl rfl rfl ⟨rfl, k1, ((mf.rf.sI (Or.inl rfl)).tr e2).tr k2⟩
          · rw [if_pos h4] at k1 ⊢
            refine mm_ev.run mm_y66 2 rfl ?_
            exact mm_ev.ret mm_y66 rfl rfl rfl ⟨rfl, k1, ((mf.rf.sI (Or.inl rfl)).tr e2).tr k2⟩
        · rw [if_neg h3]
          unfold rQ at hF
          rw [bI_0 (p := (pE n tx (pF n tx r) (a + 1)).1 = true) h3] at hF
          refine mm_ev.run mm_y66 4 rfl ?_
          refine mm_ev.call mm_y66 rfl rfl rfl rfl rfl hF (fun v1 μ1 hq => ?_)
          obtain ⟨rfl, e1, e2⟩ := hq
          refine mm_ev.run mm_y66 1 rfl ?_
          refine mm_ev.pos rfl ?_
          refine mm_ev.run mm_y66 1 rfl ?_
          exact mm_ev.ret mm_y66 rfl rfl rfl ⟨rfl, e1, (mf.rf.sI (Or.inl rfl)).tr e2⟩
      · rw [if_neg h2]
        refine mm_ev.run mm_y66 1 rfl ?_
        refine mm_ev.call mm_y66 rfl rfl rfl rfl rfl ((C67 (d := d) hq6 h ht ha hc).deep (by omega)) (fun v1 μ1 hq => ?_)
        obtain ⟨rfl, e1, e2⟩ := hq
        exact mm_ev.ret mm_y66 rfl rfl mm_retb ⟨rfl, e1, e2⟩
end
