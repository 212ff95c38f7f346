/-! THE CLASS'S READER: a school -/
section
variable {d q n kk a : Nat} {tx : Nat → Int32} {FA FB : Nat → Int32} {μ : mm_M}
abbrev rB (z : Bool) (n a : Nat) : Prop := z = true ∧ a = n
def rE (q n : Nat) (z : Bool × Nat × sS) (μ : mm_M) (v : Option Value) (μ' : mm_M) : Prop := v = some (.int (if rB z.1 n z.2.1 then -1 else nI z.2.1)) ∧ μ'.1 66 1 = nI 0 ∧ (rB z.1 n z.2.1 → sS_c q z.2.2 μ') ∧ mf (rd q) μ μ'
/-- the clauses read so far -/
def rV (q n : Nat) (tx : Nat → Int32) (s : sS) (a : Nat) (μ : mm_M) : Prop := ∃ K FA FB, rP q n tx (sp_gr s 2) K FA FB a (sp_fl s) μ ∧ sp_cq FA FB K s 0 0 ∧ (sp_fl s).length ≤ a
theorem rV.ok {s : sS} (hq : q6 q) (h : rV q n tx s a μ) : sS_c q s (mm_sI μ 66 (upd (μ.1 66) 1 0)) := by
  have := hq.r
  obtain ⟨K, FA, FB, hP, hc, _⟩ := h
  obtain ⟨_, ⟨h5, h6, h7⟩, h8, h9, h10⟩ := hP
  refine ⟨by rw [sI_ne (by omega)]; exact h5, ?_⟩
  refine sp_cq_cl (K := K) (by rw [sI_ne (by omega)]; exact h6) s 0 0 (by rw [sI_ne (by omega)]; exact h10) ?_
  rw [sI_ne (by omega), sI_ne (by omega), h8, h9]
  exact hc
set_option maxRecDepth 100000 in
theorem C57_0 {μ0 : mm_M} {s : sS} {x : Option Value} (hn : μ.1 66 2 = nI a) (hm : mf (rd q) μ0 μ) : mm_ev la_C d 57 37 [some (.ref 66), some (.ref q), some (.int 0), x] [] μ (rE q n (false, a, s) μ0) := by
  have key : rE q n (false, a, s) μ0 (some (.int (nI a))) (mm_sI μ 66 (upd (μ.1 66) 1 0)) := ⟨by rw [if_neg (fun z => (by cases z.1))], by rw [sI_eq, upd_eq]; rfl, fun z => (by cases z.1), hm.sI (Or.inl rfl)⟩
  refine mm_ev.run mm_y57 2 rfl ?_
  refine mm_ev.pos rfl ?_
  refine mm_ev.run mm_y57 8 rfl ?_
  refine mm_ev.neg (by decide) ?_
  refine mm_ev.run mm_y57 2 rfl ?_
  refine mm_ev.val hn ?_
  refine mm_ev.run mm_y57 1 rfl ?_
  exact mm_ev.ret mm_y57 rfl rfl rfl key
set_option maxRecDepth 100000 in
theorem C57_z {μ0 : mm_M} {s : sS} {i : Nat} (hi : i ≤ 10) (hn : μ.1 66 2 = nI a) (hm : mf (rd q) μ0 μ) : mm_ev la_C d 57 14 [some (.ref 66), some (.ref q), some (.int 0), some (.int (nI i))] [] μ (rE q n (false, a, s) μ0) := by
  by_cases h : i = 10
  · subst h
    refine mm_ev.run mm_y57 3 rfl ?_
    refine mm_ev.pos (by decide) ?_
    exact C57_0 hn hm
  ·
    refine mm_ev.run mm_y57 3 rfl ?_
    refine mm_ev.neg (nI_ge (b := 10) (by omega) (by decide)) ?_
    refine mm_ev.run mm_y57 2 rfl ?_
    refine mm_ev.pos rfl ?_
    exact C57_0 hn hm
set_option maxRecDepth 100000 in
theorem C57_1 {μ0 : mm_M} {s : sS} {x : Option Value} (hq : q6 q) (h100 : n ≤ 100) (h : rV q n tx s a μ) (ha : a ≤ n) (hm : mf (rd q) μ0 μ) : mm_ev la_C d 57 37 [some (.ref 66), some (.ref q), some (.int 1), x] [] μ (rE q n (true, a, s) μ0) := by
  have hok := h.ok hq
  obtain ⟨K, FA, FB, hP, hc, _⟩ := h
  refine mm_ev.run mm_y57 2 rfl ?_
  refine mm_ev.neg (by decide) ?_
  refine mm_ev.run mm_y57 2 rfl ?_
  refine mm_ev.val hP.1.2.1 ?_
  refine mm_ev.run mm_y57 2 rfl ?_
  refine mm_ev.val hP.1.1 ?_
  refine mm_ev.run mm_y57 1 rfl ?_
  refine mm_ev.ite (fun h1 => ?_) (fun h1 => ?_)
  · have e : a = n := by have := (nI_leI (by omega) (by omega)).mp h1; omega
    refine mm_ev.run mm_y57 7 rfl ?_
    refine mm_ev.pos rfl ?_
    refine mm_ev.run mm_y57 1 rfl ?_
    exact mm_ev.ret mm_y57 rfl rfl rfl ⟨by rw [if_pos ⟨rfl, e⟩], by rw [sI_eq, upd_eq]; rfl, fun _ => hok, hm.sI (Or.inl rfl)⟩
  · have e : ¬ a = n := fun z => h1 (by rw [z]; exact nI_le (Nat.le_refl _) (by omega))
    refine mm_ev.run mm_y57 8 rfl ?_
    refine mm_ev.neg (by decide) ?_
    refine mm_ev.run mm_y57 2 rfl ?_
    refine mm_ev.val hP.1.2.1 ?_
    refine mm_ev.run mm_y57 1 rfl ?_
    exact mm_ev.ret mm_y57 rfl rfl rfl ⟨by rw [if_neg (fun z => e z.2)], by rw [sI_eq, upd_eq]; rfl, fun z => absurd z.2 e, hm.sI (Or.inl rfl)⟩
theorem pS_s (n : Nat) (tx : Nat → Int32) (m a : Nat) : pS n tx (m + 1) a = if a < n then (if pN n tx a = 59 then (if (pC n tx (a + 1)).1 = true then ((pS n tx m (pC n tx (a + 1)).2.1).1, (pS n tx m (pC n tx (a + 1)).2.1).2.1, (pC n tx (a + 1)).2.2 :: (pS n tx m (pC n tx (a + 1)).2.1).2.2) else (false, (pC n tx (a + 1)).2.1, [])) else (false, a, [])) else (true, a, []) := rfl
/-- one clause more -/
theorem rL_V {s : sS} {z : Bool × Nat × (Nat × Int32 × List Nat)} (hq : q6 q) (h100 : n ≤ 100) {K : Nat} (hK : K < 10) (hc : sp_cq FA FB K s 0 0) (hl : (sp_fl s).length ≤ a) (hz : z.1 = true) (hG : z.2.1 ≤ n ∧ z.2.2.2.2.length + a ≤ z.2.1 ∧ z.2.2.1 ≤ 2 ∧ (z.2.2.1 < 2 → sp_dep z.2.2.2.2 0 = some 1)) (h : rL q n tx (sp_gr s 2) K FA FB (sp_fl s) z μ) : rV q n tx (s ++ [z.2.2]) z.2.1 μ := by
  obtain ⟨b, a2, w, x, ops⟩ := z
  dsimp only at hz hG
  subst hz
  unfold rL at h
  rw [if_pos rfl] at h
  dsimp only at h
  by_cases hw : w = 2
  · rw [if_pos hw] at h
    subst hw
    refine ⟨K, FA, FB, ?_, sp_cq_g s 0 0 hc, ?_⟩
    · rw [sp_gr_app, sp_fl_app]
      show rP q n tx x K FA FB a2 (sp_fl s ++ []) μ
      rw [List.append_nil]
      exact h
    · rw [sp_fl_app]
      show (sp_fl s ++ []).length ≤ a2
      rw [List.append_nil]
      omega
  · rw [if_neg hw] at h
    refine ⟨K + 1, upd FA K (if w = 0 then x else - x), upd FB K (nI ((sp_fl s).length + ops.length)), ?_, ?_, ?_⟩
    rotate_left
    · have := sp_cq_c (w0 := w) (y := x) (ops0 := ops) (u := if w = 0 then x else - x) (by omega) hK (hG.2.2.2 (by omega)) rfl s 0 0 (by omega) hc
      rw [Nat.zero_add] at this
      exact this
    · rw [sp_fl_app, List.length_append]
      show (sp_fl s).length + (sp_fl [(w, x, ops)]).length ≤ a2
      have e : sp_fl [(w, x, ops)] = ops := by
        show (if w = 2 then [] else ops ++ []) = ops
        rw [if_neg hw, List.append_nil]
      rw [e]
      omega
    · rw [sp_gr_app, if_neg (show ¬ (w, x, ops).1 = 2 from hw), sp_fl_app]
      have e : sp_fl [(w, x, ops)] = ops := by
        show (if w = 2 then [] else ops ++ []) = ops
        rw [if_neg hw, List.append_nil]
      rw [e]
      exact h
set_option maxRecDepth 100000 in
theorem C57_l (hq6 : q6 q) (ht : okT n tx) {μ0 : mm_M} : ∀ m i s a μ, i + m = 10 → s.length = i → a ≤ n → rV q n tx s a μ → mf (rd q) μ0 μ → mm_ev la_C (d + 22) 57 14 [some (.ref 66), some (.ref q), some (.int 1), some (.int (nI i))] [] μ (rE q n ((pS n tx m a).1, (pS n tx m a).2.1, s ++ (pS n tx m a).2.2) μ0) := by
  have h100 := ht.1
  intro m
  induction m with
  | zero =>
    intro i s a μ hi hs ha h hm
    have hi : i = 10 := by omega
    subst hi
    rw [show pS n tx 0 a = (true, a, []) from rfl, List.append_nil]
    refine mm_ev.run mm_y57 3 rfl ?_
    refine mm_ev.pos (by decide) ?_
    exact C57_1 hq6 h100 h ha hm
  | succ m ih =>
    intro i s a μ hi hs ha h hm
    have ih := fun s a μ => ih (i + 1) s a μ (by omega)
    have hV := h
    obtain ⟨K, FA, FB, hP, hc, hl⟩ := h
    have hKi := (sp_cq_le s 0 0 hc).2
    rw [pS_s]
    refine mm_ev.run mm_y57 3 rfl ?_
    refine mm_ev.neg (nI_ge (b := 10) (by omega) (by decide)) ?_
    refine mm_ev.run mm_y57 2 rfl ?_
    refine mm_ev.neg (by decide) ?_
    refine mm_ev.run mm_y57 2 rfl ?_
    refine mm_ev.val hP.1.2.1 ?_
    refine mm_ev.run mm_y57 2 rfl ?_
    refine mm_ev.val hP.1.1 ?_
    refine mm_ev.run mm_y57 1 rfl ?_
    refine mm_ev.ite (fun h1 => ?_) (fun h1 => ?_)
    · rw [if_neg (by have := (nI_leI (by omega) (by omega)).mp h1; omega), List.append_nil]
      exact C57_1 hq6 h100 hV ha hm
    · have hlt : a < n := by
        by_cases z : a < n
        · exact z
        · exact absurd (nI_le (show n ≤ a by omega) (by omega)) h1
      rw [if_pos hlt]
      have K62 := C62 (d := d + 20) hq6 hP ht ha 59
      by_cases h2 : pN n tx a = 59
      · rw [if_pos h2, bI_1 (p := _ = _) h2] at K62
        rw [if_pos h2]
        obtain ⟨c1, c2, c3, c4⟩ := pC_G (tx := tx) (show a + 1 ≤ n by omega)
        refine mm_ev.run mm_y57 2 rfl ?_
        refine mm_ev.call mm_y57 rfl rfl rfl rfl rfl K62 (fun v1 μ1 hq => ?_)
        obtain ⟨rfl, e1, e2⟩ := hq
        refine mm_ev.run mm_y57 1 rfl ?_
        refine mm_ev.neg (by decide) ?_
        have K58 := C58 (d := d) hq6 e1 ht (show a + 1 ≤ n by omega) (by omega) (show K < 10 by omega)
        by_cases h3 : (pC n tx (a + 1)).1 = true
        · rw [bI_1 (p := (pC n tx (a + 1)).1 = true) h3] at K58
          rw [if_pos h3]
          refine mm_ev.run mm_y57 1 rfl ?_
          refine mm_ev.call mm_y57 rfl rfl rfl rfl rfl K58 (fun v1 μ1 hq => ?_)
          obtain ⟨rfl, e3, e4⟩ := hq
          refine mm_ev.run mm_y57 1 rfl ?_
          refine mm_ev.neg (by decide) ?_
          have c4 := c4 h3
          have hV2 := rL_V (a := a + 1) hq6 h100 (show K < 10 by omega) hc (by omega) h3 ⟨c2, c3, c4.2.1, c4.2.2⟩ e3
          have fin := ih (s ++ [(pC n tx (a + 1)).2.2]) _ _ (by rw [List.length_append, List.length_singleton]; omega) c2 hV2 ((hm.tr e2).tr e4)
          rw [List.append_assoc, nI_succ] at fin
          refine mm_ev.run mm_y57 5 rfl ?_
          exact fin
        · rw [bI_0 (p := (pC n tx (a + 1)).1 = true) h3] at K58
          rw [if_neg h3]
          refine mm_ev.run mm_y57 1 rfl ?_
          refine mm_ev.call mm_y57 rfl rfl rfl rfl rfl K58 (fun v1 μ1 hq => ?_)
          obtain ⟨rfl, e3, e4⟩ := hq
          refine mm_ev.run mm_y57 1 rfl ?_
          refine mm_ev.pos rfl ?_
          unfold rL at e3
          rw [if_neg h3] at e3
          obtain ⟨cs', e3⟩ := e3
          refine mm_ev.run mm_y57 4 rfl ?_
          rw [← nI_succ]
          exact C57_z (by omega) e3.1.2.1 ((hm.tr e2).tr e4)
      · rw [if_neg h2, bI_0 (p := _ = _) h2] at K62
        rw [if_neg h2]
        refine mm_ev.run mm_y57 2 rfl ?_
        refine mm_ev.call mm_y57 rfl rfl rfl rfl rfl K62 (fun v1 μ1 hq => ?_)
        obtain ⟨rfl, e1, e2⟩ := hq
        refine mm_ev.run mm_y57 1 rfl ?_
        refine mm_ev.pos rfl ?_
        refine mm_ev.run mm_y57 4 rfl ?_
        rw [← nI_succ]
        exact C57_z (by omega) e1.1.2.1 (hm.tr e2)
set_option maxRecDepth 100000 in
theorem C76 (hq : q6 q) : mm_call la_C d 76 [.ref q] μ (fun v μ' => v = none ∧ μ' = mm_sI (mm_sI (mm_sI μ q (upd (μ.1 q) 0 2)) q (upd (upd (μ.1 q) 0 2) 1 0)) q (upd (upd (upd (μ.1 q) 0 2) 1 0) 5 0)) := by
  rcases hq with rfl | rfl | rfl | rfl | rfl | rfl
  all_goals
    refine mm_call.of mm_t76 ?_
    refine mm_ev.run mm_y76 9 rfl ?_
    exact mm_ev.ret mm_y76 rfl rfl rfl ⟨rfl, rfl⟩
set_option maxRecDepth 100000 in
theorem C57 (hq6 : q6 q) (ht : okT n tx) (h1 : μ.1 66 1 = nI n) (h2 : ∀ i, i < n → μ.1 67 i = tx i) : mm_call la_C (d + 22) 57 [.ref 66, .ref q] μ (rE q n (pA n tx) μ) := by
  have hr := hq6.r
  have hin : va_rf ((mm_sR μ 66 (va_up (μ.2.2 66) 4 (some q))).2.2 66 4) = .ref q := rfl
  have K76 := C76 (d := d + 21) (μ := mm_sR μ 66 (va_up (μ.2.2 66) 4 (some q))) hq6
  have hP : rP q n tx 2 0 (μ.1 (q + 1)) (μ.1 (q + 2)) 0 [] (mm_sI (mm_sI (mm_sI (mm_sI (mm_sR μ 66 (va_up (μ.2.2 66) 4 (some q))) q (upd (μ.1 q) 0 2)) q (upd (upd (μ.1 q) 0 2) 1 0)) q (upd (upd (upd (μ.1 q) 0 2) 1 0) 5 0)) 66 (upd (μ.1 66) 2 0)) := by
    refine ⟨⟨?_, by rw [sI_eq, upd_eq]; rfl, rfl, fun i hi => ?_⟩, ⟨?_, ?_, ?_⟩, ?_, ?_, trivial⟩
    · rw [sI_eq, upd_ne (by decide)]
      exact h1
    · rw [sI_ne (by omega), sI_ne (by omega), sI_ne (by omega), sI_ne (by omega)]
      exact h2 i hi
    · rw [sI_ne (by omega), sI_eq]
      rfl
    · rw [sI_ne (by omega), sI_eq]
      rfl
    · rw [sI_ne (by omega), sI_eq]
      rfl
    · rw [sI_ne (by omega), sI_ne (by omega), sI_ne (by omega), sI_ne (by omega)]
      rfl
    · rw [sI_ne (by omega), sI_ne (by omega), sI_ne (by omega), sI_ne (by omega)]
      rfl
  have e66 : (mm_sI (mm_sI (mm_sI (mm_sR μ 66 (va_up (μ.2.2 66) 4 (some q))) q (upd (μ.1 q) 0 2)) q (upd (upd (μ.1 q) 0 2) 1 0)) q (upd (upd (upd (μ.1 q) 0 2) 1 0) 5 0)).1 66 = μ.1 66 := by
    rw [sI_ne (by omega), sI_ne (by omega), sI_ne (by omega)]
    rfl
  have hm : mf (rd q) μ (mm_sI (mm_sI (mm_sI (mm_sI (mm_sR μ 66 (va_up (μ.2.2 66) 4 (some q))) q (upd (μ.1 q) 0 2)) q (upd (upd (μ.1 q) 0 2) 1 0)) q (upd (upd (upd (μ.1 q) 0 2) 1 0) 5 0)) 66 (upd (μ.1 66) 2 0)) := ((((mf.rf.sR (Or.inl rfl)).sI (Or.inr ⟨Nat.le_refl _, by omega⟩)).sI (Or.inr ⟨Nat.le_refl _, by omega⟩)).sI (Or.inr ⟨Nat.le_refl _, by omega⟩)).sI (Or.inl rfl)
  obtain ⟨c1, c2, c3, c4⟩ := pC_G (n := n) (tx := tx) (a := 0) (Nat.zero_le _)
  have K58 := C58 (d := d) hq6 hP ht (Nat.zero_le _) (Nat.le_refl 0) (by decide)
  unfold pA
  refine mm_call.of mm_t57 ?_
  refine mm_ev.run mm_y57 5 rfl ?_
  refine mm_ev.vav hin ?_
  refine mm_ev.call mm_y57 rfl rfl rfl rfl (by rcases hq6 with rfl | rfl | rfl | rfl | rfl | rfl <;> rfl) K76 (fun v1 μ1 hq => ?_)
  obtain ⟨rfl, hμ⟩ := hq
  obtain rfl := hμ.symm
  refine mm_ev.run mm_y57 3 rfl ?_
  refine mm_ev.eq (congrArg (fun f => mm_sI (mm_sI (mm_sI (mm_sI (mm_sR μ 66 (va_up (μ.2.2 66) 4 (some q))) q (upd (μ.1 q) 0 2)) q (upd (upd (μ.1 q) 0 2) 1 0)) q (upd (upd (upd (μ.1 q) 0 2) 1 0) 5 0)) 66 (upd f 2 0)) e66) ?_
  by_cases h3 : (pC n tx 0).1 = true
  · rw [bI_1 (p := (pC n tx 0).1 = true) h3] at K58
    rw [if_pos h3]
    refine mm_ev.run mm_y57 1 rfl ?_
    refine mm_ev.call mm_y57 rfl rfl rfl rfl rfl K58 (fun v1 μ1 hq => ?_)
    obtain ⟨rfl, e3, e4⟩ := hq
    have c4 := c4 h3
    have hV2 := rL_V (s := []) (a := 0) hq6 ht.1 (by decide) ⟨rfl, by decide⟩ (Nat.le_refl 0) h3 ⟨c2, c3, c4.2.1, c4.2.2⟩ e3
    refine mm_ev.run mm_y57 3 rfl ?_
    exact C57_l hq6 ht 9 1 [(pC n tx 0).2.2] _ _ (by omega) rfl c2 hV2 (hm.tr e4)
  · rw [bI_0 (p := (pC n tx 0).1 = true) h3] at K58
    rw [if_neg h3]
    refine mm_ev.run mm_y57 1 rfl ?_
    refine mm_ev.call mm_y57 rfl rfl rfl rfl rfl K58 (fun v1 μ1 hq => ?_)
    obtain ⟨rfl, e3, e4⟩ := hq
    unfold rL at e3
    rw [if_neg h3] at e3
    obtain ⟨cs', e3⟩ := e3
    refine mm_ev.run mm_y57 3 rfl ?_
    exact C57_z (i := 1) (by omega) e3.1.2.1 (hm.tr e4)
end
section
variable {d : Nat} {μ : mm_M} {A : sA}
theorem okA.t (ho : okA A) : okT A.2.2.2.1.1 A.2.2.2.1.2 := ho.2.2.2.2.1
theorem ald5 {k : Nat} (h : k < 6) : va_rf (([some 74, some 78, some 82, some 86, some 90, some 94] : List (Option Nat)).getD k none) = .ref (74 + 4 * k) := by
  rcases t_6 h with rfl | rfl | rfl | rfl | rfl | rfl <;> rfl
set_option maxRecDepth 100000 in
theorem C99 (h : rC A μ) (ho : okA A) : mm_call la_C (d + 23) 99 [.ref 14] μ (fun v μ' => v = some (.int (q_school A).1) ∧ rC (q_school A).2 μ') := by
  have h6 := ho.2.2.1
  have hS := h.2.2.2.1
  unfold q_school
  by_cases e6 : A.2.2.1.length = 6
  · rw [if_pos e6]
    refine mm_call.of mm_t99 ?_
    refine mm_ev.run mm_y99 2 rfl ?_
    refine mm_ev.val hS.1 ?_
    refine mm_ev.run mm_y99 2 rfl ?_
    refine mm_ev.neg (nI_nlt (b := 6) (by omega) (by omega)) ?_
    refine mm_ev.run mm_y99 1 rfl ?_
    exact mm_ev.ret mm_y99 rfl rfl rfl ⟨rfl, h⟩
  · rw [if_neg e6]
    have hk : A.2.2.1.length < 6 := by omega
    have hq6 : q6 (74 + 4 * A.2.2.1.length) := by unfold q6; omega
    have K := C57 (d := d) hq6 ho.t h.2.2.2.2.1.1 h.2.2.2.2.1.2
    refine mm_call.of mm_t99 ?_
    refine mm_ev.run mm_y99 2 rfl ?_
    refine mm_ev.val hS.1 ?_
    refine mm_ev.run mm_y99 2 rfl ?_
    refine mm_ev.pos (nI_lt (b := 6) hk (by decide)) ?_
    refine mm_ev.run mm_y99 4 rfl ?_
    refine mm_ev.val hS.1 ?_
    refine mm_ev.ald mm_y99 rfl rfl rfl rfl rfl (by omega) (by decide) (ald5 hk) ?_
    refine mm_ev.run mm_y99 4 rfl ?_
    refine mm_ev.call mm_y99 rfl rfl rfl rfl (by rcases t_6 hk with z | z | z | z | z | z <;> rw [z] <;> rfl) K (fun v1 μ1 hq => ?_)
    obtain ⟨rfl, e1, e2, e3⟩ := hq
    have ea := (pA_G (n := A.2.2.2.1.1) (tx := A.2.2.2.1.2)).1
    have h100 := ho.t.1
    obtain ⟨k1, k2, k3, k4, k5, k6, k7⟩ := h
    have em : ∀ c, ¬ rd (74 + 4 * A.2.2.1.length) c → μ1.1 c = μ.1 c := fun c hc => (e3 c hc).1
    have hK16 := k1.fr e3 (fun c hc => by omega)
    by_cases hb : rB (pA A.2.2.2.1.1 A.2.2.2.1.2).1 A.2.2.2.1.1 (pA A.2.2.2.1.1 A.2.2.2.1.2).2.1
    · rw [if_pos hb, if_pos hb]
      have e2 := e2 hb
      have hN5 : μ1.1 14 5 = nI A.2.2.1.length := by rw [em 14 (by omega)]; exact k4.1
      refine mm_ev.run mm_y99 3 rfl ?_
      refine mm_ev.pos (by decide) ?_
      refine mm_ev.run mm_y99 5 rfl ?_
      refine mm_ev.run mm_y99 3 rfl ?_
      refine mm_ev.val hN5 ?_
      refine mm_ev.run mm_y99 3 rfl ?_
      refine mm_ev.val (nI_1 _) ?_
      refine mm_ev.run mm_y99 1 rfl ?_
      have key : rC ((((A.1.1.1, A.1.1.2.1, some A.2.2.1.length, A.1.1.2.2.2), A.1.2), A.2.1, A.2.2.1 ++ [(pA A.2.2.2.1.1 A.2.2.2.1.2).2.2], (0, A.2.2.2.1.2), A.2.2.2.2) : sA) (mm_sI (mm_sR μ1 16 (va_up (μ1.2.2 16) 2 (some (74 + 4 * A.2.2.1.length)))) 14 (upd (μ1.1 14) 5 (nI (A.2.2.1.length + 1)))) := by
        have hf : mf (fun c => c = 14 ∨ c = 16) μ1 (mm_sI (mm_sR μ1 16 (va_up (μ1.2.2 16) 2 (some (74 + 4 * A.2.2.1.length)))) 14 (upd (μ1.1 14) 5 (nI (A.2.2.1.length + 1)))) := (mf.rf.sR (Or.inr rfl)).sI (Or.inl rfl)
        have hff : mf (fun c => c = 14 ∨ c = 16 ∨ rd (74 + 4 * A.2.2.1.length) c) μ (mm_sI (mm_sR μ1 16 (va_up (μ1.2.2 16) 2 (some (74 + 4 * A.2.2.1.length)))) 14 (upd (μ1.1 14) 5 (nI (A.2.2.1.length + 1)))) := (e3.mono (fun c hc => Or.inr (Or.inr hc))).tr (hf.mono (fun c hc => by omega))
        refine ⟨⟨⟨hK16.1.1, hK16.1.2.1, rfl, fun k i hk hi => by rw [sI_ne (by omega)]; exact hK16.1.2.2.2 k i hk hi⟩, hK16.2.1.fr hf (fun c hc => by omega), hK16.2.2.1.fr hf (fun c hc => by omega), hK16.2.2.2.fr hf (fun c hc => by omega)⟩, ?_, fun K hK => (k3 K hK).fr hff (fun c hc => by omega), ⟨?_, ?_, ?_⟩, ⟨e1, fun i hi => absurd hi (by simp)⟩, ?_, fun t ht => (k7 t ht).fr hff (fun c hc => by omega)⟩
        · rw [sI_eq, upd_ne (by decide), em 14 (by omega)]
          exact k2
        · rw [sI_eq, upd_eq, List.length_append]
          rfl
        · rw [List.length_append, List.length_singleton]
          omega
        · intro j hj
          rw [List.length_append, List.length_singleton] at hj
          by_cases ej : j = A.2.2.1.length
          · subst ej
            rw [List.getD_eq_getElem?_getD, List.getElem?_append_right (Nat.le_refl _), Nat.sub_self]
            have e22 : ∀ c, 74 + 4 * A.2.2.1.length ≤ c → c ≤ 74 + 4 * A.2.2.1.length + 3 → (mm_sI (mm_sR μ1 16 (va_up (μ1.2.2 16) 2 (some (74 + 4 * A.2.2.1.length)))) 14 (upd (μ1.1 14) 5 (nI (A.2.2.1.length + 1)))).1 c = μ1.1 c := fun c c1 c2 => (hf c (by omega)).1
            show sS_c _ (pA A.2.2.2.1.1 A.2.2.2.1.2).2.2 _
            exact ⟨by rw [e22 _ (by omega) (by omega)]; exact e2.1, sp_cl_fr e22 _ _ _ e2.2⟩
          · rw [List.getD_eq_getElem?_getD, List.getElem?_append_left (by omega), ← List.getD_eq_getElem?_getD]
            have ej2 := k4.2.2 j (by omega)
            have eC : ∀ c, 74 + 4 * j ≤ c → c ≤ 74 + 4 * j + 3 → (mm_sI (mm_sR μ1 16 (va_up (μ1.2.2 16) 2 (some (74 + 4 * A.2.2.1.length)))) 14 (upd (μ1.1 14) 5 (nI (A.2.2.1.length + 1)))).1 c = μ.1 c := fun c c1 c2 => (hff c (by omega)).1
            exact ⟨by rw [eC _ (by omega) (by omega)]; exact ej2.1, sp_cl_fr eC _ _ _ ej2.2⟩
        · exact ⟨by rw [(hff 71 (by omega)).1]; exact k6.1, fun i hi => by rw [(hff 72 (by omega)).1]; exact k6.2 i hi⟩
      exact mm_ev.ret mm_y99 rfl rfl rfl ⟨rfl, key⟩
    · rw [if_neg hb, if_neg hb]
      refine mm_ev.run mm_y99 3 rfl ?_
      refine mm_ev.neg (nI_pos (by omega)) ?_
      have key : rC (sA_x A 0 A.2.2.2.1.2) μ1 := by
        refine ⟨hK16, by rw [em 14 (by omega)]; exact k2, fun K hK => (k3 K hK).fr e3 (fun c hc => by omega), ⟨by rw [em 14 (by omega)]; exact k4.1, k4.2.1, fun j hj => ?_⟩, ⟨e1, fun i hi => absurd hi (by simp [sA_x])⟩, ⟨by rw [em 71 (by omega)]; exact k6.1, fun i hi => by rw [em 72 (by omega)]; exact k6.2 i hi⟩, fun t ht => (k7 t ht).fr e3 (fun c hc => by omega)⟩
        have ej2 := k4.2.2 j hj
        have hj : j < A.2.2.1.length := hj
        have eC : ∀ c, 74 + 4 * j ≤ c → c ≤ 74 + 4 * j + 3 → μ1.1 c = μ.1 c := fun c c1 c2 => em c (by omega)
        exact ⟨by rw [eC _ (by omega) (by omega)]; exact ej2.1, sp_cl_fr eC _ _ _ ej2.2⟩
      refine mm_ev.run mm_y99 3 rfl ?_
      exact mm_ev.ret mm_y99 rfl rfl rfl ⟨rfl, key⟩
end
