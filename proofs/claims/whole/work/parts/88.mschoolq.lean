/-! THE REFERENCE: a school is read -/
section
variable {d : Nat} {μ μ' : mm_M} {A : sA}
theorem okA.len (ho : okA A) {j : Nat} (hj : j < A.2.2.1.length) : (A.2.2.1.getD j []).length ≤ 10 := by
  refine (ho.2.2.2.1 (A.2.2.1.getD j []) ?_).1
  rw [List.getD_eq_getElem?_getD, List.getElem?_eq_getElem hj]
  exact List.getElem_mem hj
abbrev rsm (cd l c j : Nat) : Prop := rsc cd l c j ∨ (c = 110 ∧ (j = 8 ∨ j = 14 ∨ j = 15)) ∨ (c = 118 ∧ j = l)
theorem rM.schoolN (h : rM A μ) (ho : okA A) {cd : Nat} (hcd : cd ≤ 100 * A.2.2.1.length) (hmc : ∀ j, j < A.2.2.1.length → sp_mcl cd μ (A.2.2.1.getD j []) (10 * j)) (hf : mh (fun c j => rsc cd A.2.2.1.length c j ∨ (c = 110 ∧ j = 8)) μ μ') (h8 : μ'.1 110 8 = 0) (h22 : μ'.1 110 22 = nI cd) : rM (sA_x A 0 A.2.2.2.1.2) μ' := by
  obtain ⟨k1, k2, k3, k4, k5, k6, k7⟩ := h
  refine ⟨k1.fr hf (fun c j hc => by omega), by rw [hf.1 110 36 (by omega)]; exact k2, fun K hK => (k3 K hK).fr (fun j _ => hf.1 133 j (by omega)), ⟨by rw [hf.1 110 14 (by omega)]; exact k4.1, cd, h22, hcd, fun j hj => ?_⟩, ⟨h8, fun i hi => absurd hi (by simp [sA_x])⟩, ⟨by rw [hf.1 110 34 (by omega)]; exact k6.1, fun i hi => by rw [hf.1 132 i (by omega)]; exact k6.2 i hi⟩, fun t ht => (k7 t ht).fr hf (fun c j hc => by omega)⟩
  have hj : j < A.2.2.1.length := hj
  obtain ⟨_, cd', _, _, k4⟩ := k4
  have hlen := ho.len hj
  exact ⟨by rw [hf.1 118 j (by omega)]; exact (k4 j hj).1, sp_mcl_fr (A.2.2.1.getD j []) _ (fun c i hc => hf.1 c i (by omega)) (fun i hi => hf.1 123 i (by omega)) (hmc j hj)⟩
theorem rM.schoolY (h : rM A μ) (ho : okA A) {cd c2 : Nat} {s : sS} (hmc : ∀ j, j < A.2.2.1.length → sp_mcl cd μ (A.2.2.1.getD j []) (10 * j)) (hf : mh (rsm cd A.2.2.1.length) μ μ') (h8 : μ'.1 110 8 = 0) (h22 : μ'.1 110 22 = nI c2) (h14 : μ'.1 110 14 = nI (A.2.2.1.length + 1)) (h15 : μ'.1 110 15 = nI A.2.2.1.length) (h118 : μ'.1 118 A.2.2.1.length = nI s.length) (hc : cd ≤ c2) (hc2 : c2 ≤ 100 * A.2.2.1.length + 100) (hs : sp_mcl c2 μ' s (10 * A.2.2.1.length)) : rM ((((A.1.1.1, A.1.1.2.1, some A.2.2.1.length, A.1.1.2.2.2), A.1.2), A.2.1, A.2.2.1 ++ [s], (0, A.2.2.2.1.2), A.2.2.2.2) : sA) μ' := by
  obtain ⟨k1, k2, k3, k4, k5, k6, k7⟩ := h
  obtain ⟨_, cd', _, _, k4⟩ := k4
  refine ⟨⟨⟨by rw [hf.1 110 1 (by omega)]; exact k1.1.1, by rw [hf.1 110 7 (by omega)]; exact k1.1.2.1, h15, fun k i hk hi => by rw [hf.1 (111 + k) i (by omega)]; exact k1.1.2.2.2 k i hk hi⟩, ⟨k1.2.1.1.fr hf (by omega) (fun j => by omega) (fun j => by omega), fun i hi => by rw [hf.1 127 i (by omega)]; exact k1.2.1.2 i hi⟩, k1.2.2.1.fr hf (by omega) (fun j => by omega) (fun j => by omega), k1.2.2.2.fr hf (by omega) (fun j => by omega) (fun j => by omega)⟩, by rw [hf.1 110 36 (by omega)]; exact k2, fun K hK => (k3 K hK).fr (fun j _ => hf.1 133 j (by omega)), ⟨by rw [h14, List.length_append]; rfl, c2, h22, by rw [List.length_append, List.length_singleton]; omega, fun j hj => ?_⟩, ⟨h8, fun i hi => absurd hi (by simp)⟩, ⟨by rw [hf.1 110 34 (by omega)]; exact k6.1, fun i hi => by rw [hf.1 132 i (by omega)]; exact k6.2 i hi⟩, fun t ht => (k7 t ht).fr hf (fun c j hc => by omega)⟩
  rw [List.length_append, List.length_singleton] at hj
  by_cases ej : j = A.2.2.1.length
  · subst ej
    rw [List.getD_eq_getElem?_getD, List.getElem?_append_right (Nat.le_refl _), Nat.sub_self]
    exact ⟨h118, hs⟩
  · have hj2 : j < A.2.2.1.length := by omega
    rw [List.getD_eq_getElem?_getD, List.getElem?_append_left hj2, ← List.getD_eq_getElem?_getD]
    have hlen := ho.len hj2
    exact ⟨by rw [hf.1 118 j (by omega)]; exact (k4 j hj2).1, sp_mcl_mono hc _ _ (sp_mcl_fr _ _ (fun c i hc => hf.1 c i (by omega)) (fun i hi => hf.1 123 i (by omega)) (hmc j hj2))⟩
set_option maxRecDepth 100000 in
theorem C154 (h : rM A μ) (ho : okA A) : mm_call la_M (d + 21) 154 [.ref 110] μ (fun v μ' => v = some (.int (q_school A).1) ∧ rM (q_school A).2 μ') := by
  have h6 := ho.2.2.1
  have hS := h.2.2.2.1
  have h100 := ho.t.1
  unfold q_school
  by_cases e6 : A.2.2.1.length = 6
  · rw [if_pos e6]
    refine mm_call.of mm_t154 ?_
    refine mm_ev.run mm_y154 2 rfl ?_
    refine mm_ev.val hS.1 ?_
    refine mm_ev.run mm_y154 2 rfl ?_
    refine mm_ev.pos (by rw [e6]; rfl) ?_
    refine mm_ev.run mm_y154 1 rfl ?_
    exact mm_ev.ret mm_y154 rfl rfl rfl ⟨rfl, h⟩
  · rw [if_neg e6]
    have hl : A.2.2.1.length < 6 := by omega
    obtain ⟨h14, cd, h22, hcd, hS⟩ := hS
    have hmc := fun j hj => (hS j hj).2
    refine mm_call.of mm_t154 ?_
    refine mm_ev.run mm_y154 2 rfl ?_
    refine mm_ev.val h14 ?_
    refine mm_ev.run mm_y154 2 rfl ?_
    refine mm_ev.neg (fun z => e6 ((nI_eq (b := 6) (by omega) (by decide)).mp z)) ?_
    refine mm_ev.run mm_y154 2 rfl ?_
    refine mm_ev.val h22 ?_
    refine mm_ev.run mm_y154 10 rfl ?_
    have f0 : mh (rsc cd A.2.2.1.length) μ (mm_sI μ 110 (upd (μ.1 110) 10 0)) := mh.rf.sU (Or.inl ⟨rfl, Or.inl ⟨by decide, by decide⟩⟩) rfl
    have ez := pB_A A.2.2.2.1.1 A.2.2.2.1.2
    refine C154_l (μ := μ) (cd := cd) ho.t hl h.2.2.2.2.1.1 h.2.2.2.2.1.2 h14 9 [] 0 cd _ rfl (Nat.zero_le _) (Nat.le_refl _) (by omega) f0 rfl h22 trivial (fun z many goes μ2 y1 y2 => ?_) (fun z1 z2 μ2 c2 y1 y2 y3 y4 y5 => ?_)
    · rw [← ez] at z y2
      rw [if_neg z]
      have key := h.schoolN (μ' := mm_sI (mm_sI μ2 110 (upd (μ2.1 110) 8 0)) 110 (upd (upd (μ2.1 110) 8 0) 22 (nI cd))) ho hcd hmc (((y1.mono (fun c j hc => Or.inl hc)).sU (Or.inr ⟨rfl, rfl⟩) rfl).sU (Or.inl (Or.inl ⟨rfl, Or.inr rfl⟩)) rfl) rfl rfl
      refine mm_ev.run mm_y154 5 rfl ?_
      refine mm_ev.pos rfl ?_
      refine mm_ev.run mm_y154 6 rfl ?_
      refine mm_ev.val y2 ?_
      refine mm_ev.run mm_y154 1 rfl ?_
      exact mm_ev.ret mm_y154 rfl rfl rfl ⟨rfl, key⟩
    · rw [← ez, List.nil_append] at y5
      rw [← ez] at z1 z2 ⊢
      rw [List.nil_append, if_pos (⟨z1, z2⟩ : _ ∧ _)]
      have e14 : μ2.1 110 14 = nI A.2.2.1.length := (y1.1 110 14 (by omega)).trans h14
      have y1' := y1.mono (fun c j hc => (Or.inl hc : rsm cd A.2.2.1.length c j))
      have key := h.schoolY (s := (pA A.2.2.2.1.1 A.2.2.2.1.2).2.2) (μ' := mm_sI (mm_sI (mm_sI (mm_sI μ2 110 (upd (μ2.1 110) 8 0)) 118 (upd (μ2.1 118) A.2.2.1.length (nI (pA A.2.2.2.1.1 A.2.2.2.1.2).2.2.length))) 110 (upd (upd (μ2.1 110) 8 0) 15 (nI A.2.2.1.length))) 110 (upd (upd (upd (μ2.1 110) 8 0) 15 (nI A.2.2.1.length)) 14 (nI (A.2.2.1.length + 1)))) ho hmc ((((y1'.sU (Or.inr (Or.inl ⟨rfl, Or.inl rfl⟩)) rfl).sU (Or.inr (Or.inr ⟨rfl, rfl⟩)) rfl).sU (Or.inr (Or.inl ⟨rfl, Or.inr (Or.inr rfl)⟩)) rfl).sU (Or.inr (Or.inl ⟨rfl, Or.inr (Or.inl rfl)⟩)) rfl) rfl y4 rfl rfl upd_eq y2 y3 (sp_mcl_fr (μ := μ2) _ _ (fun c j hc => by rw [sI_ne (by omega), sI_ne (by omega), sI_ne (by omega), sI_ne (by omega)]) (fun j _ => rfl) y5)
      refine mm_ev.run mm_y154 5 rfl ?_
      refine mm_ev.neg (by decide) ?_
      refine mm_ev.run mm_y154 4 rfl ?_
      refine mm_ev.val e14 ?_
      refine mm_ev.run mm_y154 1 rfl ?_
      refine mm_ev.ist mm_y154 rfl rfl rfl rfl rfl (by omega) (by decide) ?_
      refine mm_ev.run mm_y154 3 rfl ?_
      refine mm_ev.val e14 ?_
      refine mm_ev.run mm_y154 4 rfl ?_
      refine mm_ev.val e14 ?_
      refine mm_ev.run mm_y154 3 rfl ?_
      refine mm_ev.val (nI_1 _) ?_
      refine mm_ev.run mm_y154 1 rfl ?_
      exact mm_ev.ret mm_y154 rfl rfl rfl ⟨rfl, key⟩
end
