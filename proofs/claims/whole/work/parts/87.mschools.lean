/-! THE REFERENCE'S READER: a school -/
def pB (n : Nat) (tx : Nat → Int32) (m a : Nat) : Bool × Nat × sS := if (pC n tx a).1 = true then ((pS n tx m (pC n tx a).2.1).1, (pS n tx m (pC n tx a).2.1).2.1, (pC n tx a).2.2 :: (pS n tx m (pC n tx a).2.1).2.2) else (false, (pC n tx a).2.1, [])
theorem pB_A (n : Nat) (tx : Nat → Int32) : pA n tx = pB n tx 9 0 := rfl
theorem pS_sB (n : Nat) (tx : Nat → Int32) (m a : Nat) : pS n tx (m + 1) a = if a < n then (if pN n tx a = 59 then pB n tx m (a + 1) else (false, a, [])) else (true, a, []) := rfl
theorem pS_n (n : Nat) (tx : Nat → Int32) (m : Nat) : pS n tx m n = (true, n, []) := by
  cases m with
  | zero => rfl
  | succ m => rw [pS_sB, if_neg (Nat.lt_irrefl n)]
theorem pS_0 (n : Nat) (tx : Nat → Int32) (a : Nat) : pS n tx 0 a = (true, a, []) := rfl
theorem i_nI (x : Int32) : ∃ o, x = nI o := ⟨x.toBitVec.toNat, Int32.toBitVec_inj.mp (by simp [nI])⟩
abbrev rsc (cd l c j : Nat) : Prop := (c = 110 ∧ (10 ≤ j ∧ j ≤ 13 ∨ j = 22)) ∨ (c = 123 ∧ cd ≤ j) ∨ (119 ≤ c ∧ c ≤ 122 ∧ 10 * l ≤ j)
section
variable {d n a : Nat} {tx : Nat → Int32} {μ μ' : mm_M}
theorem sp_mcl_mono {cd c2 : Nat} (h : cd ≤ c2) : ∀ (s : sS) (k : Nat), sp_mcl cd μ s k → sp_mcl c2 μ s k := by
  intro s
  induction s with
  | nil => intro k _; trivial
  | cons x s ih =>
    intro k hs
    obtain ⟨w, x, ops⟩ := x
    obtain ⟨⟨h1, h2, h3⟩, h4⟩ := hs
    refine ⟨⟨h1, h2, fun hw => ?_⟩, ih (k + 1) h4⟩
    obtain ⟨b, b1, b2, b3, b4⟩ := h3 hw
    exact ⟨b, b1, b2, by omega, b4⟩
theorem sp_mcl_app {cd : Nat} {t : sS} : ∀ (s : sS) (k : Nat), sp_mcl cd μ s k → sp_mcl cd μ t (k + s.length) → sp_mcl cd μ (s ++ t) k := by
  intro s
  induction s with
  | nil => intro k _ h; exact h
  | cons x s ih =>
    intro k hs h
    obtain ⟨w, x, ops⟩ := x
    rw [List.length_cons, show k + (s.length + 1) = k + 1 + s.length by omega] at h
    exact ⟨hs.1, ih (k + 1) hs.2 h⟩
set_option maxRecDepth 100000 in
theorem C154_l (ht : okT n tx) {l cd : Nat} (hl : l < 6) (h8 : μ.1 110 8 = nI n) (hx : ∀ i, i < n → μ.1 117 i = tx i) (h14 : μ.1 110 14 = nI l) {was : Int32} {Φ : Option Value → mm_M → Prop} : ∀ m s a c1 μ1, s.length + m = 9 → a ≤ n → cd ≤ c1 → c1 ≤ 100 * l + a → mh (rsc cd l) μ μ1 → μ1.1 110 10 = nI a → μ1.1 110 22 = nI c1 → sp_mcl c1 μ1 s (10 * l) → (¬ ((pB n tx m a).1 = true ∧ (pB n tx m a).2.1 = n) → ∀ many goes μ2, mh (rsc cd l) μ μ2 → μ2.1 110 10 = nI (pB n tx m a).2.1 → mm_ev la_M (d + 21) 154 65 [some (.ref 110), some (.int was), some (.int many), some (.int goes), some (.int 0)] [] μ2 Φ) → ((pB n tx m a).1 = true → (pB n tx m a).2.1 = n → ∀ μ2 c2, mh (rsc cd l) μ μ2 → cd ≤ c2 → c2 ≤ 100 * l + 100 → μ2.1 110 22 = nI c2 → sp_mcl c2 μ2 (s ++ (pB n tx m a).2.2) (10 * l) → mm_ev la_M (d + 21) 154 65 [some (.ref 110), some (.int was), some (.int (nI (s ++ (pB n tx m a).2.2).length)), some (.int 1), some (.int 1)] [] μ2 Φ) → mm_ev la_M (d + 21) 154 18 [some (.ref 110), some (.int was), some (.int (nI s.length)), some (.int 1), some (.int 0)] [] μ1 Φ := by
  have h100 := ht.1
  intro m
  induction m with
  | zero =>
    intro s a c1 μ1 hm ha hc hc2 hf h10 h22 hs hN hY
    have e14 : μ1.1 110 14 = nI l := (hf.1 110 14 (by omega)).trans h14
    obtain ⟨o, ho⟩ := i_nI (μ1.1 110 13)
    have hP : rPm n tx c1 a o [] μ1 := ⟨⟨(hf.1 110 8 (by omega)).trans h8, h10, fun i hi => (hf.1 117 i (by omega)).trans (hx i hi)⟩, ho, h22, trivial⟩
    obtain ⟨p1, p2, p3, p4⟩ := pC_G (tx := tx) ha
    have K := C155 (d := d) (i := 10 * l + s.length) hP ht ha (by omega) (by omega)
    have e10 : 10 * nI l + nI s.length = nI (10 * l + s.length) := by rw [show (10 : Int32) = nI 10 from rfl, nI_mul, nI_add]
    refine mm_ev.run mm_y154 2 rfl ?_
    refine mm_ev.neg (by decide) ?_
    refine mm_ev.run mm_y154 2 rfl ?_
    refine mm_ev.pos rfl ?_
    refine mm_ev.run mm_y154 3 rfl ?_
    refine mm_ev.neg (nI_ge (b := 10) (by omega) (by decide)) ?_
    refine mm_ev.run mm_y154 4 rfl ?_
    refine mm_ev.val e14 ?_
    refine mm_ev.run mm_y154 3 rfl ?_
    refine mm_ev.val e10 ?_
    by_cases h1 : (pC n tx a).1 = true
    · unfold rCl at K
      rw [bI_1 (p := (pC n tx a).1 = true) h1] at K
      refine mm_ev.call mm_y154 rfl rfl rfl rfl rfl K (fun v1 μ1 hq => ?_)
      obtain ⟨rfl, k1, k2, k3⟩ := hq
      obtain ⟨k3, k4⟩ := k3 h1
      have hf2 : mh (rsc cd l) μ μ1 := hf.tr (k2.mono (fun c j hc => by omega))
      have e8 : μ1.1 110 8 = nI n := (hf2.1 110 8 (by omega)).trans h8
      have eB : pB n tx 0 a = (true, (pC n tx a).2.1, [(pC n tx a).2.2]) := by
        unfold pB
        rw [if_pos h1, pS_0]
      rw [eB] at hN hY
      refine mm_ev.run mm_y154 1 rfl ?_
      refine mm_ev.neg (by decide) ?_
      refine mm_ev.run mm_y154 5 rfl ?_
      refine mm_ev.neg (by decide) ?_
      refine mm_ev.run mm_y154 3 rfl ?_
      refine mm_ev.val k1 ?_
      refine mm_ev.run mm_y154 2 rfl ?_
      refine mm_ev.val e8 ?_
      by_cases h2 : (pC n tx a).2.1 = n
      · have hs2 : sp_mcl (c1 + (pC n tx a).2.2.2.2.length) μ1 (s ++ [(pC n tx a).2.2]) (10 * l) := sp_mcl_app _ _ (sp_mcl_mono (by omega) _ _ (sp_mcl_fr s (10 * l) (fun c j hc => k2.1 c j (by omega)) (fun j hj => k2.1 123 j (by omega)) hs)) k3
        have fin := hY rfl h2 _ _ hf2 (by omega) (by omega) k4 hs2
        rw [List.length_append, List.length_singleton, nI_succ] at fin
        refine mm_ev.run mm_y154 1 rfl ?_
        refine mm_ev.pos (by rw [h2]) ?_
        refine mm_ev.run mm_y154 5 rfl ?_
        refine mm_ev.neg (by decide) ?_
        refine mm_ev.run mm_y154 6 rfl ?_
        refine mm_ev.neg (by decide) ?_
        refine mm_ev.run mm_y154 2 rfl ?_
        refine mm_ev.neg (by decide) ?_
        exact fin
      · have fin := hN (fun z => h2 z.2) (nI s.length + 1) 0 _ hf2 k1
        refine mm_ev.run mm_y154 1 rfl ?_
        refine mm_ev.neg (fun z => h2 ((nI_eq (by omega) (by omega)).mp z)) ?_
        refine mm_ev.run mm_y154 4 rfl ?_
        refine mm_ev.pos rfl ?_
        refine mm_ev.run mm_y154 3 rfl ?_
        refine mm_ev.pos (show (10 : Int32) ≤ nI s.length + 1 from by rw [show s.length = 9 by omega]; decide) ?_
        refine mm_ev.run mm_y154 5 rfl ?_
        refine mm_ev.pos rfl ?_
        exact fin
    · unfold rCl at K
      rw [bI_0 (p := (pC n tx a).1 = true) h1] at K
      have eB : pB n tx 0 a = (false, (pC n tx a).2.1, []) := by
        unfold pB
        rw [if_neg h1]
      rw [eB] at hN
      refine mm_ev.call mm_y154 rfl rfl rfl rfl rfl K (fun v1 μ1 hq => ?_)
      obtain ⟨rfl, k1, k2, k3⟩ := hq
      have hf2 : mh (rsc cd l) μ μ1 := hf.tr (k2.mono (fun c j hc => by omega))
      have fin := hN (fun z => by cases z.1) (nI s.length) 0 _ hf2 k1
      refine mm_ev.run mm_y154 1 rfl ?_
      refine mm_ev.pos rfl ?_
      refine mm_ev.run mm_y154 4 rfl ?_
      refine mm_ev.pos rfl ?_
      refine mm_ev.run mm_y154 3 rfl ?_
      refine mm_ev.pos rfl ?_
      exact fin
  | succ m ih =>
    intro s a c1 μ1 hm ha hc hc2 hf h10 h22 hs hN hY
    have e14 : μ1.1 110 14 = nI l := (hf.1 110 14 (by omega)).trans h14
    obtain ⟨o, ho⟩ := i_nI (μ1.1 110 13)
    have hP : rPm n tx c1 a o [] μ1 := ⟨⟨(hf.1 110 8 (by omega)).trans h8, h10, fun i hi => (hf.1 117 i (by omega)).trans (hx i hi)⟩, ho, h22, trivial⟩
    obtain ⟨p1, p2, p3, p4⟩ := pC_G (tx := tx) ha
    have K := C155 (d := d) (i := 10 * l + s.length) hP ht ha (by omega) (by omega)
    have e10 : 10 * nI l + nI s.length = nI (10 * l + s.length) := by rw [show (10 : Int32) = nI 10 from rfl, nI_mul, nI_add]
    refine mm_ev.run mm_y154 2 rfl ?_
    refine mm_ev.neg (by decide) ?_
    refine mm_ev.run mm_y154 2 rfl ?_
    refine mm_ev.pos rfl ?_
    refine mm_ev.run mm_y154 3 rfl ?_
    refine mm_ev.neg (nI_ge (b := 10) (by omega) (by decide)) ?_
    refine mm_ev.run mm_y154 4 rfl ?_
    refine mm_ev.val e14 ?_
    refine mm_ev.run mm_y154 3 rfl ?_
    refine mm_ev.val e10 ?_
    by_cases h1 : (pC n tx a).1 = true
    · unfold rCl at K
      rw [bI_1 (p := (pC n tx a).1 = true) h1] at K
      refine mm_ev.call mm_y154 rfl rfl rfl rfl rfl K (fun v1 μ1 hq => ?_)
      obtain ⟨rfl, k1, k2, k3⟩ := hq
      obtain ⟨k3, k4⟩ := k3 h1
      have hf2 : mh (rsc cd l) μ μ1 := hf.tr (k2.mono (fun c j hc => by omega))
      have e8 : μ1.1 110 8 = nI n := (hf2.1 110 8 (by omega)).trans h8
      have hs2 : sp_mcl (c1 + (pC n tx a).2.2.2.2.length) μ1 (s ++ [(pC n tx a).2.2]) (10 * l) := sp_mcl_app _ _ (sp_mcl_mono (by omega) _ _ (sp_mcl_fr s (10 * l) (fun c j hc => k2.1 c j (by omega)) (fun j hj => k2.1 123 j (by omega)) hs)) k3
      refine mm_ev.run mm_y154 1 rfl ?_
      refine mm_ev.neg (by decide) ?_
      refine mm_ev.run mm_y154 5 rfl ?_
      refine mm_ev.neg (by decide) ?_
      refine mm_ev.run mm_y154 3 rfl ?_
      refine mm_ev.val k1 ?_
      refine mm_ev.run mm_y154 2 rfl ?_
      refine mm_ev.val e8 ?_
      by_cases h2 : (pC n tx a).2.1 = n
      · have eB : pB n tx (m + 1) a = (true, n, [(pC n tx a).2.2]) := by
          unfold pB
          rw [if_pos h1, h2, pS_n]
        rw [eB] at hN hY
        have fin := hY rfl rfl _ _ hf2 (by omega) (by omega) k4 hs2
        rw [List.length_append, List.length_singleton, nI_succ] at fin
        refine mm_ev.run mm_y154 1 rfl ?_
        refine mm_ev.pos (by rw [h2]) ?_
        refine mm_ev.run mm_y154 5 rfl ?_
        refine mm_ev.neg (by decide) ?_
        refine mm_ev.run mm_y154 6 rfl ?_
        refine mm_ev.neg (by decide) ?_
        refine mm_ev.run mm_y154 2 rfl ?_
        refine mm_ev.neg (by decide) ?_
        exact fin
      · have hlt : (pC n tx a).2.1 < n := by omega
        obtain ⟨o2, ho2⟩ := i_nI (μ1.1 110 13)
        have hP2 : rPm n tx (c1 + (pC n tx a).2.2.2.2.length) (pC n tx a).2.1 o2 [] μ1 := ⟨⟨e8, k1, fun i hi => (hf2.1 117 i (by omega)).trans (hx i hi)⟩, ho2, k4, trivial⟩
        have K2 := C157 (d := d + 20) hP2 ht p2 (s := 59) (by decide)
        by_cases h3 : pN n tx (pC n tx a).2.1 = 59
        · have eB : pB n tx (m + 1) a = ((pB n tx m ((pC n tx a).2.1 + 1)).1, (pB n tx m ((pC n tx a).2.1 + 1)).2.1, (pC n tx a).2.2 :: (pB n tx m ((pC n tx a).2.1 + 1)).2.2) := by
            rw [pB, if_pos h1, pS_sB, if_pos hlt, if_pos h3]
          rw [eB] at hN hY
          rw [if_pos h3, bI_1 (p := pN n tx (pC n tx a).2.1 = 59) h3] at K2
          refine mm_ev.run mm_y154 1 rfl ?_
          refine mm_ev.neg (fun z => h2 ((nI_eq (by omega) (by omega)).mp z)) ?_
          refine mm_ev.run mm_y154 4 rfl ?_
          refine mm_ev.pos rfl ?_
          refine mm_ev.run mm_y154 3 rfl ?_
          refine mm_ev.neg (show ¬ (10 : Int32) ≤ nI s.length + 1 from by rw [← nI_succ]; exact nI_ge (b := 10) (by omega) (by decide)) ?_
          refine mm_ev.run mm_y154 2 rfl ?_
          refine mm_ev.call mm_y154 rfl rfl rfl rfl rfl K2 (fun v1 μ1 hq => ?_)
          obtain ⟨rfl, e1, e2⟩ := hq
          refine mm_ev.run mm_y154 1 rfl ?_
          refine mm_ev.neg (by decide) ?_
          have hf3 := hf2.tr (e2.mono (fun c j hc => (by omega : rsc cd l c j)))
          have hs3 := sp_mcl_fr (μ' := μ1) (s ++ [(pC n tx a).2.2]) (10 * l) (fun c j hc => e2.1 c j (by omega)) (fun j hj => e2.1 123 j (by omega)) hs2
          have fin := ih (s ++ [(pC n tx a).2.2]) ((pC n tx a).2.1 + 1) (c1 + (pC n tx a).2.2.2.2.length) μ1 (by rw [List.length_append, List.length_singleton]; omega) (by omega) (by omega) (by omega) hf3 e1.1.2.1 e1.2.2.1 hs3 hN (by
            intro z1 z2 μ2 c2 y1 y2 y3 y4 y5
            rw [List.append_assoc] at y5 ⊢
            exact hY z1 z2 μ2 c2 y1 y2 y3 y4 y5)
          rw [List.length_append, List.length_singleton, nI_succ] at fin
          refine mm_ev.run mm_y154 4 rfl ?_
          exact fin
        · have eB : pB n tx (m + 1) a = (false, (pC n tx a).2.1, [(pC n tx a).2.2]) := by
            rw [pB, if_pos h1, pS_sB, if_pos hlt, if_neg h3]
          rw [eB] at hN
          rw [if_neg h3, bI_0 (p := pN n tx (pC n tx a).2.1 = 59) h3] at K2
          refine mm_ev.run mm_y154 1 rfl ?_
          refine mm_ev.neg (fun z => h2 ((nI_eq (by omega) (by omega)).mp z)) ?_
          refine mm_ev.run mm_y154 4 rfl ?_
          refine mm_ev.pos rfl ?_
          refine mm_ev.run mm_y154 3 rfl ?_
          refine mm_ev.neg (show ¬ (10 : Int32) ≤ nI s.length + 1 from by rw [← nI_succ]; exact nI_ge (b := 10) (by omega) (by decide)) ?_
          refine mm_ev.run mm_y154 2 rfl ?_
          refine mm_ev.call mm_y154 rfl rfl rfl rfl rfl K2 (fun v1 μ1 hq => ?_)
          obtain ⟨rfl, e1, e2⟩ := hq
          refine mm_ev.run mm_y154 1 rfl ?_
          refine mm_ev.pos rfl ?_
          have fin := hN (fun z => by cases z.1) (nI s.length + 1) 0 _ (hf2.tr (e2.mono (fun c j hc => by omega))) e1.1.2.1
          refine mm_ev.run mm_y154 5 rfl ?_
          refine mm_ev.pos rfl ?_
          exact fin
    · unfold rCl at K
      rw [bI_0 (p := (pC n tx a).1 = true) h1] at K
      have eB : pB n tx (m + 1) a = (false, (pC n tx a).2.1, []) := by
        unfold pB
        rw [if_neg h1]
      rw [eB] at hN
      refine mm_ev.call mm_y154 rfl rfl rfl rfl rfl K (fun v1 μ1 hq => ?_)
      obtain ⟨rfl, k1, k2, k3⟩ := hq
      have hf2 : mh (rsc cd l) μ μ1 := hf.tr (k2.mono (fun c j hc => by omega))
      have fin := hN (fun z => by cases z.1) (nI s.length) 0 _ hf2 k1
      refine mm_ev.run mm_y154 1 rfl ?_
      refine mm_ev.pos rfl ?_
      refine mm_ev.run mm_y154 4 rfl ?_
      refine mm_ev.pos rfl ?_
      refine mm_ev.run mm_y154 3 rfl ?_
      refine mm_ev.pos rfl ?_
      exact fin
end
