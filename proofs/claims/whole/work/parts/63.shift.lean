/-! THE CLASS'S TAPES: shift; kinds -/
section
variable {d : Nat} {μ : mm_M} {A : sA} {t : Nat}
theorem va_cpy_co {f f2 g g2 : Nat → Int64} {i j n N : Nat} (h1 : i + n ≤ N) (hf : ∀ k, k < N → f k = f2 k) (hg : ∀ k, k < N → g k = g2 k) : ∀ k, k < N → va_cpy f g i j n k = va_cpy f2 g2 i j n k := fun k hk => by
  unfold va_cpy
  by_cases h : j ≤ k ∧ k < j + n
  · rw [if_pos h, if_pos h, hf _ (by omega)]
  · rw [if_neg h, if_neg h, hg k hk]
theorem sp_hr_n {T : sT} {i n : Int32} (hl : T.2.1 ≤ 60) (h : sp_hr T i n) : ∃ i' n', i = nI i' ∧ n = nI n' ∧ i' + n' ≤ T.2.1 := by
  obtain ⟨n', hn, rfl⟩ := nI_of (Int32.not_lt.mpr h.1)
  obtain ⟨i', hi, rfl⟩ := nI_of (Int32.not_lt.mpr h.2.1)
  refine ⟨i', n', rfl, rfl, ?_⟩
  have h3 := h.2.2
  by_cases hz : n' < 2 ^ 30
  · rw [Int32.le_iff_toInt_le, pk_sub_toInt (by omega) hz, nI_toInt hi] at h3
    omega
  · exfalso
    have h4 : nI T.2.1 - nI n' < 0 := by
      rw [Int32.lt_iff_toInt_lt, Int32.toInt_sub, nI_toInt (by omega), nI_toInt hn]
      rw [Int.bmod_eq_of_le (by omega) (by omega)]
      show _ < (0 : Int)
      omega
    exact absurd (Int32.le_trans h.2.1 h3) (Int32.not_le.mpr h4)
set_option maxRecDepth 100000 in
theorem C125_k {u i j n : Nat} (h : rC A μ) (ho : okA A) (ht : t < 6) (hu : u < 6) (hi : i + n ≤ (A.2.2.2.2.2 t).2.1) (hj : j + n ≤ (A.2.2.2.2.2 u).2.1) : mm_ev la_C d 125 47 [some (.ref 14), some (.int (nI t)), some (.int (nI i)), some (.int (nI u)), some (.int (nI j)), some (.int (nI n)), some (.ref (98 + 2 * t)), some (.ref (98 + 2 * u))] [] μ (fun v μ' => v = some (.int (nI n)) ∧ rC (sA_t A u ((A.2.2.2.2.2 u).1, (A.2.2.2.2.2 u).2.1, va_cpy (A.2.2.2.2.2 t).2.2 (A.2.2.2.2.2 u).2.2 i j n)) μ') := by
  have hl := (ho.2.2.2.2.2.2 t ht).1
  have hl2 := (ho.2.2.2.2.2.2 u hu).1
  have hT := h.2.2.2.2.2.2 t ht
  have hU := h.2.2.2.2.2.2 u hu
  have key : rC (sA_t A u ((A.2.2.2.2.2 u).1, (A.2.2.2.2.2 u).2.1, va_cpy (A.2.2.2.2.2 t).2.2 (A.2.2.2.2.2 u).2.2 i j n)) (mm_sJ μ (99 + 2 * u) (va_cpy (μ.2.1 (99 + 2 * t)) (μ.2.1 (99 + 2 * u)) i j n)) := by
    refine h.setT hu ⟨hU.1, hU.2.1, fun k hk => ?_⟩ (mf.rf.sJ (Or.inr rfl))
    rw [show 98 + 2 * u + 1 = 99 + 2 * u by omega, sJ_eq]
    refine va_cpy_co (N := 60) (by omega) (fun k hk => ?_) (fun k hk => ?_) k hk
    · have := hT.2.2 k hk
      rw [show 98 + 2 * t + 1 = 99 + 2 * t by omega] at this
      exact this
    · have := hU.2.2 k hk
      rw [show 98 + 2 * u + 1 = 99 + 2 * u by omega] at this
      exact this
  rcases t_6 ht with rfl | rfl | rfl | rfl | rfl | rfl
  all_goals
    rcases t_6 hu with rfl | rfl | rfl | rfl | rfl | rfl
    all_goals
      refine mm_ev.run mm_y125 7 rfl ?_
      refine mm_ev.cpL mm_y125 rfl ⟨_, rfl⟩ rfl rfl rfl (show i + n ≤ 60 by omega) (show j + n ≤ 60 by omega) (by decide) (by decide) (by decide) ?_
      refine mm_ev.run mm_y125 1 rfl ?_
      exact mm_ev.ret mm_y125 rfl rfl rfl ⟨rfl, key⟩
theorem ald6 (ht : t < 6) : va_rf (([some 98, some 100, some 102, some 104, some 106, some 108] : List (Option Nat)).getD t none) = .ref (98 + 2 * t) := by
  rcases t_6 ht with rfl | rfl | rfl | rfl | rfl | rfl <;> rfl
set_option maxRecDepth 100000 in
theorem C125 (h : rC A μ) (ho : okA A) (t i u j n : Int32) : mm_call la_C (d + 10) 125 [.ref 14, .int t, .int i, .int u, .int j, .int n] μ (fun v μ' => v = some (.int (q_shift A t i u j n).1) ∧ rC (q_shift A t i u j n).2 μ') := by
  refine mm_call.of mm_t125 ?_
  refine mm_ev.run mm_y125 1 rfl ?_
  refine mm_ev.call mm_y125 rfl rfl rfl rfl rfl (C115 t) (fun v1 μ1 hq => ?_)
  obtain ⟨rfl, hμ⟩ := hq
  obtain rfl := hμ.symm
  refine mm_ev.run mm_y125 1 rfl ?_
  refine mm_ev.ifb (fun h1 => ?_) (fun h1 => ?_)
  · rw [q_shift, if_neg (fun z => h1 z.1)]
    refine mm_ev.run mm_y125 1 rfl ?_
    exact mm_ev.ret mm_y125 rfl rfl rfl ⟨rfl, h⟩
  · refine mm_ev.run mm_y125 1 rfl ?_
    refine mm_ev.call mm_y125 rfl rfl rfl rfl rfl (C115 u) (fun v1 μ1 hq => ?_)
    obtain ⟨rfl, hμ⟩ := hq
    obtain rfl := hμ.symm
    refine mm_ev.run mm_y125 1 rfl ?_
    refine mm_ev.ifb (fun h2 => ?_) (fun h2 => ?_)
    · rw [q_shift, if_neg (fun z => h2 z.2)]
      refine mm_ev.run mm_y125 1 rfl ?_
      exact mm_ev.ret mm_y125 rfl rfl rfl ⟨rfl, h⟩
    · rw [q_shift, if_pos ⟨h1, h2⟩]
      obtain ⟨t, ht, rfl⟩ := p_6 h1
      obtain ⟨u, hu, rfl⟩ := p_6 h2
      rw [nI_clamp (show t < 2 ^ 31 by omega), nI_clamp (show u < 2 ^ 31 by omega)]
      have hT := h.2.2.2.2.2.2 t ht
      have hU := h.2.2.2.2.2.2 u hu
      have hl := (ho.2.2.2.2.2.2 t ht).1
      have hl2 := (ho.2.2.2.2.2.2 u hu).1
      have f0 := hT.1
      have g0 := hU.1
      have K := fun i' j' n' => C125_k (d := d + 10) (i := i') (j := j') (n := n') h ho ht hu
      have K1 := C83 (d := d + 9) ht hT i n
      have K2 := C83 (d := d + 9) hu hU j n
      have fin : sp_hr (A.2.2.2.2.2 t) i n → sp_hr (A.2.2.2.2.2 u) j n → ∃ i' j' n', i = nI i' ∧ j = nI j' ∧ n = nI n' ∧ i' + n' ≤ (A.2.2.2.2.2 t).2.1 ∧ j' + n' ≤ (A.2.2.2.2.2 u).2.1 := by
        intro a1 a2
        obtain ⟨i', n', b1, b2, b3⟩ := sp_hr_n hl a1
        obtain ⟨j', n2, c1, c2, c3⟩ := sp_hr_n hl2 a2
        have : n' = n2 := (nI_eq (by omega) (by omega)).mp (b2.symm.trans c2)
        subst this
        exact ⟨i', j', n', b1, c1, b2, b3, c3⟩
      rcases t_6 ht with rfl | rfl | rfl | rfl | rfl | rfl
      all_goals
        rcases t_6 hu with rfl | rfl | rfl | rfl | rfl | rfl
        all_goals
          refine mm_ev.run mm_y125 3 rfl ?_
          refine mm_ev.ald mm_y125 rfl rfl rfl rfl rfl (by omega) (by decide) rfl ?_
          refine mm_ev.run mm_y125 4 rfl ?_
          refine mm_ev.ald mm_y125 rfl rfl rfl rfl rfl (by omega) (by decide) rfl ?_
          refine mm_ev.run mm_y125 3 rfl ?_
          refine mm_ev.val f0 ?_
          refine mm_ev.run mm_y125 2 rfl ?_
          refine mm_ev.ite (fun h3 => ?_) (fun h3 => ?_)
          · rw [if_pos (Or.inl h3)]
            refine mm_ev.run mm_y125 1 rfl ?_
            exact mm_ev.ret mm_y125 rfl rfl rfl ⟨rfl, h⟩
          · refine mm_ev.run mm_y125 2 rfl ?_
            refine mm_ev.val g0 ?_
            refine mm_ev.run mm_y125 2 rfl ?_
            refine mm_ev.ite (fun h4 => ?_) (fun h4 => ?_)
            · rw [if_pos (Or.inr h4)]
              refine mm_ev.run mm_y125 1 rfl ?_
              exact mm_ev.ret mm_y125 rfl rfl rfl ⟨rfl, h⟩
            · rw [if_neg (fun z => z.elim h3 h4)]
              refine mm_ev.run mm_y125 2 rfl ?_
              refine mm_ev.val f0 ?_
              refine mm_ev.run mm_y125 2 rfl ?_
              refine mm_ev.val g0 ?_
              refine mm_ev.run mm_y125 1 rfl ?_
              refine mm_ev.ite (fun h5 => ?_) (fun h5 => ?_)
              · rw [if_pos h5]
                refine mm_ev.run mm_y125 3 rfl ?_
                refine mm_ev.call mm_y125 rfl rfl rfl rfl rfl K1 (fun v1 μ1 hq => ?_)
                obtain ⟨rfl, hμ⟩ := hq
                obtain rfl := hμ.symm
                refine mm_ev.run mm_y125 1 rfl ?_
                refine mm_ev.ifb (fun h6 => ?_) (fun h6 => ?_)
                · rw [if_neg (fun z => h6 z.1)]
                  refine mm_ev.run mm_y125 1 rfl ?_
                  exact mm_ev.ret mm_y125 rfl rfl rfl ⟨rfl, h⟩
                · refine mm_ev.run mm_y125 3 rfl ?_
                  refine mm_ev.call mm_y125 rfl rfl rfl rfl rfl K2 (fun v1 μ1 hq => ?_)
                  obtain ⟨rfl, hμ⟩ := hq
                  obtain rfl := hμ.symm
                  refine mm_ev.run mm_y125 1 rfl ?_
                  refine mm_ev.ifb (fun h7 => ?_) (fun h7 => ?_)
                  · rw [if_neg (fun z => h7 z.2)]
                    refine mm_ev.run mm_y125 1 rfl ?_
                    exact mm_ev.ret mm_y125 rfl rfl rfl ⟨rfl, h⟩
                  · rw [if_pos ⟨h6, h7⟩]
                    obtain ⟨i', j', n', rfl, rfl, rfl, b1, b2⟩ := fin h6 h7
                    rw [nI_clamp (show i' < 2 ^ 31 by omega), nI_clamp (show j' < 2 ^ 31 by omega), nI_clamp (show n' < 2 ^ 31 by omega)]
                    exact K i' j' n' b1 b2
              · rw [if_neg h5]
                refine mm_ev.run mm_y125 1 rfl ?_
                exact mm_ev.ret mm_y125 rfl rfl rfl ⟨rfl, h⟩
set_option maxRecDepth 100000 in
theorem C120_0 {Φ : Option Value → mm_M → Prop} {c0 k kd : Int32} {n : Nat} (hn : n < 6) (h1 : k = 0 → Φ (some (.int kd)) μ) (h2 : ¬ k = 0 → Φ (some (.int (-12))) μ) : mm_ev la_C d 120 24 [some (.ref 14), some (.int c0), some (.int k), some (.int kd), some (.int (nI n)), some (.int 0)] [] μ Φ := by
  refine mm_ev.run mm_y120 3 rfl ?_
  refine mm_ev.neg (nI_ge (b := 7) (by omega) (by decide)) ?_
  refine mm_ev.run mm_y120 2 rfl ?_
  refine mm_ev.neg (by decide) ?_
  refine mm_ev.run mm_y120 3 rfl ?_
  refine mm_ev.ite (fun h => ?_) (fun h => ?_)
  · refine mm_ev.run mm_y120 1 rfl ?_
    exact mm_ev.ret mm_y120 rfl rfl rfl (h1 h.symm)
  · refine mm_ev.run mm_y120 3 rfl ?_
    refine mm_ev.ild mm_y120 rfl rfl rfl rfl (show (0 : Int32) = nI 0 from rfl) (by omega) (by decide) (show _ = (-1 : Int32) from rfl) ?_
    refine mm_ev.run mm_y120 2 rfl ?_
    rw [← nI_succ]
    refine mm_ev.run mm_y120 3 rfl ?_
    refine mm_ev.neg (nI_ge (b := 7) (by omega) (by decide)) ?_
    refine mm_ev.run mm_y120 2 rfl ?_
    refine mm_ev.pos (by decide) ?_
    refine mm_ev.run mm_y120 1 rfl ?_
    exact mm_ev.ret mm_y120 rfl rfl rfl (h2 (fun z => h z.symm))
set_option maxRecDepth 100000 in
theorem C120_1 {Φ : Option Value → mm_M → Prop} {c0 k kd : Int32} {n j : Nat} (hn : n < 5) (hj : j = 1 ∨ j = 2 ∨ j = 3) (h1 : k = 0 ∨ k = nI j → Φ (some (.int kd)) μ) (h2 : ¬ (k = 0 ∨ k = nI j) → Φ (some (.int (-12))) μ) : mm_ev la_C d 120 24 [some (.ref 14), some (.int c0), some (.int k), some (.int kd), some (.int (nI n)), some (.int (nI j))] [] μ Φ := by
  rcases hj with rfl | rfl | rfl
  all_goals
    refine mm_ev.run mm_y120 3 rfl ?_
    refine mm_ev.neg (nI_ge (b := 7) (by omega) (by decide)) ?_
    refine mm_ev.run mm_y120 2 rfl ?_
    refine mm_ev.neg (by decide) ?_
    refine mm_ev.run mm_y120 3 rfl ?_
    refine mm_ev.ite (fun h => ?_) (fun h => ?_)
    · refine mm_ev.run mm_y120 1 rfl ?_
      exact mm_ev.ret mm_y120 rfl rfl rfl (h1 (Or.inr h.symm))
    · refine mm_ev.run mm_y120 3 rfl ?_
      refine mm_ev.ild mm_y120 rfl rfl rfl rfl rfl (by omega) (by decide) (show _ = (0 : Int32) from rfl) ?_
      refine mm_ev.run mm_y120 2 rfl ?_
      rw [← nI_succ]
      exact C120_0 (by omega) (fun z => h1 (Or.inl z)) (fun z => h2 (fun y => y.elim z (fun y => h y.symm)))
set_option maxRecDepth 100000 in
theorem C120_2 {Φ : Option Value → mm_M → Prop} {c0 k kd : Int32} {n j : Nat} (hn : n < 4) (hj : j = 4 ∨ j = 5 ∨ j = 6) (h1 : k = 0 ∨ k = nI (j - 3) ∨ k = nI j → Φ (some (.int kd)) μ) (h2 : ¬ (k = 0 ∨ k = nI (j - 3) ∨ k = nI j) → Φ (some (.int (-12))) μ) : mm_ev la_C d 120 24 [some (.ref 14), some (.int c0), some (.int k), some (.int kd), some (.int (nI n)), some (.int (nI j))] [] μ Φ := by
  have K := fun (h : ¬ k = nI j) => C120_1 (d := d) (μ := μ) (Φ := Φ) (c0 := c0) (k := k) (kd := kd) (n := n + 1) (j := j - 3) (by omega) (by omega) (fun z => h1 (z.elim Or.inl (fun z => Or.inr (Or.inl z)))) (fun z => h2 (fun y => y.elim (fun y => z (Or.inl y)) (fun y => y.elim (fun y => z (Or.inr y)) h)))
  rw [nI_succ] at K
  rcases hj with rfl | rfl | rfl
  all_goals
    refine mm_ev.run mm_y120 3 rfl ?_
    refine mm_ev.neg (nI_ge (b := 7) (by omega) (by decide)) ?_
    refine mm_ev.run mm_y120 2 rfl ?_
    refine mm_ev.neg (by decide) ?_
    refine mm_ev.run mm_y120 3 rfl ?_
    refine mm_ev.ite (fun h => ?_) (fun h => ?_)
    · refine mm_ev.run mm_y120 1 rfl ?_
      exact mm_ev.ret mm_y120 rfl rfl rfl (h1 (Or.inr (Or.inr h.symm)))
    · refine mm_ev.run mm_y120 3 rfl ?_
      refine mm_ev.ild mm_y120 rfl rfl rfl rfl rfl (by omega) (by decide) (show _ = (nI _ : Int32) from rfl) ?_
      refine mm_ev.run mm_y120 2 rfl ?_
      exact K (fun z => h z.symm)
set_option maxRecDepth 100000 in
theorem C120 (h : rC A μ) (ho : okA A) (c k : Int32) : mm_call la_C (d + 10) 120 [.ref 14, .int c, .int k] μ (fun v μ' => v = some (.int (q_taken A c k)) ∧ rC A μ') := by
  have h6 := ho.n
  refine mm_call.of mm_t120 ?_
  refine mm_ev.run mm_y120 3 rfl ?_
  refine mm_ev.call mm_y120 rfl rfl rfl rfl rfl (C86 k 0 6) (fun v1 μ1 hq => ?_)
  obtain ⟨rfl, hμ⟩ := hq
  obtain rfl := hμ.symm
  refine mm_ev.run mm_y120 1 rfl ?_
  refine mm_ev.ifb (fun h1 => ?_) (fun h1 => ?_)
  · rw [q_taken, if_neg h1]
    refine mm_ev.run mm_y120 1 rfl ?_
    exact mm_ev.ret mm_y120 rfl rfl rfl ⟨rfl, h⟩
  · rw [q_taken, if_pos h1]
    refine mm_ev.run mm_y120 2 rfl ?_
    refine mm_ev.call mm_y120 rfl rfl rfl rfl rfl (C88' h.n c) (fun v1 μ1 hq => ?_)
    obtain ⟨rfl, hμ⟩ := hq
    obtain rfl := hμ.symm
    refine mm_ev.run mm_y120 1 rfl ?_
    refine mm_ev.ifb (fun h2 => ?_) (fun h2 => ?_)
    · rw [if_neg h2]
      refine mm_ev.run mm_y120 1 rfl ?_
      exact mm_ev.ret mm_y120 rfl rfl rfl ⟨rfl, h⟩
    · rw [if_pos h2]
      obtain ⟨c, hc, rfl⟩ := nI_cap (by omega) h2
      rw [nI_clamp (by omega)]
      obtain ⟨kd, hkd, ek⟩ := ho.1.1.2.2.2.1 c hc
      have hkk := h.1.1.kind hc
      rw [ek] at hkk ⊢
      refine mm_ev.run mm_y120 5 rfl ?_
      refine mm_ev.ild mm_y120 rfl rfl rfl rfl rfl (by omega) (by decide) hkk ?_
      refine mm_ev.run mm_y120 5 rfl ?_
      rcases (show kd = 0 ∨ (kd = 1 ∨ kd = 2 ∨ kd = 3) ∨ (kd = 4 ∨ kd = 5 ∨ kd = 6) by omega) with rfl | hz | hz
      · refine C120_0 (n := 0) (by omega) (fun z => ⟨?_, h⟩) (fun z => ⟨?_, h⟩)
        · rw [if_pos (Or.inr (Or.inl z))]
        · rw [if_neg (fun y => by
            rcases y with y | y | y | y | y
            · exact z y
            · exact z y
            · exact absurd y.1 (by decide)
            · exact absurd y.1 (by decide)
            · exact absurd y.1 (by decide))]
      · refine C120_1 (n := 0) (by omega) hz (fun z => ⟨?_, h⟩) (fun z => ⟨?_, h⟩)
        · rw [if_pos (z.elim (fun z => Or.inr (Or.inl z)) Or.inl)]
        · rw [if_neg (fun y => by
            rcases y with y | y | y | y | y
            · exact z (Or.inr y)
            · exact z (Or.inl y)
            · exact absurd ((nI_eq (b := 4) (by omega) (by decide)).mp y.1) (by omega)
            · exact absurd ((nI_eq (b := 5) (by omega) (by decide)).mp y.1) (by omega)
            · exact absurd ((nI_eq (b := 6) (by omega) (by decide)).mp y.1) (by omega))]
      · refine C120_2 (n := 0) (by omega) hz (fun z => ⟨?_, h⟩) (fun z => ⟨?_, h⟩)
        · rw [if_pos]
          rcases hz with rfl | rfl | rfl
          · exact z.elim (fun z => Or.inr (Or.inl z)) (fun z => z.elim (fun z => Or.inr (Or.inr (Or.inl ⟨rfl, z⟩))) Or.inl)
          · exact z.elim (fun z => Or.inr (Or.inl z)) (fun z => z.elim (fun z => Or.inr (Or.inr (Or.inr (Or.inl ⟨rfl, z⟩)))) Or.inl)
          · exact z.elim (fun z => Or.inr (Or.inl z)) (fun z => z.elim (fun z => Or.inr (Or.inr (Or.inr (Or.inr ⟨rfl, z⟩)))) Or.inl)
        · rw [if_neg]
          intro y
          rcases y with y | y | y | y | y
          · exact z (Or.inr (Or.inr y))
          · exact z (Or.inl y)
          · have := (nI_eq (b := 4) (by omega) (by decide)).mp y.1
            subst this
            exact z (Or.inr (Or.inl y.2))
          · have := (nI_eq (b := 5) (by omega) (by decide)).mp y.1
            subst this
            exact z (Or.inr (Or.inl y.2))
          · have := (nI_eq (b := 6) (by omega) (by decide)).mp y.1
            subst this
            exact z (Or.inr (Or.inl y.2))
end
