/-! THE REFERENCE: what it keeps, and has again -/
/-- which place the j-th number of an image stands for -/
def kc (j : Nat) : Nat × Nat := if j < 12 then (111, j) else if j < 18 then (112, j - 12) else if j < 24 then (113, j - 18) else if j < 30 then (114, j - 24) else if j < 36 then (115, j - 30) else if j < 60 then (116, j - 36) else if j < 65 then (125, j - 60) else if j < 70 then (126, j - 65) else if j < 75 then (127, j - 70) else if j < 85 then (128, j - 75) else if j < 95 then (129, j - 85) else if j < 103 then (130, j - 95) else if j < 111 then (131, j - 103) else if j = 111 then (110, 1) else if j = 112 then (110, 7) else if j = 113 then (110, 24) else if j = 114 then (110, 28) else if j = 115 then (110, 31) else (110, 15)
theorem kc_inj : ∀ j, j < 117 → ∀ e, e < 117 → kc j = kc e → j = e := by decide +kernel
theorem kc_0 : ∀ k, k < 12 → kc (0 + k) = (111, k) := by decide +kernel
theorem kc_12 : ∀ k, k < 6 → kc (12 + k) = (112, k) := by decide +kernel
theorem kc_18 : ∀ k, k < 6 → kc (18 + k) = (113, k) := by decide +kernel
theorem kc_24 : ∀ k, k < 6 → kc (24 + k) = (114, k) := by decide +kernel
theorem kc_30 : ∀ k, k < 6 → kc (30 + k) = (115, k) := by decide +kernel
theorem kc_36 : ∀ k, k < 24 → kc (36 + k) = (116, k) := by decide +kernel
theorem kc_60 : ∀ k, k < 5 → kc (60 + k) = (125, k) := by decide +kernel
theorem kc_65 : ∀ k, k < 5 → kc (65 + k) = (126, k) := by decide +kernel
theorem kc_70 : ∀ k, k < 5 → kc (70 + k) = (127, k) := by decide +kernel
theorem kc_75 : ∀ k, k < 10 → kc (75 + k) = (128, k) := by decide +kernel
theorem kc_85 : ∀ k, k < 10 → kc (85 + k) = (129, k) := by decide +kernel
theorem kc_95 : ∀ k, k < 8 → kc (95 + k) = (130, k) := by decide +kernel
theorem kc_103 : ∀ k, k < 8 → kc (103 + k) = (131, k) := by decide +kernel
def kG (μ : mm_M) (j : Nat) : Int32 := μ.1 (kc j).1 (kc j).2
theorem kG_at {μ : mm_M} {j c k : Nat} (h : kc j = (c, k)) : kG μ j = μ.1 c k := by
  unfold kG
  rw [h]
def kD (D : Nat → Prop) (F G : Nat → Int32) : Prop := ∀ j, D j → F j = G j
theorem kD.up {D : Nat → Prop} {F G : Nat → Int32} {e : Nat} {x : Int32} (h : kD D F G) (hx : x = G e) : kD (fun j => D j ∨ j = e) (upd F e x) G := by
  intro j hj
  by_cases z : j = e
  · subst z
    rw [upd_eq, hx]
  · rw [upd_ne z]
    exact h j (hj.resolve_right z)
theorem kD.mono {D D2 : Nat → Prop} {F G : Nat → Int32} (h : kD D F G) (hd : ∀ j, D2 j → D j) : kD D2 F G := fun j hj => h j (hd j hj)
abbrev pA2 (c j : Nat) : Prop := (111 ≤ c ∧ c ≤ 116) ∨ (125 ≤ c ∧ c ≤ 131) ∨ (c = 110 ∧ (j = 1 ∨ j = 7 ∨ j = 24 ∨ j = 28 ∨ j = 31 ∨ j = 15))
def kA (D : Nat → Prop) (q : Nat) (μ0 μ : mm_M) : Prop := (∀ j, D j → j < 117 → kG μ j = μ0.1 q j) ∧ mh pA2 μ0 μ
section
variable {d q : Nat} {μ μ0 : mm_M} {D D2 : Nat → Prop}
theorem kA.rd (h : kA D q μ0 μ) (hq : q = 133 ∨ q = 134) (j : Nat) : μ.1 q j = μ0.1 q j := h.2.1 q j (by omega)
theorem kA.w {e c k : Nat} (h : kA D q μ0 μ) (he : e < 117) (hc : kc e = (c, k)) (hp : pA2 c k) : kA (fun j => D j ∨ j = e) q μ0 (mm_sI μ c (upd (μ.1 c) k (μ0.1 q e))) := by
  refine ⟨fun j hj h117 => ?_, h.2.sU hp rfl⟩
  by_cases z : j = e
  · subst z
    rw [kG_at hc, sI_eq, upd_eq]
  · have hne : kc j ≠ (c, k) := fun y => z (kc_inj j h117 e he (y.trans hc.symm))
    rw [← h.1 j (hj.resolve_right z) h117]
    unfold kG
    by_cases e1 : (kc j).1 = c
    · rw [e1, sI_eq, upd_ne (fun y => hne (by rw [← e1, ← y]))]
    · rw [sI_ne e1]
theorem kA.mono (h : kA D q μ0 μ) (hd : ∀ j, D2 j → D j) : kA D2 q μ0 μ := ⟨fun j hj => h.1 j (hd j hj), h.2⟩
set_option maxRecDepth 100000 in
theorem C139_0 (hq : q = 133 ∨ q = 134) {Φ : Option Value → mm_M → Prop} (K : ∀ F, kD (fun j => j < 12) F (kG μ) → mm_ev la_M d 139 14 [some (.ref 110), some (.ref q), some (.int (nI 12))] [] (mm_sI μ q F) Φ) : ∀ m k F, k + m = 12 → kD (fun j => j < 0 ∨ (0 ≤ j ∧ j < 0 + k)) F (kG μ) → mm_ev la_M d 139 2 [some (.ref 110), some (.ref q), some (.int (nI k))] [] (mm_sI μ q F) Φ := by
  intro m
  induction m with
  | zero =>
    intro k F hk hF
    have hk : k = 12 := by omega
    subst hk
    have K := K F (hF.mono (fun j hj => by omega))
    rcases hq with rfl | rfl
    all_goals
      refine mm_ev.run mm_y139 3 rfl ?_
      refine mm_ev.pos (by decide) ?_
      exact K
  | succ m ih =>
    intro k F hk hF
    have ih := fun F => ih (k + 1) F (by omega)
    rw [nI_succ] at ih
    have g0 := kG_at (μ := μ) (kc_0 k (by omega))
    have h0 := hF.up (e := 0 + k) g0.symm
    have fin := ih _ (h0.mono (fun j hj => by omega))
    rcases hq with rfl | rfl
    all_goals
      refine mm_ev.run mm_y139 3 rfl ?_
      refine mm_ev.neg (nI_ge (b := 12) (by omega) (by decide)) ?_
      refine mm_ev.run mm_y139 5 rfl ?_
      refine mm_ev.ild mm_y139 rfl rfl rfl rfl rfl (by omega) (by decide) (show _ = μ.1 111 k from rfl) ?_
      refine mm_ev.ist mm_y139 rfl rfl rfl rfl (show nI k = nI (0 + k) from by rw [Nat.zero_add]) (by omega) (by decide) ?_
      refine mm_ev.eq mm_sI_sI ?_
      refine mm_ev.run mm_y139 2 rfl ?_
      exact fin
set_option maxRecDepth 100000 in
theorem C139_1 (hq : q = 133 ∨ q = 134) {Φ : Option Value → mm_M → Prop} (K : ∀ F, kD (fun j => j < 36) F (kG μ) → mm_ev la_M d 139 57 [some (.ref 110), some (.ref q), some (.int (nI 6))] [] (mm_sI μ q F) Φ) : ∀ m k F, k + m = 6 → kD (fun j => j < 12 ∨ (12 ≤ j ∧ j < 12 + k) ∨ (18 ≤ j ∧ j < 18 + k) ∨ (24 ≤ j ∧ j < 24 + k) ∨ (30 ≤ j ∧ j < 30 + k)) F (kG μ) → mm_ev la_M d 139 16 [some (.ref 110), some (.ref q), some (.int (nI k))] [] (mm_sI μ q F) Φ := by
  intro m
  induction m with
  | zero =>
    intro k F hk hF
    have hk : k = 6 := by omega
    subst hk
    have K := K F (hF.mono (fun j hj => by omega))
    rcases hq with rfl | rfl
    all_goals
      refine mm_ev.run mm_y139 3 rfl ?_
      refine mm_ev.pos (by decide) ?_
      exact K
  | succ m ih =>
    intro k F hk hF
    have ih := fun F => ih (k + 1) F (by omega)
    rw [nI_succ] at ih
    have g0 := kG_at (μ := μ) (kc_12 k (by omega))
    have h0 := hF.up (e := 12 + k) g0.symm
    have g1 := kG_at (μ := μ) (kc_18 k (by omega))
    have h1 := h0.up (e := 18 + k) g1.symm
    have g2 := kG_at (μ := μ) (kc_24 k (by omega))
    have h2 := h1.up (e := 24 + k) g2.symm
    have g3 := kG_at (μ := μ) (kc_30 k (by omega))
    have h3 := h2.up (e := 30 + k) g3.symm
    have fin := ih _ (h3.mono (fun j hj => by omega))
    rcases hq with rfl | rfl
    all_goals
      refine mm_ev.run mm_y139 3 rfl ?_
      refine mm_ev.neg (nI_ge (b := 6) (by omega) (by decide)) ?_
      refine mm_ev.run mm_y139 7 rfl ?_
      refine mm_ev.ild mm_y139 rfl rfl rfl rfl rfl (by omega) (by decide) (show _ = μ.1 112 k from rfl) ?_
      refine mm_ev.ist mm_y139 rfl rfl rfl rfl (nI_add 12 k) (by omega) (by decide) ?_
      refine mm_ev.eq mm_sI_sI ?_
      refine mm_ev.run mm_y139 7 rfl ?_
      refine mm_ev.ild mm_y139 rfl rfl rfl rfl rfl (by omega) (by decide) (show _ = μ.1 113 k from rfl) ?_
      refine mm_ev.ist mm_y139 rfl rfl rfl rfl (nI_add 18 k) (by omega) (by decide) ?_
      refine mm_ev.eq mm_sI_sI ?_
      refine mm_ev.run mm_y139 7 rfl ?_
      refine mm_ev.ild mm_y139 rfl rfl rfl rfl rfl (by omega) (by decide) (show _ = μ.1 114 k from rfl) ?_
      refine mm_ev.ist mm_y139 rfl rfl rfl rfl (nI_add 24 k) (by omega) (by decide) ?_
      refine mm_ev.eq mm_sI_sI ?_
      refine mm_ev.run mm_y139 7 rfl ?_
      refine mm_ev.ild mm_y139 rfl rfl rfl rfl rfl (by omega) (by decide) (show _ = μ.1 115 k from rfl) ?_
      refine mm_ev.ist mm_y139 rfl rfl rfl rfl (nI_add 30 k) (by omega) (by decide) ?_
      refine mm_ev.eq mm_sI_sI ?_
      refine mm_ev.run mm_y139 2 rfl ?_
      exact fin
set_option maxRecDepth 100000 in
theorem C139_2 (hq : q = 133 ∨ q = 134) {Φ : Option Value → mm_M → Prop} (K : ∀ F, kD (fun j => j < 60) F (kG μ) → mm_ev la_M d 139 73 [some (.ref 110), some (.ref q), some (.int (nI 24))] [] (mm_sI μ q F) Φ) : ∀ m k F, k + m = 24 → kD (fun j => j < 36 ∨ (36 ≤ j ∧ j < 36 + k)) F (kG μ) → mm_ev la_M d 139 59 [some (.ref 110), some (.ref q), some (.int (nI k))] [] (mm_sI μ q F) Φ := by
  intro m
  induction m with
  | zero =>
    intro k F hk hF
    have hk : k = 24 := by omega
    subst hk
    have K := K F (hF.mono (fun j hj => by omega))
    rcases hq with rfl | rfl
    all_goals
      refine mm_ev.run mm_y139 3 rfl ?_
      refine mm_ev.pos (by decide) ?_
      exact K
  | succ m ih =>
    intro k F hk hF
    have ih := fun F => ih (k + 1) F (by omega)
    rw [nI_succ] at ih
    have g0 := kG_at (μ := μ) (kc_36 k (by omega))
    have h0 := hF.up (e := 36 + k) g0.symm
    have fin := ih _ (h0.mono (fun j hj => by omega))
    rcases hq with rfl | rfl
    all_goals
      refine mm_ev.run mm_y139 3 rfl ?_
      refine mm_ev.neg (nI_ge (b := 24) (by omega) (by decide)) ?_
      refine mm_ev.run mm_y139 7 rfl ?_
      refine mm_ev.ild mm_y139 rfl rfl rfl rfl rfl (by omega) (by decide) (show _ = μ.1 116 k from rfl) ?_
      refine mm_ev.ist mm_y139 rfl rfl rfl rfl (nI_add 36 k) (by omega) (by decide) ?_
      refine mm_ev.eq mm_sI_sI ?_
      refine mm_ev.run mm_y139 2 rfl ?_
      exact fin
set_option maxRecDepth 100000 in
theorem C139_3 (hq : q = 133 ∨ q = 134) {Φ : Option Value → mm_M → Prop} (K : ∀ F, kD (fun j => j < 75) F (kG μ) → mm_ev la_M d 139 107 [some (.ref 110), some (.ref q), some (.int (nI 5))] [] (mm_sI μ q F) Φ) : ∀ m k F, k + m = 5 → kD (fun j => j < 60 ∨ (60 ≤ j ∧ j < 60 + k) ∨ (65 ≤ j ∧ j < 65 + k) ∨ (70 ≤ j ∧ j < 70 + k)) F (kG μ) → mm_ev la_M d 139 75 [some (.ref 110), some (.ref q), some (.int (nI k))] [] (mm_sI μ q F) Φ := by
  intro m
  induction m with
  | zero =>
    intro k F hk hF
    have hk : k = 5 := by omega
    subst hk
    have K := K F (hF.mono (fun j hj => by omega))
    rcases hq with rfl | rfl
    all_goals
      refine mm_ev.run mm_y139 3 rfl ?_
      refine mm_ev.pos (by decide) ?_
      exact K
  | succ m ih =>
    intro k F hk hF
    have ih := fun F => ih (k + 1) F (by omega)
    rw [nI_succ] at ih
    have g0 := kG_at (μ := μ) (kc_60 k (by omega))
    have h0 := hF.up (e := 60 + k) g0.symm
    have g1 := kG_at (μ := μ) (kc_65 k (by omega))
    have h1 := h0.up (e := 65 + k) g1.symm
    have g2 := kG_at (μ := μ) (kc_70 k (by omega))
    have h2 := h1.up (e := 70 + k) g2.symm
    have fin := ih _ (h2.mono (fun j hj => by omega))
    rcases hq with rfl | rfl
    all_goals
      refine mm_ev.run mm_y139 3 rfl ?_
      refine mm_ev.neg (nI_ge (b := 5) (by omega) (by decide)) ?_
      refine mm_ev.run mm_y139 7 rfl ?_
      refine mm_ev.ild mm_y139 rfl rfl rfl rfl rfl (by omega) (by decide) (show _ = μ.1 125 k from rfl) ?_
      refine mm_ev.ist mm_y139 rfl rfl rfl rfl (nI_add 60 k) (by omega) (by decide) ?_
      refine mm_ev.eq mm_sI_sI ?_
      refine mm_ev.run mm_y139 7 rfl ?_
      refine mm_ev.ild mm_y139 rfl rfl rfl rfl rfl (by omega) (by decide) (show _ = μ.1 126 k from rfl) ?_
      refine mm_ev.ist mm_y139 rfl rfl rfl rfl (nI_add 65 k) (by omega) (by decide) ?_
      refine mm_ev.eq mm_sI_sI ?_
      refine mm_ev.run mm_y139 7 rfl ?_
      refine mm_ev.ild mm_y139 rfl rfl rfl rfl rfl (by omega) (by decide) (show _ = μ.1 127 k from rfl) ?_
      refine mm_ev.ist mm_y139 rfl rfl rfl rfl (nI_add 70 k) (by omega) (by decide) ?_
      refine mm_ev.eq mm_sI_sI ?_
      refine mm_ev.run mm_y139 2 rfl ?_
      exact fin
set_option maxRecDepth 100000 in
theorem C139_4 (hq : q = 133 ∨ q = 134) {Φ : Option Value → mm_M → Prop} (K : ∀ F, kD (fun j => j < 95) F (kG μ) → mm_ev la_M d 139 132 [some (.ref 110), some (.ref q), some (.int (nI 10))] [] (mm_sI μ q F) Φ) : ∀ m k F, k + m = 10 → kD (fun j => j < 75 ∨ (75 ≤ j ∧ j < 75 + k) ∨ (85 ≤ j ∧ j < 85 + k)) F (kG μ) → mm_ev la_M d 139 109 [some (.ref 110), some (.ref q), some (.int (nI k))] [] (mm_sI μ q F) Φ := by
  intro m
  induction m with
  | zero =>
    intro k F hk hF
    have hk : k = 10 := by omega
    subst hk
    have K := K F (hF.mono (fun j hj => by omega))
    rcases hq with rfl | rfl
    all_goals
      refine mm_ev.run mm_y139 3 rfl ?_
      refine mm_ev.pos (by decide) ?_
      exact K
  | succ m ih =>
    intro k F hk hF
    have ih := fun F => ih (k + 1) F (by omega)
    rw [nI_succ] at ih
    have g0 := kG_at (μ := μ) (kc_75 k (by omega))
    have h0 := hF.up (e := 75 + k) g0.symm
    have g1 := kG_at (μ := μ) (kc_85 k (by omega))
    have h1 := h0.up (e := 85 + k) g1.symm
    have fin := ih _ (h1.mono (fun j hj => by omega))
    rcases hq with rfl | rfl
    all_goals
      refine mm_ev.run mm_y139 3 rfl ?_
      refine mm_ev.neg (nI_ge (b := 10) (by omega) (by decide)) ?_
      refine mm_ev.run mm_y139 7 rfl ?_
      refine mm_ev.ild mm_y139 rfl rfl rfl rfl rfl (by omega) (by decide) (show _ = μ.1 128 k from rfl) ?_
      refine mm_ev.ist mm_y139 rfl rfl rfl rfl (nI_add 75 k) (by omega) (by decide) ?_
      refine mm_ev.eq mm_sI_sI ?_
      refine mm_ev.run mm_y139 7 rfl ?_
      refine mm_ev.ild mm_y139 rfl rfl rfl rfl rfl (by omega) (by decide) (show _ = μ.1 129 k from rfl) ?_
      refine mm_ev.ist mm_y139 rfl rfl rfl rfl (nI_add 85 k) (by omega) (by decide) ?_
      refine mm_ev.eq mm_sI_sI ?_
      refine mm_ev.run mm_y139 2 rfl ?_
      exact fin
set_option maxRecDepth 100000 in
theorem C139_5 (hq : q = 133 ∨ q = 134) {Φ : Option Value → mm_M → Prop} (K : ∀ F, kD (fun j => j < 111) F (kG μ) → mm_ev la_M d 139 157 [some (.ref 110), some (.ref q), some (.int (nI 8))] [] (mm_sI μ q F) Φ) : ∀ m k F, k + m = 8 → kD (fun j => j < 95 ∨ (95 ≤ j ∧ j < 95 + k) ∨ (103 ≤ j ∧ j < 103 + k)) F (kG μ) → mm_ev la_M d 139 134 [some (.ref 110), some (.ref q), some (.int (nI k))] [] (mm_sI μ q F) Φ := by
  intro m
  induction m with
  | zero =>
    intro k F hk hF
    have hk : k = 8 := by omega
    subst hk
    have K := K F (hF.mono (fun j hj => by omega))
    rcases hq with rfl | rfl
    all_goals
      refine mm_ev.run mm_y139 3 rfl ?_
      refine mm_ev.pos (by decide) ?_
      exact K
  | succ m ih =>
    intro k F hk hF
    have ih := fun F => ih (k + 1) F (by omega)
    rw [nI_succ] at ih
    have g0 := kG_at (μ := μ) (kc_95 k (by omega))
    have h0 := hF.up (e := 95 + k) g0.symm
    have g1 := kG_at (μ := μ) (kc_103 k (by omega))
    have h1 := h0.up (e := 103 + k) g1.symm
    have fin := ih _ (h1.mono (fun j hj => by omega))
    rcases hq with rfl | rfl
    all_goals
      refine mm_ev.run mm_y139 3 rfl ?_
      refine mm_ev.neg (nI_ge (b := 8) (by omega) (by decide)) ?_
      refine mm_ev.run mm_y139 7 rfl ?_
      refine mm_ev.ild mm_y139 rfl rfl rfl rfl rfl (by omega) (by decide) (show _ = μ.1 130 k from rfl) ?_
      refine mm_ev.ist mm_y139 rfl rfl rfl rfl (nI_add 95 k) (by omega) (by decide) ?_
      refine mm_ev.eq mm_sI_sI ?_
      refine mm_ev.run mm_y139 7 rfl ?_
      refine mm_ev.ild mm_y139 rfl rfl rfl rfl rfl (by omega) (by decide) (show _ = μ.1 131 k from rfl) ?_
      refine mm_ev.ist mm_y139 rfl rfl rfl rfl (nI_add 103 k) (by omega) (by decide) ?_
      refine mm_ev.eq mm_sI_sI ?_
      refine mm_ev.run mm_y139 2 rfl ?_
      exact fin
set_option maxRecDepth 100000 in
theorem C139 (hq : q = 133 ∨ q = 134) : mm_call la_M d 139 [.ref 110, .ref q] μ (fun v μ' => v = none ∧ ∃ F, μ' = mm_sI μ q F ∧ ∀ j, j < 117 → F j = kG μ j) := by
  have L6 : ∀ F, kD (fun j => j < 111) F (kG μ) → mm_ev la_M d 139 157 [some (.ref 110), some (.ref q), some (.int (nI 8))] [] (mm_sI μ q F) (fun v μ' => v = none ∧ ∃ F, μ' = mm_sI μ q F ∧ ∀ j, j < 117 → F j = kG μ j) := by
    intro F hF
    have g0 : kG μ 111 = μ.1 110 1 := kG_at (by decide)
    have h0 := hF.up (e := 111) g0.symm
    have g1 : kG μ 112 = μ.1 110 7 := kG_at (by decide)
    have h1 := h0.up (e := 112) g1.symm
    have g2 : kG μ 113 = μ.1 110 24 := kG_at (by decide)
    have h2 := h1.up (e := 113) g2.symm
    have g3 : kG μ 114 = μ.1 110 28 := kG_at (by decide)
    have h3 := h2.up (e := 114) g3.symm
    have g4 : kG μ 115 = μ.1 110 31 := kG_at (by decide)
    have h4 := h3.up (e := 115) g4.symm
    have g5 : kG μ 116 = μ.1 110 15 := kG_at (by decide)
    have h5 := h4.up (e := 116) g5.symm
    have fin := h5.mono (D2 := fun j => j < 117) (fun j hj => by omega)
    rcases hq with rfl | rfl
    all_goals
      refine mm_ev.run mm_y139 4 rfl ?_
      refine mm_ev.ist mm_y139 rfl rfl rfl rfl (show _ = nI 111 from rfl) (by decide) (by decide) ?_
      refine mm_ev.eq mm_sI_sI ?_
      refine mm_ev.run mm_y139 4 rfl ?_
      refine mm_ev.ist mm_y139 rfl rfl rfl rfl (show _ = nI 112 from rfl) (by decide) (by decide) ?_
      refine mm_ev.eq mm_sI_sI ?_
      refine mm_ev.run mm_y139 4 rfl ?_
      refine mm_ev.ist mm_y139 rfl rfl rfl rfl (show _ = nI 113 from rfl) (by decide) (by decide) ?_
      refine mm_ev.eq mm_sI_sI ?_
      refine mm_ev.run mm_y139 4 rfl ?_
      refine mm_ev.ist mm_y139 rfl rfl rfl rfl (show _ = nI 114 from rfl) (by decide) (by decide) ?_
      refine mm_ev.eq mm_sI_sI ?_
      refine mm_ev.run mm_y139 4 rfl ?_
      refine mm_ev.ist mm_y139 rfl rfl rfl rfl (show _ = nI 115 from rfl) (by decide) (by decide) ?_
      refine mm_ev.eq mm_sI_sI ?_
      refine mm_ev.run mm_y139 4 rfl ?_
      refine mm_ev.ist mm_y139 rfl rfl rfl rfl (show _ = nI 116 from rfl) (by decide) (by decide) ?_
      refine mm_ev.eq mm_sI_sI ?_
      exact mm_ev.ret mm_y139 rfl rfl rfl ⟨rfl, _, rfl, fin⟩
  have L5 : ∀ F, kD (fun j => j < 95) F (kG μ) → mm_ev la_M d 139 132 [some (.ref 110), some (.ref q), some (.int (nI 10))] [] (mm_sI μ q F) (fun v μ' => v = none ∧ ∃ F, μ' = mm_sI μ q F ∧ ∀ j, j < 117 → F j = kG μ j) := by
    intro F hF
    refine mm_ev.run mm_y139 2 rfl ?_
    exact C139_5 hq L6 8 0 F (by omega) (hF.mono (fun j hj => by omega))
  have L4 : ∀ F, kD (fun j => j < 75) F (kG μ) → mm_ev la_M d 139 107 [some (.ref 110), some (.ref q), some (.int (nI 5))] [] (mm_sI μ q F) (fun v μ' => v = none ∧ ∃ F, μ' = mm_sI μ q F ∧ ∀ j, j < 117 → F j = kG μ j) := by
    intro F hF
    refine mm_ev.run mm_y139 2 rfl ?_
    exact C139_4 hq L5 10 0 F (by omega) (hF.mono (fun j hj => by omega))
  have L3 : ∀ F, kD (fun j => j < 60) F (kG μ) → mm_ev la_M d 139 73 [some (.ref 110), some (.ref q), some (.int (nI 24))] [] (mm_sI μ q F) (fun v μ' => v = none ∧ ∃ F, μ' = mm_sI μ q F ∧ ∀ j, j < 117 → F j = kG μ j) := by
    intro F hF
    refine mm_ev.run mm_y139 2 rfl ?_
    exact C139_3 hq L4 5 0 F (by omega) (hF.mono (fun j hj => by omega))
  have L2 : ∀ F, kD (fun j => j < 36) F (kG μ) → mm_ev la_M d 139 57 [some (.ref 110), some (.ref q), some (.int (nI 6))] [] (mm_sI μ q F) (fun v μ' => v = none ∧ ∃ F, μ' = mm_sI μ q F ∧ ∀ j, j < 117 → F j = kG μ j) := by
    intro F hF
    refine mm_ev.run mm_y139 2 rfl ?_
    exact C139_2 hq L3 24 0 F (by omega) (hF.mono (fun j hj => by omega))
  have L1 : ∀ F, kD (fun j => j < 12) F (kG μ) → mm_ev la_M d 139 14 [some (.ref 110), some (.ref q), some (.int (nI 12))] [] (mm_sI μ q F) (fun v μ' => v = none ∧ ∃ F, μ' = mm_sI μ q F ∧ ∀ j, j < 117 → F j = kG μ j) := by
    intro F hF
    refine mm_ev.run mm_y139 2 rfl ?_
    exact C139_1 hq L2 6 0 F (by omega) (hF.mono (fun j hj => by omega))
  have L0 := C139_0 hq L1 12 0 (μ.1 q) (by omega) (fun j hj => absurd hj (by omega))
  rw [mm_sI_self] at L0
  refine mm_call.of mm_t139 ?_
  refine mm_ev.run mm_y139 2 rfl ?_
  exact L0
set_option maxRecDepth 100000 in
theorem C142_0 (hq : q = 133 ∨ q = 134) {Φ : Option Value → mm_M → Prop} (K : ∀ μ, kA (fun j => j < 12) q μ0 μ → mm_ev la_M d 142 14 [some (.ref 110), some (.ref q), some (.int (nI 12))] [] μ Φ) : ∀ m k μ, k + m = 12 → kA (fun j => j < 0 ∨ (0 ≤ j ∧ j < 0 + k)) q μ0 μ → mm_ev la_M d 142 2 [some (.ref 110), some (.ref q), some (.int (nI k))] [] μ Φ := by
  intro m
  induction m with
  | zero =>
    intro k μ hk hF
    have hk : k = 12 := by omega
    subst hk
    have K := K μ (hF.mono (fun j hj => by omega))
    rcases hq with rfl | rfl
    all_goals
      refine mm_ev.run mm_y142 3 rfl ?_
      refine mm_ev.pos (by decide) ?_
      exact K
  | succ m ih =>
    intro k μ hk hF
    have ih := fun μ => ih (k + 1) μ (by omega)
    rw [nI_succ] at ih
    have h0 := hF.w (e := 0 + k) (by omega) (kc_0 k (by omega)) (by omega)
    have r0 := hF.rd hq (0 + k)
    have fin := ih _ (h0.mono (fun j hj => by omega))
    rcases hq with rfl | rfl
    all_goals
      refine mm_ev.run mm_y142 3 rfl ?_
      refine mm_ev.neg (nI_ge (b := 12) (by omega) (by decide)) ?_
      refine mm_ev.run mm_y142 5 rfl ?_
      refine mm_ev.ild mm_y142 rfl rfl rfl rfl (show nI k = nI (0 + k) from by rw [Nat.zero_add]) (by omega) (by decide) r0 ?_
      refine mm_ev.ist mm_y142 rfl rfl rfl rfl rfl (by omega) (by decide) ?_
      refine mm_ev.run mm_y142 2 rfl ?_
      exact fin
set_option maxRecDepth 100000 in
theorem C142_1 (hq : q = 133 ∨ q = 134) {Φ : Option Value → mm_M → Prop} (K : ∀ μ, kA (fun j => j < 36) q μ0 μ → mm_ev la_M d 142 57 [some (.ref 110), some (.ref q), some (.int (nI 6))] [] μ Φ) : ∀ m k μ, k + m = 6 → kA (fun j => j < 12 ∨ (12 ≤ j ∧ j < 12 + k) ∨ (18 ≤ j ∧ j < 18 + k) ∨ (24 ≤ j ∧ j < 24 + k) ∨ (30 ≤ j ∧ j < 30 + k)) q μ0 μ → mm_ev la_M d 142 16 [some (.ref 110), some (.ref q), some (.int (nI k))] [] μ Φ := by
  intro m
  induction m with
  | zero =>
    intro k μ hk hF
    have hk : k = 6 := by omega
    subst hk
    have K := K μ (hF.mono (fun j hj => by omega))
    rcases hq with rfl | rfl
    all_goals
      refine mm_ev.run mm_y142 3 rfl ?_
      refine mm_ev.pos (by decide) ?_
      exact K
  | succ m ih =>
    intro k μ hk hF
    have ih := fun μ => ih (k + 1) μ (by omega)
    rw [nI_succ] at ih
    have h0 := hF.w (e := 12 + k) (by omega) (kc_12 k (by omega)) (by omega)
    have r0 := hF.rd hq (12 + k)
    have h1 := h0.w (e := 18 + k) (by omega) (kc_18 k (by omega)) (by omega)
    have r1 := h0.rd hq (18 + k)
    have h2 := h1.w (e := 24 + k) (by omega) (kc_24 k (by omega)) (by omega)
    have r2 := h1.rd hq (24 + k)
    have h3 := h2.w (e := 30 + k) (by omega) (kc_30 k (by omega)) (by omega)
    have r3 := h2.rd hq (30 + k)
    have fin := ih _ (h3.mono (fun j hj => by omega))
    rcases hq with rfl | rfl
    all_goals
      refine mm_ev.run mm_y142 3 rfl ?_
      refine mm_ev.neg (nI_ge (b := 6) (by omega) (by decide)) ?_
      refine mm_ev.run mm_y142 7 rfl ?_
      refine mm_ev.ild mm_y142 rfl rfl rfl rfl (nI_add 12 k) (by omega) (by decide) r0 ?_
      refine mm_ev.ist mm_y142 rfl rfl rfl rfl rfl (by omega) (by decide) ?_
      refine mm_ev.run mm_y142 7 rfl ?_
      refine mm_ev.ild mm_y142 rfl rfl rfl rfl (nI_add 18 k) (by omega) (by decide) r1 ?_
      refine mm_ev.ist mm_y142 rfl rfl rfl rfl rfl (by omega) (by decide) ?_
      refine mm_ev.run mm_y142 7 rfl ?_
      refine mm_ev.ild mm_y142 rfl rfl rfl rfl (nI_add 24 k) (by omega) (by decide) r2 ?_
      refine mm_ev.ist mm_y142 rfl rfl rfl rfl rfl (by omega) (by decide) ?_
      refine mm_ev.run mm_y142 7 rfl ?_
      refine mm_ev.ild mm_y142 rfl rfl rfl rfl (nI_add 30 k) (by omega) (by decide) r3 ?_
      refine mm_ev.ist mm_y142 rfl rfl rfl rfl rfl (by omega) (by decide) ?_
      refine mm_ev.run mm_y142 2 rfl ?_
      exact fin
set_option maxRecDepth 100000 in
theorem C142_2 (hq : q = 133 ∨ q = 134) {Φ : Option Value → mm_M → Prop} (K : ∀ μ, kA (fun j => j < 60) q μ0 μ → mm_ev la_M d 142 73 [some (.ref 110), some (.ref q), some (.int (nI 24))] [] μ Φ) : ∀ m k μ, k + m = 24 → kA (fun j => j < 36 ∨ (36 ≤ j ∧ j < 36 + k)) q μ0 μ → mm_ev la_M d 142 59 [some (.ref 110), some (.ref q), some (.int (nI k))] [] μ Φ := by
  intro m
  induction m with
  | zero =>
    intro k μ hk hF
    have hk : k = 24 := by omega
    subst hk
    have K := K μ (hF.mono (fun j hj => by omega))
    rcases hq with rfl | rfl
    all_goals
      refine mm_ev.run mm_y142 3 rfl ?_
      refine mm_ev.pos (by decide) ?_
      exact K
  | succ m ih =>
    intro k μ hk hF
    have ih := fun μ => ih (k + 1) μ (by omega)
    rw [nI_succ] at ih
    have h0 := hF.w (e := 36 + k) (by omega) (kc_36 k (by omega)) (by omega)
    have r0 := hF.rd hq (36 + k)
    have fin := ih _ (h0.mono (fun j hj => by omega))
    rcases hq with rfl | rfl
    all_goals
      refine mm_ev.run mm_y142 3 rfl ?_
      refine mm_ev.neg (nI_ge (b := 24) (by omega) (by decide)) ?_
      refine mm_ev.run mm_y142 7 rfl ?_
      refine mm_ev.ild mm_y142 rfl rfl rfl rfl (nI_add 36 k) (by omega) (by decide) r0 ?_
      refine mm_ev.ist mm_y142 rfl rfl rfl rfl rfl (by omega) (by decide) ?_
      refine mm_ev.run mm_y142 2 rfl ?_
      exact fin
set_option maxRecDepth 100000 in
theorem C142_3 (hq : q = 133 ∨ q = 134) {Φ : Option Value → mm_M → Prop} (K : ∀ μ, kA (fun j => j < 75) q μ0 μ → mm_ev la_M d 142 107 [some (.ref 110), some (.ref q), some (.int (nI 5))] [] μ Φ) : ∀ m k μ, k + m = 5 → kA (fun j => j < 60 ∨ (60 ≤ j ∧ j < 60 + k) ∨ (65 ≤ j ∧ j < 65 + k) ∨ (70 ≤ j ∧ j < 70 + k)) q μ0 μ → mm_ev la_M d 142 75 [some (.ref 110), some (.ref q), some (.int (nI k))] [] μ Φ := by
  intro m
  induction m with
  | zero =>
    intro k μ hk hF
    have hk : k = 5 := by omega
    subst hk
    have K := K μ (hF.mono (fun j hj => by omega))
    rcases hq with rfl | rfl
    all_goals
      refine mm_ev.run mm_y142 3 rfl ?_
      refine mm_ev.pos (by decide) ?_
      exact K
  | succ m ih =>
    intro k μ hk hF
    have ih := fun μ => ih (k + 1) μ (by omega)
    rw [nI_succ] at ih
    have h0 := hF.w (e := 60 + k) (by omega) (kc_60 k (by omega)) (by omega)
    have r0 := hF.rd hq (60 + k)
    have h1 := h0.w (e := 65 + k) (by omega) (kc_65 k (by omega)) (by omega)
    have r1 := h0.rd hq (65 + k)
    have h2 := h1.w (e := 70 + k) (by omega) (kc_70 k (by omega)) (by omega)
    have r2 := h1.rd hq (70 + k)
    have fin := ih _ (h2.mono (fun j hj => by omega))
    rcases hq with rfl | rfl
    all_goals
      refine mm_ev.run mm_y142 3 rfl ?_
      refine mm_ev.neg (nI_ge (b := 5) (by omega) (by decide)) ?_
      refine mm_ev.run mm_y142 7 rfl ?_
      refine mm_ev.ild mm_y142 rfl rfl rfl rfl (nI_add 60 k) (by omega) (by decide) r0 ?_
      refine mm_ev.ist mm_y142 rfl rfl rfl rfl rfl (by omega) (by decide) ?_
      refine mm_ev.run mm_y142 7 rfl ?_
      refine mm_ev.ild mm_y142 rfl rfl rfl rfl (nI_add 65 k) (by omega) (by decide) r1 ?_
      refine mm_ev.ist mm_y142 rfl rfl rfl rfl rfl (by omega) (by decide) ?_
      refine mm_ev.run mm_y142 7 rfl ?_
      refine mm_ev.ild mm_y142 rfl rfl rfl rfl (nI_add 70 k) (by omega) (by decide) r2 ?_
      refine mm_ev.ist mm_y142 rfl rfl rfl rfl rfl (by omega) (by decide) ?_
      refine mm_ev.run mm_y142 2 rfl ?_
      exact fin
set_option maxRecDepth 100000 in
theorem C142_4 (hq : q = 133 ∨ q = 134) {Φ : Option Value → mm_M → Prop} (K : ∀ μ, kA (fun j => j < 95) q μ0 μ → mm_ev la_M d 142 132 [some (.ref 110), some (.ref q), some (.int (nI 10))] [] μ Φ) : ∀ m k μ, k + m = 10 → kA (fun j => j < 75 ∨ (75 ≤ j ∧ j < 75 + k) ∨ (85 ≤ j ∧ j < 85 + k)) q μ0 μ → mm_ev la_M d 142 109 [some (.ref 110), some (.ref q), some (.int (nI k))] [] μ Φ := by
  intro m
  induction m with
  | zero =>
    intro k μ hk hF
    have hk : k = 10 := by omega
    subst hk
    have K := K μ (hF.mono (fun j hj => by omega))
    rcases hq with rfl | rfl
    all_goals
      refine mm_ev.run mm_y142 3 rfl ?_
      refine mm_ev.pos (by decide) ?_
      exact K
  | succ m ih =>
    intro k μ hk hF
    have ih := fun μ => ih (k + 1) μ (by omega)
    rw [nI_succ] at ih
    have h0 := hF.w (e := 75 + k) (by omega) (kc_75 k (by omega)) (by omega)
    have r0 := hF.rd hq (75 + k)
    have h1 := h0.w (e := 85 + k) (by omega) (kc_85 k (by omega)) (by omega)
    have r1 := h0.rd hq (85 + k)
    have fin := ih _ (h1.mono (fun j hj => by omega))
    rcases hq with rfl | rfl
    all_goals
      refine mm_ev.run mm_y142 3 rfl ?_
      refine mm_ev.neg (nI_ge (b := 10) (by omega) (by decide)) ?_
      refine mm_ev.run mm_y142 7 rfl ?_
      refine mm_ev.ild mm_y142 rfl rfl rfl rfl (nI_add 75 k) (by omega) (by decide) r0 ?_
      refine mm_ev.ist mm_y142 rfl rfl rfl rfl rfl (by omega) (by decide) ?_
      refine mm_ev.run mm_y142 7 rfl ?_
      refine mm_ev.ild mm_y142 rfl rfl rfl rfl (nI_add 85 k) (by omega) (by decide) r1 ?_
      refine mm_ev.ist mm_y142 rfl rfl rfl rfl rfl (by omega) (by decide) ?_
      refine mm_ev.run mm_y142 2 rfl ?_
      exact fin
set_option maxRecDepth 100000 in
theorem C142_5 (hq : q = 133 ∨ q = 134) {Φ : Option Value → mm_M → Prop} (K : ∀ μ, kA (fun j => j < 111) q μ0 μ → mm_ev la_M d 142 157 [some (.ref 110), some (.ref q), some (.int (nI 8))] [] μ Φ) : ∀ m k μ, k + m = 8 → kA (fun j => j < 95 ∨ (95 ≤ j ∧ j < 95 + k) ∨ (103 ≤ j ∧ j < 103 + k)) q μ0 μ → mm_ev la_M d 142 134 [some (.ref 110), some (.ref q), some (.int (nI k))] [] μ Φ := by
  intro m
  induction m with
  | zero =>
    intro k μ hk hF
    have hk : k = 8 := by omega
    subst hk
    have K := K μ (hF.mono (fun j hj => by omega))
    rcases hq with rfl | rfl
    all_goals
      refine mm_ev.run mm_y142 3 rfl ?_
      refine mm_ev.pos (by decide) ?_
      exact K
  | succ m ih =>
    intro k μ hk hF
    have ih := fun μ => ih (k + 1) μ (by omega)
    rw [nI_succ] at ih
    have h0 := hF.w (e := 95 + k) (by omega) (kc_95 k (by omega)) (by omega)
    have r0 := hF.rd hq (95 + k)
    have h1 := h0.w (e := 103 + k) (by omega) (kc_103 k (by omega)) (by omega)
    have r1 := h0.rd hq (103 + k)
    have fin := ih _ (h1.mono (fun j hj => by omega))
    rcases hq with rfl | rfl
    all_goals
      refine mm_ev.run mm_y142 3 rfl ?_
      refine mm_ev.neg (nI_ge (b := 8) (by omega) (by decide)) ?_
      refine mm_ev.run mm_y142 7 rfl ?_
      refine mm_ev.ild mm_y142 rfl rfl rfl rfl (nI_add 95 k) (by omega) (by decide) r0 ?_
      refine mm_ev.ist mm_y142 rfl rfl rfl rfl rfl (by omega) (by decide) ?_
      refine mm_ev.run mm_y142 7 rfl ?_
      refine mm_ev.ild mm_y142 rfl rfl rfl rfl (nI_add 103 k) (by omega) (by decide) r1 ?_
      refine mm_ev.ist mm_y142 rfl rfl rfl rfl rfl (by omega) (by decide) ?_
      refine mm_ev.run mm_y142 2 rfl ?_
      exact fin
set_option maxRecDepth 100000 in
theorem C142 (hq : q = 133 ∨ q = 134) : mm_call la_M d 142 [.ref 110, .ref q] μ0 (fun v μ' => v = none ∧ (∀ j, j < 117 → kG μ' j = μ0.1 q j) ∧ mh pA2 μ0 μ') := by
  have L6 : ∀ μ, kA (fun j => j < 111) q μ0 μ → mm_ev la_M d 142 157 [some (.ref 110), some (.ref q), some (.int (nI 8))] [] μ (fun v μ' => v = none ∧ (∀ j, j < 117 → kG μ' j = μ0.1 q j) ∧ mh pA2 μ0 μ') := by
    intro μ hF
    have h0 := hF.w (e := 111) (c := 110) (k := 1) (by decide) (by decide) (by omega)
    have r0 := hF.rd hq 111
    have h1 := h0.w (e := 112) (c := 110) (k := 7) (by decide) (by decide) (by omega)
    have r1 := h0.rd hq 112
    have h2 := h1.w (e := 113) (c := 110) (k := 24) (by decide) (by decide) (by omega)
    have r2 := h1.rd hq 113
    have h3 := h2.w (e := 114) (c := 110) (k := 28) (by decide) (by decide) (by omega)
    have r3 := h2.rd hq 114
    have h4 := h3.w (e := 115) (c := 110) (k := 31) (by decide) (by decide) (by omega)
    have r4 := h3.rd hq 115
    have h5 := h4.w (e := 116) (c := 110) (k := 15) (by decide) (by decide) (by omega)
    have r5 := h4.rd hq 116
    have fin := h5.mono (D2 := fun j => j < 117) (fun j hj => by omega)
    rcases hq with rfl | rfl
    all_goals
      refine mm_ev.run mm_y142 3 rfl ?_
      refine mm_ev.ild mm_y142 rfl rfl rfl rfl (show _ = nI 111 from rfl) (by decide) (by decide) r0 ?_
      refine mm_ev.run mm_y142 1 rfl ?_
      refine mm_ev.run mm_y142 3 rfl ?_
      refine mm_ev.ild mm_y142 rfl rfl rfl rfl (show _ = nI 112 from rfl) (by decide) (by decide) r1 ?_
      refine mm_ev.run mm_y142 1 rfl ?_
      refine mm_ev.run mm_y142 3 rfl ?_
      refine mm_ev.ild mm_y142 rfl rfl rfl rfl (show _ = nI 113 from rfl) (by decide) (by decide) r2 ?_
      refine mm_ev.run mm_y142 1 rfl ?_
      refine mm_ev.run mm_y142 3 rfl ?_
      refine mm_ev.ild mm_y142 rfl rfl rfl rfl (show _ = nI 114 from rfl) (by decide) (by decide) r3 ?_
      refine mm_ev.run mm_y142 1 rfl ?_
      refine mm_ev.run mm_y142 3 rfl ?_
      refine mm_ev.ild mm_y142 rfl rfl rfl rfl (show _ = nI 115 from rfl) (by decide) (by decide) r4 ?_
      refine mm_ev.run mm_y142 1 rfl ?_
      refine mm_ev.run mm_y142 3 rfl ?_
      refine mm_ev.ild mm_y142 rfl rfl rfl rfl (show _ = nI 116 from rfl) (by decide) (by decide) r5 ?_
      refine mm_ev.run mm_y142 1 rfl ?_
      exact mm_ev.ret mm_y142 rfl rfl rfl ⟨rfl, fun j hj => fin.1 j hj hj, fin.2⟩
  have L5 : ∀ μ, kA (fun j => j < 95) q μ0 μ → mm_ev la_M d 142 132 [some (.ref 110), some (.ref q), some (.int (nI 10))] [] μ (fun v μ' => v = none ∧ (∀ j, j < 117 → kG μ' j = μ0.1 q j) ∧ mh pA2 μ0 μ') := by
    intro μ hF
    refine mm_ev.run mm_y142 2 rfl ?_
    exact C142_5 hq L6 8 0 μ (by omega) (hF.mono (fun j hj => by omega))
  have L4 : ∀ μ, kA (fun j => j < 75) q μ0 μ → mm_ev la_M d 142 107 [some (.ref 110), some (.ref q), some (.int (nI 5))] [] μ (fun v μ' => v = none ∧ (∀ j, j < 117 → kG μ' j = μ0.1 q j) ∧ mh pA2 μ0 μ') := by
    intro μ hF
    refine mm_ev.run mm_y142 2 rfl ?_
    exact C142_4 hq L5 10 0 μ (by omega) (hF.mono (fun j hj => by omega))
  have L3 : ∀ μ, kA (fun j => j < 60) q μ0 μ → mm_ev la_M d 142 73 [some (.ref 110), some (.ref q), some (.int (nI 24))] [] μ (fun v μ' => v = none ∧ (∀ j, j < 117 → kG μ' j = μ0.1 q j) ∧ mh pA2 μ0 μ') := by
    intro μ hF
    refine mm_ev.run mm_y142 2 rfl ?_
    exact C142_3 hq L4 5 0 μ (by omega) (hF.mono (fun j hj => by omega))
  have L2 : ∀ μ, kA (fun j => j < 36) q μ0 μ → mm_ev la_M d 142 57 [some (.ref 110), some (.ref q), some (.int (nI 6))] [] μ (fun v μ' => v = none ∧ (∀ j, j < 117 → kG μ' j = μ0.1 q j) ∧ mh pA2 μ0 μ') := by
    intro μ hF
    refine mm_ev.run mm_y142 2 rfl ?_
    exact C142_2 hq L3 24 0 μ (by omega) (hF.mono (fun j hj => by omega))
  have L1 : ∀ μ, kA (fun j => j < 12) q μ0 μ → mm_ev la_M d 142 14 [some (.ref 110), some (.ref q), some (.int (nI 12))] [] μ (fun v μ' => v = none ∧ (∀ j, j < 117 → kG μ' j = μ0.1 q j) ∧ mh pA2 μ0 μ') := by
    intro μ hF
    refine mm_ev.run mm_y142 2 rfl ?_
    exact C142_1 hq L2 6 0 μ (by omega) (hF.mono (fun j hj => by omega))
  have L0 := C142_0 hq L1 12 0 μ0 (by omega) ⟨fun j hj => absurd hj (by omega), mh.rf⟩
  refine mm_call.of mm_t142 ?_
  refine mm_ev.run mm_y142 2 rfl ?_
  exact L0
end
