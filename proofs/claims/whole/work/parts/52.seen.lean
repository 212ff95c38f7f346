/-! THE CLASS: what was seen -/
abbrev sp_is (σ : List sS) (g : sG) (S : sR) (p : Nat) : Prop := ∀ i, i < S.1 → S.2 0 i = nI p → sp_beh σ g p (S.2 1 i).toNatClampNeg = S.2 2 i
def okS (S : sR) : Prop := S.1 ≤ 5 ∧ ∀ i, i < S.1 → (∃ p, p < 12 ∧ S.2 0 i = nI p) ∧ ∃ t, t < 13 ∧ S.2 1 i = nI t
noncomputable def cI (p : Prop) : Int32 := @bI p (Classical.propDecidable p)
theorem cI_1 {p : Prop} (h : p) : cI p = 1 := if_pos h
theorem cI_0 {p : Prop} (h : ¬ p) : cI p = 0 := if_neg h
theorem cI_bI {p : Prop} [Decidable p] : cI p = bI p := by
  by_cases h : p
  · rw [cI_1 h, bI_1 h]
  · rw [cI_0 h, bI_0 h]
theorem so_max : ∀ L, L < 14 → ∀ t, t < 13 → sp_max (nI L - 1) (nI t) = nI (max L (t + 1)) - 1 := by decide +kernel
theorem so_lt : ∀ L, L < 14 → ∀ k, k < 14 → (nI L - 1 < nI k ↔ L ≤ k) := by decide +kernel
section
variable {d : Nat} {μ : mm_M} {σ : List sS} {g : sG} {c p : Nat} {S : sR}
set_option maxRecDepth 100000 in
theorem C38_1 (hS : okS S) (hr : rR 24 S μ) {Φ : Option Value → mm_M → Prop} (K : ∀ L, L < 14 → (∀ i, i < S.1 → S.2 0 i = nI p → (S.2 1 i).toNatClampNeg < L) → mm_ev la_C d 38 23 [some (.ref 57), some (.int (nI p)), some (.ref 24), some (.int (nI L - 1)), some (.int (nI S.1)), none, none, none] [] μ Φ) : ∀ m k L, k + m = S.1 → L < 14 → (∀ i, i < k → S.2 0 i = nI p → (S.2 1 i).toNatClampNeg < L) → mm_ev la_C d 38 4 [some (.ref 57), some (.int (nI p)), some (.ref 24), some (.int (nI L - 1)), some (.int (nI k)), none, none, none] [] μ Φ := by
  intro m
  have h5 := hS.1
  induction m with
  | zero =>
    intro k L hk hL hi
    have hk : k = S.1 := by omega
    subst hk
    refine mm_ev.run mm_y38 3 rfl ?_
    refine mm_ev.val hr.n ?_
    refine mm_ev.run mm_y38 1 rfl ?_
    refine mm_ev.pos (nI_le (Nat.le_refl _) (by omega)) ?_
    exact K L hL hi
  | succ m ih =>
    intro k L hk hL hi
    have ih := fun L => ih (k + 1) L (by omega)
    rw [nI_succ] at ih
    obtain ⟨_, t, ht, et⟩ := hS.2 k (by omega)
    refine mm_ev.run mm_y38 3 rfl ?_
    refine mm_ev.val hr.n ?_
    refine mm_ev.run mm_y38 1 rfl ?_
    refine mm_ev.neg (nI_ge (by omega) (by omega)) ?_
    refine mm_ev.run mm_y38 3 rfl ?_
    refine mm_ev.ild mm_y38 rfl rfl rfl rfl rfl (by omega) (by decide) (hr.fa (by omega)) ?_
    refine mm_ev.run mm_y38 2 rfl ?_
    refine mm_ev.ite (fun h => ?_) (fun h => ?_)
    · refine mm_ev.run mm_y38 4 rfl ?_
      refine mm_ev.ild mm_y38 rfl rfl rfl rfl rfl (by omega) (by decide) ((hr.fb (by omega)).trans et) ?_
      refine mm_ev.run mm_y38 1 rfl ?_
      refine mm_ev.val (so_max L hL t ht) ?_
      refine mm_ev.run mm_y38 3 rfl ?_
      refine ih (max L (t + 1)) (by omega) (fun i h1 h2 => ?_)
      by_cases e : i = k
      · subst e
        rw [et, nI_clamp (by omega)]
        omega
      · have := hi i (by omega) h2
        omega
    · refine mm_ev.run mm_y38 2 rfl ?_
      refine ih L hL (fun i h1 h2 => ?_)
      by_cases e : i = k
      · subst e
        exact absurd h2 h
      · exact hi i (by omega) h2
set_option maxRecDepth 100000 in
theorem C38_2 (hS : okS S) (hr : rR 24 S μ) {L k : Nat} (hk14 : k < 14) {fa : Nat → Int32} {Φ : Option Value → mm_M → Prop} (K0 : ∀ i, i < S.1 → S.2 0 i = nI p → (S.2 1 i).toNatClampNeg = k → ¬ S.2 2 i = sp_beh σ g p k → Φ (some (.int 0)) (mm_sI μ 64 fa)) (K : ∀ x7, (∀ i, i < S.1 → S.2 0 i = nI p → (S.2 1 i).toNatClampNeg = k → S.2 2 i = sp_beh σ g p k) → mm_ev la_C d 38 67 [some (.ref 57), some (.int (nI p)), some (.ref 24), some (.int (nI L - 1)), some (.int (sp_beh σ g p k)), some (.int (nI k)), some (.int (nI S.1)), x7] [] (mm_sI μ 64 fa) Φ) : ∀ m i x7, i + m = S.1 → (∀ i', i' < i → S.2 0 i' = nI p → (S.2 1 i').toNatClampNeg = k → S.2 2 i' = sp_beh σ g p k) → mm_ev la_C d 38 35 [some (.ref 57), some (.int (nI p)), some (.ref 24), some (.int (nI L - 1)), some (.int (sp_beh σ g p k)), some (.int (nI k)), some (.int (nI i)), x7] [] (mm_sI μ 64 fa) Φ := by
  intro m
  have h5 := hS.1
  induction m with
  | zero =>
    intro i x7 hi hh
    have hi : i = S.1 := by omega
    subst hi
    refine mm_ev.run mm_y38 3 rfl ?_
    refine mm_ev.val hr.n ?_
    refine mm_ev.run mm_y38 1 rfl ?_
    refine mm_ev.pos (nI_le (Nat.le_refl _) (by omega)) ?_
    exact K x7 hh
  | succ m ih =>
    intro i x7 hi hh
    have ih := fun x7 => ih (i + 1) x7 (by omega)
    rw [nI_succ] at ih
    obtain ⟨_, t, ht, et⟩ := hS.2 i (by omega)
    refine mm_ev.run mm_y38 3 rfl ?_
    refine mm_ev.val hr.n ?_
    refine mm_ev.run mm_y38 1 rfl ?_
    refine mm_ev.neg (nI_ge (by omega) (by omega)) ?_
    refine mm_ev.run mm_y38 3 rfl ?_
    refine mm_ev.ild mm_y38 rfl rfl rfl rfl rfl (by omega) (by decide) (hr.fa (by omega)) ?_
    refine mm_ev.run mm_y38 2 rfl ?_
    refine mm_ev.ite (fun h => ?_) (fun h => ?_)
    · refine mm_ev.run mm_y38 3 rfl ?_
      refine mm_ev.ild mm_y38 rfl rfl rfl rfl rfl (by omega) (by decide) ((hr.fb (by omega)).trans et) ?_
      refine mm_ev.run mm_y38 2 rfl ?_
      refine mm_ev.ite (fun h2 => ?_) (fun h2 => ?_)
      · have htk : t = k := (nI_eq (by omega) (by omega)).mp h2
        refine mm_ev.run mm_y38 5 rfl ?_
        refine mm_ev.neg (by decide) ?_
        refine mm_ev.run mm_y38 3 rfl ?_
        refine mm_ev.ild mm_y38 rfl rfl rfl rfl rfl (by omega) (by decide) (hr.fc (by omega)) ?_
        refine mm_ev.run mm_y38 2 rfl ?_
        refine mm_ev.ite (fun h3 => ?_) (fun h3 => ?_)
        · refine mm_ev.run mm_y38 2 rfl ?_
          refine ih _ (fun i' h4 h5' h6 => ?_)
          by_cases e : i' = i
          · subst e; exact h3
          · exact hh i' (by omega) h5' h6
        · refine mm_ev.run mm_y38 1 rfl ?_
          exact mm_ev.ret mm_y38 rfl rfl rfl (K0 i (by omega) h (by rw [et, nI_clamp (by omega)]; exact htk) h3)
      · refine mm_ev.run mm_y38 4 rfl ?_
        refine mm_ev.pos rfl ?_
        refine mm_ev.run mm_y38 2 rfl ?_
        refine ih _ (fun i' h4 h5' h6 => ?_)
        by_cases e : i' = i
        · subst e
          rw [et, nI_clamp (by omega)] at h6
          exact absurd (by rw [h6]) h2
        · exact hh i' (by omega) h5' h6
    · refine mm_ev.run mm_y38 4 rfl ?_
      refine mm_ev.pos rfl ?_
      refine mm_ev.run mm_y38 2 rfl ?_
      refine ih _ (fun i' h4 h5' h6 => ?_)
      by_cases e : i' = i
      · subst e
        exact absurd h5' h
      · exact hh i' (by omega) h5' h6
set_option maxRecDepth 100000 in
theorem C38_3 (hg : gC 57 σ g μ) (hS : okS S) (hr : rR 24 S μ) (hp : p < 12) {L : Nat} (hL : L < 14) (hLs : ∀ i, i < S.1 → S.2 0 i = nI p → (S.2 1 i).toNatClampNeg < L) : ∀ m k x6 x7 fa, k + m = 13 → (∀ i, i < S.1 → S.2 0 i = nI p → (S.2 1 i).toNatClampNeg < k → S.2 2 i = sp_beh σ g p (S.2 1 i).toNatClampNeg) → mm_ev la_C (d + 4) 38 30 [some (.ref 57), some (.int (nI p)), some (.ref 24), some (.int (nI L - 1)), some (.int (sp_beh σ g p k)), some (.int (nI k)), x6, x7] [] (mm_sI μ 64 fa) (fun v μ' => ∃ fa, v = some (.int (bI (sp_is σ g S p))) ∧ μ' = mm_sI μ 64 fa) := by
  intro m
  have fin : ∀ k x6 x7 fa, k < 14 → L ≤ k → (∀ i, i < S.1 → S.2 0 i = nI p → (S.2 1 i).toNatClampNeg < k → S.2 2 i = sp_beh σ g p (S.2 1 i).toNatClampNeg) → mm_ev la_C (d + 4) 38 30 [some (.ref 57), some (.int (nI p)), some (.ref 24), some (.int (nI L - 1)), some (.int (sp_beh σ g p k)), some (.int (nI k)), x6, x7] [] (mm_sI μ 64 fa) (fun v μ' => ∃ fa, v = some (.int (bI (sp_is σ g S p))) ∧ μ' = mm_sI μ 64 fa) := by
    intro k x6 x7 fa hk hLk hh
    rw [bI_1 (p := sp_is σ g S p) (fun i h1 h2 => (hh i h1 h2 (by have := hLs i h1 h2; omega)).symm)]
    refine mm_ev.run mm_y38 3 rfl ?_
    refine mm_ev.pos ((so_lt L hL k hk).mpr hLk) ?_
    refine mm_ev.run mm_y38 1 rfl ?_
    exact mm_ev.ret mm_y38 rfl rfl rfl ⟨fa, rfl, rfl⟩
  induction m with
  | zero =>
    intro k x6 x7 fa hk hh
    exact fin k x6 x7 fa (by omega) (by omega) hh
  | succ m ih =>
    intro k x6 x7 fa hk hh
    by_cases hLk : L ≤ k
    · exact fin k x6 x7 fa (by omega) hLk hh
    · have ih := fun x6 x7 fa => ih (k + 1) x6 x7 fa (by omega)
      rw [nI_succ] at ih
      have K33 := C33 (d := d) (Or.inr rfl) (hg.fa (Or.inr rfl) fa) hp (sp_beh σ g p k) (nI k)
      refine mm_ev.run mm_y38 3 rfl ?_
      refine mm_ev.neg (fun z => hLk ((so_lt L hL k (by omega)).mp z)) ?_
      refine mm_ev.run mm_y38 2 rfl ?_
      refine C38_2 hS hr (L := L) (k := k) (by omega) ?_ ?_ S.1 0 x7 (by omega) (fun i' h => absurd h (by omega))
      · intro i h1 h2 h3 h4
        refine ⟨fa, ?_, rfl⟩
        rw [bI_0 (p := sp_is σ g S p) (fun z => h4 (by have := z i h1 h2; rw [h3] at this; exact this.symm))]
      · intro x7 hall
        refine mm_ev.run mm_y38 4 rfl ?_
        refine mm_ev.call mm_y38 rfl rfl rfl rfl rfl K33 (fun v1 μ1 hq => ?_)
        obtain ⟨fa2, rfl, rfl⟩ := hq
        refine mm_ev.eq mm_sI_sI ?_
        refine mm_ev.run mm_y38 3 rfl ?_
        refine ih _ _ fa2 (fun i h1 h2 h3 => ?_)
        by_cases e : (S.2 1 i).toNatClampNeg = k
        · rw [e]; exact hall i h1 h2 e
        · exact hh i h1 h2 (by omega)
set_option maxRecDepth 100000 in
theorem C38 (hg : gC 57 σ g μ) (hS : okS S) (hr : rR 24 S μ) (hp : p < 12) : mm_call la_C (d + 4) 38 [.ref 57, .int (nI p), .ref 24] μ (fun v μ' => ∃ fa, v = some (.int (bI (sp_is σ g S p))) ∧ μ' = mm_sI μ 64 fa) := by
  refine mm_call.of mm_t38 ?_
  refine mm_ev.run mm_y38 4 rfl ?_
  refine C38_1 hS hr ?_ S.1 0 0 (by omega) (by omega) (fun i h => absurd h (by omega))
  intro L hL hLs
  refine mm_ev.run mm_y38 3 rfl ?_
  refine mm_ev.ild mm_y38 rfl rfl rfl rfl rfl (by omega) (by decide) (hg.1.need hp) ?_
  refine mm_ev.run mm_y38 3 rfl ?_
  have k := C38_3 (d := d) hg hS hr hp hL hLs 13 0 none none (μ.1 64) (by omega) (fun i h1 h2 h3 => absurd h3 (by omega))
  rw [mm_sI_self] at k
  exact k
set_option maxRecDepth 100000 in
theorem C37_l (hg : gC 57 σ g μ) (hS : okS S) (hr : rR 24 S μ) (x : Int32) : ∀ m k fa, k + m = 12 → (∀ p, p < k → nI p ≠ x → sp_is σ g S p) → mm_ev la_C (d + 5) 37 2 [some (.ref 57), some (.int x), some (.ref 24), some (.int (nI k))] [] (mm_sI μ 64 fa) (fun v μ' => ∃ fa, v = some (.int (cI (∀ p, p < 12 → nI p ≠ x → sp_is σ g S p))) ∧ μ' = mm_sI μ 64 fa) := by
  intro m
  induction m with
  | zero =>
    intro k fa hk hh
    have hk : k = 12 := by omega
    subst hk
    rw [cI_1 hh]
    refine mm_ev.run mm_y37 3 rfl ?_
    refine mm_ev.pos (by decide) ?_
    refine mm_ev.run mm_y37 1 rfl ?_
    exact mm_ev.ret mm_y37 rfl rfl rfl ⟨fa, rfl, rfl⟩
  | succ m ih =>
    intro k fa hk hh
    have ih := fun fa => ih (k + 1) fa (by omega)
    rw [nI_succ] at ih
    refine mm_ev.run mm_y37 3 rfl ?_
    refine mm_ev.neg (nI_ge (b := 12) (by omega) (by decide)) ?_
    refine mm_ev.run mm_y37 3 rfl ?_
    refine mm_ev.ite (fun h => ?_) (fun h => ?_)
    · refine mm_ev.run mm_y37 2 rfl ?_
      refine ih fa (fun p h1 h2 => ?_)
      by_cases e : p = k
      · subst e; exact absurd h h2
      · exact hh p (by omega) h2
    · refine mm_ev.run mm_y37 3 rfl ?_
      refine mm_ev.call mm_y37 rfl rfl rfl rfl rfl (C38 (d := d) (hg.fa (Or.inr rfl) fa) hS (hr.fr (mf.rf.sI (P := fun c => c = 64) rfl) (fun c hc => by omega)) (p := k) (by omega)) (fun v1 μ1 hq => ?_)
      obtain ⟨fa2, rfl, rfl⟩ := hq
      refine mm_ev.eq mm_sI_sI ?_
      refine mm_ev.run mm_y37 1 rfl ?_
      refine mm_ev.ifb (fun h2 => ?_) (fun h2 => ?_)
      · rw [cI_0 (p := ∀ p, p < 12 → nI p ≠ x → sp_is σ g S p) (fun z => h2 (z k (by omega) h))]
        refine mm_ev.run mm_y37 1 rfl ?_
        exact mm_ev.ret mm_y37 rfl rfl rfl ⟨fa2, rfl, rfl⟩
      · refine mm_ev.run mm_y37 2 rfl ?_
        refine ih fa2 (fun p h1 h3 => ?_)
        by_cases e : p = k
        · subst e; exact h2
        · exact hh p (by omega) h3
set_option maxRecDepth 100000 in
theorem C37 (hg : gC 57 σ g μ) (hS : okS S) (hr : rR 24 S μ) (x : Int32) : mm_call la_C (d + 5) 37 [.ref 57, .int x, .ref 24] μ (fun v μ' => ∃ fa, v = some (.int (cI (∀ p, p < 12 → nI p ≠ x → sp_is σ g S p))) ∧ μ' = mm_sI μ 64 fa) := by
  have k := C37_l (d := d) hg hS hr x 12 0 (μ.1 64) (by omega) (fun p h => absurd h (by omega))
  rw [mm_sI_self] at k
  refine mm_call.of mm_t37 ?_
  refine mm_ev.run mm_y37 2 rfl ?_
  exact k
end
