/-! THE CLASS'S GLOBE: what is only read -/
theorem sI_acc {x y z : Int32} : x - y - z = x - (y + z) := by
  apply Int32.toBitVec_inj.mp
  simp only [Int32.toBitVec_sub, Int32.toBitVec_add]
  exact BitVec.sub_sub _ _ _
theorem sp_on_s (g : sG) (x : Int32) (k : Nat) : sp_on g x (k + 1) = if g.2.2.2 3 k = x then sp_on g x k + 1 else sp_on g x k := rfl
theorem sp_sees_s (σ : List sS) (g : sG) (p : Nat) (needs later an : Int32) (k : Nat) : sp_sees σ g p needs later an (k + 1) = if g.2.2.2 3 k = nI p then sp_sees σ g p needs later an k + sp_max 0 (sp_care σ g k p needs later an) else sp_sees σ g p needs later an k := rfl
theorem sp_wel_s (σ : List sS) (g : sG) (h k : Nat) : sp_wel σ g h (k + 1) = if sp_beh σ g k h = 0 then sp_wel σ g h k + 1 else sp_wel σ g h k := rfl
section
variable {d : Nat} {μ : mm_M} {b : Nat} {σ : List sS} {g : sG} {c p : Nat}
set_option maxRecDepth 100000 in
theorem C34 (hb : b = 16 ∨ b = 57) (hg : gC b σ g μ) : mm_call la_C d 34 [.ref b] μ (fun v μ' => v = some (.int (sp_grow σ g.2.2.1)) ∧ μ' = μ) := by
  obtain ⟨h1, h2, h6, h4⟩ := hg
  have hsch := h1.sch
  cases hs : g.2.2.1 with
  | none =>
    rw [hs] at hsch
    have hn : va_rf (μ.2.2 b 2) = .null := by rw [hsch]; rfl
    rcases hb with rfl | rfl
    all_goals
      refine mm_call.of mm_t34 ?_
      refine mm_ev.run mm_y34 2 rfl ?_
      refine mm_ev.vav hn ?_
      refine mm_ev.run mm_y34 1 rfl ?_
      refine mm_ev.run mm_y34 2 rfl ?_
      exact mm_ev.ret mm_y34 rfl rfl rfl ⟨rfl, rfl⟩
  | some j =>
    rw [hs] at hsch
    have hj := h4 j hs
    have hss := h2.2.2 j hj
    have hj6 : j < 6 := Nat.lt_of_lt_of_le hj h2.2.1
    have hn : va_rf (μ.2.2 b 2) = .ref (74 + 4 * j) := by rw [hsch]; rfl
    have hz := hss.1
    have hq : 74 + 4 * j = 74 ∨ 74 + 4 * j = 78 ∨ 74 + 4 * j = 82 ∨ 74 + 4 * j = 86 ∨ 74 + 4 * j = 90 ∨ 74 + 4 * j = 94 := by omega
    generalize 74 + 4 * j = q at hn hz hq
    rcases hb with rfl | rfl
    all_goals
      rcases hq with rfl | rfl | rfl | rfl | rfl | rfl
      all_goals
        refine mm_call.of mm_t34 ?_
        refine mm_ev.run mm_y34 2 rfl ?_
        refine mm_ev.vav hn ?_
        refine mm_ev.run mm_y34 1 rfl ?_
        refine mm_ev.run mm_y34 2 rfl ?_
        refine mm_ev.vav hn ?_
        refine mm_ev.run mm_y34 1 rfl ?_
        refine mm_ev.val hz ?_
        exact mm_ev.ret mm_y34 rfl rfl rfl ⟨rfl, rfl⟩
set_option maxRecDepth 100000 in
theorem C35_l (hb : b = 16 ∨ b = 57) (hg : sG_c b g μ) (h6 : g.1 ≤ 6) (x : Int32) : ∀ m k, k + m = g.1 → mm_ev la_C d 35 4 [some (.ref b), some (.int x), some (.int (nI (sp_on g x k))), some (.int (nI k))] [] μ (fun v μ' => v = some (.int (nI (sp_on g x g.1))) ∧ μ' = μ) := by
  intro m
  induction m with
  | zero =>
    intro k hk
    have hk : k = g.1 := by omega
    subst hk
    rcases hb with rfl | rfl
    all_goals
      refine mm_ev.run mm_y35 3 rfl ?_
      refine mm_ev.val hg.n ?_
      refine mm_ev.run mm_y35 1 rfl ?_
      refine mm_ev.pos (nI_le (Nat.le_refl _) (by omega)) ?_
      refine mm_ev.run mm_y35 1 rfl ?_
      exact mm_ev.ret mm_y35 rfl rfl rfl ⟨rfl, rfl⟩
  | succ m ih =>
    intro k hk
    have ih := ih (k + 1) (by omega)
    rw [sp_on_s _ _ k] at ih
    rcases hb with rfl | rfl
    all_goals
      refine mm_ev.run mm_y35 3 rfl ?_
      refine mm_ev.val hg.n ?_
      refine mm_ev.run mm_y35 1 rfl ?_
      refine mm_ev.neg (nI_ge (by omega) (by omega)) ?_
      refine mm_ev.run mm_y35 3 rfl ?_
      refine mm_ev.ild mm_y35 rfl rfl rfl rfl rfl (by omega) (by decide) (hg.fin (by omega)) ?_
      refine mm_ev.run mm_y35 2 rfl ?_
      refine mm_ev.ite (fun h => ?_) (fun h => ?_)
      · rw [if_pos h] at ih
        refine mm_ev.run mm_y35 3 rfl ?_
        rw [nI_succ, nI_succ] at ih
        exact ih
      · rw [if_neg h] at ih
        refine mm_ev.run mm_y35 2 rfl ?_
        rw [nI_succ] at ih
        exact ih
set_option maxRecDepth 100000 in
theorem C35 (hb : b = 16 ∨ b = 57) (hg : sG_c b g μ) (h6 : g.1 ≤ 6) (x : Int32) : mm_call la_C d 35 [.ref b, .int x] μ (fun v μ' => v = some (.int (nI (sp_on g x g.1))) ∧ μ' = μ) := by
  refine mm_call.of mm_t35 ?_
  refine mm_ev.run mm_y35 4 rfl ?_
  exact C35_l hb hg h6 x g.1 0 (by omega)
set_option maxRecDepth 100000 in
theorem C28_l (hb : b = 16 ∨ b = 57) (hg : sG_c b g μ) (h6 : g.1 ≤ 6) (hc : c < g.1) (x : Int32) : ∀ m k, k + m = g.1 → (∀ q, q < k → ¬ (q ≠ c ∧ g.2.2.2 3 q = x)) → mm_ev la_C d 28 2 [some (.ref b), some (.int (nI c)), some (.int x), some (.int (nI k))] [] μ (fun v μ' => v = some (.int (bI (sp_met g c x))) ∧ μ' = μ) := by
  intro m
  induction m with
  | zero =>
    intro k hk hq
    have hk : k = g.1 := by omega
    rw [bI_0 (p := sp_met g c x) (fun ⟨q, h1, h2⟩ => hq q (by omega) h2)]
    subst hk
    rcases hb with rfl | rfl
    all_goals
      refine mm_ev.run mm_y28 3 rfl ?_
      refine mm_ev.val hg.n ?_
      refine mm_ev.run mm_y28 1 rfl ?_
      refine mm_ev.pos (nI_le (Nat.le_refl _) (by omega)) ?_
      refine mm_ev.run mm_y28 1 rfl ?_
      exact mm_ev.ret mm_y28 rfl rfl rfl ⟨rfl, rfl⟩
  | succ m ih =>
    intro k hk hq
    have ih := fun z => ih (k + 1) (by omega) z
    rw [nI_succ] at ih
    rcases hb with rfl | rfl
    all_goals
      refine mm_ev.run mm_y28 3 rfl ?_
      refine mm_ev.val hg.n ?_
      refine mm_ev.run mm_y28 1 rfl ?_
      refine mm_ev.neg (nI_ge (by omega) (by omega)) ?_
      refine mm_ev.run mm_y28 3 rfl ?_
      refine mm_ev.ite (fun h => ?_) (fun h => ?_)
      · refine mm_ev.run mm_y28 2 rfl ?_
        refine ih (fun q h1 h2 => ?_)
        by_cases hqk : q = k
        · exact h2.1 (by rw [hqk]; exact (nI_eq (by omega) (by omega)).mp h)
        · exact hq q (by omega) h2
      · refine mm_ev.run mm_y28 3 rfl ?_
        refine mm_ev.ild mm_y28 rfl rfl rfl rfl rfl (by omega) (by decide) (hg.fin (by omega)) ?_
        refine mm_ev.run mm_y28 2 rfl ?_
        refine mm_ev.ite (fun h2 => ?_) (fun h2 => ?_)
        · rw [bI_1 (p := sp_met g c x) ⟨k, by omega, fun z => h (by rw [z]), h2⟩]
          refine mm_ev.run mm_y28 1 rfl ?_
          exact mm_ev.ret mm_y28 rfl rfl rfl ⟨rfl, rfl⟩
        · refine mm_ev.run mm_y28 2 rfl ?_
          refine ih (fun q h3 h4 => ?_)
          by_cases hqk : q = k
          · exact h2 (by rw [← hqk]; exact h4.2)
          · exact hq q (by omega) h4
set_option maxRecDepth 100000 in
theorem C28 (hb : b = 16 ∨ b = 57) (hg : sG_c b g μ) (h6 : g.1 ≤ 6) (hc : c < g.1) (x : Int32) : mm_call la_C d 28 [.ref b, .int (nI c), .int x] μ (fun v μ' => v = some (.int (bI (sp_met g c x))) ∧ μ' = μ) := by
  refine mm_call.of mm_t28 ?_
  refine mm_ev.run mm_y28 2 rfl ?_
  exact C28_l hb hg h6 hc x g.1 0 (by omega) (fun q h => absurd h (by omega))
set_option maxRecDepth 100000 in
theorem C29 (hb : b = 16 ∨ b = 57) (hg : gC b σ g μ) (hc : c < g.1) (hp : p < 12) (an : Int32) : mm_call la_C (d + 3) 29 [.ref b, .int (nI c), .int (nI p), .int an] μ (fun v μ' => ∃ fa, v = some (.int (sp_care σ g c p (g.2.2.2 0 p) 0 an)) ∧ μ' = mm_sI μ (b + 7) fa) := by
  have k := C30 (d := d) hb hg hc hp (g.2.2.2 0 p) 0 an
  rcases hb with rfl | rfl
  all_goals
    refine mm_call.of mm_t29 ?_
    refine mm_ev.run mm_y29 6 rfl ?_
    refine mm_ev.ild mm_y29 rfl rfl rfl rfl rfl (by omega) (by decide) (hg.1.need hp) ?_
    refine mm_ev.run mm_y29 2 rfl ?_
    refine mm_ev.call mm_y29 rfl rfl rfl rfl rfl k (fun v1 μ1 hq => ?_)
    obtain ⟨fa, rfl, rfl⟩ := hq
    exact mm_ev.ret mm_y29 rfl rfl rfl ⟨fa, rfl, rfl⟩
set_option maxRecDepth 100000 in
theorem C33_l (hb : b = 16 ∨ b = 57) (hg : gC b σ g μ) (hp : p < 12) (needs later an z : Int32) : ∀ m k fa, k + m = g.1 → mm_ev la_C (d + 3) 33 16 [some (.ref b), some (.int (nI p)), some (.int needs), some (.int later), some (.int (z - sp_sees σ g p needs later an k)), some (.int an), some (.int (nI k))] [] (mm_sI μ (b + 7) fa) (fun v μ' => ∃ fa, v = some (.int (sp_clp (z - sp_sees σ g p needs later an g.1))) ∧ μ' = mm_sI μ (b + 7) fa) := by
  intro m
  have h6 := hg.2.2.1
  induction m with
  | zero =>
    intro k fa hk
    have hk : k = g.1 := by omega
    subst hk
    rcases hb with rfl | rfl
    all_goals
      refine mm_ev.run mm_y33 3 rfl ?_
      refine mm_ev.val hg.1.n ?_
      refine mm_ev.run mm_y33 1 rfl ?_
      refine mm_ev.pos (nI_le (Nat.le_refl _) (by omega)) ?_
      refine mm_ev.run mm_y33 5 rfl ?_
      exact mm_ev.ret mm_y33 rfl rfl rfl ⟨fa, rfl, rfl⟩
  | succ m ih =>
    intro k fa hk
    have ih := fun fa => ih (k + 1) fa (by omega)
    rw [nI_succ, sp_sees_s _ _ _ _ _ _ k] at ih
    have K := C30 (d := d) hb (hg.fa hb fa) (show k < g.1 by omega) hp needs later an
    rcases hb with rfl | rfl
    all_goals
      refine mm_ev.run mm_y33 3 rfl ?_
      refine mm_ev.val hg.1.n ?_
      refine mm_ev.run mm_y33 1 rfl ?_
      refine mm_ev.neg (nI_ge (by omega) (by omega)) ?_
      refine mm_ev.run mm_y33 3 rfl ?_
      refine mm_ev.ild mm_y33 rfl rfl rfl rfl rfl (by omega) (by decide) (hg.1.fin (by omega)) ?_
      refine mm_ev.run mm_y33 2 rfl ?_
      refine mm_ev.ite (fun h => ?_) (fun h => ?_)
      · rw [if_pos h, ← sI_acc] at ih
        refine mm_ev.run mm_y33 8 rfl ?_
        refine mm_ev.call mm_y33 rfl rfl rfl rfl rfl K (fun v1 μ1 hq => ?_)
        obtain ⟨fa2, rfl, rfl⟩ := hq
        refine mm_ev.eq mm_sI_sI ?_
        refine mm_ev.run mm_y33 5 rfl ?_
        exact ih fa2
      · rw [if_neg h] at ih
        refine mm_ev.run mm_y33 2 rfl ?_
        exact ih fa
set_option maxRecDepth 100000 in
theorem C33 (hb : b = 16 ∨ b = 57) (hg : gC b σ g μ) (hp : p < 12) (needs later : Int32) : mm_call la_C (d + 3) 33 [.ref b, .int (nI p), .int needs, .int later] μ (fun v μ' => ∃ fa, v = some (.int (sp_next σ g p needs later)) ∧ μ' = mm_sI μ (b + 7) fa) := by
  have h6 := hg.2.2.1
  have hon : ∀ k, sp_on g (nI p) k ≤ k := by
    intro k
    induction k with
    | zero => exact Nat.le_refl _
    | succ k ih => unfold sp_on; split <;> omega
  have hon1 := hon g.1
  have k := fun an => C33_l (d := d) hb hg hp needs later an (needs + sp_grow σ g.2.2.1) g.1 0 (μ.1 (b + 7)) (by omega)
  unfold sp_next
  have e0 : ∀ an, needs + sp_grow σ g.2.2.1 - sp_sees σ g p needs later an 0 = needs + sp_grow σ g.2.2.1 := fun an => Int32.sub_zero _
  rw [mm_sI_self] at k
  have k1 := k 1
  have k0 := k 0
  rw [e0] at k1 k0
  have c34 := C34 (d := d + 2) hb hg
  have c35 := C35 (d := d + 2) hb hg.1 h6 (nI p)
  rcases hb with rfl | rfl
  all_goals
    refine mm_call.of mm_t33 ?_
    refine mm_ev.run mm_y33 2 rfl ?_
    refine mm_ev.call mm_y33 rfl rfl rfl rfl rfl c34 (fun v1 μ1 hq => ?_)
    obtain ⟨rfl, rfl⟩ := hq
    refine mm_ev.run mm_y33 4 rfl ?_
    refine mm_ev.call mm_y33 rfl rfl rfl rfl rfl c35 (fun v1 μ1 hq => ?_)
    obtain ⟨rfl, rfl⟩ := hq
    refine mm_ev.run mm_y33 2 rfl ?_
    refine mm_ev.ite (fun h => ?_) (fun h => ?_)
    · rw [bI_0 (p := 1 < sp_on g (nI p) g.1) (fun z => absurd h (nI_ge (a := 1) z (by omega)))]
      refine mm_ev.run mm_y33 4 rfl ?_
      exact k0
    · rw [bI_1 (p := 1 < sp_on g (nI p) g.1) (by
        by_cases hz : sp_on g (nI p) g.1 ≤ 1
        · exact absurd (nI_le (b := 1) hz (by decide)) h
        · omega)]
      refine mm_ev.run mm_y33 5 rfl ?_
      exact k1
set_option maxRecDepth 100000 in
theorem C42_l (hb : b = 16 ∨ b = 57) (hg : gC b σ g μ) (hp : p < 12) {h : Nat} (hh : h < 2 ^ 31) : ∀ m k fa, k + m = h → mm_ev la_C (d + 4) 42 7 [some (.ref b), some (.int (nI p)), some (.int (nI h)), some (.int (sp_beh σ g p k)), some (.int (nI k))] [] (mm_sI μ (b + 7) fa) (fun v μ' => ∃ fa, v = some (.int (sp_beh σ g p h)) ∧ μ' = mm_sI μ (b + 7) fa) := by
  intro m
  induction m with
  | zero =>
    intro k fa hk
    have hk : k = h := by omega
    subst hk
    rcases hb with rfl | rfl
    all_goals
      refine mm_ev.run mm_y42 3 rfl ?_
      refine mm_ev.pos (nI_le (Nat.le_refl _) (by omega)) ?_
      refine mm_ev.run mm_y42 1 rfl ?_
      exact mm_ev.ret mm_y42 rfl rfl rfl ⟨fa, rfl, rfl⟩
  | succ m ih =>
    intro k fa hk
    have ih := fun fa => ih (k + 1) fa (by omega)
    rw [nI_succ] at ih
    have K := C33 (d := d) hb (hg.fa hb fa) hp (sp_beh σ g p k) (nI k)
    rcases hb with rfl | rfl
    all_goals
      refine mm_ev.run mm_y42 3 rfl ?_
      refine mm_ev.neg (nI_ge (by omega) (by omega)) ?_
      refine mm_ev.run mm_y42 4 rfl ?_
      refine mm_ev.call mm_y42 rfl rfl rfl rfl rfl K (fun v1 μ1 hq => ?_)
      obtain ⟨fa2, rfl, rfl⟩ := hq
      refine mm_ev.eq mm_sI_sI ?_
      refine mm_ev.run mm_y42 3 rfl ?_
      exact ih fa2
set_option maxRecDepth 100000 in
theorem C42 (hb : b = 16 ∨ b = 57) (hg : gC b σ g μ) (hp : p < 12) {h : Nat} (hh : h < 2 ^ 31) : mm_call la_C (d + 4) 42 [.ref b, .int (nI p), .int (nI h)] μ (fun v μ' => ∃ fa, v = some (.int (sp_beh σ g p h)) ∧ μ' = mm_sI μ (b + 7) fa) := by
  have k := C42_l (d := d) hb hg hp hh h 0 (μ.1 (b + 7)) (by omega)
  rw [mm_sI_self] at k
  rcases hb with rfl | rfl
  all_goals
    refine mm_call.of mm_t42 ?_
    refine mm_ev.run mm_y42 3 rfl ?_
    refine mm_ev.ild mm_y42 rfl rfl rfl rfl rfl (by omega) (by decide) (hg.1.need hp) ?_
    refine mm_ev.run mm_y42 3 rfl ?_
    exact k
set_option maxRecDepth 100000 in
theorem C41_l (hb : b = 16 ∨ b = 57) (hg : gC b σ g μ) {h : Nat} (hh : h < 2 ^ 31) : ∀ m k fa, k + m = 12 → mm_ev la_C (d + 5) 41 4 [some (.ref b), some (.int (nI h)), some (.int (sp_fold (fun p => sp_beh σ g p h) k)), some (.int (nI k))] [] (mm_sI μ (b + 7) fa) (fun v μ' => ∃ fa, v = some (.int (sp_all σ g h)) ∧ μ' = mm_sI μ (b + 7) fa) := by
  intro m
  induction m with
  | zero =>
    intro k fa hk
    have hk : k = 12 := by omega
    subst hk
    rcases hb with rfl | rfl
    all_goals
      refine mm_ev.run mm_y41 3 rfl ?_
      refine mm_ev.pos (by decide) ?_
      refine mm_ev.run mm_y41 1 rfl ?_
      exact mm_ev.ret mm_y41 rfl rfl rfl ⟨fa, rfl, rfl⟩
  | succ m ih =>
    intro k fa hk
    have ih := fun fa => ih (k + 1) fa (by omega)
    rw [nI_succ] at ih
    have K := C42 (d := d) (p := k) hb (hg.fa hb fa) (by omega) hh
    rcases hb with rfl | rfl
    all_goals
      refine mm_ev.run mm_y41 3 rfl ?_
      refine mm_ev.neg (nI_ge (b := 12) (by omega) (by decide)) ?_
      refine mm_ev.run mm_y41 4 rfl ?_
      refine mm_ev.call mm_y41 rfl rfl rfl rfl rfl K (fun v1 μ1 hq => ?_)
      obtain ⟨fa2, rfl, rfl⟩ := hq
      refine mm_ev.eq mm_sI_sI ?_
      refine mm_ev.run mm_y41 4 rfl ?_
      exact ih fa2
set_option maxRecDepth 100000 in
theorem C41 (hb : b = 16 ∨ b = 57) (hg : gC b σ g μ) {h : Nat} (hh : h < 2 ^ 31) : mm_call la_C (d + 5) 41 [.ref b, .int (nI h)] μ (fun v μ' => ∃ fa, v = some (.int (sp_all σ g h)) ∧ μ' = mm_sI μ (b + 7) fa) := by
  have k := C41_l (d := d) hb hg hh 12 0 (μ.1 (b + 7)) (by omega)
  rw [mm_sI_self] at k
  refine mm_call.of mm_t41 ?_
  refine mm_ev.run mm_y41 4 rfl ?_
  exact k
set_option maxRecDepth 100000 in
theorem C43_l (hb : b = 16 ∨ b = 57) (hg : gC b σ g μ) {h : Nat} (hh : h < 2 ^ 31) : ∀ m k fa, k + m = 12 → mm_ev la_C (d + 5) 43 4 [some (.ref b), some (.int (nI h)), some (.int (sp_wel σ g h k)), some (.int (nI k))] [] (mm_sI μ (b + 7) fa) (fun v μ' => ∃ fa, v = some (.int (sp_wel σ g h 12)) ∧ μ' = mm_sI μ (b + 7) fa) := by
  intro m
  induction m with
  | zero =>
    intro k fa hk
    have hk : k = 12 := by omega
    subst hk
    rcases hb with rfl | rfl
    all_goals
      refine mm_ev.run mm_y43 3 rfl ?_
      refine mm_ev.pos (by decide) ?_
      refine mm_ev.run mm_y43 1 rfl ?_
      exact mm_ev.ret mm_y43 rfl rfl rfl ⟨fa, rfl, rfl⟩
  | succ m ih =>
    intro k fa hk
    have ih := fun fa => ih (k + 1) fa (by omega)
    rw [nI_succ] at ih
    have K := C42 (d := d) (p := k) hb (hg.fa hb fa) (by omega) hh
    rcases hb with rfl | rfl
    all_goals
      refine mm_ev.run mm_y43 3 rfl ?_
      refine mm_ev.neg (nI_ge (b := 12) (by omega) (by decide)) ?_
      refine mm_ev.run mm_y43 3 rfl ?_
      refine mm_ev.call mm_y43 rfl rfl rfl rfl rfl K (fun v1 μ1 hq => ?_)
      obtain ⟨fa2, rfl, rfl⟩ := hq
      refine mm_ev.eq mm_sI_sI ?_
      rw [sp_wel_s _ _ _ k] at ih
      refine mm_ev.run mm_y43 1 rfl ?_
      refine mm_ev.ite (fun h => ?_) (fun h => ?_)
      · rw [if_pos h] at ih
        refine mm_ev.run mm_y43 3 rfl ?_
        exact ih fa2
      · rw [if_neg h] at ih
        refine mm_ev.run mm_y43 2 rfl ?_
        exact ih fa2
set_option maxRecDepth 100000 in
theorem C43 (hb : b = 16 ∨ b = 57) (hg : gC b σ g μ) {h : Nat} (hh : h < 2 ^ 31) : mm_call la_C (d + 5) 43 [.ref b, .int (nI h)] μ (fun v μ' => ∃ fa, v = some (.int (sp_wel σ g h 12)) ∧ μ' = mm_sI μ (b + 7) fa) := by
  have k := C43_l (d := d) hb hg hh 12 0 (μ.1 (b + 7)) (by omega)
  rw [mm_sI_self] at k
  refine mm_call.of mm_t43 ?_
  refine mm_ev.run mm_y43 4 rfl ?_
  exact k
set_option maxRecDepth 100000 in
theorem C32_l (hb : b = 16 ∨ b = 57) (hg : gC b σ g μ) (hp : p < 12) : ∀ m k fa, k + m = 61 → mm_ev la_C (d + 4) 32 7 [some (.ref b), some (.int (nI p)), some (.int (sp_beh σ g p k)), some (.int (nI k))] [] (mm_sI μ (b + 7) fa) (fun v μ' => ∃ fa, v = some (.int (sp_huw σ g p m k)) ∧ μ' = mm_sI μ (b + 7) fa) := by
  intro m
  induction m with
  | zero =>
    intro k fa hk
    have hk : k = 61 := by omega
    subst hk
    rcases hb with rfl | rfl
    all_goals
      refine mm_ev.run mm_y32 3 rfl ?_
      refine mm_ev.pos (by decide) ?_
      refine mm_ev.run mm_y32 1 rfl ?_
      exact mm_ev.ret mm_y32 rfl rfl rfl ⟨fa, rfl, rfl⟩
  | succ m ih =>
    intro k fa hk
    have ih := fun fa => ih (k + 1) fa (by omega)
    rw [nI_succ] at ih
    have K := C33 (d := d) hb (hg.fa hb fa) hp (sp_beh σ g p k) (nI k)
    unfold sp_huw
    rcases hb with rfl | rfl
    all_goals
      refine mm_ev.run mm_y32 3 rfl ?_
      refine mm_ev.neg (nI_nlt (a := 60) (by omega) (by omega)) ?_
      refine mm_ev.run mm_y32 2 rfl ?_
      refine mm_ev.ite (fun h => ?_) (fun h => ?_)
      · rw [if_pos h]
        refine mm_ev.run mm_y32 1 rfl ?_
        exact mm_ev.ret mm_y32 rfl rfl rfl ⟨fa, rfl, rfl⟩
      · rw [if_neg h]
        refine mm_ev.run mm_y32 4 rfl ?_
        refine mm_ev.call mm_y32 rfl rfl rfl rfl rfl K (fun v1 μ1 hq => ?_)
        obtain ⟨fa2, rfl, rfl⟩ := hq
        refine mm_ev.eq mm_sI_sI ?_
        refine mm_ev.run mm_y32 3 rfl ?_
        exact ih fa2
set_option maxRecDepth 100000 in
theorem C32 (hb : b = 16 ∨ b = 57) (hg : gC b σ g μ) (hp : p < 12) : mm_call la_C (d + 4) 32 [.ref b, .int (nI p)] μ (fun v μ' => ∃ fa, v = some (.int (sp_huw σ g p 61 0)) ∧ μ' = mm_sI μ (b + 7) fa) := by
  have k := C32_l (d := d) hb hg hp 61 0 (μ.1 (b + 7)) (by omega)
  rw [mm_sI_self] at k
  rcases hb with rfl | rfl
  all_goals
    refine mm_call.of mm_t32 ?_
    refine mm_ev.run mm_y32 3 rfl ?_
    refine mm_ev.ild mm_y32 rfl rfl rfl rfl rfl (by omega) (by decide) (hg.1.need hp) ?_
    refine mm_ev.run mm_y32 3 rfl ?_
    exact k
end
