/-! THE CLASS'S GLOBE: what is written -/
/-- all cells but those of P are as they were -/
def mf (P : Nat → Prop) (μ μ' : mm_M) : Prop := ∀ c, ¬ P c → μ'.1 c = μ.1 c ∧ μ'.2.1 c = μ.2.1 c ∧ μ'.2.2 c = μ.2.2 c
section
variable {P Q : Nat → Prop} {μ μ1 μ2 : mm_M}
theorem mf.rf : mf P μ μ := fun _ _ => ⟨rfl, rfl, rfl⟩
theorem mf.tr (h : mf P μ μ1) (h2 : mf P μ1 μ2) : mf P μ μ2 := fun c hc => ⟨(h2 c hc).1.trans (h c hc).1, (h2 c hc).2.1.trans (h c hc).2.1, (h2 c hc).2.2.trans (h c hc).2.2⟩
theorem mf.mono (h : mf P μ μ1) (hq : ∀ c, P c → Q c) : mf Q μ μ1 := fun c hc => h c (fun z => hc (hq c z))
theorem mf.sI {q : Nat} {f : Nat → Int32} (h : mf P μ μ1) (hq : P q) : mf P μ (mm_sI μ1 q f) := fun c hc => ⟨(sI_ne (fun z => hc (by rw [z]; exact hq))).trans (h c hc).1, (h c hc).2.1, (h c hc).2.2⟩
theorem mf.sJ {q : Nat} {f : Nat → Int64} (h : mf P μ μ1) (hq : P q) : mf P μ (mm_sJ μ1 q f) := fun c hc => ⟨(h c hc).1, (show (if c = q then f else μ1.2.1 c) = _ from (if_neg (fun z => hc (by rw [z]; exact hq))).trans (h c hc).2.1), (h c hc).2.2⟩
theorem mf.sR {q : Nat} {f : Nat → Option Nat} (h : mf P μ μ1) (hq : P q) : mf P μ (mm_sR μ1 q f) := fun c hc => ⟨(h c hc).1, (h c hc).2.1, (show (if c = q then f else μ1.2.2 c) = _ from (if_neg (fun z => hc (by rw [z]; exact hq))).trans (h c hc).2.2)⟩
end
/-- the first k are new -/
def pt (f h : Nat → Int32) (k : Nat) : Nat → Int32 := fun j => if j < k then h j else f j
section
variable {f h : Nat → Int32} {k : Nat}
theorem pt_0 : pt f h 0 = f := by funext j; simp [pt]
theorem pt_at : pt f h k k = f k := if_neg (Nat.lt_irrefl _)
theorem pt_lt {j : Nat} (hj : j < k) : pt f h k j = h j := if_pos hj
theorem pt_s : upd (pt f h k) k (h k) = pt f h (k + 1) := by
  funext j
  unfold upd pt
  by_cases h1 : j = k
  · subst h1; simp
  · by_cases h2 : j < k
    · simp [h1, h2, show j < k + 1 by omega]
    · simp [h1, h2, show ¬ j < k + 1 by omega]
theorem pt_n (e : f k = h k) : pt f h (k + 1) = pt f h k := by
  funext j
  unfold pt
  by_cases h1 : j = k
  · subst h1; simp [e]
  · by_cases h2 : j < k
    · simp [h2, show j < k + 1 by omega]
    · simp [h2, show ¬ j < k + 1 by omega]
end
theorem mm_sI_co {μ : mm_M} {q q' : Nat} {f f' : Nat → Int32} (h : q ≠ q') : mm_sI (mm_sI μ q f) q' f' = mm_sI (mm_sI μ q' f') q f := by
  unfold mm_sI
  refine Prod.ext ?_ rfl
  funext c
  dsimp only
  by_cases h1 : c = q
  · subst h1; simp [h]
  · simp [h1]
theorem mm_sI_re {μ : mm_M} {q q' : Nat} {f f2 g : Nat → Int32} (h : q ≠ q') : mm_sI (mm_sI (mm_sI μ q f) q' g) q f2 = mm_sI (mm_sI μ q f2) q' g := by
  rw [mm_sI_co (Ne.symm h), mm_sI_sI]
section
variable {b : Nat} {g : sG} {μ : mm_M} {σ : List sS} {k : Nat} {f F : Nat → Int32}
theorem sG_c.u (h : sG_c b g μ) (hk : k < 6) (hf : ∀ i, i < sp_z g.1 k → f i = F i) : sG_c b (sG_u g k F) (mm_sI μ (b + 1 + k) f) := by
  refine ⟨by rw [sI_ne (by omega)]; exact h.1, by rw [sI_ne (by omega)]; exact h.2.1, h.2.2.1, fun j i hj hi => ?_⟩
  show _ = (if j = k then F else g.2.2.2 j) i
  by_cases e : j = k
  · subst e
    rw [sI_eq, if_pos rfl]
    exact hf i hi
  · rw [sI_ne (by omega), if_neg e]
    exact h.2.2.2 j i hj hi
theorem gC.fr' {μ' : mm_M} {P : Nat → Prop} (h : gC b σ g μ) (hf : mf P μ μ') (hP : ∀ c, P c → ¬ (b ≤ c ∧ c ≤ b + 6) ∧ c ≠ 14 ∧ ¬ (74 ≤ c ∧ c < 98)) : gC b σ g μ' :=
  ⟨h.1.fr (fun c h1 h2 => (hf c (fun z => (hP c z).1 ⟨h1, h2⟩)).1) (hf b (fun z => (hP b z).1 ⟨Nat.le_refl _, by omega⟩)).2.2, h.2.1.fr (fun c hc => (hf c (fun z => by
    have := hP c z
    omega)).1), h.2.2.1, h.2.2.2⟩
theorem sC_c.fr' {μ' : mm_M} {P : Nat → Prop} (h : sC_c σ μ) (hf : mf P μ μ') (hP : ∀ c, P c → c ≠ 14 ∧ ¬ (74 ≤ c ∧ c < 98)) : sC_c σ μ' := h.fr (fun c hc => (hf c (fun z => by
    have := hP c z
    omega)).1)
theorem gC.u (hb : b = 16 ∨ b = 57) (h : gC b σ g μ) (hk : k < 6) (hf : ∀ i, i < sp_z g.1 k → f i = F i) : gC b σ (sG_u g k F) (mm_sI μ (b + 1 + k) f) :=
  ⟨h.1.u hk hf, h.2.1.fr (fun c hc => sI_ne (by omega)), h.2.2.1, h.2.2.2⟩
end
def sp_spn (s x : Int32) : Int32 := if x < 0 then x else sp_r (x + s) 12
def sp_spin (g : sG) (s : Int32) : sG := sG_u g 3 (fun c => sp_spn s (g.2.2.2 3 c))
def sp_gth (set x : Int32) (c : Nat) : Int32 := if (set >>> (nI c &&& 31)) &&& 1 = 1 then x else -5
def sp_gath (g : sG) (set x : Int32) : sG := sG_u g 3 (sp_gth set x)
theorem sp_fop_s (g : sG) (k : Nat) : sp_fop g (k + 1) = if g.2.2.2 3 k < 0 then sp_fop g k else sp_fop g k + 1 := rfl
theorem sp_fold_s (f : Nat → Int32) (k : Nat) : sp_fold f (k + 1) = sp_fold f k + f k := rfl
section
variable {d : Nat} {μ : mm_M} {b : Nat} {σ : List sS} {g : sG} {c p : Nat}
set_option maxRecDepth 100000 in
theorem C40_l (hb : b = 16 ∨ b = 57) (hg : sG_c b g μ) (h6 : g.1 ≤ 6) : ∀ m k, k + m = g.1 → mm_ev la_C d 40 4 [some (.ref b), some (.int (sp_fop g k)), some (.int (nI k))] [] μ (fun v μ' => v = some (.int (sp_fop g g.1)) ∧ μ' = μ) := by
  intro m
  induction m with
  | zero =>
    intro k hk
    have hk : k = g.1 := by omega
    subst hk
    rcases hb with rfl | rfl
    all_goals
      refine mm_ev.run mm_y40 3 rfl ?_
      refine mm_ev.val hg.n ?_
      refine mm_ev.run mm_y40 1 rfl ?_
      refine mm_ev.pos (nI_le (Nat.le_refl _) (by omega)) ?_
      refine mm_ev.run mm_y40 1 rfl ?_
      exact mm_ev.ret mm_y40 rfl rfl rfl ⟨rfl, rfl⟩
  | succ m ih =>
    intro k hk
    have ih := ih (k + 1) (by omega)
    rw [sp_fop_s _ k, nI_succ] at ih
    rcases hb with rfl | rfl
    all_goals
      refine mm_ev.run mm_y40 3 rfl ?_
      refine mm_ev.val hg.n ?_
      refine mm_ev.run mm_y40 1 rfl ?_
      refine mm_ev.neg (nI_ge (by omega) (by omega)) ?_
      refine mm_ev.run mm_y40 3 rfl ?_
      refine mm_ev.ild mm_y40 rfl rfl rfl rfl rfl (by omega) (by decide) (hg.fin (by omega)) ?_
      refine mm_ev.run mm_y40 1 rfl ?_
      refine mm_ev.ite (fun h => ?_) (fun h => ?_)
      · rw [if_pos h] at ih
        refine mm_ev.run mm_y40 2 rfl ?_
        exact ih
      · rw [if_neg h] at ih
        refine mm_ev.run mm_y40 3 rfl ?_
        exact ih
set_option maxRecDepth 100000 in
theorem C40 (hb : b = 16 ∨ b = 57) (hg : sG_c b g μ) (h6 : g.1 ≤ 6) : mm_call la_C d 40 [.ref b] μ (fun v μ' => v = some (.int (sp_fop g g.1)) ∧ μ' = μ) := by
  refine mm_call.of mm_t40 ?_
  refine mm_ev.run mm_y40 4 rfl ?_
  exact C40_l hb hg h6 g.1 0 (by omega)
set_option maxRecDepth 100000 in
theorem C47_l (hb : b = 16 ∨ b = 57) (hg : sG_c b g μ) (h6 : g.1 ≤ 6) : ∀ m k, k + m = g.1 → mm_ev la_C d 47 4 [some (.ref b), some (.int (sp_fold (g.2.2.2 4) k)), some (.int (nI k))] [] μ (fun v μ' => v = some (.int (sp_fold (g.2.2.2 4) g.1)) ∧ μ' = μ) := by
  intro m
  induction m with
  | zero =>
    intro k hk
    have hk : k = g.1 := by omega
    subst hk
    rcases hb with rfl | rfl
    all_goals
      refine mm_ev.run mm_y47 3 rfl ?_
      refine mm_ev.val hg.n ?_
      refine mm_ev.run mm_y47 1 rfl ?_
      refine mm_ev.pos (nI_le (Nat.le_refl _) (by omega)) ?_
      refine mm_ev.run mm_y47 1 rfl ?_
      exact mm_ev.ret mm_y47 rfl rfl rfl ⟨rfl, rfl⟩
  | succ m ih =>
    intro k hk
    have ih := ih (k + 1) (by omega)
    rw [sp_fold_s _ k, nI_succ] at ih
    rcases hb with rfl | rfl
    all_goals
      refine mm_ev.run mm_y47 3 rfl ?_
      refine mm_ev.val hg.n ?_
      refine mm_ev.run mm_y47 1 rfl ?_
      refine mm_ev.neg (nI_ge (by omega) (by omega)) ?_
      refine mm_ev.run mm_y47 4 rfl ?_
      refine mm_ev.ild mm_y47 rfl rfl rfl rfl rfl (by omega) (by decide) (hg.stood (by omega)) ?_
      refine mm_ev.run mm_y47 4 rfl ?_
      exact ih
set_option maxRecDepth 100000 in
theorem C47 (hb : b = 16 ∨ b = 57) (hg : sG_c b g μ) (h6 : g.1 ≤ 6) : mm_call la_C d 47 [.ref b] μ (fun v μ' => v = some (.int (sp_fold (g.2.2.2 4) g.1)) ∧ μ' = μ) := by
  refine mm_call.of mm_t47 ?_
  refine mm_ev.run mm_y47 4 rfl ?_
  exact C47_l hb hg h6 g.1 0 (by omega)
set_option maxRecDepth 100000 in
theorem C39_l (hb : b = 16 ∨ b = 57) (hg : sG_c b g μ) (h6 : g.1 ≤ 6) (s : Int32) : ∀ m k, k + m = g.1 → mm_ev la_C d 39 2 [some (.ref b), some (.int s), some (.int (nI k))] [] (mm_sI μ (b + 4) (pt (μ.1 (b + 4)) (fun c => sp_spn s (g.2.2.2 3 c)) k)) (fun v μ' => v = none ∧ μ' = mm_sI μ (b + 4) (pt (μ.1 (b + 4)) (fun c => sp_spn s (g.2.2.2 3 c)) g.1)) := by
  intro m
  induction m with
  | zero =>
    intro k hk
    have hk : k = g.1 := by omega
    subst hk
    rcases hb with rfl | rfl
    all_goals
      refine mm_ev.run mm_y39 3 rfl ?_
      refine mm_ev.val hg.n ?_
      refine mm_ev.run mm_y39 1 rfl ?_
      refine mm_ev.pos (nI_le (Nat.le_refl _) (by omega)) ?_
      exact mm_ev.ret mm_y39 rfl rfl rfl ⟨rfl, rfl⟩
  | succ m ih =>
    intro k hk
    have ih := ih (k + 1) (by omega)
    rw [nI_succ] at ih
    have hfin := hg.fin (c := k) (by omega)
    rcases hb with rfl | rfl
    all_goals
      refine mm_ev.run mm_y39 3 rfl ?_
      refine mm_ev.val hg.n ?_
      refine mm_ev.run mm_y39 1 rfl ?_
      refine mm_ev.neg (nI_ge (by omega) (by omega)) ?_
      refine mm_ev.run mm_y39 3 rfl ?_
      refine mm_ev.ild mm_y39 rfl rfl rfl rfl rfl (by omega) (by decide) (show pt _ (fun c => sp_spn s (g.2.2.2 3 c)) k k = _ from pt_at.trans hfin) ?_
      refine mm_ev.run mm_y39 1 rfl ?_
      refine mm_ev.ite (fun h => ?_) (fun h => ?_)
      · rw [pt_n (by rw [hfin]; exact (if_pos h).symm)] at ih
        refine mm_ev.run mm_y39 2 rfl ?_
        exact ih
      · rw [← pt_s] at ih
        refine mm_ev.run mm_y39 6 rfl ?_
        refine mm_ev.ild mm_y39 rfl rfl rfl rfl rfl (by omega) (by decide) (show pt _ (fun c => sp_spn s (g.2.2.2 3 c)) k k = _ from pt_at.trans hfin) ?_
        refine mm_ev.run mm_y39 4 rfl ?_
        refine mm_ev.ist mm_y39 rfl rfl rfl rfl rfl (by omega) (by decide) ?_
        refine mm_ev.run mm_y39 2 rfl ?_
        refine mm_ev.eq mm_sI_sI ?_
        rw [show sp_spn s (g.2.2.2 3 k) = sp_r (g.2.2.2 3 k + s) 12 from if_neg h] at ih
        exact ih
set_option maxRecDepth 100000 in
theorem C39 (hb : b = 16 ∨ b = 57) (hg : sG_c b g μ) (h6 : g.1 ≤ 6) (s : Int32) : mm_call la_C d 39 [.ref b, .int s] μ (fun v μ' => v = none ∧ μ' = mm_sI μ (b + 4) (pt (μ.1 (b + 4)) (fun c => sp_spn s (g.2.2.2 3 c)) g.1)) := by
  have k := C39_l (d := d) hb hg h6 s g.1 0 (by omega)
  rw [pt_0, mm_sI_self] at k
  refine mm_call.of mm_t39 ?_
  refine mm_ev.run mm_y39 2 rfl ?_
  exact k
set_option maxRecDepth 100000 in
theorem C45_l (hb : b = 16 ∨ b = 57) (hg : sG_c b g μ) (h6 : g.1 ≤ 6) (set x : Int32) : ∀ m k, k + m = g.1 → mm_ev la_C d 45 2 [some (.ref b), some (.int set), some (.int x), some (.int (nI k))] [] (mm_sI μ (b + 4) (pt (μ.1 (b + 4)) (sp_gth set x) k)) (fun v μ' => v = none ∧ μ' = mm_sI μ (b + 4) (pt (μ.1 (b + 4)) (sp_gth set x) g.1)) := by
  intro m
  induction m with
  | zero =>
    intro k hk
    have hk : k = g.1 := by omega
    subst hk
    rcases hb with rfl | rfl
    all_goals
      refine mm_ev.run mm_y45 3 rfl ?_
      refine mm_ev.val hg.n ?_
      refine mm_ev.run mm_y45 1 rfl ?_
      refine mm_ev.pos (nI_le (Nat.le_refl _) (by omega)) ?_
      exact mm_ev.ret mm_y45 rfl rfl rfl ⟨rfl, rfl⟩
  | succ m ih =>
    intro k hk
    have ih := ih (k + 1) (by omega)
    rw [nI_succ, ← pt_s] at ih
    rcases hb with rfl | rfl
    all_goals
      refine mm_ev.run mm_y45 3 rfl ?_
      refine mm_ev.val hg.n ?_
      refine mm_ev.run mm_y45 1 rfl ?_
      refine mm_ev.neg (nI_ge (by omega) (by omega)) ?_
      refine mm_ev.run mm_y45 10 rfl ?_
      refine mm_ev.ite (c := (set >>> (nI k &&& 31)) &&& 1 = 1) (fun h => ?_) (fun h => ?_)
      · rw [show sp_gth set x k = x from if_pos h] at ih
        refine mm_ev.run mm_y45 2 rfl ?_
        refine mm_ev.ist mm_y45 rfl rfl rfl rfl rfl (by omega) (by decide) ?_
        refine mm_ev.run mm_y45 2 rfl ?_
        refine mm_ev.eq mm_sI_sI ?_
        exact ih
      · rw [show sp_gth set x k = -5 from if_neg h] at ih
        refine mm_ev.run mm_y45 1 rfl ?_
        refine mm_ev.ist mm_y45 rfl rfl rfl rfl rfl (by omega) (by decide) ?_
        refine mm_ev.run mm_y45 2 rfl ?_
        refine mm_ev.eq mm_sI_sI ?_
        exact ih
set_option maxRecDepth 100000 in
theorem C45 (hb : b = 16 ∨ b = 57) (hg : sG_c b g μ) (h6 : g.1 ≤ 6) (set x : Int32) : mm_call la_C d 45 [.ref b, .int set, .int x] μ (fun v μ' => v = none ∧ μ' = mm_sI μ (b + 4) (pt (μ.1 (b + 4)) (sp_gth set x) g.1)) := by
  have k := C45_l (d := d) hb hg h6 set x g.1 0 (by omega)
  rw [pt_0, mm_sI_self] at k
  refine mm_call.of mm_t45 ?_
  refine mm_ev.run mm_y45 2 rfl ?_
  exact k
end
