/-! THE REFERENCE: an hour -/
/-- fingers are on places or on none -/
def fM (g : sG) : Prop := ∀ c, c < g.1 → g.2.2.2 3 c = -5 ∨ ∃ x, x < 12 ∧ g.2.2.2 3 c = nI x
/-- what the first k children see to at a place, by the reference -/
def sp_se (σ : List sS) (g : sG) (x : Nat) : Nat → Int32
  | 0 => 0
  | k + 1 => if g.2.2.2 3 k = nI x then sp_se σ g x k + sp_max 0 (sp_care σ g k x (g.2.2.2 0 x) 0 (bI (sp_met g k (nI x)))) else sp_se σ g x k
theorem sp_se_s (σ : List sS) (g : sG) (x k : Nat) : sp_se σ g x (k + 1) = if g.2.2.2 3 k = nI x then sp_se σ g x k + sp_max 0 (sp_care σ g k x (g.2.2.2 0 x) 0 (bI (sp_met g k (nI x)))) else sp_se σ g x k := rfl
section
variable {σ : List sS} {g : sG} {c : Nat} {p : Int32}
theorem sp_on_p (hp : g.2.2.2 3 c = p) : ∀ k, c < k → 0 < sp_on g p k := by
  intro k
  induction k with
  | zero => intro h; omega
  | succ k ih =>
    intro h
    rw [sp_on_s]
    by_cases e : c = k
    · subst e
      rw [if_pos hp]
      omega
    · have := ih (by omega)
      split <;> omega
theorem sp_on_m (hp : g.2.2.2 3 c = p) : ∀ k, (∃ q, q < k ∧ q ≠ c ∧ g.2.2.2 3 q = p) ↔ (if c < k then 1 else 0) < sp_on g p k := by
  intro k
  induction k with
  | zero =>
    constructor
    · intro ⟨q, h, _⟩; omega
    · intro h; exact absurd h (by simp [sp_on])
  | succ k ih =>
    rw [sp_on_s]
    by_cases h1 : g.2.2.2 3 k = p
    · rw [if_pos h1]
      by_cases e : c = k
      · subst e
        rw [if_neg (by omega)] at ih
        rw [if_pos (by omega)]
        constructor
        · intro ⟨q, a1, a2, a3⟩
          have := ih.mp ⟨q, by omega, a2, a3⟩
          omega
        · intro h
          obtain ⟨q, a1, a2, a3⟩ := ih.mpr (by omega)
          exact ⟨q, by omega, a2, a3⟩
      · constructor
        · intro _
          by_cases e2 : c < k
          · have := sp_on_p hp k e2
            rw [if_pos (by omega)]
            omega
          · rw [if_neg (by omega)]
            omega
        · intro _
          exact ⟨k, by omega, fun z => e z.symm, h1⟩
    · rw [if_neg h1]
      have e : c ≠ k := fun z => h1 (by rw [← z]; exact hp)
      constructor
      · intro ⟨q, a1, a2, a3⟩
        have hqk : q ≠ k := fun z => h1 (by rw [← z]; exact a3)
        have := ih.mp ⟨q, by omega, a2, a3⟩
        by_cases e2 : c < k
        · rw [if_pos e2] at this
          rw [if_pos (by omega)]
          exact this
        · rw [if_neg e2] at this
          rw [if_neg (by omega)]
          exact this
      · intro h
        obtain ⟨q, a1, a2, a3⟩ := ih.mpr (by
          by_cases e2 : c < k
          · rw [if_pos (by omega)] at h
            rw [if_pos e2]
            exact h
          · rw [if_neg (by omega)] at h
            rw [if_neg e2]
            exact h)
        exact ⟨q, by omega, a2, a3⟩
theorem sp_met_on (hc : c < g.1) (hp : g.2.2.2 3 c = p) : bI (sp_met g c p) = bI (1 < sp_on g p g.1) := by
  have h := sp_on_m hp g.1
  rw [if_pos hc] at h
  by_cases z : 1 < sp_on g p g.1
  · rw [bI_1 z, bI_1 (h.mpr z)]
  · rw [bI_0 z, bI_0 (fun y => z (h.mp y))]
theorem sp_se_e (x : Nat) : ∀ k, k ≤ g.1 → sp_se σ g x k = sp_sees σ g x (g.2.2.2 0 x) 0 (bI (1 < sp_on g (nI x) g.1)) k := by
  intro k
  induction k with
  | zero => intro _; rfl
  | succ k ih =>
    intro h
    rw [sp_se_s, sp_sees_s, ih (by omega)]
    by_cases e : g.2.2.2 3 k = nI x
    · rw [if_pos e, if_pos e, sp_met_on (by omega) e]
    · rw [if_neg e, if_neg e]
end
section
variable {d : Nat} {μ : mm_M} {σ : List sS} {g : sG} {c p : Nat}
def hr1 (μ : mm_M) (f F : Nat → Int32) : mm_M := mm_sI (mm_sI μ 124 f) 135 F
theorem hr1_g (hg : gM σ g μ) (f F : Nat → Int32) : gM σ g (hr1 μ f F) := hg.fr ((mh.rf.sI (P := fun c _ => c = 124 ∨ c = 135) (fun _ => Or.inl rfl)).sI (fun _ => Or.inr rfl)) (fun c j hc => by omega)
theorem hr1_s {μ : mm_M} {f F F2 : Nat → Int32} : mm_sI (hr1 μ f F) 135 F2 = hr1 μ f F2 := mm_sI_sI
theorem hr1_t {μ : mm_M} {f F f2 : Nat → Int32} : mm_sI (hr1 μ f F) 124 f2 = hr1 μ f2 F := by
  unfold hr1
  rw [mm_sI_re (by decide)]
set_option maxRecDepth 100000 in
theorem C140_1 {Φ : Option Value → mm_M → Prop} {gr : Int32} {f : Nat → Int32} (K : ∀ F, (∀ x, x < 12 → F x = 0) → mm_ev la_M d 140 15 [some (.ref 110), some (.int gr), some (.int 12)] [] (hr1 μ f F) Φ) : ∀ m k F, k + m = 12 → (∀ x, x < k → F x = 0) → mm_ev la_M d 140 5 [some (.ref 110), some (.int gr), some (.int (nI k))] [] (hr1 μ f F) Φ := by
  intro m
  induction m with
  | zero =>
    intro k F hk hF
    have hk : k = 12 := by omega
    subst hk
    refine mm_ev.run mm_y140 3 rfl ?_
    refine mm_ev.pos (by decide) ?_
    exact K F hF
  | succ m ih =>
    intro k F hk hF
    have ih := fun F => ih (k + 1) F (by omega)
    rw [nI_succ] at ih
    refine mm_ev.run mm_y140 3 rfl ?_
    refine mm_ev.neg (nI_ge (b := 12) (by omega) (by decide)) ?_
    refine mm_ev.run mm_y140 4 rfl ?_
    refine mm_ev.ist mm_y140 rfl rfl rfl rfl rfl (by omega) (by decide) ?_
    refine mm_ev.run mm_y140 2 rfl ?_
    refine mm_ev.eq hr1_s (ih _ (fun x hx => ?_))
    by_cases e : x = k
    · subst e; exact upd_eq
    · rw [upd_ne e]
      exact hF x (by omega)
set_option maxRecDepth 100000 in
theorem C140_2 (hg : gM σ g μ) (hf : fM g) {Φ : Option Value → mm_M → Prop} {gr : Int32} (K : ∀ f F, (∀ x, x < 12 → F x = sp_se σ g x g.1) → mm_ev la_M (d + 4) 140 55 [some (.ref 110), some (.int gr), some (.int (nI g.1))] [] (hr1 μ f F) Φ) : ∀ m k f F, k + m = g.1 → (∀ x, x < 12 → F x = sp_se σ g x k) → mm_ev la_M (d + 4) 140 17 [some (.ref 110), some (.int gr), some (.int (nI k))] [] (hr1 μ f F) Φ := by
  intro m
  have h6 := hg.2.2.1
  induction m with
  | zero =>
    intro k f F hk hF
    have hk : k = g.1 := by omega
    subst hk
    refine mm_ev.run mm_y140 3 rfl ?_
    refine mm_ev.val hg.1.n ?_
    refine mm_ev.run mm_y140 1 rfl ?_
    refine mm_ev.pos (nI_le (Nat.le_refl _) (by omega)) ?_
    exact K f F hF
  | succ m ih =>
    intro k f F hk hF
    have ih := fun f F => ih (k + 1) f F (by omega)
    rw [nI_succ] at ih
    have hg1 := hr1_g hg f F
    rcases hf k (by omega) with e5 | ⟨x, hx, ex⟩
    · have hfin := (hg1.1.fin (c := k) (by omega)).trans e5
      refine mm_ev.run mm_y140 3 rfl ?_
      refine mm_ev.val hg.1.n ?_
      refine mm_ev.run mm_y140 1 rfl ?_
      refine mm_ev.neg (nI_ge (by omega) (by omega)) ?_
      refine mm_ev.run mm_y140 3 rfl ?_
      refine mm_ev.ild mm_y140 rfl rfl rfl rfl rfl (by omega) (by decide) hfin ?_
      refine mm_ev.run mm_y140 2 rfl ?_
      refine mm_ev.pos rfl ?_
      refine mm_ev.run mm_y140 2 rfl ?_
      refine ih f F (fun x hx => ?_)
      rw [hF x hx, sp_se_s, if_neg (by rw [e5]; exact fun z => absurd (nI_pos' (n := x) (by omega)) (by rw [← z]; decide))]
    · have hfin := (hg1.1.fin (c := k) (by omega)).trans ex
      have K2 := C132 (d := d + 3) hg1.1 h6 (c := k) (by omega) (nI x)
      have K3 := C133 (d := d) hg1 (c := k) (p := x) (by omega) hx (bI (sp_met g k (nI x)))
      refine mm_ev.run mm_y140 3 rfl ?_
      refine mm_ev.val hg.1.n ?_
      refine mm_ev.run mm_y140 1 rfl ?_
      refine mm_ev.neg (nI_ge (by omega) (by omega)) ?_
      refine mm_ev.run mm_y140 3 rfl ?_
      refine mm_ev.ild mm_y140 rfl rfl rfl rfl rfl (by omega) (by decide) hfin ?_
      refine mm_ev.run mm_y140 2 rfl ?_
      refine mm_ev.neg (fun z => absurd (nI_pos' (n := x) (by omega)) (by rw [z]; decide)) ?_
      refine mm_ev.run mm_y140 5 rfl ?_
      refine mm_ev.ild mm_y140 rfl rfl rfl rfl rfl (by omega) (by decide) hfin ?_
      refine mm_ev.run mm_y140 1 rfl ?_
      refine mm_ev.ild mm_y140 rfl rfl rfl rfl rfl (by omega) (by decide) (hF x hx) ?_
      refine mm_ev.run mm_y140 6 rfl ?_
      refine mm_ev.ild mm_y140 rfl rfl rfl rfl rfl (by omega) (by decide) hfin ?_
      refine mm_ev.run mm_y140 5 rfl ?_
      refine mm_ev.ild mm_y140 rfl rfl rfl rfl rfl (by omega) (by decide) hfin ?_
      refine mm_ev.call mm_y140 rfl rfl rfl rfl rfl K2 (fun v1 μ1 hq => ?_)
      obtain ⟨rfl, hμ⟩ := hq
      obtain rfl := hμ.symm
      refine mm_ev.call mm_y140 rfl rfl rfl rfl rfl K3 (fun v1 μ1 hq => ?_)
      obtain ⟨rfl, f2, rfl⟩ := hq
      refine mm_ev.eq hr1_t ?_
      refine mm_ev.run mm_y140 2 rfl ?_
      refine mm_ev.ist mm_y140 rfl rfl rfl rfl rfl (by omega) (by decide) ?_
      refine mm_ev.run mm_y140 2 rfl ?_
      refine mm_ev.eq hr1_s (ih f2 _ (fun x' hx' => ?_))
      rw [sp_se_s]
      by_cases e : x' = x
      · subst e
        rw [upd_eq, if_pos ex]
        rfl
      · rw [upd_ne e, if_neg (by rw [ex]; exact fun z => e ((nI_eq (by omega) (by omega)).mp z).symm)]
        exact hF x' hx'
def hr2 (σ : List sS) (g : sG) (μ : mm_M) (f F : Nat → Int32) (k : Nat) : mm_M := mm_sI (hr1 μ f F) 111 (pt (μ.1 111) (sp_h1 σ g) k)
def hr3 (σ : List sS) (g : sG) (μ : mm_M) (f F : Nat → Int32) (k : Nat) : mm_M := mm_sI (hr2 σ g μ f F 12) 115 (pt (μ.1 115) (sp_h5 g) k)
def hr4 (σ : List sS) (g : sG) (μ : mm_M) (f F : Nat → Int32) : mm_M := mm_sI (hr3 σ g μ f F g.1) 110 (upd (μ.1 110) 7 (g.2.1 + 1))
abbrev p140 (c j : Nat) : Prop := c = 124 ∨ c = 135 ∨ c = 111 ∨ c = 115 ∨ (c = 110 ∧ j = 7)
theorem hr4_f (f F : Nat → Int32) : mh p140 μ (hr4 σ g μ f F) := by
  have h3 : mh p140 μ (hr3 σ g μ f F g.1) := (((mh.rf.sI (fun _ => Or.inl rfl)).sI (fun _ => Or.inr (Or.inl rfl))).sI (fun _ => Or.inr (Or.inr (Or.inl rfl)))).sI (fun _ => Or.inr (Or.inr (Or.inr (Or.inl rfl))))
  exact h3.sU (Or.inr (Or.inr (Or.inr (Or.inr ⟨rfl, rfl⟩)))) rfl
theorem hr4_g (hg : gM σ g μ) (f F : Nat → Int32) : gM σ (sp_hour σ g) (hr4 σ g μ f F) := by
  have hf := hr4_f (σ := σ) (g := g) (μ := μ) f F
  refine ⟨⟨?_, ?_, ?_, fun k i hk hi => ?_⟩, hg.2.1.fr hf (fun c j hc => by omega), hg.2.2⟩
  · rw [hf.1 110 1 (by omega)]
    exact hg.1.1
  · unfold hr4
    rw [sI_eq, upd_eq]
    rfl
  · rw [hf.1 110 15 (by omega)]
    exact hg.1.2.2.1
  · have hz : sp_z (sp_hour σ g).1 k = sp_z g.1 k := rfl
    rw [hz] at hi
    have e := hg.1.2.2.2 k i hk hi
    by_cases h0 : k = 0
    · subst h0
      unfold hr4 hr3 hr2
      rw [sI_ne (by omega), sI_ne (by omega)]
      show (mm_sI _ 111 _).1 111 i = _
      rw [sI_eq, pt_lt (show i < 12 from hi)]
      rfl
    · by_cases h4 : k = 4
      · subst h4
        unfold hr4 hr3
        rw [sI_ne (by omega)]
        show (mm_sI _ 115 _).1 115 i = _
        rw [sI_eq, pt_lt (show i < g.1 from hi)]
        rfl
      · rw [hf.1 _ _ (by omega), e]
        rcases (show k = 1 ∨ k = 2 ∨ k = 3 ∨ k = 5 by omega) with rfl | rfl | rfl | rfl <;> rfl
set_option maxRecDepth 100000 in
theorem C140_3 (hg : gM σ g μ) {Φ : Option Value → mm_M → Prop} {f F : Nat → Int32} (hF : ∀ x, x < 12 → F x = sp_se σ g x g.1) (K : mm_ev la_M d 140 81 [some (.ref 110), some (.int (sp_grow σ g.2.2.1)), some (.int 12)] [] (hr2 σ g μ f F 12) Φ) : ∀ m k, k + m = 12 → mm_ev la_M d 140 57 [some (.ref 110), some (.int (sp_grow σ g.2.2.1)), some (.int (nI k))] [] (hr2 σ g μ f F k) Φ := by
  intro m
  induction m with
  | zero =>
    intro k hk
    have hk : k = 12 := by omega
    subst hk
    refine mm_ev.run mm_y140 3 rfl ?_
    refine mm_ev.pos (by decide) ?_
    exact K
  | succ m ih =>
    intro k hk
    have ih := ih (k + 1) (by omega)
    rw [nI_succ] at ih
    have hnd := hg.1.need (p := k) (by omega)
    have ev : sp_clp (g.2.2.2 0 k + sp_grow σ g.2.2.1 - sp_se σ g k g.1) = sp_h1 σ g k := by
      unfold sp_h1 sp_next
      rw [sp_se_e k g.1 (Nat.le_refl _)]
    have e1 : mm_sI (hr2 σ g μ f F k) 111 (upd ((hr2 σ g μ f F k).1 111) k (sp_h1 σ g k)) = hr2 σ g μ f F (k + 1) := by
      unfold hr2
      rw [sI_eq, mm_sI_sI, pt_s]
    refine mm_ev.run mm_y140 3 rfl ?_
    refine mm_ev.neg (nI_ge (b := 12) (by omega) (by decide)) ?_
    refine mm_ev.run mm_y140 8 rfl ?_
    refine mm_ev.ild mm_y140 rfl rfl rfl rfl rfl (by omega) (by decide) (show pt _ (sp_h1 σ g) k k = _ from pt_at.trans hnd) ?_
    refine mm_ev.run mm_y140 5 rfl ?_
    refine mm_ev.ild mm_y140 rfl rfl rfl rfl rfl (by omega) (by decide) (hF k (by omega)) ?_
    refine mm_ev.run mm_y140 3 rfl ?_
    refine mm_ev.val ev ?_
    refine mm_ev.ist mm_y140 rfl rfl rfl rfl rfl (by omega) (by decide) ?_
    refine mm_ev.run mm_y140 2 rfl ?_
    exact mm_ev.eq e1 ih
set_option maxRecDepth 100000 in
theorem C140_4 (hg : gM σ g μ) (hfM : fM g) {f F : Nat → Int32} : ∀ m k, k + m = g.1 → mm_ev la_M d 140 83 [some (.ref 110), some (.int (sp_grow σ g.2.2.1)), some (.int (nI k))] [] (hr3 σ g μ f F k) (fun v μ' => v = none ∧ μ' = hr4 σ g μ f F) := by
  intro m
  have h6 := hg.2.2.1
  induction m with
  | zero =>
    intro k hk
    have hk : k = g.1 := by omega
    subst hk
    refine mm_ev.run mm_y140 3 rfl ?_
    refine mm_ev.val hg.1.n ?_
    refine mm_ev.run mm_y140 1 rfl ?_
    refine mm_ev.pos (nI_le (Nat.le_refl _) (by omega)) ?_
    refine mm_ev.run mm_y140 3 rfl ?_
    refine mm_ev.val hg.1.hour ?_
    refine mm_ev.run mm_y140 3 rfl ?_
    exact mm_ev.ret mm_y140 rfl rfl rfl ⟨rfl, rfl⟩
  | succ m ih =>
    intro k hk
    have ih := ih (k + 1) (by omega)
    rw [nI_succ] at ih
    have hfi := hg.1.fin (c := k) (by omega)
    have hst := hg.1.stood (c := k) (by omega)
    have e1 : ∀ z, z = sp_h5 g k → mm_sI (hr3 σ g μ f F k) 115 (upd ((hr3 σ g μ f F k).1 115) k z) = hr3 σ g μ f F (k + 1) := by
      intro z hz
      subst hz
      unfold hr3
      rw [sI_eq, mm_sI_sI, pt_s]
    have e2 : μ.1 115 k = sp_h5 g k → hr3 σ g μ f F (k + 1) = hr3 σ g μ f F k := by
      intro hz
      unfold hr3
      rw [pt_n hz]
    have e5 : ¬ (0 : Int32) ≤ -5 := by decide
    rcases hfM k (by omega) with h5 | ⟨x, hx, ex⟩
    ·
      refine mm_ev.run mm_y140 3 rfl ?_
      refine mm_ev.val hg.1.n ?_
      refine mm_ev.run mm_y140 1 rfl ?_
      refine mm_ev.neg (nI_ge (by omega) (by omega)) ?_
      refine mm_ev.run mm_y140 3 rfl ?_
      refine mm_ev.ild mm_y140 rfl rfl rfl rfl rfl (by omega) (by decide) (hfi.trans h5) ?_
      refine mm_ev.run mm_y140 2 rfl ?_
      refine mm_ev.pos rfl ?_
      refine mm_ev.run mm_y140 2 rfl ?_
      exact mm_ev.eq (e2 (hst.trans (by unfold sp_h5; rw [if_neg (by rw [h5]; exact e5)]))).symm ih
    ·
      refine mm_ev.run mm_y140 3 rfl ?_
      refine mm_ev.val hg.1.n ?_
      refine mm_ev.run mm_y140 1 rfl ?_
      refine mm_ev.neg (nI_ge (by omega) (by omega)) ?_
      refine mm_ev.run mm_y140 3 rfl ?_
      refine mm_ev.ild mm_y140 rfl rfl rfl rfl rfl (by omega) (by decide) (hfi.trans ex) ?_
      refine mm_ev.run mm_y140 2 rfl ?_
      refine mm_ev.neg (fun z => absurd (nI_pos' (n := x) (by omega)) (by rw [z]; decide)) ?_
      refine mm_ev.run mm_y140 4 rfl ?_
      refine mm_ev.ild mm_y140 rfl rfl rfl rfl rfl (by omega) (by decide) (show pt _ (sp_h5 g) k k = _ from pt_at.trans hst) ?_
      refine mm_ev.run mm_y140 2 rfl ?_
      refine mm_ev.ist mm_y140 rfl rfl rfl rfl rfl (by omega) (by decide) ?_
      refine mm_ev.run mm_y140 2 rfl ?_
      exact mm_ev.eq (e1 _ (by unfold sp_h5; rw [if_pos (by rw [ex]; exact nI_pos' (by omega))])) ih
set_option maxRecDepth 100000 in
theorem C140 (hg : gM σ g μ) (hf : fM g) : mm_call la_M (d + 4) 140 [.ref 110] μ (fun v μ' => v = none ∧ gM σ (sp_hour σ g) μ' ∧ mh p140 μ μ') := by
  have S0 : hr1 μ (μ.1 124) (μ.1 135) = μ := by
    unfold hr1
    rw [mm_sI_self, mm_sI_self]
  have K1 := C140_1 (d := d + 4) (μ := μ) (gr := sp_grow σ g.2.2.1) (f := μ.1 124) (Φ := fun v μ' => v = none ∧ gM σ (sp_hour σ g) μ' ∧ mh p140 μ μ') ?_ 12 0 (μ.1 135) (by omega) (fun x hx => absurd hx (by omega))
  · rw [S0] at K1
    refine mm_call.of mm_t140 ?_
    refine mm_ev.run mm_y140 1 rfl ?_
    refine mm_ev.call mm_y140 rfl rfl rfl rfl rfl (C141 hg) (fun v1 μ1 hq => ?_)
    obtain ⟨rfl, hμ⟩ := hq
    obtain rfl := hμ.symm
    refine mm_ev.run mm_y140 3 rfl ?_
    exact K1
  · intro F hF
    refine mm_ev.run mm_y140 2 rfl ?_
    refine C140_2 (d := d) hg hf ?_ g.1 0 (μ.1 124) F (by omega) (fun x hx => hF x hx)
    intro f F hF
    have S2 : hr2 σ g μ f F 0 = hr1 μ f F := by
      unfold hr2
      rw [pt_0]
      show mm_sI (hr1 μ f F) 111 ((hr1 μ f F).1 111) = _
      rw [mm_sI_self]
    have S3 : hr3 σ g μ f F 0 = hr2 σ g μ f F 12 := by
      unfold hr3
      rw [pt_0]
      show mm_sI (hr2 σ g μ f F 12) 115 ((hr2 σ g μ f F 12).1 115) = _
      rw [mm_sI_self]
    have K3 := C140_3 (d := d + 4) (f := f) (Φ := fun v μ' => v = none ∧ gM σ (sp_hour σ g) μ' ∧ mh p140 μ μ') hg hF ?_ 12 0 (by omega)
    · rw [S2] at K3
      refine mm_ev.run mm_y140 2 rfl ?_
      exact K3
    · have K4 := C140_4 (d := d + 4) (f := f) (F := F) hg hf g.1 0 (by omega)
      rw [S3] at K4
      have K5 := K4.imp (Ψ := fun v μ' => v = none ∧ gM σ (sp_hour σ g) μ' ∧ mh p140 μ μ') (fun v μ' hh => by
        obtain ⟨rfl, rfl⟩ := hh
        exact ⟨rfl, hr4_g hg f F, hr4_f f F⟩)
      refine mm_ev.run mm_y140 2 rfl ?_
      exact K5
end
