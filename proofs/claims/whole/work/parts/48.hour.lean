/-! THE CLASS'S GLOBE: an hour, a copy, a step -/
section
variable {σ : List sS} {g : sG} {X : Nat → Int32}
theorem sp_care_u0 (c p : Nat) (n l a : Int32) : sp_care σ (sG_u g 0 X) c p n l a = sp_care σ g c p n l a := rfl
theorem sp_on_u0 (x : Int32) : ∀ k, sp_on (sG_u g 0 X) x k = sp_on g x k := by
  intro k
  induction k with
  | zero => rfl
  | succ k ih => rw [sp_on_s, sp_on_s, ih]; rfl
theorem sp_sees_u0 (p : Nat) (n l a : Int32) : ∀ k, sp_sees σ (sG_u g 0 X) p n l a k = sp_sees σ g p n l a k := by
  intro k
  induction k with
  | zero => rfl
  | succ k ih => rw [sp_sees_s, sp_sees_s, ih]; rfl
theorem sp_next_u0 (p : Nat) (n l : Int32) : sp_next σ (sG_u g 0 X) p n l = sp_next σ g p n l := by
  unfold sp_next
  rw [sp_on_u0, sp_sees_u0]
  rfl
end
section
variable {d : Nat} {μ : mm_M} {b : Nat} {σ : List sS} {g : sG} {c p : Nat}
def sp_h1 (σ : List sS) (g : sG) (p : Nat) : Int32 := sp_next σ g p (g.2.2.2 0 p) 0
def sp_h5 (g : sG) (c : Nat) : Int32 := if 0 ≤ g.2.2.2 3 c then g.2.2.2 4 c + 1 else g.2.2.2 4 c
/-- after the needs; after the standing -/
def st1 (b : Nat) (σ : List sS) (g : sG) (μ : mm_M) (fa : Nat → Int32) (k : Nat) : mm_M := mm_sI (mm_sI μ (b + 7) fa) (b + 1) (pt (μ.1 (b + 1)) (sp_h1 σ g) k)
def st2 (b : Nat) (σ : List sS) (g : sG) (μ : mm_M) (fa : Nat → Int32) (k : Nat) : mm_M := mm_sI (st1 b σ g μ fa 12) (b + 5) (pt (μ.1 (b + 5)) (sp_h5 g) k)
def st3 (b : Nat) (σ : List sS) (g : sG) (μ : mm_M) (fa : Nat → Int32) : mm_M := mm_sI (st2 b σ g μ fa g.1) b (upd (μ.1 b) 0 (g.2.1 + 1))
theorem st1_g (hb : b = 16 ∨ b = 57) (hg : gC b σ g μ) (fa : Nat → Int32) (k : Nat) : gC b σ (sG_u g 0 (pt (g.2.2.2 0) (sp_h1 σ g) k)) (st1 b σ g μ fa k) := by
  refine (hg.fa hb fa).u hb (k := 0) (by decide) (fun i hi => ?_)
  have := hg.1.need (p := i) hi
  unfold pt
  rw [this]
theorem st3_g (hb : b = 16 ∨ b = 57) (hg : gC b σ g μ) (fa : Nat → Int32) : gC b σ (sp_hour σ g) (st3 b σ g μ fa) ∧ mf (fun c => b ≤ c ∧ c ≤ b + 7) μ (st3 b σ g μ fa) := by
  have hf : mf (fun c => b ≤ c ∧ c ≤ b + 7) μ (st3 b σ g μ fa) := (((mf.rf.sI ⟨by omega, by omega⟩).sI ⟨by omega, by omega⟩).sI ⟨by omega, by omega⟩).sI ⟨by omega, by omega⟩
  refine ⟨⟨⟨?_, ?_, hg.1.2.2.1, ?_⟩, hg.2.1.fr' hf (fun c hc => by omega), hg.2.2.1, hg.2.2.2⟩, hf⟩
  · show (mm_sI _ b _).1 b 1 = _
    rw [sI_eq]
    exact hg.1.n
  · show (mm_sI _ b _).1 b 0 = _
    rw [sI_eq]
    rfl
  · intro k i hk hi
    have hz : sp_z (sp_hour σ g).1 k = sp_z g.1 k := rfl
    rw [hz] at hi
    have e := hg.1.2.2.2 k i hk hi
    unfold st3 st2 st1
    rw [sI_ne (by omega)]
    by_cases h4 : k = 4
    · subst h4
      rw [show b + 1 + 4 = b + 5 by omega, sI_eq, pt_lt (show i < g.1 from hi)]
      rfl
    · rw [sI_ne (by omega)]
      by_cases h0 : k = 0
      · subst h0
        rw [show b + 1 + 0 = b + 1 by omega, sI_eq, pt_lt (show i < 12 from hi)]
        rfl
      · rw [sI_ne (by omega), sI_ne (by omega), e]
        rcases (show k = 1 ∨ k = 2 ∨ k = 3 ∨ k = 5 by omega) with rfl | rfl | rfl | rfl <;> rfl
set_option maxRecDepth 100000 in
theorem C44_1 (hb : b = 16 ∨ b = 57) (hg : gC b σ g μ) {Φ : Option Value → mm_M → Prop} (K : ∀ fa, mm_ev la_C (d + 4) 44 19 [some (.ref b), some (.int 12)] [] (st1 b σ g μ fa 12) Φ) : ∀ m k fa, k + m = 12 → mm_ev la_C (d + 4) 44 2 [some (.ref b), some (.int (nI k))] [] (st1 b σ g μ fa k) Φ := by
  intro m
  induction m with
  | zero =>
    intro k fa hk
    have hk : k = 12 := by omega
    subst hk
    have K := K fa
    rcases hb with rfl | rfl
    all_goals
      refine mm_ev.run mm_y44 3 rfl ?_
      refine mm_ev.pos (by decide) ?_
      exact K
  | succ m ih =>
    intro k fa hk
    have ih := fun fa => ih (k + 1) fa (by omega)
    rw [nI_succ] at ih
    have hnd := hg.1.need (p := k) (by omega)
    have K33 := C33 (d := d) hb (st1_g hb hg fa k) (p := k) (by omega) (g.2.2.2 0 k) 0
    rw [sp_next_u0] at K33
    have e1 : ∀ fa2, mm_sI (mm_sI (st1 b σ g μ fa k) (b + 7) fa2) (b + 1) (upd ((mm_sI (st1 b σ g μ fa k) (b + 7) fa2).1 (b + 1)) k (sp_h1 σ g k)) = st1 b σ g μ fa2 (k + 1) := by
      intro fa2
      unfold st1
      rw [sI_ne (show b + 1 ≠ b + 7 by omega), sI_eq, mm_sI_re (show b + 7 ≠ b + 1 by omega), mm_sI_sI, pt_s]
    rcases hb with rfl | rfl
    all_goals
      refine mm_ev.run mm_y44 3 rfl ?_
      refine mm_ev.neg (nI_ge (b := 12) (by omega) (by decide)) ?_
      refine mm_ev.run mm_y44 8 rfl ?_
      refine mm_ev.ild mm_y44 rfl rfl rfl rfl rfl (by omega) (by decide) (show pt _ (sp_h1 σ g) k k = _ from pt_at.trans hnd) ?_
      refine mm_ev.run mm_y44 1 rfl ?_
      refine mm_ev.call mm_y44 rfl rfl rfl rfl rfl K33 (fun v1 μ1 hq => ?_)
      obtain ⟨fa2, rfl, rfl⟩ := hq
      refine mm_ev.ist mm_y44 rfl rfl rfl rfl rfl (by omega) (by decide) ?_
      refine mm_ev.run mm_y44 2 rfl ?_
      exact mm_ev.eq (e1 fa2) (ih fa2)
set_option maxRecDepth 100000 in
theorem C44_2 (hb : b = 16 ∨ b = 57) (hg : gC b σ g μ) (fa : Nat → Int32) : ∀ m k, k + m = g.1 → mm_ev la_C d 44 21 [some (.ref b), some (.int (nI k))] [] (st2 b σ g μ fa k) (fun v μ' => v = none ∧ μ' = st3 b σ g μ fa) := by
  intro m
  have h6 := hg.2.2.1
  have hN := hg.1.n
  have hH := hg.1.hour
  induction m with
  | zero =>
    intro k hk
    have hk : k = g.1 := by omega
    subst hk
    have e3 : mm_sI (st2 b σ g μ fa g.1) b (upd (μ.1 b) 0 (g.2.1 + 1)) = st3 b σ g μ fa := rfl
    rcases hb with rfl | rfl
    all_goals
      refine mm_ev.run mm_y44 3 rfl ?_
      refine mm_ev.val hN ?_
      refine mm_ev.run mm_y44 1 rfl ?_
      refine mm_ev.pos (nI_le (Nat.le_refl _) (by omega)) ?_
      refine mm_ev.run mm_y44 3 rfl ?_
      refine mm_ev.val hH ?_
      refine mm_ev.run mm_y44 3 rfl ?_
      exact mm_ev.ret mm_y44 rfl rfl rfl ⟨rfl, rfl⟩
  | succ m ih =>
    intro k hk
    have ih := ih (k + 1) (by omega)
    rw [nI_succ] at ih
    have hfi := hg.1.fin (c := k) (by omega)
    have hst := hg.1.stood (c := k) (by omega)
    have e1 : ∀ z, z = sp_h5 g k → mm_sI (st2 b σ g μ fa k) (b + 5) (upd ((st2 b σ g μ fa k).1 (b + 5)) k z) = st2 b σ g μ fa (k + 1) := by
      intro z hz
      subst hz
      unfold st2
      rw [sI_eq, mm_sI_sI, pt_s]
    have e2 : μ.1 (b + 5) k = sp_h5 g k → st2 b σ g μ fa (k + 1) = st2 b σ g μ fa k := by
      intro hz
      unfold st2
      rw [pt_n hz]
    rcases hb with rfl | rfl
    all_goals
      refine mm_ev.run mm_y44 3 rfl ?_
      refine mm_ev.val hN ?_
      refine mm_ev.run mm_y44 1 rfl ?_
      refine mm_ev.neg (nI_ge (by omega) (by omega)) ?_
      refine mm_ev.run mm_y44 3 rfl ?_
      refine mm_ev.ild mm_y44 rfl rfl rfl rfl rfl (by omega) (by decide) hfi ?_
      refine mm_ev.run mm_y44 1 rfl ?_
      refine mm_ev.ite (fun h => ?_) (fun h => ?_)
      · refine mm_ev.run mm_y44 2 rfl ?_
        exact mm_ev.eq (e2 (hst.trans (if_neg (Int32.not_le.mpr h)).symm)).symm ih
      · refine mm_ev.run mm_y44 4 rfl ?_
        refine mm_ev.ild mm_y44 rfl rfl rfl rfl rfl (by omega) (by decide) (show pt _ (sp_h5 g) k k = _ from pt_at.trans hst) ?_
        refine mm_ev.run mm_y44 2 rfl ?_
        refine mm_ev.ist mm_y44 rfl rfl rfl rfl rfl (by omega) (by decide) ?_
        refine mm_ev.run mm_y44 2 rfl ?_
        exact mm_ev.eq (e1 _ (if_pos (Int32.not_lt.mp h)).symm) ih
set_option maxRecDepth 100000 in
theorem C44 (hb : b = 16 ∨ b = 57) (hg : gC b σ g μ) : mm_call la_C (d + 4) 44 [.ref b] μ (fun v μ' => v = none ∧ gC b σ (sp_hour σ g) μ' ∧ mf (fun c => b ≤ c ∧ c ≤ b + 7) μ μ') := by
  have k2 : ∀ fa, mm_ev la_C (d + 4) 44 19 [some (.ref b), some (.int 12)] [] (st1 b σ g μ fa 12) (fun v μ' => v = none ∧ gC b σ (sp_hour σ g) μ' ∧ mf (fun c => b ≤ c ∧ c ≤ b + 7) μ μ') := by
    intro fa
    have g2 := C44_2 (d := d + 4) hb hg fa g.1 0 (by omega)
    have e : st2 b σ g μ fa 0 = st1 b σ g μ fa 12 := by
      unfold st2
      rw [pt_0]
      have : μ.1 (b + 5) = (st1 b σ g μ fa 12).1 (b + 5) := by
        unfold st1
        rw [sI_ne (by omega), sI_ne (by omega)]
      rw [this, mm_sI_self]
    rw [e] at g2
    have g3 := g2.imp (fun v μ' hh => (⟨hh.1, by rw [hh.2]; exact st3_g hb hg fa⟩ : v = none ∧ gC b σ (sp_hour σ g) μ' ∧ mf (fun c => b ≤ c ∧ c ≤ b + 7) μ μ'))
    refine mm_ev.run mm_y44 2 rfl ?_
    exact g3
  have k1 := C44_1 (d := d) hb hg k2 12 0 (μ.1 (b + 7)) (by omega)
  have e0 : st1 b σ g μ (μ.1 (b + 7)) 0 = μ := by
    unfold st1
    rw [pt_0, mm_sI_self, mm_sI_self]
  rw [e0] at k1
  refine mm_call.of mm_t44 ?_
  refine mm_ev.run mm_y44 2 rfl ?_
  exact k1
end
