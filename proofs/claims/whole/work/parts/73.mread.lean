/-! THE REFERENCE: fingers, sums; hours ahead -/
section
variable {d : Nat} {μ : mm_M} {σ : List sS} {g : sG} {c p : Nat}
theorem fM.di (h : fM g) (hc : c < g.1) : (g.2.2.2 3 c = -5 ∧ g.2.2.2 3 c < 0) ∨ (¬ g.2.2.2 3 c = -5 ∧ ¬ g.2.2.2 3 c < 0) := by
  rcases h c hc with e | ⟨x, hx, e⟩
  · exact Or.inl ⟨e, by rw [e]; decide⟩
  · exact Or.inr ⟨by rw [e]; exact fun z => absurd (nI_pos' (n := x) (by omega)) (by rw [z]; decide), by rw [e]; exact nI_pos (by omega)⟩
set_option maxRecDepth 100000 in
theorem C150_l (hg : sG_m g μ) (h6 : g.1 ≤ 6) (hf : fM g) : ∀ m k, k + m = g.1 → mm_ev la_M d 150 4 [some (.ref 110), some (.int (sp_fop g k)), some (.int (nI k))] [] μ (fun v μ' => v = some (.int (sp_fop g g.1)) ∧ μ' = μ) := by
  intro m
  induction m with
  | zero =>
    intro k hk
    have hk : k = g.1 := by omega
    subst hk
    refine mm_ev.run mm_y150 3 rfl ?_
    refine mm_ev.val hg.n ?_
    refine mm_ev.run mm_y150 1 rfl ?_
    refine mm_ev.pos (nI_le (Nat.le_refl _) (by omega)) ?_
    refine mm_ev.run mm_y150 1 rfl ?_
    exact mm_ev.ret mm_y150 rfl rfl rfl ⟨rfl, rfl⟩
  | succ m ih =>
    intro k hk
    have ih := ih (k + 1) (by omega)
    rw [sp_fop_s _ k, nI_succ] at ih
    refine mm_ev.run mm_y150 3 rfl ?_
    refine mm_ev.val hg.n ?_
    refine mm_ev.run mm_y150 1 rfl ?_
    refine mm_ev.neg (nI_ge (by omega) (by omega)) ?_
    refine mm_ev.run mm_y150 3 rfl ?_
    refine mm_ev.ild mm_y150 rfl rfl rfl rfl rfl (by omega) (by decide) (hg.fin (by omega)) ?_
    rcases hf.di (c := k) (by omega) with ⟨h1, h2⟩ | ⟨h1, h2⟩
    · rw [if_pos h2] at ih
      refine mm_ev.run mm_y150 2 rfl ?_
      refine mm_ev.pos h1 ?_
      refine mm_ev.run mm_y150 2 rfl ?_
      exact ih
    · rw [if_neg h2] at ih
      refine mm_ev.run mm_y150 2 rfl ?_
      refine mm_ev.neg h1 ?_
      refine mm_ev.run mm_y150 3 rfl ?_
      exact ih
set_option maxRecDepth 100000 in
theorem C150 (hg : sG_m g μ) (h6 : g.1 ≤ 6) (hf : fM g) : mm_call la_M d 150 [.ref 110] μ (fun v μ' => v = some (.int (sp_fop g g.1)) ∧ μ' = μ) := by
  refine mm_call.of mm_t150 ?_
  refine mm_ev.run mm_y150 4 rfl ?_
  exact C150_l hg h6 hf g.1 0 (by omega)
set_option maxRecDepth 100000 in
theorem C149_l (hg : sG_m g μ) (h6 : g.1 ≤ 6) (hf : fM g) (s : Int32) : ∀ m k, k + m = g.1 → mm_ev la_M d 149 2 [some (.ref 110), some (.int s), some (.int (nI k))] [] (mm_sI μ 114 (pt (μ.1 114) (fun c => sp_spn s (g.2.2.2 3 c)) k)) (fun v μ' => v = none ∧ μ' = mm_sI μ 114 (pt (μ.1 114) (fun c => sp_spn s (g.2.2.2 3 c)) g.1)) := by
  intro m
  induction m with
  | zero =>
    intro k hk
    have hk : k = g.1 := by omega
    subst hk
    refine mm_ev.run mm_y149 3 rfl ?_
    refine mm_ev.val hg.n ?_
    refine mm_ev.run mm_y149 1 rfl ?_
    refine mm_ev.pos (nI_le (Nat.le_refl _) (by omega)) ?_
    exact mm_ev.ret mm_y149 rfl rfl rfl ⟨rfl, rfl⟩
  | succ m ih =>
    intro k hk
    have ih := ih (k + 1) (by omega)
    rw [nI_succ] at ih
    have hfin := hg.fin (c := k) (by omega)
    refine mm_ev.run mm_y149 3 rfl ?_
    refine mm_ev.val hg.n ?_
    refine mm_ev.run mm_y149 1 rfl ?_
    refine mm_ev.neg (nI_ge (by omega) (by omega)) ?_
    refine mm_ev.run mm_y149 3 rfl ?_
    refine mm_ev.ild mm_y149 rfl rfl rfl rfl rfl (by omega) (by decide) (show pt _ (fun c => sp_spn s (g.2.2.2 3 c)) k k = _ from pt_at.trans hfin) ?_
    rcases hf.di (c := k) (by omega) with ⟨h1, h2⟩ | ⟨h1, h2⟩
    · rw [pt_n (by rw [hfin]; exact (if_pos h2).symm)] at ih
      refine mm_ev.run mm_y149 2 rfl ?_
      refine mm_ev.pos h1 ?_
      refine mm_ev.run mm_y149 2 rfl ?_
      exact ih
    · rw [← pt_s] at ih
      refine mm_ev.run mm_y149 2 rfl ?_
      refine mm_ev.neg h1 ?_
      refine mm_ev.run mm_y149 6 rfl ?_
      refine mm_ev.ild mm_y149 rfl rfl rfl rfl rfl (by omega) (by decide) (show pt _ (fun c => sp_spn s (g.2.2.2 3 c)) k k = _ from pt_at.trans hfin) ?_
      refine mm_ev.run mm_y149 4 rfl ?_
      refine mm_ev.ist mm_y149 rfl rfl rfl rfl rfl (by omega) (by decide) ?_
      refine mm_ev.run mm_y149 2 rfl ?_
      refine mm_ev.eq mm_sI_sI ?_
      rw [show sp_spn s (g.2.2.2 3 k) = sp_r (g.2.2.2 3 k + s) 12 from if_neg h2] at ih
      exact ih
theorem sG_m.u {k : Nat} {f F : Nat → Int32} (h : sG_m g μ) (hk : k < 6) (hf : ∀ i, i < sp_z g.1 k → f i = F i) : sG_m (sG_u g k F) (mm_sI μ (111 + k) f) := by
  refine ⟨by rw [sI_ne (by omega)]; exact h.1, by rw [sI_ne (by omega)]; exact h.2.1, by rw [sI_ne (by omega)]; exact h.2.2.1, fun j i hj hi => ?_⟩
  show _ = (if j = k then F else g.2.2.2 j) i
  by_cases e : j = k
  · subst e
    rw [sI_eq, if_pos rfl]
    exact hf i hi
  · rw [sI_ne (by omega), if_neg e]
    exact h.2.2.2 j i hj hi
theorem gM.u {k : Nat} {f F : Nat → Int32} (h : gM σ g μ) (hk : k < 6) (hf : ∀ i, i < sp_z g.1 k → f i = F i) : gM σ (sG_u g k F) (mm_sI μ (111 + k) f) :=
  ⟨h.1.u hk hf, h.2.1.fr (mh.rf.sI (P := fun c _ => c = 111 + k) (fun _ => rfl)) (fun c j hc => by omega), h.2.2⟩
set_option maxRecDepth 100000 in
theorem C149 (hg : gM σ g μ) (hf : fM g) (s : Int32) : mm_call la_M d 149 [.ref 110, .int s] μ (fun v μ' => v = none ∧ gM σ (sp_spin g s) μ' ∧ mh (fun c _ => c = 114) μ μ') := by
  have k := C149_l (d := d) hg.1 hg.2.2.1 hf s g.1 0 (by omega)
  rw [pt_0, mm_sI_self] at k
  refine mm_call.of mm_t149 ?_
  refine mm_ev.run mm_y149 2 rfl ?_
  exact k.imp (fun v μ' hh => ⟨hh.1, by rw [hh.2]; exact hg.u (k := 3) (by decide) (fun i hi => pt_lt hi), by rw [hh.2]; exact mh.rf.sI (fun _ => rfl)⟩)
set_option maxRecDepth 100000 in
theorem C169_l (hg : sG_m g μ) : ∀ m k, k + m = 12 → mm_ev la_M d 169 4 [some (.ref 110), some (.int (sp_fold (g.2.2.2 0) k)), some (.int (nI k))] [] μ (fun v μ' => v = some (.int (sp_fold (g.2.2.2 0) 12)) ∧ μ' = μ) := by
  intro m
  induction m with
  | zero =>
    intro k hk
    have hk : k = 12 := by omega
    subst hk
    refine mm_ev.run mm_y169 3 rfl ?_
    refine mm_ev.pos (by decide) ?_
    refine mm_ev.run mm_y169 1 rfl ?_
    exact mm_ev.ret mm_y169 rfl rfl rfl ⟨rfl, rfl⟩
  | succ m ih =>
    intro k hk
    have ih := ih (k + 1) (by omega)
    rw [sp_fold_s _ k, nI_succ] at ih
    refine mm_ev.run mm_y169 3 rfl ?_
    refine mm_ev.neg (nI_ge (b := 12) (by omega) (by decide)) ?_
    refine mm_ev.run mm_y169 4 rfl ?_
    refine mm_ev.ild mm_y169 rfl rfl rfl rfl rfl (by omega) (by decide) (hg.need (by omega)) ?_
    refine mm_ev.run mm_y169 4 rfl ?_
    exact ih
set_option maxRecDepth 100000 in
theorem C169 (hg : sG_m g μ) : mm_call la_M d 169 [.ref 110] μ (fun v μ' => v = some (.int (sp_fold (g.2.2.2 0) 12)) ∧ μ' = μ) := by
  refine mm_call.of mm_t169 ?_
  refine mm_ev.run mm_y169 4 rfl ?_
  exact C169_l hg 12 0 (by omega)
theorem sp_wel_0 (k : Nat) : sp_wel σ g 0 (k + 1) = if g.2.2.2 0 k = 0 then sp_wel σ g 0 k + 1 else sp_wel σ g 0 k := rfl
set_option maxRecDepth 100000 in
theorem C170_l (hg : sG_m g μ) : ∀ m k, k + m = 12 → mm_ev la_M d 170 4 [some (.ref 110), some (.int (sp_wel σ g 0 k)), some (.int (nI k))] [] μ (fun v μ' => v = some (.int (sp_wel σ g 0 12)) ∧ μ' = μ) := by
  intro m
  induction m with
  | zero =>
    intro k hk
    have hk : k = 12 := by omega
    subst hk
    refine mm_ev.run mm_y170 3 rfl ?_
    refine mm_ev.pos (by decide) ?_
    refine mm_ev.run mm_y170 1 rfl ?_
    exact mm_ev.ret mm_y170 rfl rfl rfl ⟨rfl, rfl⟩
  | succ m ih =>
    intro k hk
    have ih := ih (k + 1) (by omega)
    rw [sp_wel_0 k, nI_succ] at ih
    refine mm_ev.run mm_y170 3 rfl ?_
    refine mm_ev.neg (nI_ge (b := 12) (by omega) (by decide)) ?_
    refine mm_ev.run mm_y170 3 rfl ?_
    refine mm_ev.ild mm_y170 rfl rfl rfl rfl rfl (by omega) (by decide) (hg.need (by omega)) ?_
    refine mm_ev.run mm_y170 1 rfl ?_
    refine mm_ev.ite (fun h => ?_) (fun h => ?_)
    · rw [if_pos h] at ih
      refine mm_ev.run mm_y170 3 rfl ?_
      exact ih
    · rw [if_neg h] at ih
      refine mm_ev.run mm_y170 2 rfl ?_
      exact ih
set_option maxRecDepth 100000 in
theorem C170 (hg : sG_m g μ) : mm_call la_M d 170 [.ref 110] μ (fun v μ' => v = some (.int (sp_wel σ g 0 12)) ∧ μ' = μ) := by
  refine mm_call.of mm_t170 ?_
  refine mm_ev.run mm_y170 4 rfl ?_
  exact C170_l (σ := σ) hg 12 0 (by omega)
set_option maxRecDepth 100000 in
theorem C182_l (hg : sG_m g μ) (h6 : g.1 ≤ 6) : ∀ m k, k + m = g.1 → mm_ev la_M d 182 4 [some (.ref 110), some (.int (sp_fold (g.2.2.2 4) k)), some (.int (nI k))] [] μ (fun v μ' => v = some (.int (sp_fold (g.2.2.2 4) g.1)) ∧ μ' = μ) := by
  intro m
  induction m with
  | zero =>
    intro k hk
    have hk : k = g.1 := by omega
    subst hk
    refine mm_ev.run mm_y182 3 rfl ?_
    refine mm_ev.val hg.n ?_
    refine mm_ev.run mm_y182 1 rfl ?_
    refine mm_ev.pos (nI_le (Nat.le_refl _) (by omega)) ?_
    refine mm_ev.run mm_y182 1 rfl ?_
    exact mm_ev.ret mm_y182 rfl rfl rfl ⟨rfl, rfl⟩
  | succ m ih =>
    intro k hk
    have ih := ih (k + 1) (by omega)
    rw [sp_fold_s _ k, nI_succ] at ih
    refine mm_ev.run mm_y182 3 rfl ?_
    refine mm_ev.val hg.n ?_
    refine mm_ev.run mm_y182 1 rfl ?_
    refine mm_ev.neg (nI_ge (by omega) (by omega)) ?_
    refine mm_ev.run mm_y182 4 rfl ?_
    refine mm_ev.ild mm_y182 rfl rfl rfl rfl rfl (by omega) (by decide) (hg.stood (by omega)) ?_
    refine mm_ev.run mm_y182 4 rfl ?_
    exact ih
set_option maxRecDepth 100000 in
theorem C182 (hg : sG_m g μ) (h6 : g.1 ≤ 6) : mm_call la_M d 182 [.ref 110] μ (fun v μ' => v = some (.int (sp_fold (g.2.2.2 4) g.1)) ∧ μ' = μ) := by
  refine mm_call.of mm_t182 ?_
  refine mm_ev.run mm_y182 4 rfl ?_
  exact C182_l hg h6 g.1 0 (by omega)
end
/-! hours ahead, place by place and all at once -/
section
variable {σ : List sS} {g : sG}
theorem sp_hours_n : ∀ k, (sp_hours σ g k).1 = g.1 := by
  intro k
  induction k with
  | zero => rfl
  | succ k ih => exact ih
theorem sp_hours_s (k : Nat) : sp_hours σ g (k + 1) = sp_hour σ (sp_hours σ g k) := rfl
theorem sp_hours_h : ∀ k, (sp_hours σ g k).2.1 = g.2.1 + nI k := by
  intro k
  induction k with
  | zero => exact (Int32.add_zero _).symm
  | succ k ih =>
    show (sp_hours σ g k).2.1 + 1 = _
    rw [ih, nI_succ, Int32.add_assoc]
theorem sp_hours_c : ∀ k, (sp_hours σ g k).2.2.1 = g.2.2.1 := by
  intro k
  induction k with
  | zero => rfl
  | succ k ih => exact ih
theorem sp_hours_r {j : Nat} (h0 : j ≠ 0) (h4 : j ≠ 4) : ∀ k, (sp_hours σ g k).2.2.2 j = g.2.2.2 j := by
  intro k
  induction k with
  | zero => rfl
  | succ k ih =>
    rw [sp_hours_s, ← ih]
    show (match j with
      | 0 => fun p => sp_next σ (sp_hours σ g k) p ((sp_hours σ g k).2.2.2 0 p) 0
      | 4 => fun c => if 0 ≤ (sp_hours σ g k).2.2.2 3 c then (sp_hours σ g k).2.2.2 4 c + 1 else (sp_hours σ g k).2.2.2 4 c
      | j => (sp_hours σ g k).2.2.2 j) = _
    split
    · exact absurd rfl h0
    · exact absurd rfl h4
    · rfl
theorem sp_hours_4 {c : Nat} (h : 0 ≤ g.2.2.2 3 c) : ∀ k, (sp_hours σ g k).2.2.2 4 c = g.2.2.2 4 c + nI k := by
  intro k
  induction k with
  | zero => exact (Int32.add_zero _).symm
  | succ k ih =>
    show (if 0 ≤ (sp_hours σ g k).2.2.2 3 c then (sp_hours σ g k).2.2.2 4 c + 1 else (sp_hours σ g k).2.2.2 4 c) = _
    rw [sp_hours_r (by decide) (by decide), if_pos h, ih, nI_succ, Int32.add_assoc]
theorem sp_care_k {c p k : Nat} {needs an : Int32} (h : 0 ≤ g.2.2.2 3 c) : sp_care σ (sp_hours σ g k) c p needs 0 an = sp_care σ g c p needs (nI k) an := by
  have ef : sp_f (sp_hours σ g k) c p needs 0 = sp_f g c p needs (nI k) := by
    funext l
    have e1 := congrFun (sp_hours_r (σ := σ) (g := g) (j := 1) (by decide) (by decide) k) c
    have e2 := congrFun (sp_hours_r (σ := σ) (g := g) (j := 2) (by decide) (by decide) k) c
    unfold sp_f
    rw [e1, e2, sp_hours_h, Int32.add_zero]
  unfold sp_care sp_cr
  rw [ef, sp_hours_c, sp_hours_h, Int32.add_zero, sp_hours_4 h, Int32.add_zero, sp_hours_r (j := 1) (by decide) (by decide), sp_hours_r (j := 2) (by decide) (by decide), sp_hours_r (j := 5) (by decide) (by decide)]
theorem sp_on_k {x : Int32} {k : Nat} : ∀ m, sp_on (sp_hours σ g k) x m = sp_on g x m := by
  intro m
  induction m with
  | zero => rfl
  | succ m ih => rw [sp_on_s, sp_on_s, ih, sp_hours_r (by decide) (by decide)]
theorem sp_sees_k {p k : Nat} (hp : p < 12) {needs an : Int32} : ∀ m, sp_sees σ (sp_hours σ g k) p needs 0 an m = sp_sees σ g p needs (nI k) an m := by
  intro m
  induction m with
  | zero => rfl
  | succ m ih =>
    rw [sp_sees_s, sp_sees_s, ih, sp_hours_r (by decide) (by decide)]
    by_cases e : g.2.2.2 3 m = nI p
    · rw [if_pos e, if_pos e, sp_care_k (by rw [e]; exact nI_pos' (by omega))]
    · rw [if_neg e, if_neg e]
theorem sp_next_k {p k : Nat} (hp : p < 12) {needs : Int32} : sp_next σ (sp_hours σ g k) p needs 0 = sp_next σ g p needs (nI k) := by
  unfold sp_next
  rw [sp_hours_n, sp_on_k, sp_sees_k hp, sp_hours_c]
theorem sp_beh_k {p : Nat} (hp : p < 12) : ∀ k, (sp_hours σ g k).2.2.2 0 p = sp_beh σ g p k := by
  intro k
  induction k with
  | zero => rfl
  | succ k ih =>
    show sp_next σ (sp_hours σ g k) p ((sp_hours σ g k).2.2.2 0 p) 0 = _
    rw [sp_next_k hp, ih]
    rfl
theorem sp_fold_co {f f2 : Nat → Int32} : ∀ k, (∀ i, i < k → f i = f2 i) → sp_fold f k = sp_fold f2 k := by
  intro k
  induction k with
  | zero => intro _; rfl
  | succ k ih =>
    intro h
    rw [sp_fold_s, sp_fold_s, ih (fun i hi => h i (by omega)), h k (by omega)]
theorem sp_all_k (k : Nat) : sp_fold ((sp_hours σ g k).2.2.2 0) 12 = sp_all σ g k := sp_fold_co 12 (fun i hi => sp_beh_k hi k)
theorem sp_wel_k (k : Nat) : ∀ m, m ≤ 12 → sp_wel σ (sp_hours σ g k) 0 m = sp_wel σ g k m := by
  intro m
  induction m with
  | zero => intro _; rfl
  | succ m ih =>
    intro h
    rw [sp_wel_0, sp_wel_s, ih (by omega), sp_beh_k (by omega)]
theorem fM.hours (h : fM g) (k : Nat) : fM (sp_hours σ g k) := by
  intro c hc
  rw [sp_hours_n] at hc
  rw [sp_hours_r (by decide) (by decide)]
  exact h c hc
end
