/-! THE REFERENCE'S CALLS: odds, means, plans, hours -/
theorem g_step (a b : Nat) (hb : 0 < b) : Nat.gcd b (a % b) = Nat.gcd a b := by
  rw [Nat.gcd_comm b (a % b), ← Nat.gcd_rec, Nat.gcd_comm]
section
variable {Λ : List mm_D} {d : Nat} {μ : mm_M}
set_option maxRecDepth 100000 in
theorem C178_l {a : Nat} (ha : a < 2 ^ 31) (w : Int32) : ∀ Y X x9, Y < 2 ^ 31 → X < 2 ^ 31 → Nat.gcd X Y = Nat.gcd a 12 → mm_ev Λ d 178 5 [some (.long (lN a)), none, some (.long 12), none, some (.int w), some (.long (lN X)), none, some (.long (lN Y)), none, x9, none] [] μ (fun v μ' => v = some (.long (sp_12 a w)) ∧ μ' = μ) := by
  intro Y
  induction Y using Nat.strongRecOn with
  | ind Y ih =>
    intro X x9 hY hX hG
    have hgp : 0 < Nat.gcd a 12 := Nat.gcd_pos_of_pos_right _ (by decide)
    have hgl : Nat.gcd a 12 ≤ 12 := Nat.gcd_le_right _ (by decide)
    have ez : lg_cmp (lN Y) 0 = 0 ↔ Y = 0 := by
      rw [lg_cmp_eq]
      exact lN_eq (b := 0) hY (by decide)
    by_cases h0 : Y = 0
    · subst h0
      rw [Nat.gcd_zero_right] at hG
      subst hG
      unfold sp_12
      refine mm_ev.run mm_y178 4 rfl ?_
      refine mm_ev.pos (ez.mpr rfl) ?_
      refine mm_ev.run mm_y178 2 rfl ?_
      refine mm_ev.ite (fun h2 => ?_) (fun h2 => ?_)
      · rw [if_pos h2]
        have e : lN a / lN (Nat.gcd a 12) = lN (a / Nat.gcd a 12) := pk_lDiv (by omega) hgp (by omega)
        have hne : ¬ lN (Nat.gcd a 12) = 0 := fun z => absurd ((lN_eq (b := 0) (by omega) (by decide)).mp z) (by omega)
        refine mm_ev.run mm_y178 3 rfl ?_
        refine mm_ev.stp1 (Λ := Λ) (μ := μ) (μ' := μ) mm_y178 rfl (show _ = some (25, [some (.long (lN a)), none, some (.long 12), none, some (.int w), some (.long (lN (Nat.gcd a 12))), none, some (.long (lN 0)), none, x9, none], [.long (lN a / lN (Nat.gcd a 12))], (Λ, μ)) from ?_) ?_
        · unfold mm_stp mm_op mm_j2
          dsimp only
          rw [if_neg hne]
        rw [e]
        exact mm_ev.ret mm_y178 rfl rfl rfl ⟨rfl, rfl⟩
      · rw [if_neg h2]
        have e : (12 : Int64) / lN (Nat.gcd a 12) = lN (12 / Nat.gcd a 12) := pk_lDiv (a := 12) (by omega) hgp (by omega)
        have hne : ¬ lN (Nat.gcd a 12) = 0 := fun z => absurd ((lN_eq (b := 0) (by omega) (by decide)).mp z) (by omega)
        refine mm_ev.run mm_y178 2 rfl ?_
        refine mm_ev.stp1 (Λ := Λ) (μ := μ) (μ' := μ) mm_y178 rfl (show _ = some (25, [some (.long (lN a)), none, some (.long 12), none, some (.int w), some (.long (lN (Nat.gcd a 12))), none, some (.long (lN 0)), none, x9, none], [.long (12 / lN (Nat.gcd a 12))], (Λ, μ)) from ?_) ?_
        · unfold mm_stp mm_op mm_j2
          dsimp only
          rw [if_neg hne]
        rw [e]
        exact mm_ev.ret mm_y178 rfl rfl rfl ⟨rfl, rfl⟩
    · have e : lN X - lN X / lN Y * lN Y = lN (X % Y) := pk_lRem (by omega) (by omega) (by omega)
      have hne : ¬ lN Y = 0 := fun z => h0 ((lN_eq (b := 0) hY (by decide)).mp z)
      have hlt : X % Y < Y := Nat.mod_lt _ (by omega)
      refine mm_ev.run mm_y178 4 rfl ?_
      refine mm_ev.neg (fun z => h0 (ez.mp z)) ?_
      refine mm_ev.run mm_y178 2 rfl ?_
      refine mm_ev.stp1 (Λ := Λ) (μ := μ) (μ' := μ) mm_y178 rfl (show _ = some (12, [some (.long (lN a)), none, some (.long 12), none, some (.int w), some (.long (lN X)), none, some (.long (lN Y)), none, x9, none], [.long (lN X - lN X / lN Y * lN Y)], (Λ, μ)) from ?_) ?_
      · unfold mm_stp mm_op mm_j2
        dsimp only
        rw [if_neg hne]
      rw [e]
      refine mm_ev.run mm_y178 6 rfl ?_
      exact ih (X % Y) hlt Y _ (by omega) hY (by rw [g_step X Y (by omega), hG])
theorem ab_0 {a : Nat} (ha : a < 2 ^ 31) : (if (0 : Int64) < lN a then lN a else - lN a) = lN a := by
  by_cases h : 0 < a
  · exact if_pos ((lN_lt (a := 0) (by decide) ha).mpr h)
  · have : a = 0 := by omega
    subst this
    decide
set_option maxRecDepth 100000 in
theorem C178 {a : Nat} (ha : a < 2 ^ 31) (w : Int32) : mm_call Λ d 178 [.long (lN a), .long 12, .int w] μ (fun v μ' => v = some (.long (sp_12 a w)) ∧ μ' = μ) := by
  refine mm_call.of mm_t178 ?_
  refine mm_ev.run mm_y178 2 rfl ?_
  refine mm_ev.vall (ab_0 ha) ?_
  refine mm_ev.run mm_y178 3 rfl ?_
  exact C178_l ha w 12 a none (by decide) ha rfl
end
section
variable {d : Nat} {μ : mm_M} {A : sA} {σ : List sS} {g : sG}
set_option maxRecDepth 100000 in
theorem C177_h {Φ : Option Value → mm_M → Prop} {μ0 : mm_M} {n c p : Nat} (hn : n ≤ 20) {w z5 z6 : Int32} (hf : fM g) (K : ∀ μ1, gM σ (sp_hours σ g n) μ1 → mh pWm μ0 μ1 → mm_ev la_M (d + 5) 177 44 [some (.ref 110), some (.int (nI c)), some (.int (nI p)), some (.int (nI n)), some (.int w), some (.int z5), some (.int z6), some (.int (nI n))] [] μ1 Φ) : ∀ m k μ1, k + m = n → gM σ (sp_hours σ g k) μ1 → mh pWm μ0 μ1 → mm_ev la_M (d + 5) 177 37 [some (.ref 110), some (.int (nI c)), some (.int (nI p)), some (.int (nI n)), some (.int w), some (.int z5), some (.int z6), some (.int (nI k))] [] μ1 Φ := by
  intro m
  induction m with
  | zero =>
    intro k μ1 hk hg hm
    have hk : k = n := by omega
    subst hk
    refine mm_ev.run mm_y177 3 rfl ?_
    refine mm_ev.pos (nI_le (Nat.le_refl _) (by omega)) ?_
    exact K μ1 hg hm
  | succ m ih =>
    intro k μ1 hk hg hm
    have ih := fun μ1 => ih (k + 1) μ1 (by omega)
    rw [nI_succ] at ih
    refine mm_ev.run mm_y177 3 rfl ?_
    refine mm_ev.neg (nI_ge (by omega) (by omega)) ?_
    refine mm_ev.run mm_y177 1 rfl ?_
    refine mm_ev.call mm_y177 rfl rfl rfl rfl rfl (C140 (d := d) hg (hf.hours k)) (fun v1 μ1 hq => ?_)
    obtain ⟨rfl, e1, e2⟩ := hq
    refine mm_ev.run mm_y177 2 rfl ?_
    exact ih _ e1 (hm.tr (e2.mono p140_W))
theorem fM.fg {c x : Nat} (h : fM g) (hx : x < 12) : fM (sG_f g c x) := by
  intro c' hc'
  have hc' : c' < g.1 := hc'
  have e : (sG_f g c x).2.2.2 3 = upd (g.2.2.2 3) c (nI x) := sG_u_at
  rw [e]
  by_cases z : c' = c
  · subst z
    rw [upd_eq]
    exact Or.inr ⟨x, hx, rfl⟩
  · rw [upd_ne z]
    exact h c' hc'
set_option maxRecDepth 100000 in
theorem C177_l (ho : okA A) {c p n : Nat} (hc : c < A.1.1.1) (hp : p < 12) (hn : n ≤ 20) (w : Int32) : ∀ m k x7 μ1, k + m = 12 → rM A μ1 → mm_ev la_M (d + 5) 177 23 [some (.ref 110), some (.int (nI c)), some (.int (nI p)), some (.int (nI n)), some (.int w), some (.int (nI (sp_od A.2.2.1 A.1.1 c p n k))), some (.int (nI k)), x7] [] μ1 (fun v μ' => v = some (.long (sp_12 (sp_od A.2.2.1 A.1.1 c p n 12) w)) ∧ rM A μ') := by
  have h6 := ho.n
  intro m
  induction m with
  | zero =>
    intro k x7 μ1 hk h
    have hk : k = 12 := by omega
    subst hk
    have hle := sp_od_le (σ := A.2.2.1) (g := A.1.1) (c := c) (p := p) (n := n) 12
    have K := C178 (Λ := la_M) (d := d + 4) (μ := μ1) (a := sp_od A.2.2.1 A.1.1 c p n 12) (by omega) w
    rw [← nI_l (by omega)] at K
    refine mm_ev.run mm_y177 3 rfl ?_
    refine mm_ev.pos (by decide) ?_
    refine mm_ev.run mm_y177 4 rfl ?_
    refine mm_ev.call mm_y177 rfl rfl rfl rfl rfl K (fun v1 μ1 hq => ?_)
    obtain ⟨rfl, hμ⟩ := hq
    obtain rfl := hμ.symm
    exact mm_ev.ret mm_y177 rfl rfl rfl ⟨rfl, h⟩
  | succ m ih =>
    intro k x7 μ1 hk h
    have ih := fun x7 μ1 => ih (k + 1) x7 μ1 (by omega)
    rw [nI_succ k, sp_od_s] at ih
    have hkc := kc_24 c (by omega)
    refine mm_ev.run mm_y177 3 rfl ?_
    refine mm_ev.neg (nI_ge (b := 12) (by omega) (by decide)) ?_
    refine mm_ev.run mm_y177 3 rfl ?_
    refine mm_ev.call mm_y177 rfl rfl rfl rfl rfl (C139 (q := 134) (Or.inr rfl)) (fun v1 μ1 hq => ?_)
    obtain ⟨rfl, F, rfl, hF⟩ := hq
    have hgk := (h.g ho).k (F := F)
    have hg2 : gM A.2.2.1 (sG_f A.1.1 c k) (mm_sI (mm_sI μ1 134 F) 114 (upd (μ1.1 114) c (nI k))) := hgk.u (k := 3) (by decide) (upd_co (fun i hi => hgk.1.fin hi))
    refine mm_ev.run mm_y177 4 rfl ?_
    refine mm_ev.ist mm_y177 rfl rfl rfl rfl rfl (by omega) (by decide) ?_
    refine mm_ev.run mm_y177 2 rfl ?_
    refine C177_h (d := d) (μ0 := mm_sI μ1 134 F) hn (ho.f.fg (show k < 12 by omega)) ?_ n 0 _ (by omega) hg2 (mh.rf.sI (fun _ => by omega))
    intro μ3 hg3 hm3
    have fin : ∀ z5 : Int32, (∀ μ4, rM A μ4 → mm_ev la_M (d + 5) 177 23 [some (.ref 110), some (.int (nI c)), some (.int (nI p)), some (.int (nI n)), some (.int w), some (.int z5), some (.int (nI k + 1)), some (.int (nI n))] [] μ4 (fun v μ' => v = some (.long (sp_12 (sp_od A.2.2.1 A.1.1 c p n 12) w)) ∧ rM A μ')) → mm_ev la_M (d + 5) 177 50 [some (.ref 110), some (.int (nI c)), some (.int (nI p)), some (.int (nI n)), some (.int w), some (.int z5), some (.int (nI k)), some (.int (nI n))] [] μ3 (fun v μ' => v = some (.long (sp_12 (sp_od A.2.2.1 A.1.1 c p n 12) w)) ∧ rM A μ') := by
      intro z5 hz
      refine mm_ev.run mm_y177 3 rfl ?_
      refine mm_ev.call mm_y177 rfl rfl rfl rfl rfl (C142 (q := 134) (Or.inr rfl)) (fun v1 μ1 hq => ?_)
      obtain ⟨rfl, e1, e2⟩ := hq
      refine mm_ev.run mm_y177 2 rfl ?_
      exact hz _ (h.bk ho (bk.of hF hm3 pWm_ok e1 e2))
    refine mm_ev.run mm_y177 3 rfl ?_
    refine mm_ev.ild mm_y177 rfl rfl rfl rfl rfl (by omega) (by decide) ((hg3.1.need hp).trans (sp_beh_k hp n)) ?_
    refine mm_ev.run mm_y177 1 rfl ?_
    refine mm_ev.ite (fun h3 => ?_) (fun h3 => ?_)
    · rw [if_pos h3, nI_succ] at ih
      refine mm_ev.run mm_y177 1 rfl ?_
      exact fin _ (fun μ4 h4 => ih _ _ h4)
    · rw [if_neg h3] at ih
      exact fin _ (fun μ4 h4 => ih _ _ h4)
set_option maxRecDepth 100000 in
theorem C177 (h : rM A μ) (ho : okA A) (c p n w : Int32) : mm_call la_M (d + 10) 177 [.ref 110, .int c, .int p, .int n, .int w] μ (fun v μ' => v = some (.long (q_odds A c p n w)) ∧ rM A μ') := by
  have h6 := ho.n
  refine mm_call.of mm_t177 ?_
  refine mm_ev.run mm_y177 2 rfl ?_
  refine mm_ev.call mm_y177 rfl rfl rfl rfl rfl (C130' h.n c) (fun v1 μ1 hq => ?_)
  obtain ⟨rfl, hμ⟩ := hq
  obtain rfl := hμ.symm
  refine mm_ev.run mm_y177 1 rfl ?_
  refine mm_ev.ifb (fun h1 => ?_) (fun h1 => ?_)
  · rw [q_odds, if_neg (fun z => h1 z.1.1)]
    refine mm_ev.run mm_y177 1 rfl ?_
    exact mm_ev.ret mm_y177 rfl rfl rfl ⟨rfl, h⟩
  · refine mm_ev.run mm_y177 1 rfl ?_
    refine mm_ev.call mm_y177 rfl rfl rfl rfl rfl (C131 p) (fun v1 μ1 hq => ?_)
    obtain ⟨rfl, hμ⟩ := hq
    obtain rfl := hμ.symm
    refine mm_ev.run mm_y177 1 rfl ?_
    refine mm_ev.ifb (fun h2 => ?_) (fun h2 => ?_)
    · rw [q_odds, if_neg (fun z => h2 z.1.2)]
      refine mm_ev.run mm_y177 1 rfl ?_
      exact mm_ev.ret mm_y177 rfl rfl rfl ⟨rfl, h⟩
    · refine mm_ev.run mm_y177 3 rfl ?_
      refine mm_ev.call mm_y177 rfl rfl rfl rfl rfl (C128 n 0 20) (fun v1 μ1 hq => ?_)
      obtain ⟨rfl, hμ⟩ := hq
      obtain rfl := hμ.symm
      refine mm_ev.run mm_y177 1 rfl ?_
      refine mm_ev.ifb (fun h3 => ?_) (fun h3 => ?_)
      · rw [q_odds, if_neg (fun z => h3 z.2.1)]
        refine mm_ev.run mm_y177 1 rfl ?_
        exact mm_ev.ret mm_y177 rfl rfl rfl ⟨rfl, h⟩
      · refine mm_ev.run mm_y177 3 rfl ?_
        refine mm_ev.call mm_y177 rfl rfl rfl rfl rfl (C128 w 0 1) (fun v1 μ1 hq => ?_)
        obtain ⟨rfl, hμ⟩ := hq
        obtain rfl := hμ.symm
        refine mm_ev.run mm_y177 1 rfl ?_
        refine mm_ev.ifb (fun h4 => ?_) (fun h4 => ?_)
        · rw [q_odds, if_neg (fun z => h4 z.2.2)]
          refine mm_ev.run mm_y177 1 rfl ?_
          exact mm_ev.ret mm_y177 rfl rfl rfl ⟨rfl, h⟩
        · rw [q_odds, if_pos ⟨⟨h1, h2⟩, h3, h4⟩]
          obtain ⟨c, hc, rfl⟩ := nI_cap (by omega) h1
          obtain ⟨p, hp, rfl⟩ := p_12 h2
          obtain ⟨n, hn, rfl⟩ := nI_of2 (n := 20) (M := 20) (by decide) (Int32.not_lt.mpr h3.1) h3.2
          rw [nI_clamp (by omega), nI_clamp (by omega), nI_clamp (by omega)]
          refine mm_ev.run mm_y177 4 rfl ?_
          exact C177_l (d := d + 5) ho hc hp hn w 12 0 none μ (by omega) h
set_option maxRecDepth 100000 in
theorem C179 (h : rM A μ) (ho : okA A) (n w : Int32) : mm_call la_M (d + 11) 179 [.ref 110, .int n, .int w] μ (fun v μ' => v = some (.long (q_mean A n w)) ∧ rM A μ') := by
  refine mm_call.of mm_t179 ?_
  refine mm_ev.run mm_y179 3 rfl ?_
  refine mm_ev.call mm_y179 rfl rfl rfl rfl rfl (C128 n 0 60) (fun v1 μ1 hq => ?_)
  obtain ⟨rfl, hμ⟩ := hq
  obtain rfl := hμ.symm
  refine mm_ev.run mm_y179 1 rfl ?_
  refine mm_ev.ifb (fun h1 => ?_) (fun h1 => ?_)
  · rw [q_mean, if_neg (fun z => h1 z.1)]
    refine mm_ev.run mm_y179 1 rfl ?_
    exact mm_ev.ret mm_y179 rfl rfl rfl ⟨rfl, h⟩
  · refine mm_ev.run mm_y179 3 rfl ?_
    refine mm_ev.call mm_y179 rfl rfl rfl rfl rfl (C128 w 0 1) (fun v1 μ1 hq => ?_)
    obtain ⟨rfl, hμ⟩ := hq
    obtain rfl := hμ.symm
    refine mm_ev.run mm_y179 1 rfl ?_
    refine mm_ev.ifb (fun h2 => ?_) (fun h2 => ?_)
    · rw [q_mean, if_neg (fun z => h2 z.2)]
      refine mm_ev.run mm_y179 1 rfl ?_
      exact mm_ev.ret mm_y179 rfl rfl rfl ⟨rfl, h⟩
    · rw [q_mean, if_pos ⟨h1, h2⟩]
      have K := C172 (d := d) h ho n 0
      have e : q_on A n 0 = sp_all A.2.2.1 A.1.1 n.toNatClampNeg := by unfold q_on; rw [if_pos (Or.inl rfl), if_pos h1, if_pos rfl]
      obtain ⟨x, hx, ex⟩ := sp_all_r (σ := A.2.2.1) ho.1.1 n.toNatClampNeg
      rw [e, ex] at K
      rw [ex, nI_clamp (by omega)]
      refine mm_ev.run mm_y179 3 rfl ?_
      refine mm_ev.call mm_y179 rfl rfl rfl rfl rfl K (fun v1 μ1 hq => ?_)
      obtain ⟨rfl, e1⟩ := hq
      have K2 := C178 (Λ := la_M) (d := d + 10) (μ := μ1) (a := x) (by omega) w
      rw [← nI_l (by omega)] at K2
      refine mm_ev.run mm_y179 3 rfl ?_
      refine mm_ev.call mm_y179 rfl rfl rfl rfl rfl K2 (fun v1 μ1 hq => ?_)
      obtain ⟨rfl, hμ⟩ := hq
      obtain rfl := hμ.symm
      refine mm_ev.run mm_y179 1 rfl ?_
      exact mm_ev.ret mm_y179 rfl rfl rfl ⟨rfl, e1⟩
/-! plans -/
theorem fM.stp {w x : Int32} (h : fM g) (hfit : sp_fit g.1 w x) (h2 : w = 2 → ∃ s, s < 12 ∧ x = nI s) : fM (sp_stp σ g w x) := by
  unfold sp_stp
  obtain ⟨hw, h1, h3⟩ := hfit
  rcases hw with rfl | rfl | rfl | rfl
  · rw [if_pos rfl]
    exact h
  · rw [if_neg (by decide), if_pos rfl]
    intro c hc
    have hc : c < g.1 := hc
    have e : (sG_u g 3 (upd (g.2.2.2 3) x.toNatClampNeg (-5))).2.2.2 3 = upd (g.2.2.2 3) x.toNatClampNeg (-5) := sG_u_at
    rw [e]
    by_cases z : c = x.toNatClampNeg
    · subst z
      rw [upd_eq]
      exact Or.inl rfl
    · rw [upd_ne z]
      exact h c hc
  · rw [if_neg (by decide), if_neg (by decide), if_pos rfl]
    obtain ⟨s, hs, rfl⟩ := h2 rfl
    exact h.spin hs
  · rw [if_neg (by decide), if_neg (by decide), if_neg (by decide), if_pos rfl]
    exact h
set_option maxRecDepth 100000 in
theorem C181_l {μ0 : mm_M} {F : Nat → Int32} (h : rM A μ0) (ho : okA A) (hF : ∀ j, j < 117 → F j = kG μ0 j) (w : Int32) : ∀ m k x3 μ1, k + m = A.1.2.2.1.1 → gM A.2.2.1 (sp_pl A.2.2.1 A.1.1 A.1.2.2.1 k) μ1 → fM (sp_pl A.2.2.1 A.1.1 A.1.2.2.1 k) → mh pWm (mm_sI μ0 134 F) μ1 → mm_ev la_M (d + 5) 181 13 [some (.ref 110), some (.int w), some (.int (nI k)), x3] [] μ1 (fun v μ' => v = some (.int (if w = 0 then sp_all A.2.2.1 (sp_pl A.2.2.1 A.1.1 A.1.2.2.1 A.1.2.2.1.1) 0 else sp_fold ((sp_pl A.2.2.1 A.1.1 A.1.2.2.1 A.1.2.2.1.1).2.2.2 4) A.1.1.1)) ∧ rM A μ') := by
  have h10 := ho.1.2.2.1.1
  have hr0 := h.1.2.2.1
  intro m
  induction m with
  | zero =>
    intro k x3 μ1 hk hg hf hm
    have hk : k = A.1.2.2.1.1 := by omega
    have hr : rRm 28 128 129 A.1.2.2.1 μ1 := (hr0.fr (mh.rf.sI (q := 134) (f := F) (P := fun c _ => c = 134) (fun _ => rfl)) (by omega) (fun j => by omega) (fun j => by omega)).fr hm (by omega) (fun j => by omega) (fun j => by omega)
    rw [hk] at hg ⊢
    have fin : ∀ z : Int32, mm_ev la_M (d + 5) 181 66 [some (.ref 110), some (.int w), some (.int (nI A.1.2.2.1.1)), x3] [.int z] μ1 (fun v μ' => v = some (.int z) ∧ rM A μ') := by
      intro z
      refine mm_ev.run mm_y181 4 rfl ?_
      refine mm_ev.call mm_y181 rfl rfl rfl rfl rfl (C142 (q := 134) (Or.inr rfl)) (fun v1 μ1 hq => ?_)
      obtain ⟨rfl, e1, e2⟩ := hq
      refine mm_ev.run mm_y181 1 rfl ?_
      exact mm_ev.ret mm_y181 rfl rfl rfl ⟨rfl, h.bk ho (bk.of hF hm pWm_ok e1 e2)⟩
    have K8 := C182 (d := d + 4) hg.1 hg.2.2.1
    rw [sp_pl_n] at K8
    refine mm_ev.run mm_y181 3 rfl ?_
    refine mm_ev.val hr.1 ?_
    refine mm_ev.run mm_y181 1 rfl ?_
    refine mm_ev.pos (nI_le (Nat.le_refl _) (by omega)) ?_
    refine mm_ev.run mm_y181 2 rfl ?_
    refine mm_ev.ite (fun h2 => ?_) (fun h2 => ?_)
    · rw [if_pos h2]
      refine mm_ev.run mm_y181 1 rfl ?_
      refine mm_ev.call mm_y181 rfl rfl rfl rfl rfl (C169 hg.1) (fun v1 μ1 hq => ?_)
      obtain ⟨rfl, hμ⟩ := hq
      obtain rfl := hμ.symm
      refine mm_ev.run mm_y181 1 rfl ?_
      exact fin _
    · rw [if_neg h2]
      refine mm_ev.run mm_y181 1 rfl ?_
      refine mm_ev.call mm_y181 rfl rfl rfl rfl rfl K8 (fun v1 μ1 hq => ?_)
      obtain ⟨rfl, hμ⟩ := hq
      obtain rfl := hμ.symm
      exact fin _
  | succ m ih =>
    intro k x3 μ1 hk hg hf hm
    have ih := fun x3 μ1 => ih (k + 1) x3 μ1 (by omega)
    rw [nI_succ] at ih
    have hr : rRm 28 128 129 A.1.2.2.1 μ1 := (hr0.fr (mh.rf.sI (q := 134) (f := F) (P := fun c _ => c = 134) (fun _ => rfl)) (by omega) (fun j => by omega) (fun j => by omega)).fr hm (by omega) (fun j => by omega) (fun j => by omega)
    obtain ⟨hfit, hs2⟩ := ho.1.2.2.1.2 k (by omega)
    have hfit0 := hfit
    rw [← sp_pl_n (σ := A.2.2.1) (g := A.1.1) (P := A.1.2.2.1) k] at hfit
    have hf2 := hf.stp (σ := A.2.2.1) hfit hs2
    have e128 := (hr.2 k (by omega)).1
    have e129 := (hr.2 k (by omega)).2
    have es : sp_pl A.2.2.1 A.1.1 A.1.2.2.1 (k + 1) = sp_stp A.2.2.1 (sp_pl A.2.2.1 A.1.1 A.1.2.2.1 k) (A.1.2.2.1.2 0 k) (A.1.2.2.1.2 1 k) := rfl
    rw [es] at ih
    have h6 := hg.2.2.1
    obtain ⟨hw, h1, h3⟩ := hfit
    generalize A.1.2.2.1.2 0 k = w0 at hw h1 h3 hs2 hf2 e128 ih
    generalize A.1.2.2.1.2 1 k = x0 at hw h1 h3 hs2 hf2 e129 ih
    rcases hw with rfl | rfl | rfl | rfl
    · have e : sp_stp A.2.2.1 (sp_pl A.2.2.1 A.1.1 A.1.2.2.1 k) 0 x0 = sp_hour A.2.2.1 (sp_pl A.2.2.1 A.1.1 A.1.2.2.1 k) := if_pos rfl
      rw [e] at ih hf2
      refine mm_ev.run mm_y181 3 rfl ?_
      refine mm_ev.val hr.1 ?_
      refine mm_ev.run mm_y181 1 rfl ?_
      refine mm_ev.neg (nI_ge (by omega) (by omega)) ?_
      refine mm_ev.run mm_y181 3 rfl ?_
      refine mm_ev.ild mm_y181 rfl rfl rfl rfl rfl (by omega) (by decide) e129 ?_
      refine mm_ev.run mm_y181 4 rfl ?_
      refine mm_ev.ild mm_y181 rfl rfl rfl rfl rfl (by omega) (by decide) e128 ?_
      refine mm_ev.run mm_y181 1 rfl ?_
      refine mm_ev.pos rfl ?_
      refine mm_ev.run mm_y181 1 rfl ?_
      refine mm_ev.call mm_y181 rfl rfl rfl rfl rfl (C140 (d := d) hg hf) (fun v1 μ1 hq => ?_)
      obtain ⟨rfl, e1, e2⟩ := hq
      refine mm_ev.run mm_y181 3 rfl ?_
      exact ih _ _ e1 hf2 (hm.tr (e2.mono p140_W))
    · obtain ⟨c, hc, rfl⟩ := h1 rfl
      have e : sp_stp A.2.2.1 (sp_pl A.2.2.1 A.1.1 A.1.2.2.1 k) 1 (nI c) = sG_u (sp_pl A.2.2.1 A.1.1 A.1.2.2.1 k) 3 (upd ((sp_pl A.2.2.1 A.1.1 A.1.2.2.1 k).2.2.2 3) c (-5)) := by
        unfold sp_stp
        rw [if_neg (by decide), if_pos rfl, nI_clamp (by omega)]
      rw [e] at ih hf2
      refine mm_ev.run mm_y181 3 rfl ?_
      refine mm_ev.val hr.1 ?_
      refine mm_ev.run mm_y181 1 rfl ?_
      refine mm_ev.neg (nI_ge (by omega) (by omega)) ?_
      refine mm_ev.run mm_y181 3 rfl ?_
      refine mm_ev.ild mm_y181 rfl rfl rfl rfl rfl (by omega) (by decide) e129 ?_
      refine mm_ev.run mm_y181 4 rfl ?_
      refine mm_ev.ild mm_y181 rfl rfl rfl rfl rfl (by omega) (by decide) e128 ?_
      refine mm_ev.run mm_y181 1 rfl ?_
      refine mm_ev.neg (by decide) ?_
      refine mm_ev.run mm_y181 3 rfl ?_
      refine mm_ev.ild mm_y181 rfl rfl rfl rfl rfl (by omega) (by decide) e128 ?_
      refine mm_ev.run mm_y181 2 rfl ?_
      refine mm_ev.pos rfl ?_
      refine mm_ev.run mm_y181 4 rfl ?_
      refine mm_ev.ist mm_y181 rfl rfl rfl rfl rfl (by omega) (by decide) ?_
      refine mm_ev.run mm_y181 3 rfl ?_
      exact ih _ _ (hg.u (k := 3) (by decide) (upd_co (fun i hi => hg.1.fin hi))) hf2 (hm.sI (fun _ => by omega))
    · have e : sp_stp A.2.2.1 (sp_pl A.2.2.1 A.1.1 A.1.2.2.1 k) 2 x0 = sp_spin (sp_pl A.2.2.1 A.1.1 A.1.2.2.1 k) x0 := by
        unfold sp_stp
        rw [if_neg (by decide), if_neg (by decide), if_pos rfl]
      rw [e] at ih hf2
      refine mm_ev.run mm_y181 3 rfl ?_
      refine mm_ev.val hr.1 ?_
      refine mm_ev.run mm_y181 1 rfl ?_
      refine mm_ev.neg (nI_ge (by omega) (by omega)) ?_
      refine mm_ev.run mm_y181 3 rfl ?_
      refine mm_ev.ild mm_y181 rfl rfl rfl rfl rfl (by omega) (by decide) e129 ?_
      refine mm_ev.run mm_y181 4 rfl ?_
      refine mm_ev.ild mm_y181 rfl rfl rfl rfl rfl (by omega) (by decide) e128 ?_
      refine mm_ev.run mm_y181 1 rfl ?_
      refine mm_ev.neg (by decide) ?_
      refine mm_ev.run mm_y181 3 rfl ?_
      refine mm_ev.ild mm_y181 rfl rfl rfl rfl rfl (by omega) (by decide) e128 ?_
      refine mm_ev.run mm_y181 2 rfl ?_
      refine mm_ev.neg (by decide) ?_
      refine mm_ev.run mm_y181 3 rfl ?_
      refine mm_ev.ild mm_y181 rfl rfl rfl rfl rfl (by omega) (by decide) e128 ?_
      refine mm_ev.run mm_y181 2 rfl ?_
      refine mm_ev.pos rfl ?_
      refine mm_ev.run mm_y181 2 rfl ?_
      refine mm_ev.call mm_y181 rfl rfl rfl rfl rfl (C149 hg hf x0) (fun v1 μ1 hq => ?_)
      obtain ⟨rfl, e1, e2⟩ := hq
      refine mm_ev.run mm_y181 3 rfl ?_
      exact ih _ _ e1 hf2 (hm.tr (e2.mono (fun c j hc => by omega)))
    · obtain ⟨p, hp, rfl⟩ := h3 rfl
      have e : sp_stp A.2.2.1 (sp_pl A.2.2.1 A.1.1 A.1.2.2.1 k) 3 (nI p) = sG_u (sp_pl A.2.2.1 A.1.1 A.1.2.2.1 k) 0 (upd ((sp_pl A.2.2.1 A.1.1 A.1.2.2.1 k).2.2.2 0) p 0) := by
        unfold sp_stp
        rw [if_neg (by decide), if_neg (by decide), if_neg (by decide), if_pos rfl, nI_clamp (by omega)]
      rw [e] at ih hf2
      refine mm_ev.run mm_y181 3 rfl ?_
      refine mm_ev.val hr.1 ?_
      refine mm_ev.run mm_y181 1 rfl ?_
      refine mm_ev.neg (nI_ge (by omega) (by omega)) ?_
      refine mm_ev.run mm_y181 3 rfl ?_
      refine mm_ev.ild mm_y181 rfl rfl rfl rfl rfl (by omega) (by decide) e129 ?_
      refine mm_ev.run mm_y181 4 rfl ?_
      refine mm_ev.ild mm_y181 rfl rfl rfl rfl rfl (by omega) (by decide) e128 ?_
      refine mm_ev.run mm_y181 1 rfl ?_
      refine mm_ev.neg (by decide) ?_
      refine mm_ev.run mm_y181 3 rfl ?_
      refine mm_ev.ild mm_y181 rfl rfl rfl rfl rfl (by omega) (by decide) e128 ?_
      refine mm_ev.run mm_y181 2 rfl ?_
      refine mm_ev.neg (by decide) ?_
      refine mm_ev.run mm_y181 3 rfl ?_
      refine mm_ev.ild mm_y181 rfl rfl rfl rfl rfl (by omega) (by decide) e128 ?_
      refine mm_ev.run mm_y181 2 rfl ?_
      refine mm_ev.neg (by decide) ?_
      refine mm_ev.run mm_y181 4 rfl ?_
      refine mm_ev.ist mm_y181 rfl rfl rfl rfl rfl (by omega) (by decide) ?_
      refine mm_ev.run mm_y181 2 rfl ?_
      exact ih _ _ (hg.u (k := 0) (by decide) (upd_co (fun i hi => hg.1.need hi))) hf2 (hm.sI (fun _ => by omega))
set_option maxRecDepth 100000 in
theorem C181 (h : rM A μ) (ho : okA A) (w : Int32) : mm_call la_M (d + 10) 181 [.ref 110, .int w] μ (fun v μ' => v = some (.int (q_ends A w)) ∧ rM A μ') := by
  refine mm_call.of mm_t181 ?_
  refine mm_ev.run mm_y181 3 rfl ?_
  refine mm_ev.call mm_y181 rfl rfl rfl rfl rfl (C128 w 0 1) (fun v1 μ1 hq => ?_)
  obtain ⟨rfl, hμ⟩ := hq
  obtain rfl := hμ.symm
  refine mm_ev.run mm_y181 1 rfl ?_
  refine mm_ev.ifb (fun h1 => ?_) (fun h1 => ?_)
  · rw [q_ends, if_neg h1]
    refine mm_ev.run mm_y181 1 rfl ?_
    exact mm_ev.ret mm_y181 rfl rfl rfl ⟨rfl, h⟩
  · rw [q_ends, if_pos h1]
    refine mm_ev.run mm_y181 3 rfl ?_
    refine mm_ev.call mm_y181 rfl rfl rfl rfl rfl (C139 (q := 134) (Or.inr rfl)) (fun v1 μ1 hq => ?_)
    obtain ⟨rfl, F, rfl, hF⟩ := hq
    refine mm_ev.run mm_y181 2 rfl ?_
    exact C181_l (d := d + 5) h ho hF w A.1.2.2.1.1 0 none _ (by omega) ((h.g ho).k (F := F)) ho.f mh.rf
/-! hours -/
theorem okG.hour {s h : Nat} (ho : okG s g) (hh : g.2.1 = nI h) (h1 : h + 1 ≤ 9999) : okG s (sp_hour σ g) := by
  obtain ⟨o1, o2, o3, o4, o5, h0, o6, o7, o8⟩ := ho
  have e : h0 = h := (nI_eq (by omega) (by omega)).mp (o7.symm.trans hh)
  subst e
  refine ⟨o1, o2, fun p hp => sp_clp_n _, o4, o5, h0 + 1, h1, ?_, fun c hc => ?_⟩
  · show g.2.1 + 1 = _
    rw [hh, nI_succ]
  · obtain ⟨s, hs, es⟩ := o8 c hc
    show ∃ s, s ≤ h0 + 1 ∧ (if 0 ≤ g.2.2.2 3 c then g.2.2.2 4 c + 1 else g.2.2.2 4 c) = nI s
    split
    · exact ⟨s + 1, by omega, by rw [es, nI_succ]⟩
    · exact ⟨s, by omega, es⟩
theorem okG.hours {s h : Nat} (ho : okG s g) (hh : g.2.1 = nI h) : ∀ k, h + k ≤ 9999 → okG s (sp_hours σ g k) := by
  intro k
  induction k with
  | zero => intro _; exact ho
  | succ k ih =>
    intro hk
    exact (ih (by omega)).hour (h := h + k) (by rw [sp_hours_h, hh, nI_add]) (by omega)
theorem upd_self {f : Nat → Int32} {k : Nat} : upd f k (f k) = f := by
  funext j
  unfold upd
  by_cases e : j = k
  · rw [if_pos e, e]
  · rw [if_neg e]
set_option maxRecDepth 100000 in
theorem C171_c {Φ : Option Value → mm_M → Prop} {s : Nat} {n i : Int32} (hg : sG_m g μ) (ho : okG s g) (K : mm_ev la_M d 171 40 [some (.ref 110), some (.int n), some (.int i), some (.int (nI g.1))] [] μ Φ) : ∀ m k, k + m = g.1 → mm_ev la_M d 171 24 [some (.ref 110), some (.int n), some (.int i), some (.int (nI k))] [] μ Φ := by
  have h6 := ho.1
  intro m
  induction m with
  | zero =>
    intro k hk
    have hk : k = g.1 := by omega
    subst hk
    refine mm_ev.run mm_y171 3 rfl ?_
    refine mm_ev.val hg.n ?_
    refine mm_ev.run mm_y171 1 rfl ?_
    refine mm_ev.pos (nI_le (Nat.le_refl _) (by omega)) ?_
    exact K
  | succ m ih =>
    intro k hk
    have ih := ih (k + 1) (by omega)
    rw [nI_succ] at ih
    obtain ⟨h0, o6, o7, o8⟩ := ho.2.2.2.2.2
    obtain ⟨st, hst, est⟩ := o8 k (by omega)
    have e1 : μ.1 115 k = nI st := (hg.stood (by omega)).trans est
    have ev : (if nI st < (9999 : Int32) then nI st else 9999) = nI st := by
      by_cases z : st < 9999
      · exact if_pos (nI_lt (b := 9999) z (by decide))
      · have : st = 9999 := by omega
        subst this
        rfl
    refine mm_ev.run mm_y171 3 rfl ?_
    refine mm_ev.val hg.n ?_
    refine mm_ev.run mm_y171 1 rfl ?_
    refine mm_ev.neg (nI_ge (by omega) (by omega)) ?_
    refine mm_ev.run mm_y171 7 rfl ?_
    refine mm_ev.ild mm_y171 rfl rfl rfl rfl rfl (by omega) (by decide) e1 ?_
    refine mm_ev.run mm_y171 1 rfl ?_
    refine mm_ev.val ev ?_
    refine mm_ev.ist mm_y171 rfl rfl rfl rfl rfl (by omega) (by decide) ?_
    refine mm_ev.run mm_y171 2 rfl ?_
    refine mm_ev.eq (show mm_sI μ 115 (upd (μ.1 115) k (nI st)) = μ from by rw [← e1, upd_self, mm_sI_self]) ?_
    exact ih
set_option maxRecDepth 100000 in
theorem C171_l (h : rM A μ) (ho : okA A) {n h0 : Nat} (hn : n ≤ 60) (hh : A.1.1.2.1 = nI h0) (hhn : h0 + n ≤ 9999) : ∀ m k x3 μ1, k + m = n → gM A.2.2.1 (sp_hours A.2.2.1 A.1.1 k) μ1 → mh pWm μ μ1 → mm_ev la_M (d + 5) 171 17 [some (.ref 110), some (.int (nI n)), some (.int (nI k)), x3] [] μ1 (fun v μ' => v = some (.int (sp_hours A.2.2.1 A.1.1 n).2.1) ∧ rM (sA_G A (sp_hours A.2.2.1 A.1.1 n)) μ') := by
  intro m
  induction m with
  | zero =>
    intro k x3 μ1 hk hg hm
    have hk : k = n := by omega
    subst hk
    refine mm_ev.run mm_y171 3 rfl ?_
    refine mm_ev.pos (nI_le (Nat.le_refl _) (by omega)) ?_
    refine mm_ev.run mm_y171 2 rfl ?_
    refine mm_ev.val hg.1.hour ?_
    exact mm_ev.ret mm_y171 rfl rfl rfl ⟨rfl, h.setG hg.1 hm (fun c j hc => by omega)⟩
  | succ m ih =>
    intro k x3 μ1 hk hg hm
    have ih := fun x3 μ1 => ih (k + 1) x3 μ1 (by omega)
    rw [nI_succ] at ih
    have ho2 := ho.1.1.hours (σ := A.2.2.1) hh (k + 1) (by omega)
    refine mm_ev.run mm_y171 3 rfl ?_
    refine mm_ev.neg (nI_ge (by omega) (by omega)) ?_
    refine mm_ev.run mm_y171 1 rfl ?_
    refine mm_ev.call mm_y171 rfl rfl rfl rfl rfl (C140 (d := d) hg (ho.f.hours k)) (fun v1 μ1 hq => ?_)
    obtain ⟨rfl, e1, e2⟩ := hq
    refine mm_ev.run mm_y171 2 rfl ?_
    refine C171_c e1.1 ho2 ?_ (sp_hour A.2.2.1 (sp_hours A.2.2.1 A.1.1 k)).1 0 (by omega)
    refine mm_ev.run mm_y171 2 rfl ?_
    exact ih _ _ e1 (hm.tr (e2.mono p140_W))
set_option maxRecDepth 100000 in
theorem C171 (h : rM A μ) (ho : okA A) (n : Int32) : mm_call la_M (d + 10) 171 [.ref 110, .int n] μ (fun v μ' => v = some (.int (q_pass A n).1) ∧ rM (q_pass A n).2 μ') := by
  have hg := h.g ho
  obtain ⟨h0, o6, o7, _⟩ := ho.1.1.2.2.2.2.2
  refine mm_call.of mm_t171 ?_
  refine mm_ev.run mm_y171 3 rfl ?_
  refine mm_ev.call mm_y171 rfl rfl rfl rfl rfl (C128 n 0 60) (fun v1 μ1 hq => ?_)
  obtain ⟨rfl, hμ⟩ := hq
  obtain rfl := hμ.symm
  refine mm_ev.run mm_y171 1 rfl ?_
  refine mm_ev.ifb (fun h1 => ?_) (fun h1 => ?_)
  · rw [q_pass, if_neg h1]
    refine mm_ev.run mm_y171 1 rfl ?_
    exact mm_ev.ret mm_y171 rfl rfl rfl ⟨rfl, h⟩
  · rw [q_pass, if_pos h1]
    obtain ⟨n, hn, rfl⟩ := p_60 h1
    rw [nI_clamp (by omega)]
    refine mm_ev.run mm_y171 2 rfl ?_
    refine mm_ev.val hg.1.hour ?_
    refine mm_ev.run mm_y171 4 rfl ?_
    refine mm_ev.ite (fun h2 => ?_) (fun h2 => ?_)
    · have hle : h0 + n ≤ 9999 := by
        have := h2
        rw [o7, nI_add] at this
        exact (nI_leI (b := 9999) (by omega) (by decide)).mp this
      rw [if_pos h2]
      refine mm_ev.run mm_y171 2 rfl ?_
      exact C171_l (d := d + 5) h ho hn o7 hle n 0 none μ (by omega) hg mh.rf
    · rw [if_neg h2]
      refine mm_ev.run mm_y171 1 rfl ?_
      exact mm_ev.ret mm_y171 rfl rfl rfl ⟨rfl, h⟩
end
