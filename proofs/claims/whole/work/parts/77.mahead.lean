/-! THE REFERENCE'S CALLS: hours ahead -/
abbrev pWm (c j : Nat) : Prop := c = 124 ∨ c = 135 ∨ (111 ≤ c ∧ c ≤ 116) ∨ (c = 110 ∧ j = 7)
section
variable {d : Nat} {μ : mm_M} {A : sA} {σ : List sS} {g : sG}
theorem pWm_ok : ∀ c j, pWm c j → c ≠ 134 ∧ (sm c j ∨ pg c j) := fun c j h => by omega
theorem p140_W : ∀ c j, p140 c j → pWm c j := fun c j h => by omega
set_option maxRecDepth 100000 in
theorem C172_l {Φ : Option Value → mm_M → Prop} {μ0 : mm_M} {n : Nat} (hn : n ≤ 60) {w : Int32} (hf : fM g) (K : ∀ μ1, gM σ (sp_hours σ g n) μ1 → mh pWm μ0 μ1 → mm_ev la_M (d + 5) 172 32 [some (.ref 110), some (.int (nI n)), some (.int w), some (.int (nI n))] [] μ1 Φ) : ∀ m k μ1, k + m = n → gM σ (sp_hours σ g k) μ1 → mh pWm μ0 μ1 → mm_ev la_M (d + 5) 172 25 [some (.ref 110), some (.int (nI n)), some (.int w), some (.int (nI k))] [] μ1 Φ := by
  intro m
  induction m with
  | zero =>
    intro k μ1 hk hg hm
    have hk : k = n := by omega
    subst hk
    refine mm_ev.run mm_y172 3 rfl ?_
    refine mm_ev.pos (nI_le (Nat.le_refl _) (by omega)) ?_
    exact K μ1 hg hm
  | succ m ih =>
    intro k μ1 hk hg hm
    have ih := fun μ1 => ih (k + 1) μ1 (by omega)
    rw [nI_succ] at ih
    refine mm_ev.run mm_y172 3 rfl ?_
    refine mm_ev.neg (nI_ge (by omega) (by omega)) ?_
    refine mm_ev.run mm_y172 1 rfl ?_
    refine mm_ev.call mm_y172 rfl rfl rfl rfl rfl (C140 (d := d) hg (hf.hours k)) (fun v1 μ1 hq => ?_)
    obtain ⟨rfl, e1, e2⟩ := hq
    refine mm_ev.run mm_y172 2 rfl ?_
    exact ih _ e1 (hm.tr (e2.mono p140_W))
theorem p_01 {w : Int32} (h : 0 ≤ w ∧ w ≤ 1) : w = 0 ∨ w = 1 := by
  obtain ⟨j, hj, rfl⟩ := nI_of2 (n := 1) (M := 1) (by decide) (Int32.not_lt.mpr h.1) h.2
  rcases (show j = 0 ∨ j = 1 by omega) with rfl | rfl
  · exact Or.inl rfl
  · exact Or.inr rfl
set_option maxRecDepth 100000 in
theorem C172 (h : rM A μ) (ho : okA A) (n w : Int32) : mm_call la_M (d + 10) 172 [.ref 110, .int n, .int w] μ (fun v μ' => v = some (.int (q_on A n w)) ∧ rM A μ') := by
  have hg := h.g ho
  have key : ∀ hw : w = 0 ∨ w = 1 ∨ (10 ≤ w ∧ w ≤ 21), mm_ev la_M (d + 10) 172 12 [some (.ref 110), some (.int n), some (.int w), none] [] μ (fun v μ' => v = some (.int (q_on A n w)) ∧ rM A μ') := by
    intro hw
    rw [q_on, if_pos hw]
    refine mm_ev.run mm_y172 3 rfl ?_
    refine mm_ev.call mm_y172 rfl rfl rfl rfl rfl (C128 n 0 60) (fun v1 μ1 hq => ?_)
    obtain ⟨rfl, hμ⟩ := hq
    obtain rfl := hμ.symm
    refine mm_ev.run mm_y172 1 rfl ?_
    refine mm_ev.ifb (fun h1 => ?_) (fun h1 => ?_)
    · rw [if_neg h1]
      refine mm_ev.run mm_y172 1 rfl ?_
      exact mm_ev.ret mm_y172 rfl rfl rfl ⟨rfl, h⟩
    · rw [if_pos h1]
      obtain ⟨n, hn, rfl⟩ := p_60 h1
      rw [nI_clamp (by omega)]
      refine mm_ev.run mm_y172 3 rfl ?_
      refine mm_ev.call mm_y172 rfl rfl rfl rfl rfl (C139 (q := 134) (Or.inr rfl)) (fun v1 μ1 hq => ?_)
      obtain ⟨rfl, F, rfl, hF⟩ := hq
      refine mm_ev.run mm_y172 2 rfl ?_
      refine C172_l (d := d + 5) hn ho.f ?_ n 0 _ (by omega) (hg.k (F := F)) mh.rf
      intro μ1 hg1 hm
      have fin : ∀ z : Int32, mm_ev la_M (d + 10) 172 49 [some (.ref 110), some (.int (nI n)), some (.int w), some (.int (nI n))] [.int z] μ1 (fun v μ' => v = some (.int z) ∧ rM A μ') := by
        intro z
        refine mm_ev.run mm_y172 4 rfl ?_
        refine mm_ev.call mm_y172 rfl rfl rfl rfl rfl (C142 (q := 134) (Or.inr rfl)) (fun v1 μ1 hq => ?_)
        obtain ⟨rfl, e1, e2⟩ := hq
        refine mm_ev.run mm_y172 1 rfl ?_
        exact mm_ev.ret mm_y172 rfl rfl rfl ⟨rfl, h.bk ho (bk.of hF hm pWm_ok e1 e2)⟩
      refine mm_ev.run mm_y172 2 rfl ?_
      refine mm_ev.ite (fun h2 => ?_) (fun h2 => ?_)
      · rw [if_pos h2, ← sp_all_k]
        refine mm_ev.run mm_y172 1 rfl ?_
        refine mm_ev.call mm_y172 rfl rfl rfl rfl rfl (C169 hg1.1) (fun v1 μ1 hq => ?_)
        obtain ⟨rfl, hμ⟩ := hq
        obtain rfl := hμ.symm
        refine mm_ev.run mm_y172 1 rfl ?_
        exact fin _
      · rw [if_neg h2]
        refine mm_ev.run mm_y172 3 rfl ?_
        refine mm_ev.ite (fun h3 => ?_) (fun h3 => ?_)
        · rw [if_pos h3, ← sp_wel_k n 12 (Nat.le_refl _)]
          refine mm_ev.run mm_y172 1 rfl ?_
          refine mm_ev.call mm_y172 rfl rfl rfl rfl rfl (C170 (σ := A.2.2.1) hg1.1) (fun v1 μ1 hq => ?_)
          obtain ⟨rfl, hμ⟩ := hq
          obtain rfl := hμ.symm
          refine mm_ev.run mm_y172 1 rfl ?_
          exact fin _
        · rw [if_neg h3]
          obtain ⟨p, hp, e⟩ := w_10 ((hw.resolve_left h2).resolve_left h3)
          rw [e, nI_clamp (by omega), ← sp_beh_k hp]
          refine mm_ev.run mm_y172 5 rfl ?_
          refine mm_ev.ild mm_y172 rfl rfl rfl rfl e (by omega) (by decide) (hg1.1.need hp) ?_
          exact fin _
  refine mm_call.of mm_t172 ?_
  refine mm_ev.run mm_y172 3 rfl ?_
  refine mm_ev.call mm_y172 rfl rfl rfl rfl rfl (C128 w 0 1) (fun v1 μ1 hq => ?_)
  obtain ⟨rfl, hμ⟩ := hq
  obtain rfl := hμ.symm
  refine mm_ev.run mm_y172 1 rfl ?_
  refine mm_ev.ifb (fun h1 => ?_) (fun h1 => ?_)
  · refine mm_ev.run mm_y172 3 rfl ?_
    refine mm_ev.call mm_y172 rfl rfl rfl rfl rfl (C131 (w - 10)) (fun v1 μ1 hq => ?_)
    obtain ⟨rfl, hμ⟩ := hq
    obtain rfl := hμ.symm
    refine mm_ev.run mm_y172 1 rfl ?_
    refine mm_ev.ifb (fun h2 => ?_) (fun h2 => ?_)
    · rw [q_on, if_neg (fun z => by
        rcases z with z | z | z
        · exact h1 (by rw [z]; decide)
        · exact h1 (by rw [z]; decide)
        · exact h2 (w_10'.mpr z))]
      refine mm_ev.run mm_y172 1 rfl ?_
      exact mm_ev.ret mm_y172 rfl rfl rfl ⟨rfl, h⟩
    · exact key (Or.inr (Or.inr (w_10'.mp h2)))
  · rcases p_01 h1 with rfl | rfl
    · exact key (Or.inl rfl)
    · exact key (Or.inr (Or.inl rfl))
theorem sp_huw_s (σ : List sS) (g : sG) (p m k : Nat) : sp_huw σ g p (m + 1) k = if sp_beh σ g p k = 0 then nI k else sp_huw σ g p m (k + 1) := rfl
set_option maxRecDepth 100000 in
theorem C138_e {μ0 : mm_M} {F : Nat → Int32} (h : rM A μ0) (ho : okA A) (hF : ∀ j, j < 117 → F j = kG μ0 j) {z : Int32} {x1 x3 : Option Value} {μ1 : mm_M} (hm : mh pWm (mm_sI μ0 134 F) μ1) : mm_ev la_M (d + 1) 138 27 [some (.ref 110), x1, some (.int z), x3] [] μ1 (fun v μ' => v = some (.int z) ∧ rM A μ') := by
  refine mm_ev.run mm_y138 3 rfl ?_
  refine mm_ev.call mm_y138 rfl rfl rfl rfl rfl (C142 (q := 134) (Or.inr rfl)) (fun v1 μ1 hq => ?_)
  obtain ⟨rfl, e1, e2⟩ := hq
  refine mm_ev.run mm_y138 1 rfl ?_
  exact mm_ev.ret mm_y138 rfl rfl rfl ⟨rfl, h.bk ho (bk.of hF hm pWm_ok e1 e2)⟩
set_option maxRecDepth 100000 in
theorem C138_l {μ0 : mm_M} {F : Nat → Int32} (h : rM A μ0) (ho : okA A) (hF : ∀ j, j < 117 → F j = kG μ0 j) {p : Nat} (hp : p < 12) : ∀ m k μ1, k + m = 61 → gM A.2.2.1 (sp_hours A.2.2.1 A.1.1 (k - 1)) μ1 → mh pWm (mm_sI μ0 134 F) μ1 → mm_ev la_M (d + 5) 138 8 [some (.ref 110), some (.int (nI p)), some (.int (-5)), some (.int (nI k))] [] μ1 (fun v μ' => v = some (.int (sp_huw A.2.2.1 A.1.1 p m k)) ∧ rM A μ') := by
  intro m
  induction m with
  | zero =>
    intro k μ1 hk hg hm
    have hk : k = 61 := by omega
    subst hk
    refine mm_ev.run mm_y138 3 rfl ?_
    refine mm_ev.pos (by decide) ?_
    exact C138_e h ho hF hm
  | succ m ih =>
    intro k μ1 hk hg hm
    have ih := fun μ1 => ih (k + 1) μ1 (by omega)
    rw [nI_succ, Nat.add_sub_cancel] at ih
    rw [sp_huw_s]
    have K18 : ∀ μ1, gM A.2.2.1 (sp_hours A.2.2.1 A.1.1 k) μ1 → mh pWm (mm_sI μ0 134 F) μ1 → mm_ev la_M (d + 5) 138 18 [some (.ref 110), some (.int (nI p)), some (.int (-5)), some (.int (nI k))] [] μ1 (fun v μ' => v = some (.int (if sp_beh A.2.2.1 A.1.1 p k = 0 then nI k else sp_huw A.2.2.1 A.1.1 p m (k + 1))) ∧ rM A μ') := by
      intro μ1 hg hm
      rw [← sp_beh_k hp]
      refine mm_ev.run mm_y138 3 rfl ?_
      refine mm_ev.ild mm_y138 rfl rfl rfl rfl rfl (by omega) (by decide) (hg.1.need hp) ?_
      refine mm_ev.run mm_y138 1 rfl ?_
      refine mm_ev.ite (fun h1 => ?_) (fun h1 => ?_)
      · rw [if_pos h1]
        refine mm_ev.run mm_y138 4 rfl ?_
        by_cases h61 : k + 1 = 61
        ·
          refine mm_ev.run mm_y138 3 rfl ?_
          refine mm_ev.pos (show (61 : Int32) ≤ nI k + 1 from by rw [← nI_succ, h61]; decide) ?_
          exact C138_e h ho hF hm
        ·
          refine mm_ev.run mm_y138 3 rfl ?_
          refine mm_ev.neg (show ¬ (61 : Int32) ≤ nI k + 1 from by rw [← nI_succ]; exact nI_ge (b := 61) (by omega) (by decide)) ?_
          refine mm_ev.run mm_y138 3 rfl ?_
          refine mm_ev.neg (fun z => absurd (nI_pos' (n := k) (by omega)) (by rw [z]; decide)) ?_
          exact C138_e h ho hF hm
      · rw [if_neg h1]
        refine mm_ev.run mm_y138 2 rfl ?_
        exact ih _ hg hm
    refine mm_ev.run mm_y138 3 rfl ?_
    refine mm_ev.neg (nI_ge (b := 61) (by omega) (by decide)) ?_
    refine mm_ev.run mm_y138 3 rfl ?_
    refine mm_ev.pos rfl ?_
    by_cases h0 : k = 0
    · subst h0
      refine mm_ev.run mm_y138 2 rfl ?_
      refine mm_ev.pos (by decide) ?_
      exact K18 _ hg hm
    ·
      refine mm_ev.run mm_y138 2 rfl ?_
      refine mm_ev.neg (nI_nle (by omega) (by omega)) ?_
      refine mm_ev.run mm_y138 1 rfl ?_
      refine mm_ev.call mm_y138 rfl rfl rfl rfl rfl (C140 (d := d) hg (ho.f.hours (k - 1))) (fun v1 μ1 hq => ?_)
      obtain ⟨rfl, e1, e2⟩ := hq
      rw [← sp_hours_s, show k - 1 + 1 = k by omega] at e1
      exact K18 _ e1 (hm.tr (e2.mono p140_W))
set_option maxRecDepth 100000 in
theorem C138 (h : rM A μ) (ho : okA A) {p : Nat} (hp : p < 12) : mm_call la_M (d + 5) 138 [.ref 110, .int (nI p)] μ (fun v μ' => v = some (.int (sp_huw A.2.2.1 A.1.1 p 61 0)) ∧ rM A μ') := by
  refine mm_call.of mm_t138 ?_
  refine mm_ev.run mm_y138 3 rfl ?_
  refine mm_ev.call mm_y138 rfl rfl rfl rfl rfl (C139 (q := 134) (Or.inr rfl)) (fun v1 μ1 hq => ?_)
  obtain ⟨rfl, F, rfl, hF⟩ := hq
  refine mm_ev.run mm_y138 4 rfl ?_
  exact C138_l (d := d) h ho hF hp 61 0 _ (by omega) ((h.g ho).k (F := F)) mh.rf
/-! what was seen; over any globe g that lies there now -/
def iS (S : sR) (μ : mm_M) : Prop := μ.1 110 24 = nI S.1 ∧ ∀ i, i < S.1 → μ.1 125 i = S.2 0 i ∧ μ.1 126 i = S.2 1 i ∧ μ.1 127 i = S.2 2 i
theorem iS.fr {S : sR} {P : Nat → Nat → Prop} {μ' : mm_M} (h : iS S μ) (hf : mh P μ μ') (hP : ∀ c j, P c j → ¬ ((125 ≤ c ∧ c ≤ 127) ∨ (c = 110 ∧ j = 24))) : iS S μ' := ⟨by rw [hf.1 110 24 (fun z => hP _ _ z (by omega))]; exact h.1, fun i hi => ⟨by rw [hf.1 125 i (fun z => hP _ _ z (by omega))]; exact (h.2 i hi).1, by rw [hf.1 126 i (fun z => hP _ _ z (by omega))]; exact (h.2 i hi).2.1, by rw [hf.1 127 i (fun z => hP _ _ z (by omega))]; exact (h.2 i hi).2.2⟩⟩
/-- all is again as it was, over a globe -/
theorem sG_m.bk {μ' : mm_M} (h6 : g.1 ≤ 6) (h : sG_m g μ) (hb : bk μ μ') : sG_m g μ' := by
  have f : ∀ j c k, kc j = (c, k) → j < 117 → μ'.1 c k = μ.1 c k := fun j c k hj h117 => by
    have := hb.1 j h117
    rw [kG_at hj, kG_at hj] at this
    exact this
  obtain ⟨g1, g2, g3, g4⟩ := h
  refine ⟨by rw [f 111 110 1 (by decide) (by decide)]; exact g1, by rw [f 112 110 7 (by decide) (by decide)]; exact g2, by rw [f 116 110 15 (by decide) (by decide)]; exact g3, fun k i hk hi => ?_⟩
  have e0 := g4 k i hk hi
  rcases (show k = 0 ∨ k = 1 ∨ k = 2 ∨ k = 3 ∨ k = 4 ∨ k = 5 by omega) with rfl | rfl | rfl | rfl | rfl | rfl
  · have hi : i < 12 := hi
    rw [← e0, f (0 + i) (111 + 0) i (kc_0 i hi) (by omega)]
  · have hi : i < g.1 := hi
    rw [← e0, f (12 + i) (111 + 1) i (kc_12 i (by omega)) (by omega)]
  · have hi : i < g.1 := hi
    rw [← e0, f (18 + i) (111 + 2) i (kc_18 i (by omega)) (by omega)]
  · have hi : i < g.1 := hi
    rw [← e0, f (24 + i) (111 + 3) i (kc_24 i (by omega)) (by omega)]
  · have hi : i < g.1 := hi
    rw [← e0, f (30 + i) (111 + 4) i (kc_30 i (by omega)) (by omega)]
  · have hi : i < 4 * g.1 := hi
    rw [← e0, f (36 + i) (111 + 5) i (kc_36 i (by omega)) (by omega)]
theorem gM.bk {μ' : mm_M} (h : gM σ g μ) (hb : bk μ μ') : gM σ g μ' := ⟨h.1.bk h.2.2.1 hb, h.2.1.fr hb.2 (fun c j hc => by omega), h.2.2⟩
theorem iS.bk {S : sR} {μ' : mm_M} (h5 : S.1 ≤ 5) (h : iS S μ) (hb : bk μ μ') : iS S μ' := by
  have f : ∀ j c k, kc j = (c, k) → j < 117 → μ'.1 c k = μ.1 c k := fun j c k hj h117 => by
    have := hb.1 j h117
    rw [kG_at hj, kG_at hj] at this
    exact this
  exact ⟨by rw [f 113 110 24 (by decide) (by decide)]; exact h.1, fun i hi => ⟨by rw [f (60 + i) 125 i (kc_60 i (by omega)) (by omega)]; exact (h.2 i hi).1, by rw [f (65 + i) 126 i (kc_65 i (by omega)) (by omega)]; exact (h.2 i hi).2.1, by rw [f (70 + i) 127 i (kc_70 i (by omega)) (by omega)]; exact (h.2 i hi).2.2⟩⟩
set_option maxRecDepth 100000 in
theorem C144_h {Φ : Option Value → mm_M → Prop} {μ0 : mm_M} {S : sR} (hS : okS S) {i n : Nat} (hi : i < S.1) (hn : n < 13) (en : S.2 1 i = nI n) (hf : fM g) (hr : iS S μ0) (K : ∀ μ1 x3, gM σ (sp_hours σ g n) μ1 → mh pWm μ0 μ1 → mm_ev la_M (d + 5) 144 26 [some (.ref 110), some (.int 1), some (.int (nI i)), x3] [] μ1 Φ) : ∀ m k μ1, k + m = n → gM σ (sp_hours σ g k) μ1 → mh pWm μ0 μ1 → mm_ev la_M (d + 5) 144 16 [some (.ref 110), some (.int 1), some (.int (nI i)), some (.int (nI k))] [] μ1 Φ := by
  have h5 := hS.1
  intro m
  induction m with
  | zero =>
    intro k μ1 hk hg hm
    have hk : k = n := by omega
    subst hk
    have hr1 := hr.fr hm (fun c j hc => by omega)
    refine mm_ev.run mm_y144 4 rfl ?_
    refine mm_ev.ild mm_y144 rfl rfl rfl rfl rfl (by omega) (by decide) ((hr1.2 i hi).2.1.trans en) ?_
    refine mm_ev.run mm_y144 1 rfl ?_
    refine mm_ev.pos (nI_le (Nat.le_refl _) (by omega)) ?_
    exact K μ1 _ hg hm
  | succ m ih =>
    intro k μ1 hk hg hm
    have ih := fun μ1 => ih (k + 1) μ1 (by omega)
    rw [nI_succ] at ih
    have hr1 := hr.fr hm (fun c j hc => by omega)
    refine mm_ev.run mm_y144 4 rfl ?_
    refine mm_ev.ild mm_y144 rfl rfl rfl rfl rfl (by omega) (by decide) ((hr1.2 i hi).2.1.trans en) ?_
    refine mm_ev.run mm_y144 1 rfl ?_
    refine mm_ev.neg (nI_ge (by omega) (by omega)) ?_
    refine mm_ev.run mm_y144 1 rfl ?_
    refine mm_ev.call mm_y144 rfl rfl rfl rfl rfl (C140 (d := d) hg (hf.hours k)) (fun v1 μ1 hq => ?_)
    obtain ⟨rfl, e1, e2⟩ := hq
    refine mm_ev.run mm_y144 2 rfl ?_
    exact ih _ e1 (hm.tr (e2.mono p140_W))
set_option maxRecDepth 100000 in
theorem C144_l {μ0 : mm_M} {S : sR} (hS : okS S) (hf : fM g) : ∀ m i μ1 x3, i + m = S.1 → gM σ g μ1 → iS S μ1 → bk μ0 μ1 → (∀ i', i' < i → sp_beh σ g (S.2 0 i').toNatClampNeg (S.2 1 i').toNatClampNeg = S.2 2 i') → mm_ev la_M (d + 5) 144 4 [some (.ref 110), some (.int 1), some (.int (nI i)), x3] [] μ1 (fun v μ' => v = some (.int (bI (sp_sn σ g S))) ∧ bk μ0 μ') := by
  have h5 := hS.1
  intro m
  induction m with
  | zero =>
    intro i μ1 x3 hi hg hr hb hall
    have hi : i = S.1 := by omega
    subst hi
    rw [bI_1 (p := sp_sn σ g S) hall]
    refine mm_ev.run mm_y144 3 rfl ?_
    refine mm_ev.val hr.1 ?_
    refine mm_ev.run mm_y144 1 rfl ?_
    refine mm_ev.pos (nI_le (Nat.le_refl _) (by omega)) ?_
    refine mm_ev.run mm_y144 1 rfl ?_
    exact mm_ev.ret mm_y144 rfl rfl rfl ⟨rfl, hb⟩
  | succ m ih =>
    intro i μ1 x3 hi hg hr hb hall
    have ih := fun μ1 x3 => ih (i + 1) μ1 x3 (by omega)
    rw [nI_succ] at ih
    obtain ⟨⟨p, hp, ep⟩, t, ht, et⟩ := hS.2 i (by omega)
    refine mm_ev.run mm_y144 3 rfl ?_
    refine mm_ev.val hr.1 ?_
    refine mm_ev.run mm_y144 1 rfl ?_
    refine mm_ev.neg (nI_ge (by omega) (by omega)) ?_
    refine mm_ev.run mm_y144 2 rfl ?_
    refine mm_ev.neg (by decide) ?_
    refine mm_ev.run mm_y144 3 rfl ?_
    refine mm_ev.call mm_y144 rfl rfl rfl rfl rfl (C139 (q := 134) (Or.inr rfl)) (fun v1 μ1 hq => ?_)
    obtain ⟨rfl, F, rfl, hF⟩ := hq
    refine mm_ev.run mm_y144 2 rfl ?_
    refine C144_h (d := d) (μ0 := mm_sI μ1 134 F) hS (by omega) ht et hf (hr.fr (mh.rf.sI (P := fun c _ => c = 134) (fun _ => rfl)) (fun c j hc => by omega)) ?_ t 0 _ (by omega) (hg.k (F := F)) mh.rf
    intro μ2 x3 hg2 hm
    have hr2 := (hr.fr (mh.rf.sI (q := 134) (f := F) (P := fun c _ => c = 134) (fun _ => rfl)) (fun c j hc => by omega)).fr hm (fun c j hc => by omega)
    have fin : ∀ z : Int32, (∀ μ3, gM σ g μ3 → iS S μ3 → bk μ0 μ3 → mm_ev la_M (d + 5) 144 4 [some (.ref 110), some (.int z), some (.int (nI i + 1)), x3] [] μ3 (fun v μ' => v = some (.int (bI (sp_sn σ g S))) ∧ bk μ0 μ')) → mm_ev la_M (d + 5) 144 41 [some (.ref 110), some (.int 1), some (.int (nI i)), x3] [.int z] μ2 (fun v μ' => v = some (.int (bI (sp_sn σ g S))) ∧ bk μ0 μ') := by
      intro z hz
      refine mm_ev.run mm_y144 4 rfl ?_
      refine mm_ev.call mm_y144 rfl rfl rfl rfl rfl (C142 (q := 134) (Or.inr rfl)) (fun v1 μ1 hq => ?_)
      obtain ⟨rfl, e1, e2⟩ := hq
      have hb2 := bk.of hF hm pWm_ok e1 e2
      refine mm_ev.run mm_y144 2 rfl ?_
      exact hz _ (hg.bk hb2) (hr.bk h5 hb2) (hb.tr hb2)
    refine mm_ev.run mm_y144 5 rfl ?_
    refine mm_ev.ild mm_y144 rfl rfl rfl rfl rfl (by omega) (by decide) ((hr2.2 i (by omega)).1.trans ep) ?_
    refine mm_ev.ild mm_y144 rfl rfl rfl rfl rfl (by omega) (by decide) ((hg2.1.need hp).trans (sp_beh_k hp t)) ?_
    refine mm_ev.run mm_y144 3 rfl ?_
    refine mm_ev.ild mm_y144 rfl rfl rfl rfl rfl (by omega) (by decide) (hr2.2 i (by omega)).2.2 ?_
    refine mm_ev.run mm_y144 1 rfl ?_
    refine mm_ev.ite (fun h2 => ?_) (fun h2 => ?_)
    · refine mm_ev.run mm_y144 2 rfl ?_
      refine fin 1 (fun μ3 a1 a2 a3 => ih μ3 _ a1 a2 a3 (fun i' hi' => ?_))
      by_cases e : i' = i
      · subst e
        rw [ep, et, nI_clamp (by omega), nI_clamp (by omega)]
        exact h2
      · exact hall i' (by omega)
    · refine mm_ev.run mm_y144 1 rfl ?_
      refine fin 0 (fun μ3 a1 a2 a3 => ?_)
      rw [bI_0 (p := sp_sn σ g S) (fun z => h2 (by
        have := z i (by omega)
        rw [ep, et, nI_clamp (by omega), nI_clamp (by omega)] at this
        exact this))]
      by_cases hl : i + 1 = S.1
      ·
        refine mm_ev.run mm_y144 3 rfl ?_
        refine mm_ev.val a2.1 ?_
        refine mm_ev.run mm_y144 1 rfl ?_
        refine mm_ev.pos (show nI S.1 ≤ nI i + 1 from by rw [← nI_succ, hl]; exact nI_le (Nat.le_refl _) (by omega)) ?_
        refine mm_ev.run mm_y144 1 rfl ?_
        exact mm_ev.ret mm_y144 rfl rfl rfl ⟨rfl, a3⟩
      ·
        refine mm_ev.run mm_y144 3 rfl ?_
        refine mm_ev.val a2.1 ?_
        refine mm_ev.run mm_y144 1 rfl ?_
        refine mm_ev.neg (show ¬ nI S.1 ≤ nI i + 1 from by rw [← nI_succ]; exact nI_ge (by omega) (by omega)) ?_
        refine mm_ev.run mm_y144 2 rfl ?_
        refine mm_ev.pos rfl ?_
        refine mm_ev.run mm_y144 1 rfl ?_
        exact mm_ev.ret mm_y144 rfl rfl rfl ⟨rfl, a3⟩
set_option maxRecDepth 100000 in
theorem C144 {S : sR} (hg : gM σ g μ) (hS : okS S) (hf : fM g) (hr : iS S μ) : mm_call la_M (d + 5) 144 [.ref 110] μ (fun v μ' => v = some (.int (bI (sp_sn σ g S))) ∧ bk μ μ') := by
  refine mm_call.of mm_t144 ?_
  refine mm_ev.run mm_y144 4 rfl ?_
  exact C144_l (d := d) hS hf S.1 0 μ none (by omega) hg hr bk.rf (fun i hi => absurd hi (by omega))
end
