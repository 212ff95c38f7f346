/-! THE REFERENCE'S CALLS: what was seen, crowds, turns -/
def bkx (e : Nat) (μ μ' : mm_M) : Prop := (∀ j, j < 117 → j ≠ e → kG μ' j = kG μ j) ∧ mh (fun c j => sm c j ∨ pg c j ∨ pr c j) μ μ'
section
variable {μ μ1 μ2 : mm_M} {e c k : Nat}
theorem bkx.rf : bkx e μ μ := ⟨fun _ _ _ => rfl, mh.rf⟩
theorem bkx.tr (h : bkx e μ μ1) (h2 : bk μ1 μ2) : bkx e μ μ2 := ⟨fun j hj hne => (h2.1 j hj).trans (h.1 j hj hne), h.2.tr h2.2⟩
theorem kG_w {j : Nat} {x : Int32} (he : e < 117) (hj : j < 117) (hc : kc e = (c, k)) (hne : j ≠ e) : kG (mm_sI μ c (upd (μ.1 c) k x)) j = kG μ j := by
  have hn : kc j ≠ (c, k) := fun y => hne (kc_inj j hj e he (y.trans hc.symm))
  unfold kG
  by_cases e1 : (kc j).1 = c
  · rw [e1, sI_eq, upd_ne (fun y => hn (by rw [← e1, ← y]))]
  · rw [sI_ne e1]
theorem bkx.w {x : Int32} (h : bkx e μ μ1) (he : e < 117) (hc : kc e = (c, k)) (hp : pg c k) : bkx e μ (mm_sI μ1 c (upd (μ1.1 c) k x)) := ⟨fun j hj hne => (kG_w he hj hc hne).trans (h.1 j hj hne), h.2.sU (Or.inr (Or.inl hp)) rfl⟩
theorem bkx.fin {x : Int32} (h : bkx e μ μ1) (he : e < 117) (hc : kc e = (c, k)) (hp : pg c k) (hx : x = kG μ e) : bk μ (mm_sI μ1 c (upd (μ1.1 c) k x)) := ⟨fun j hj => by
  by_cases hne : j = e
  · subst hne
    rw [kG_at hc, sI_eq, upd_eq, hx]
  · exact (kG_w he hj hc hne).trans (h.1 j hj hne), h.2.sU (Or.inr (Or.inl hp)) rfl⟩
end
section
variable {d : Nat} {μ : mm_M} {A : sA} {σ : List sS} {g : sG}
theorem rM.iS (h : rM A μ) : iS A.1.2.1 μ := ⟨h.1.2.1.1.1, fun i hi => ⟨(h.1.2.1.1.2 i hi).1, (h.1.2.1.1.2 i hi).2, h.1.2.1.2 i hi⟩⟩
theorem iS.w {S : sR} {c k : Nat} {x : Int32} (h : iS S μ) (hc : 111 ≤ c ∧ c ≤ 116) : iS S (mm_sI μ c (upd (μ.1 c) k x)) := h.fr (mh.rf.sI (P := fun c' _ => c' = c) (fun _ => rfl)) (fun c j hc => by omega)
set_option maxRecDepth 100000 in
theorem C143_l (h : rM A μ) (ho : okA A) {p : Nat} (hp : p < 12) (w : Int32) : ∀ k mm l g1 μ1, k ≤ 100 → gM A.2.2.1 g1 μ1 → (∀ n, sG_n g1 p n = sG_n A.1.1 p n) → iS A.1.2.1 μ1 → bkx (0 + p) μ μ1 → mm_ev la_M (d + 6) 143 11 [some (.ref 110), some (.int (nI p)), some (.int w), some (.int (A.1.1.2.2.2 0 p)), some (.int mm), some (.int l), some (.int (nI k - 1))] [] μ1 (fun v μ' => v = some (.int (if w = 0 then (sp_scn (fun n => sp_sn A.2.2.1 (sG_n A.1.1 p n) A.1.2.1) (fun _ => inferInstance) k mm l).1 else (sp_scn (fun n => sp_sn A.2.2.1 (sG_n A.1.1 p n) A.1.2.1) (fun _ => inferInstance) k mm l).2)) ∧ rM A μ') := by
  intro k
  have hS := ho.1.2.1
  have hkc := kc_0 p hp
  induction k with
  | zero =>
    intro mm l g1 μ1 hk hg hgg hr hb
    have hb2 := hb.fin (x := A.1.1.2.2.2 0 p) (by omega) hkc (by omega) (by rw [kG_at hkc]; exact (h.1.1.need hp).symm)
    refine mm_ev.run mm_y143 2 rfl ?_
    refine mm_ev.pos (by decide) ?_
    refine mm_ev.run mm_y143 4 rfl ?_
    refine mm_ev.ist mm_y143 rfl rfl rfl rfl rfl (by omega) (by decide) ?_
    refine mm_ev.run mm_y143 2 rfl ?_
    refine mm_ev.ite (fun h2 => ?_) (fun h2 => ?_)
    · rw [if_pos h2]
      refine mm_ev.run mm_y143 2 rfl ?_
      exact mm_ev.ret mm_y143 rfl rfl rfl ⟨rfl, h.bk ho hb2⟩
    · rw [if_neg h2]
      refine mm_ev.run mm_y143 1 rfl ?_
      exact mm_ev.ret mm_y143 rfl rfl rfl ⟨rfl, h.bk ho hb2⟩
  | succ k ih =>
    intro mm l g1 μ1 hk hg hgg hr hb
    have ih := fun mm l g1 μ1 => ih mm l g1 μ1 (by omega)
    rw [Int32.sub_eq_add_neg] at ih
    rw [nI_pred]
    have hg2 := hg.u (k := 0) (f := upd (μ1.1 111) p (nI k)) (F := upd (g1.2.2.2 0) p (nI k)) (by decide) (upd_co (fun i hi => hg.1.need hi))
    have e2 : sG_u g1 0 (upd (g1.2.2.2 0) p (nI k)) = sG_n A.1.1 p k := hgg k
    rw [e2] at hg2
    have hr2 := hr.w (c := 111) (k := p) (x := nI k) (by omega)
    have hb2 := hb.w (x := nI k) (by omega) hkc (by omega)
    have hf2 : fM (sG_n A.1.1 p k) := ho.f
    refine mm_ev.run mm_y143 2 rfl ?_
    refine mm_ev.neg (nI_pos (by omega)) ?_
    refine mm_ev.run mm_y143 4 rfl ?_
    refine mm_ev.ist mm_y143 rfl rfl rfl rfl rfl (by omega) (by decide) ?_
    refine mm_ev.run mm_y143 1 rfl ?_
    refine mm_ev.call mm_y143 rfl rfl rfl rfl rfl (C144 (d := d) hg2 hS hf2 hr2) (fun v1 μ1 hq => ?_)
    obtain ⟨rfl, b1⟩ := hq
    refine mm_ev.run mm_y143 1 rfl ?_
    refine mm_ev.ifb (fun h3 => ?_) (fun h3 => ?_)
    · rw [sp_scn_0 h3]
      refine mm_ev.run mm_y143 3 rfl ?_
      exact ih _ _ _ _ (hg2.bk b1) (fun n => sG_n_n) (hr2.bk hS.1 b1) (hb2.tr b1)
    · rw [sp_scn_1 h3]
      refine mm_ev.run mm_y143 5 rfl ?_
      exact ih _ _ _ _ (hg2.bk b1) (fun n => sG_n_n) (hr2.bk hS.1 b1) (hb2.tr b1)
set_option maxRecDepth 100000 in
theorem C143 (h : rM A μ) (ho : okA A) {p : Nat} (hp : p < 12) (w : Int32) : mm_call la_M (d + 6) 143 [.ref 110, .int (nI p), .int w] μ (fun v μ' => v = some (.int (if w = 0 then (sp_fitN A.2.2.1 A.1.1 A.1.2.1 p).1 else (sp_fitN A.2.2.1 A.1.1 A.1.2.1 p).2)) ∧ rM A μ') := by
  have hg := h.g ho
  refine mm_call.of mm_t143 ?_
  refine mm_ev.run mm_y143 3 rfl ?_
  refine mm_ev.ild mm_y143 rfl rfl rfl rfl rfl (by omega) (by decide) (hg.1.need hp) ?_
  refine mm_ev.run mm_y143 7 rfl ?_
  exact C143_l (d := d) h ho hp w 100 0 (-5) A.1.1 μ (by omega) hg (fun _ => rfl) h.iS bkx.rf
set_option maxRecDepth 100000 in
theorem C137 (h : rM A μ) (ho : okA A) (p w : Int32) : mm_call la_M (d + 10) 137 [.ref 110, .int p, .int w] μ (fun v μ' => v = some (.int (q_spot A p w)) ∧ rM A μ') := by
  have hg := h.g ho
  refine mm_call.of mm_t137 ?_
  refine mm_ev.run mm_y137 1 rfl ?_
  refine mm_ev.call mm_y137 rfl rfl rfl rfl rfl (C131 p) (fun v1 μ1 hq => ?_)
  obtain ⟨rfl, hμ⟩ := hq
  obtain rfl := hμ.symm
  refine mm_ev.run mm_y137 1 rfl ?_
  refine mm_ev.ifb (fun h1 => ?_) (fun h1 => ?_)
  · rw [q_spot, if_neg h1]
    refine mm_ev.run mm_y137 1 rfl ?_
    exact mm_ev.ret mm_y137 rfl rfl rfl ⟨rfl, h⟩
  · rw [q_spot, if_pos h1]
    obtain ⟨p, hp, rfl⟩ := p_12 h1
    rw [nI_clamp (by omega)]
    refine mm_ev.run mm_y137 2 rfl ?_
    refine mm_ev.swc (fun h2 => ?_) (fun n0 => mm_ev.swc (fun h2 => ?_) (fun n1 => mm_ev.swc (fun h2 => ?_) (fun n2 => mm_ev.swc (fun h2 => ?_) (fun n3 => mm_ev.sw0 ?_))))
    · rw [if_pos h2]
      refine mm_ev.run mm_y137 3 rfl ?_
      refine mm_ev.ild mm_y137 rfl rfl rfl rfl rfl (by omega) (by decide) (hg.1.need hp) ?_
      exact mm_ev.ret mm_y137 rfl rfl rfl ⟨rfl, h⟩
    · rw [if_neg n0, if_pos h2]
      refine mm_ev.run mm_y137 2 rfl ?_
      refine mm_ev.call mm_y137 rfl rfl rfl rfl rfl ((C138 (d := d) h ho hp).deep (by omega)) (fun v1 μ1 hq => ?_)
      obtain ⟨rfl, e1⟩ := hq
      exact mm_ev.ret mm_y137 rfl rfl rfl ⟨rfl, e1⟩
    · rw [if_neg n0, if_neg n1, if_pos h2]
      refine mm_ev.run mm_y137 3 rfl ?_
      refine mm_ev.call mm_y137 rfl rfl rfl rfl rfl ((C143 (d := d) h ho hp 0).deep (by omega)) (fun v1 μ1 hq => ?_)
      obtain ⟨rfl, e1⟩ := hq
      exact mm_ev.ret mm_y137 rfl rfl rfl ⟨rfl, e1⟩
    · rw [if_neg n0, if_neg n1, if_neg n2, if_pos h2]
      refine mm_ev.run mm_y137 3 rfl ?_
      refine mm_ev.call mm_y137 rfl rfl rfl rfl rfl ((C143 (d := d) h ho hp 1).deep (by omega)) (fun v1 μ1 hq => ?_)
      obtain ⟨rfl, e1⟩ := hq
      exact mm_ev.ret mm_y137 rfl rfl rfl ⟨rfl, e1⟩
    · rw [if_neg n0, if_neg n1, if_neg n2, if_neg n3]
      refine mm_ev.run mm_y137 1 rfl ?_
      exact mm_ev.ret mm_y137 rfl rfl rfl ⟨rfl, h⟩
set_option maxRecDepth 100000 in
theorem C176_l (h : rM A μ) (ho : okA A) {c : Nat} (hc : c < A.1.1.1) (w : Int32) : ∀ k mm l g1 μ1, k ≤ 10 → gM A.2.2.1 g1 μ1 → g1.1 = A.1.1.1 → (∀ n, sG_v g1 c n = sG_v A.1.1 c n) → iS A.1.2.1 μ1 → bkx (18 + c) μ μ1 → mm_ev la_M (d + 9) 176 22 [some (.ref 110), some (.int (nI c)), some (.int w), some (.int (A.1.1.2.2.2 2 c)), some (.int mm), some (.int l), some (.int (nI k - 1))] [] μ1 (fun v μ' => v = some (.int (if w = 0 then (sp_scn (fun n => sp_sn A.2.2.1 (sG_v A.1.1 c n) A.1.2.1) (fun _ => inferInstance) k mm l).1 else (sp_scn (fun n => sp_sn A.2.2.1 (sG_v A.1.1 c n) A.1.2.1) (fun _ => inferInstance) k mm l).2)) ∧ rM A μ') := by
  intro k
  have h6 := ho.n
  have hS := ho.1.2.1
  have hkc := kc_18 c (by omega)
  induction k with
  | zero =>
    intro mm l g1 μ1 hk hg hgn hgg hr hb
    have hb2 := hb.fin (x := A.1.1.2.2.2 2 c) (by omega) hkc (by omega) (by rw [kG_at hkc]; exact (h.1.1.v hc).symm)
    refine mm_ev.run mm_y176 2 rfl ?_
    refine mm_ev.pos (by decide) ?_
    refine mm_ev.run mm_y176 4 rfl ?_
    refine mm_ev.ist mm_y176 rfl rfl rfl rfl rfl (by omega) (by decide) ?_
    refine mm_ev.run mm_y176 2 rfl ?_
    refine mm_ev.ite (fun h2 => ?_) (fun h2 => ?_)
    · rw [if_pos h2]
      refine mm_ev.run mm_y176 2 rfl ?_
      exact mm_ev.ret mm_y176 rfl rfl rfl ⟨rfl, h.bk ho hb2⟩
    · rw [if_neg h2]
      refine mm_ev.run mm_y176 1 rfl ?_
      exact mm_ev.ret mm_y176 rfl rfl rfl ⟨rfl, h.bk ho hb2⟩
  | succ k ih =>
    intro mm l g1 μ1 hk hg hgn hgg hr hb
    have ih := fun mm l g1 μ1 => ih mm l g1 μ1 (by omega)
    rw [Int32.sub_eq_add_neg] at ih
    rw [nI_pred]
    have hg2 := hg.u (k := 2) (f := upd (μ1.1 113) c (nI k)) (F := upd (g1.2.2.2 2) c (nI k)) (by decide) (upd_co (fun i hi => hg.1.v hi))
    have e2 : sG_u g1 2 (upd (g1.2.2.2 2) c (nI k)) = sG_v A.1.1 c k := hgg k
    rw [e2] at hg2
    have hr2 := hr.w (c := 113) (k := c) (x := nI k) (by omega)
    have hb2 := hb.w (x := nI k) (by omega) hkc (by omega)
    have hf2 : fM (sG_v A.1.1 c k) := ho.f
    refine mm_ev.run mm_y176 2 rfl ?_
    refine mm_ev.neg (nI_pos (by omega)) ?_
    refine mm_ev.run mm_y176 4 rfl ?_
    refine mm_ev.ist mm_y176 rfl rfl rfl rfl rfl (by omega) (by decide) ?_
    refine mm_ev.run mm_y176 1 rfl ?_
    refine mm_ev.call mm_y176 rfl rfl rfl rfl rfl ((C144 (d := d) hg2 hS hf2 hr2).deep (by omega)) (fun v1 μ1 hq => ?_)
    obtain ⟨rfl, b1⟩ := hq
    refine mm_ev.run mm_y176 1 rfl ?_
    refine mm_ev.ifb (fun h3 => ?_) (fun h3 => ?_)
    · rw [sp_scn_0 h3]
      refine mm_ev.run mm_y176 3 rfl ?_
      exact ih _ _ _ _ (hg2.bk b1) rfl (fun n => sG_v_v) (hr2.bk hS.1 b1) (hb2.tr b1)
    · rw [sp_scn_1 h3]
      refine mm_ev.run mm_y176 5 rfl ?_
      exact ih _ _ _ _ (hg2.bk b1) rfl (fun n => sG_v_v) (hr2.bk hS.1 b1) (hb2.tr b1)
set_option maxRecDepth 100000 in
theorem C176 (h : rM A μ) (ho : okA A) (c w : Int32) : mm_call la_M (d + 10) 176 [.ref 110, .int c, .int w] μ (fun v μ' => v = some (.int (q_can A c w)) ∧ rM A μ') := by
  have h6 := ho.n
  have hg := h.g ho
  refine mm_call.of mm_t176 ?_
  refine mm_ev.run mm_y176 2 rfl ?_
  refine mm_ev.call mm_y176 rfl rfl rfl rfl rfl (C130' h.n c) (fun v1 μ1 hq => ?_)
  obtain ⟨rfl, hμ⟩ := hq
  obtain rfl := hμ.symm
  refine mm_ev.run mm_y176 1 rfl ?_
  refine mm_ev.ifb (fun h1 => ?_) (fun h1 => ?_)
  · rw [q_can, if_neg (fun z => h1 z.1)]
    refine mm_ev.run mm_y176 1 rfl ?_
    exact mm_ev.ret mm_y176 rfl rfl rfl ⟨rfl, h⟩
  · refine mm_ev.run mm_y176 3 rfl ?_
    refine mm_ev.call mm_y176 rfl rfl rfl rfl rfl (C128 w 0 1) (fun v1 μ1 hq => ?_)
    obtain ⟨rfl, hμ⟩ := hq
    obtain rfl := hμ.symm
    refine mm_ev.run mm_y176 1 rfl ?_
    refine mm_ev.ifb (fun h2 => ?_) (fun h2 => ?_)
    · rw [q_can, if_neg (fun z => h2 z.2)]
      refine mm_ev.run mm_y176 1 rfl ?_
      exact mm_ev.ret mm_y176 rfl rfl rfl ⟨rfl, h⟩
    · rw [q_can, if_pos ⟨h1, h2⟩]
      obtain ⟨c, hc, rfl⟩ := nI_cap (by omega) h1
      rw [nI_clamp (by omega)]
      refine mm_ev.run mm_y176 3 rfl ?_
      refine mm_ev.ild mm_y176 rfl rfl rfl rfl rfl (by omega) (by decide) (hg.1.v hc) ?_
      refine mm_ev.run mm_y176 7 rfl ?_
      exact C176_l (d := d + 1) h ho hc w 10 0 (-5) A.1.1 μ (by omega) hg rfl (fun _ => rfl) h.iS bkx.rf
/-! crowds -/
set_option maxRecDepth 100000 in
theorem C173_f {Φ : Option Value → mm_M → Prop} {n p : Nat} (hp : p < 12) {b : Int32} {s : Nat} (hg : gM σ g μ) (K : ∀ μ1, gM σ (sp_gath g (nI s) (nI p)) μ1 → mh pWm μ μ1 → mm_ev la_M d 173 57 [some (.ref 110), some (.int (nI p)), some (.int (nI n)), some (.int b), some (.int (nI s)), some (.int (nI g.1))] [] μ1 Φ) : ∀ m k, k + m = g.1 → mm_ev la_M d 173 37 [some (.ref 110), some (.int (nI p)), some (.int (nI n)), some (.int b), some (.int (nI s)), some (.int (nI k))] [] (mm_sI μ 114 (pt (μ.1 114) (sp_gth (nI s) (nI p)) k)) Φ := by
  have h6 := hg.2.2.1
  intro m
  induction m with
  | zero =>
    intro k hk
    have hk : k = g.1 := by omega
    subst hk
    refine mm_ev.run mm_y173 3 rfl ?_
    refine mm_ev.val hg.1.n ?_
    refine mm_ev.run mm_y173 1 rfl ?_
    refine mm_ev.pos (nI_le (Nat.le_refl _) (by omega)) ?_
    exact K _ (hg.u (k := 3) (by decide) (fun i hi => pt_lt hi)) (mh.rf.sI (fun _ => by omega))
  | succ m ih =>
    intro k hk
    have ih := ih (k + 1) (by omega)
    rw [nI_succ, ← pt_s] at ih
    refine mm_ev.run mm_y173 3 rfl ?_
    refine mm_ev.val hg.1.n ?_
    refine mm_ev.run mm_y173 1 rfl ?_
    refine mm_ev.neg (nI_ge (by omega) (by omega)) ?_
    refine mm_ev.run mm_y173 10 rfl ?_
    refine mm_ev.ite (c := (nI s >>> (nI k &&& 31)) &&& 1 = 1) (fun h => ?_) (fun h => ?_)
    · rw [show sp_gth (nI s) (nI p) k = nI p from if_pos h] at ih
      refine mm_ev.run mm_y173 2 rfl ?_
      refine mm_ev.ist mm_y173 rfl rfl rfl rfl rfl (by omega) (by decide) ?_
      refine mm_ev.run mm_y173 2 rfl ?_
      refine mm_ev.eq mm_sI_sI ?_
      exact ih
    · rw [show sp_gth (nI s) (nI p) k = -5 from if_neg h] at ih
      refine mm_ev.run mm_y173 1 rfl ?_
      refine mm_ev.ist mm_y173 rfl rfl rfl rfl rfl (by omega) (by decide) ?_
      refine mm_ev.run mm_y173 2 rfl ?_
      refine mm_ev.eq mm_sI_sI ?_
      exact ih
set_option maxRecDepth 100000 in
theorem C173_h {Φ : Option Value → mm_M → Prop} {μ0 : mm_M} {n p : Nat} (hn : n ≤ 12) {b : Int32} {s : Nat} (hf : fM g) (K : ∀ μ1, gM σ (sp_hours σ g n) μ1 → mh pWm μ0 μ1 → mm_ev la_M (d + 5) 173 66 [some (.ref 110), some (.int (nI p)), some (.int (nI n)), some (.int b), some (.int (nI s)), some (.int (nI n))] [] μ1 Φ) : ∀ m k μ1, k + m = n → gM σ (sp_hours σ g k) μ1 → mh pWm μ0 μ1 → mm_ev la_M (d + 5) 173 59 [some (.ref 110), some (.int (nI p)), some (.int (nI n)), some (.int b), some (.int (nI s)), some (.int (nI k))] [] μ1 Φ := by
  intro m
  induction m with
  | zero =>
    intro k μ1 hk hg hm
    have hk : k = n := by omega
    subst hk
    refine mm_ev.run mm_y173 3 rfl ?_
    refine mm_ev.pos (nI_le (Nat.le_refl _) (by omega)) ?_
    exact K μ1 hg hm
  | succ m ih =>
    intro k μ1 hk hg hm
    have ih := fun μ1 => ih (k + 1) μ1 (by omega)
    rw [nI_succ] at ih
    refine mm_ev.run mm_y173 3 rfl ?_
    refine mm_ev.neg (nI_ge (by omega) (by omega)) ?_
    refine mm_ev.run mm_y173 1 rfl ?_
    refine mm_ev.call mm_y173 rfl rfl rfl rfl rfl (C140 (d := d) hg (hf.hours k)) (fun v1 μ1 hq => ?_)
    obtain ⟨rfl, e1, e2⟩ := hq
    refine mm_ev.run mm_y173 2 rfl ?_
    exact ih _ e1 (hm.tr (e2.mono p140_W))
theorem fM.gath {s : Int32} {p : Nat} (hp : p < 12) : fM (sp_gath g s (nI p)) := by
  intro c _
  show sp_gth s (nI p) c = -5 ∨ ∃ x, x < 12 ∧ sp_gth s (nI p) c = nI x
  unfold sp_gth
  split
  · exact Or.inr ⟨p, hp, rfl⟩
  · exact Or.inl rfl
set_option maxRecDepth 100000 in
theorem C173_l (ho : okA A) {p n : Nat} (hp : p < 12) (hn : n ≤ 12) : ∀ m k b x5 μ1, k + m = 2 ^ A.1.1.1 → rM A μ1 → mm_ev la_M (d + 5) 173 16 [some (.ref 110), some (.int (nI p)), some (.int (nI n)), some (.int b), some (.int (nI k)), x5] [] μ1 (fun v μ' => v = some (.int (sp_cw (fun s => sp_beh A.2.2.1 (sp_gath A.1.1 (nI s) (nI p)) p n) m k b)) ∧ rM A μ') := by
  intro m
  have h6 := ho.n
  have h64 : 2 ^ A.1.1.1 ≤ 2 ^ 6 := Nat.pow_le_pow_right (by decide) h6
  induction m with
  | zero =>
    intro k b x5 μ1 hk h
    refine mm_ev.run mm_y173 4 rfl ?_
    refine mm_ev.val h.n ?_
    refine mm_ev.run mm_y173 1 rfl ?_
    refine mm_ev.val (sh_n _ (by omega)) ?_
    refine mm_ev.run mm_y173 1 rfl ?_
    refine mm_ev.pos (nI_le (show 2 ^ A.1.1.1 ≤ k by omega) (by omega)) ?_
    refine mm_ev.run mm_y173 1 rfl ?_
    exact mm_ev.ret mm_y173 rfl rfl rfl ⟨rfl, h⟩
  | succ m ih =>
    intro k b x5 μ1 hk h
    have ih := fun b x5 μ1 => ih (k + 1) b x5 μ1 (by omega)
    rw [nI_succ] at ih
    rw [sp_cw_s]
    have hgo : ∀ hb : b = -5 ∨ bc (nI k) < bc b, mm_ev la_M (d + 5) 173 31 [some (.ref 110), some (.int (nI p)), some (.int (nI n)), some (.int b), some (.int (nI k)), x5] [] μ1 (fun v μ' => v = some (.int (if (b = -5 ∨ bc (nI k) < bc b) ∧ sp_beh A.2.2.1 (sp_gath A.1.1 (nI k) (nI p)) p n = 0 then sp_cw (fun s => sp_beh A.2.2.1 (sp_gath A.1.1 (nI s) (nI p)) p n) m (k + 1) (nI k) else sp_cw (fun s => sp_beh A.2.2.1 (sp_gath A.1.1 (nI s) (nI p)) p n) m (k + 1) b)) ∧ rM A μ') := by
      intro hb
      refine mm_ev.run mm_y173 3 rfl ?_
      refine mm_ev.call mm_y173 rfl rfl rfl rfl rfl (C139 (q := 134) (Or.inr rfl)) (fun v1 μ1 hq => ?_)
      obtain ⟨rfl, F, rfl, hF⟩ := hq
      have hgk := (h.g ho).k (F := F)
      refine mm_ev.run mm_y173 2 rfl ?_
      have S0 := C173_f (d := d + 5) (Φ := fun v μ' => v = some (.int (if (b = -5 ∨ bc (nI k) < bc b) ∧ sp_beh A.2.2.1 (sp_gath A.1.1 (nI k) (nI p)) p n = 0 then sp_cw (fun s => sp_beh A.2.2.1 (sp_gath A.1.1 (nI s) (nI p)) p n) m (k + 1) (nI k) else sp_cw (fun s => sp_beh A.2.2.1 (sp_gath A.1.1 (nI s) (nI p)) p n) m (k + 1) b)) ∧ rM A μ') (n := n) (b := b) (s := k) hp hgk ?_ A.1.1.1 0 (by omega)
      · rw [pt_0, mm_sI_self] at S0
        exact S0
      · intro μ2 hg2 hm2
        refine mm_ev.run mm_y173 2 rfl ?_
        refine C173_h (d := d) (μ0 := mm_sI μ1 134 F) hn (fM.gath hp) ?_ n 0 μ2 (by omega) hg2 hm2
        intro μ3 hg3 hm3
        have fin : ∀ b2 : Int32, mm_ev la_M (d + 5) 173 73 [some (.ref 110), some (.int (nI p)), some (.int (nI n)), some (.int b2), some (.int (nI k)), some (.int (nI n))] [] μ3 (fun v μ' => v = some (.int (sp_cw (fun s => sp_beh A.2.2.1 (sp_gath A.1.1 (nI s) (nI p)) p n) m (k + 1) b2)) ∧ rM A μ') := by
          intro b2
          refine mm_ev.run mm_y173 3 rfl ?_
          refine mm_ev.call mm_y173 rfl rfl rfl rfl rfl (C142 (q := 134) (Or.inr rfl)) (fun v1 μ1 hq => ?_)
          obtain ⟨rfl, e1, e2⟩ := hq
          refine mm_ev.run mm_y173 2 rfl ?_
          exact ih _ _ _ (h.bk ho (bk.of hF hm3 pWm_ok e1 e2))
        refine mm_ev.run mm_y173 3 rfl ?_
        refine mm_ev.ild mm_y173 rfl rfl rfl rfl rfl (by omega) (by decide) ((hg3.1.need hp).trans (sp_beh_k hp n)) ?_
        refine mm_ev.run mm_y173 1 rfl ?_
        refine mm_ev.ite (fun h3 => ?_) (fun h3 => ?_)
        · rw [if_pos ⟨hb, h3⟩]
          refine mm_ev.run mm_y173 2 rfl ?_
          exact fin _
        · rw [if_neg (fun z => h3 z.2)]
          exact fin _
    refine mm_ev.run mm_y173 4 rfl ?_
    refine mm_ev.val h.n ?_
    refine mm_ev.run mm_y173 1 rfl ?_
    refine mm_ev.val (sh_n _ (by omega)) ?_
    refine mm_ev.run mm_y173 1 rfl ?_
    refine mm_ev.neg (nI_ge (show k < 2 ^ A.1.1.1 by omega) (by omega)) ?_
    refine mm_ev.run mm_y173 3 rfl ?_
    refine mm_ev.ite (fun h1 => ?_) (fun h1 => ?_)
    · exact hgo (Or.inl h1)
    · refine mm_ev.run mm_y173 1 rfl ?_
      refine mm_ev.call mm_y173 rfl rfl rfl rfl rfl (C5 (nI k)) (fun v1 μ1 hq => ?_)
      obtain ⟨rfl, hμ⟩ := hq
      obtain rfl := hμ.symm
      refine mm_ev.run mm_y173 1 rfl ?_
      refine mm_ev.call mm_y173 rfl rfl rfl rfl rfl (C5 b) (fun v1 μ1 hq => ?_)
      obtain ⟨rfl, hμ⟩ := hq
      obtain rfl := hμ.symm
      refine mm_ev.run mm_y173 1 rfl ?_
      refine mm_ev.ite (fun h2 => ?_) (fun h2 => ?_)
      · exact hgo (Or.inr h2)
      · rw [if_neg (fun z => z.1.elim h1 h2)]
        refine mm_ev.run mm_y173 3 rfl ?_
        exact ih _ _ _ h
set_option maxRecDepth 100000 in
theorem C173 (h : rM A μ) (ho : okA A) (p n : Int32) : mm_call la_M (d + 10) 173 [.ref 110, .int p, .int n] μ (fun v μ' => v = some (.int (q_crowd A p n)) ∧ rM A μ') := by
  refine mm_call.of mm_t173 ?_
  refine mm_ev.run mm_y173 1 rfl ?_
  refine mm_ev.call mm_y173 rfl rfl rfl rfl rfl (C131 p) (fun v1 μ1 hq => ?_)
  obtain ⟨rfl, hμ⟩ := hq
  obtain rfl := hμ.symm
  refine mm_ev.run mm_y173 1 rfl ?_
  refine mm_ev.ifb (fun h1 => ?_) (fun h1 => ?_)
  · rw [q_crowd, if_neg h1]
    refine mm_ev.run mm_y173 1 rfl ?_
    exact mm_ev.ret mm_y173 rfl rfl rfl ⟨rfl, h⟩
  · rw [q_crowd, if_pos h1]
    obtain ⟨p, hp, rfl⟩ := p_12 h1
    refine mm_ev.run mm_y173 3 rfl ?_
    refine mm_ev.call mm_y173 rfl rfl rfl rfl rfl (C128 n 1 12) (fun v1 μ1 hq => ?_)
    obtain ⟨rfl, hμ⟩ := hq
    obtain rfl := hμ.symm
    refine mm_ev.run mm_y173 1 rfl ?_
    refine mm_ev.ifb (fun h2 => ?_) (fun h2 => ?_)
    · rw [if_neg h2]
      refine mm_ev.run mm_y173 1 rfl ?_
      exact mm_ev.ret mm_y173 rfl rfl rfl ⟨rfl, h⟩
    · rw [if_pos h2]
      obtain ⟨n, hn, rfl⟩ := p_112 h2
      rw [nI_clamp (by omega), nI_clamp (by omega)]
      refine mm_ev.run mm_y173 4 rfl ?_
      exact C173_l (d := d + 5) ho hp hn (2 ^ A.1.1.1) 0 (-5) none μ (by omega) h
/-! turns -/
theorem sG_m.eq {g2 : sG} (h : sG_m g μ) (e : sG_e g g2) : sG_m g2 μ := ⟨by rw [← e.1]; exact h.1, by rw [← e.2.1]; exact h.2.1, by rw [← e.2.2.1]; exact h.2.2.1, fun k i hk hi => by
  rw [← e.1] at hi
  rw [← e.2.2.2 k i hk hi]
  exact h.2.2.2 k i hk hi⟩
theorem sG_e.sy {g2 : sG} (e : sG_e g g2) : sG_e g2 g := ⟨e.1.symm, e.2.1.symm, e.2.2.1.symm, fun k i hk hi => (e.2.2.2 k i hk (by rw [e.1]; exact hi)).symm⟩
theorem gM.eq {g2 : sG} (h : gM σ g μ) (e : sG_e g g2) : gM σ g2 μ := ⟨h.1.eq e, h.2.1, by rw [← e.1]; exact h.2.2.1, fun j hj => h.2.2.2.1 j (by rw [e.2.2.1]; exact hj), h.2.2.2.2⟩
set_option maxRecDepth 100000 in
theorem C174_h {Φ : Option Value → mm_M → Prop} {μ0 : mm_M} {n : Nat} (hn : n ≤ 12) {x2 x3 : Option Value} {z4 : Int32} (hf : fM g) (K : ∀ μ1, gM σ (sp_hours σ g n) μ1 → mh pWm μ0 μ1 → mm_ev la_M (d + 5) 174 32 [some (.ref 110), some (.int (nI n)), x2, x3, some (.int z4), some (.int (nI n))] [] μ1 Φ) : ∀ m k μ1, k + m = n → gM σ (sp_hours σ g k) μ1 → mh pWm μ0 μ1 → mm_ev la_M (d + 5) 174 25 [some (.ref 110), some (.int (nI n)), x2, x3, some (.int z4), some (.int (nI k))] [] μ1 Φ := by
  intro m
  induction m with
  | zero =>
    intro k μ1 hk hg hm
    have hk : k = n := by omega
    subst hk
    refine mm_ev.run mm_y174 3 rfl ?_
    refine mm_ev.pos (nI_le (Nat.le_refl _) (by omega)) ?_
    exact K μ1 hg hm
  | succ m ih =>
    intro k μ1 hk hg hm
    have ih := fun μ1 => ih (k + 1) μ1 (by omega)
    rw [nI_succ] at ih
    refine mm_ev.run mm_y174 3 rfl ?_
    refine mm_ev.neg (nI_ge (by omega) (by omega)) ?_
    refine mm_ev.run mm_y174 1 rfl ?_
    refine mm_ev.call mm_y174 rfl rfl rfl rfl rfl (C140 (d := d) hg (hf.hours k)) (fun v1 μ1 hq => ?_)
    obtain ⟨rfl, e1, e2⟩ := hq
    refine mm_ev.run mm_y174 2 rfl ?_
    exact ih _ e1 (hm.tr (e2.mono p140_W))
set_option maxRecDepth 100000 in
theorem C174_o (h : rM A μ) (ho : okA A) {n s : Nat} (hn : n ≤ 12) (hs : s < 12) {b l : Int32} {x5 : Option Value} {Φ : Option Value → mm_M → Prop} (gs : sG) (he : sG_e (sp_spin A.1.1 (nI s)) gs) (hfs : fM gs) (h1 : sp_all A.2.2.1 gs n < l → ∀ μ1, rM A μ1 → mm_ev la_M (d + 5) 174 13 [some (.ref 110), some (.int (nI n)), some (.int (nI s)), some (.int (sp_all A.2.2.1 gs n)), some (.int (nI s + 1)), some (.int (sp_all A.2.2.1 gs n))] [] μ1 Φ) (h2 : ¬ sp_all A.2.2.1 gs n < l → ∀ μ1, rM A μ1 → mm_ev la_M (d + 5) 174 13 [some (.ref 110), some (.int (nI n)), some (.int b), some (.int l), some (.int (nI s + 1)), some (.int (sp_all A.2.2.1 gs n))] [] μ1 Φ) : mm_ev la_M (d + 5) 174 13 [some (.ref 110), some (.int (nI n)), some (.int b), some (.int l), some (.int (nI s)), x5] [] μ Φ := by
  refine mm_ev.run mm_y174 3 rfl ?_
  refine mm_ev.neg (nI_ge (b := 12) (by omega) (by decide)) ?_
  refine mm_ev.run mm_y174 3 rfl ?_
  refine mm_ev.call mm_y174 rfl rfl rfl rfl rfl (C139 (q := 134) (Or.inr rfl)) (fun v1 μ1 hq => ?_)
  obtain ⟨rfl, F, rfl, hF⟩ := hq
  refine mm_ev.run mm_y174 2 rfl ?_
  refine mm_ev.call mm_y174 rfl rfl rfl rfl rfl (C149 ((h.g ho).k (F := F)) ho.f (nI s)) (fun v1 μ1 hq => ?_)
  obtain ⟨rfl, e1, e2⟩ := hq
  refine mm_ev.run mm_y174 2 rfl ?_
  refine C174_h (d := d) (μ0 := mm_sI μ 134 F) hn hfs ?_ n 0 _ (by omega) (e1.eq he) (e2.mono (fun c j hc => by omega))
  intro μ3 hg3 hm3
  have K9 := C169 (d := d + 4) hg3.1
  rw [sp_all_k] at K9
  refine mm_ev.run mm_y174 1 rfl ?_
  refine mm_ev.call mm_y174 rfl rfl rfl rfl rfl K9 (fun v1 μ1 hq => ?_)
  obtain ⟨rfl, hμ⟩ := hq
  obtain rfl := hμ.symm
  refine mm_ev.run mm_y174 4 rfl ?_
  refine mm_ev.call mm_y174 rfl rfl rfl rfl rfl (C142 (q := 134) (Or.inr rfl)) (fun v1 μ1 hq => ?_)
  obtain ⟨rfl, e3, e4⟩ := hq
  have hR := h.bk ho (bk.of hF hm3 pWm_ok e3 e4)
  refine mm_ev.run mm_y174 3 rfl ?_
  refine mm_ev.ite (fun h3 => ?_) (fun h3 => ?_)
  · refine mm_ev.run mm_y174 6 rfl ?_
    exact h1 h3 _ hR
  · refine mm_ev.run mm_y174 3 rfl ?_
    exact h2 h3 _ hR
theorem sG_e.rf : sG_e g g := ⟨rfl, rfl, rfl, fun _ _ _ _ => rfl⟩
set_option maxRecDepth 100000 in
theorem C174_l (ho : okA A) {n : Nat} (hn : n ≤ 12) : ∀ m k b l x5 μ1, k + m = 12 → rM A μ1 → mm_ev la_M (d + 5) 174 13 [some (.ref 110), some (.int (nI n)), some (.int b), some (.int l), some (.int (nI k)), x5] [] μ1 (fun v μ' => v = some (.int (sp_tn (fun s => sp_all A.2.2.1 (sp_spin A.1.1 (nI s)) n) m k b l)) ∧ rM A μ') := by
  intro m
  induction m with
  | zero =>
    intro k b l x5 μ1 hk h
    have hk : k = 12 := by omega
    subst hk
    refine mm_ev.run mm_y174 3 rfl ?_
    refine mm_ev.pos (by decide) ?_
    refine mm_ev.run mm_y174 1 rfl ?_
    exact mm_ev.ret mm_y174 rfl rfl rfl ⟨rfl, h⟩
  | succ m ih =>
    intro k b l x5 μ1 hk h
    have ih := fun b l x5 μ1 => ih (k + 1) b l x5 μ1 (by omega)
    rw [nI_succ] at ih
    rw [sp_tn_s]
    refine C174_o (d := d) h ho hn (show k < 12 by omega) (sp_spin A.1.1 (nI k)) sG_e.rf (ho.f.spin (by omega)) (fun z μ2 h2 => ?_) (fun z μ2 h2 => ?_)
    · rw [if_pos z]
      exact ih _ _ _ _ h2
    · rw [if_neg z]
      exact ih _ _ _ _ h2
set_option maxRecDepth 100000 in
theorem C174 (h : rM A μ) (ho : okA A) (n : Int32) : mm_call la_M (d + 10) 174 [.ref 110, .int n] μ (fun v μ' => v = some (.int (q_turn A n)) ∧ rM A μ') := by
  refine mm_call.of mm_t174 ?_
  refine mm_ev.run mm_y174 3 rfl ?_
  refine mm_ev.call mm_y174 rfl rfl rfl rfl rfl (C128 n 1 12) (fun v1 μ1 hq => ?_)
  obtain ⟨rfl, hμ⟩ := hq
  obtain rfl := hμ.symm
  refine mm_ev.run mm_y174 1 rfl ?_
  refine mm_ev.ifb (fun h2 => ?_) (fun h2 => ?_)
  · rw [q_turn, if_neg h2]
    refine mm_ev.run mm_y174 1 rfl ?_
    exact mm_ev.ret mm_y174 rfl rfl rfl ⟨rfl, h⟩
  · rw [q_turn, if_pos h2]
    obtain ⟨n, hn, rfl⟩ := p_112 h2
    rw [nI_clamp (by omega)]
    refine mm_ev.run mm_y174 6 rfl ?_
    obtain ⟨a, ha, ea⟩ := sp_all_r (σ := A.2.2.1) ho.1.1 n
    refine C174_o (d := d + 5) h ho hn (s := 0) (by decide) A.1.1 (sp_spin_0 ho.f).sy ho.f (fun z μ2 h2 => ?_) (fun z μ2 h2 => ?_)
    · exact C174_l (d := d + 5) ho hn 11 1 0 _ _ μ2 (by omega) h2
    · exact absurd (by rw [ea]; exact nI_lt (b := 2147483647) (by omega) (by decide)) z
end
