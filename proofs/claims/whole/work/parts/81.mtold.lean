/-! THE REFERENCE'S CALLS: told -/
section
variable {d : Nat} {μ : mm_M} {A : sA} {σ : List sS} {g : sG}
def ms (σ : List sS) (g : sG) (μ : mm_M) (f : Nat → Int32) (t : Nat) : mm_M := mm_sI (mm_sI μ 124 f) 136 (pt (μ.1 136) (po_W σ g) t)
theorem ms_f {f : Nat → Int32} {t : Nat} : mh (fun c _ => c = 124 ∨ c = 136) μ (ms σ g μ f t) := (mh.rf.sI (fun _ => Or.inl rfl)).sI (fun _ => Or.inr rfl)
theorem ms_g (hg : gM σ g μ) (f : Nat → Int32) (t : Nat) : gM σ g (ms σ g μ f t) := hg.fr ms_f (fun c j hc => by omega)
set_option maxRecDepth 100000 in
theorem C167_in (hg : gM σ g μ) {c : Nat} (hc : c < g.1) {Φ : Option Value → mm_M → Prop} (K : ∀ f, mm_ev la_M (d + 4) 167 30 [some (.ref 110), some (.int (nI c)), some (.int 12)] [] (ms σ g μ f (12 * c + 12)) Φ) : ∀ m x f, x + m = 12 → mm_ev la_M (d + 4) 167 8 [some (.ref 110), some (.int (nI c)), some (.int (nI x))] [] (ms σ g μ f (12 * c + x)) Φ := by
  have h6 := hg.2.2.1
  intro m
  induction m with
  | zero =>
    intro x f hx
    have hx : x = 12 := by omega
    subst hx
    refine mm_ev.run mm_y167 3 rfl ?_
    refine mm_ev.pos (by decide) ?_
    exact K f
  | succ m ih =>
    intro x f hx
    have ih := fun f => ih (x + 1) f (by omega)
    rw [nI_succ] at ih
    have C := C133 (d := d) (p := x) (ms_g hg f (12 * c + x)) hc (by omega) 0
    have ew : nI (po_w σ g c x) = po_W σ g (12 * c + x) := by
      unfold po_W
      rw [show (12 * c + x) / 12 = c by omega, show (12 * c + x) % 12 = x by omega]
    have e1 : ∀ f2, mm_sI (mm_sI (ms σ g μ f (12 * c + x)) 124 f2) 136 (upd ((mm_sI (ms σ g μ f (12 * c + x)) 124 f2).1 136) (12 * c + x) (nI (po_w σ g c x))) = ms σ g μ f2 (12 * c + (x + 1)) := by
      intro f2
      unfold ms
      rw [sI_ne (show 136 ≠ 124 by omega), sI_eq, mm_sI_re (show 124 ≠ 136 by omega), mm_sI_sI, ew, pt_s]
      rfl
    refine mm_ev.run mm_y167 3 rfl ?_
    refine mm_ev.neg (nI_ge (b := 12) (by omega) (by decide)) ?_
    refine mm_ev.run mm_y167 13 rfl ?_
    refine mm_ev.call mm_y167 rfl rfl rfl rfl rfl C (fun v1 μ1 hq => ?_)
    obtain ⟨rfl, f2, rfl⟩ := hq
    refine mm_ev.run mm_y167 2 rfl ?_
    refine mm_ev.val (po_w_n σ g c x).1 ?_
    refine mm_ev.ist mm_y167 rfl rfl rfl rfl (show (12 : Int32) * nI c + nI x = nI (12 * c + x) from by rw [show (12 : Int32) = nI 12 from rfl, nI_mul, nI_add]) (by omega) (by decide) ?_
    refine mm_ev.run mm_y167 2 rfl ?_
    exact mm_ev.eq (e1 f2) (ih f2)
set_option maxRecDepth 100000 in
theorem C167_o (hg : gM σ g μ) {Φ : Option Value → mm_M → Prop} (K : ∀ f x2, mm_ev la_M (d + 4) 167 32 [some (.ref 110), some (.int (nI g.1)), x2] [] (ms σ g μ f (12 * g.1)) Φ) : ∀ m c f x2, c + m = g.1 → mm_ev la_M (d + 4) 167 2 [some (.ref 110), some (.int (nI c)), x2] [] (ms σ g μ f (12 * c)) Φ := by
  have h6 := hg.2.2.1
  intro m
  induction m with
  | zero =>
    intro c f x2 hc
    have hc : c = g.1 := by omega
    subst hc
    refine mm_ev.run mm_y167 3 rfl ?_
    refine mm_ev.val hg.1.n ?_
    refine mm_ev.run mm_y167 1 rfl ?_
    refine mm_ev.pos (nI_le (Nat.le_refl _) (by omega)) ?_
    exact K f x2
  | succ m ih =>
    intro c f x2 hc
    have ih := fun f x2 => ih (c + 1) f x2 (by omega)
    rw [nI_succ] at ih
    refine mm_ev.run mm_y167 3 rfl ?_
    refine mm_ev.val hg.1.n ?_
    refine mm_ev.run mm_y167 1 rfl ?_
    refine mm_ev.neg (nI_ge (by omega) (by omega)) ?_
    refine mm_ev.run mm_y167 2 rfl ?_
    refine C167_in hg (c := c) (by omega) ?_ 12 0 f (by omega)
    intro f
    refine mm_ev.run mm_y167 2 rfl ?_
    exact ih f _
set_option maxRecDepth 100000 in
theorem C167 (hg : gM σ g μ) : mm_call la_M (d + 8) 167 [.ref 110] μ (fun v μ' => v = none ∧ μ'.1 110 43 = nI (po_mx (po_w σ g) g.1 0 0) ∧ (∀ i, i < g.1 → μ'.1 138 i = nI (po_fb (po_w σ g) g.1 i (po_gv (po_w σ g) g.1 i))) ∧ mh sm μ μ') := by
  have h6 := hg.2.2.1
  have k := C167_o (d := d + 4) hg (Φ := fun v μ' => v = none ∧ μ'.1 110 43 = nI (po_mx (po_w σ g) g.1 0 0) ∧ (∀ i, i < g.1 → μ'.1 138 i = nI (po_fb (po_w σ g) g.1 i (po_gv (po_w σ g) g.1 i))) ∧ mh sm μ μ') ?_ g.1 0 (μ.1 124) none (by omega)
  · have e0 : ms σ g μ (μ.1 124) (12 * 0) = μ := by
      unfold ms
      rw [Nat.mul_zero, pt_0, mm_sI_self, mm_sI_self]
    rw [e0] at k
    refine mm_call.of mm_t167 ?_
    refine mm_ev.run mm_y167 2 rfl ?_
    exact k
  · intro f x2
    have hT : tS g.1 (po_w σ g) 0 (fun _ => 0) 0 (fun _ => 0) (mm_sI (ms σ g μ f (12 * g.1)) 110 (upd (μ.1 110) 43 (-1))) := by
      refine ⟨hg.1.n, fun c x hc hx => ?_, fun i hi => absurd hi (by omega), ?_, fun i _ hk => absurd hk (by omega)⟩
      · rw [sI_ne (by decide)]
        unfold ms
        rw [sI_eq, pt_lt (by omega)]
        unfold po_W
        rw [show (12 * c + x) / 12 = c by omega, show (12 * c + x) % 12 = x by omega]
      · rw [sI_eq, upd_eq]
        decide
    have K := (C168 (d := 0) (w := po_w σ g) h6 (fun c x => (po_w_n σ g c x).2) g.1 0 0 0 (fun _ => 0) 0 (fun _ => 0) _ (by omega) (by decide) (by decide) (by omega) (by omega) hT).deep (show 0 + 1 + g.1 ≤ d + 7 by omega)
    rw [if_pos (Nat.zero_le _), if_pos (Nat.zero_le _), Nat.zero_add] at K
    refine mm_ev.run mm_y167 3 rfl ?_
    refine mm_ev.run mm_y167 4 rfl ?_
    refine mm_ev.call mm_y167 rfl rfl rfl rfl rfl K (fun v1 μ1 hq => ?_)
    obtain ⟨rfl, e1, e2⟩ := hq
    obtain ⟨s1, s2, s3, s4, s5⟩ := e1
    rw [nI_pred] at s4
    have hm : mh sm μ (mm_sI (ms σ g μ f (12 * g.1)) 110 (upd (μ.1 110) 43 (-1))) := (ms_f.mono (fun c j hc => by omega)).sU (by omega) rfl
    exact mm_ev.ret mm_y167 rfl rfl rfl ⟨rfl, s4, fun i hi => (s5 i hi (by omega)).trans (congrArg nI (po_ex_gv g.1 0 (fun _ => 0) i (by omega) (Nat.zero_le _) hi)), hm.tr (e2.mono (fun c j hc => by omega))⟩
set_option maxRecDepth 100000 in
theorem C166 (h : rM A μ) (ho : okA A) (w : Int32) : mm_call la_M (d + 10) 166 [.ref 110, .int w] μ (fun v μ' => v = some (.int (q_told A w)) ∧ rM A μ') := by
  have h6 := ho.n
  have hg := h.g ho
  unfold q_told
  refine mm_call.of mm_t166 ?_
  refine mm_ev.run mm_y166 4 rfl ?_
  refine mm_ev.call mm_y166 rfl rfl rfl rfl rfl (C130' h.n (w - 10)) (fun v1 μ1 hq => ?_)
  obtain ⟨rfl, hμ⟩ := hq
  obtain rfl := hμ.symm
  refine mm_ev.run mm_y166 1 rfl ?_
  refine mm_ev.ifb (fun h1 => ?_) (fun h1 => ?_)
  · refine mm_ev.run mm_y166 2 rfl ?_
    refine mm_ev.swc (fun h2 => ?_) (fun n0 => mm_ev.swc (fun h2 => ?_) (fun n1 => mm_ev.swc (fun h2 => ?_) (fun n2 => mm_ev.swc (fun h2 => ?_) (fun n3 => mm_ev.swc (fun h2 => ?_) (fun n4 => mm_ev.sw0 ?_)))))
    · rw [if_pos h2]
      refine mm_ev.run mm_y166 2 rfl ?_
      refine mm_ev.val hg.1.hour ?_
      exact mm_ev.ret mm_y166 rfl rfl rfl ⟨rfl, h⟩
    · rw [if_neg n0, if_pos h2]
      refine mm_ev.run mm_y166 1 rfl ?_
      refine mm_ev.call mm_y166 rfl rfl rfl rfl rfl (C141 hg) (fun v1 μ1 hq => ?_)
      obtain ⟨rfl, hμ⟩ := hq
      obtain rfl := hμ.symm
      exact mm_ev.ret mm_y166 rfl rfl rfl ⟨rfl, h⟩
    · rw [if_neg n0, if_neg n1, if_pos h2]
      refine mm_ev.run mm_y166 1 rfl ?_
      refine mm_ev.call mm_y166 rfl rfl rfl rfl rfl (C169 hg.1) (fun v1 μ1 hq => ?_)
      obtain ⟨rfl, hμ⟩ := hq
      obtain rfl := hμ.symm
      exact mm_ev.ret mm_y166 rfl rfl rfl ⟨rfl, h⟩
    · rw [if_neg n0, if_neg n1, if_neg n2, if_pos h2]
      refine mm_ev.run mm_y166 1 rfl ?_
      refine mm_ev.call mm_y166 rfl rfl rfl rfl rfl (C170 (σ := A.2.2.1) hg.1) (fun v1 μ1 hq => ?_)
      obtain ⟨rfl, hμ⟩ := hq
      obtain rfl := hμ.symm
      exact mm_ev.ret mm_y166 rfl rfl rfl ⟨rfl, h⟩
    · rw [if_neg n0, if_neg n1, if_neg n2, if_neg n3, if_pos h2]
      refine mm_ev.run mm_y166 1 rfl ?_
      refine mm_ev.call mm_y166 rfl rfl rfl rfl rfl (C167 hg) (fun v1 μ1 hq => ?_)
      obtain ⟨rfl, e1, e2, e3⟩ := hq
      refine mm_ev.run mm_y166 2 rfl ?_
      refine mm_ev.val e1 ?_
      exact mm_ev.ret mm_y166 rfl rfl rfl ⟨rfl, h.fr e3 (fun c j hc => hc)⟩
    · rw [if_neg n0, if_neg n1, if_neg n2, if_neg n3, if_neg n4, if_neg h1]
      refine mm_ev.run mm_y166 1 rfl ?_
      exact mm_ev.ret mm_y166 rfl rfl rfl ⟨rfl, h⟩
  · obtain ⟨c, hc, e, ew⟩ := isC_10 h6 h1
    have nn : ∀ z : Nat, z < 10 → ¬ w = nI z := fun z hz e2 => absurd ((nI_eq (by omega) (by omega)).mp (ew.symm.trans e2)) (by omega)
    rw [if_neg (show ¬ w = 0 from nn 0 (by decide)), if_neg (show ¬ w = 1 from nn 1 (by decide)), if_neg (show ¬ w = 2 from nn 2 (by decide)), if_neg (show ¬ w = 3 from nn 3 (by decide)), if_neg (show ¬ w = 4 from nn 4 (by decide)), if_pos h1, e, nI_clamp (by omega)]
    refine mm_ev.run mm_y166 1 rfl ?_
    refine mm_ev.call mm_y166 rfl rfl rfl rfl rfl (C167 hg) (fun v1 μ1 hq => ?_)
    obtain ⟨rfl, e1, e2, e3⟩ := hq
    refine mm_ev.run mm_y166 5 rfl ?_
    refine mm_ev.ild mm_y166 rfl rfl rfl rfl e (by omega) (by decide) (e2 c hc) ?_
    exact mm_ev.ret mm_y166 rfl rfl rfl ⟨rfl, h.fr e3 (fun c j hc => hc)⟩
end
