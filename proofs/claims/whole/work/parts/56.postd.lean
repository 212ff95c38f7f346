/-! THE CLASS'S POSTS: the rest -/
def po_W (σ : List sS) (g : sG) (t : Nat) : Int32 := nI (po_w σ g (t / 12) (t % 12))
def po_s (σ : List sS) (g : sG) (μ : mm_M) (fa : Nat → Int32) (t : Nat) : mm_M := mm_sI (mm_sI μ 23 fa) 69 (pt (μ.1 69) (po_W σ g) t)
section
variable {d : Nat} {μ : mm_M} {σ : List sS} {g : sG}
theorem po_s_f {fa : Nat → Int32} {t : Nat} : mf (fun c => c = 23 ∨ c = 69) μ (po_s σ g μ fa t) := (mf.rf.sI (Or.inl rfl)).sI (Or.inr rfl)
theorem po_s_g (hg : gC 16 σ g μ) (fa : Nat → Int32) (t : Nat) : gC 16 σ g (po_s σ g μ fa t) := hg.fr' po_s_f (fun c hc => by omega)
set_option maxRecDepth 100000 in
theorem C50_in (hg : gC 16 σ g μ) {c : Nat} (hc : c < g.1) {x4 : Option Value} {Φ : Option Value → mm_M → Prop} (K : ∀ fa x4, mm_ev la_C (d + 4) 50 32 [some (.ref 68), some (.ref 16), some (.int (nI c)), some (.int 12), x4] [] (po_s σ g μ fa (12 * c + 12)) Φ) : ∀ m x fa x4, x + m = 12 → mm_ev la_C (d + 4) 50 8 [some (.ref 68), some (.ref 16), some (.int (nI c)), some (.int (nI x)), x4] [] (po_s σ g μ fa (12 * c + x)) Φ := by
  intro m
  have h6 := hg.2.2.1
  induction m with
  | zero =>
    intro x fa x4 hx
    have hx : x = 12 := by omega
    subst hx
    refine mm_ev.run mm_y50 3 rfl ?_
    refine mm_ev.pos (by decide) ?_
    exact K fa x4
  | succ m ih =>
    intro x fa x4 hx
    have ih := fun fa x4 => ih (x + 1) fa x4 (by omega)
    rw [nI_succ] at ih
    have C := C29 (d := d) (p := x) (Or.inl rfl) (po_s_g hg fa (12 * c + x)) hc (by omega) 0
    have ew : nI (po_w σ g c x) = po_W σ g (12 * c + x) := by
      unfold po_W
      rw [show (12 * c + x) / 12 = c by omega, show (12 * c + x) % 12 = x by omega]
    have e1 : ∀ fa2, mm_sI (mm_sI (po_s σ g μ fa (12 * c + x)) 23 fa2) 69 (upd ((mm_sI (po_s σ g μ fa (12 * c + x)) 23 fa2).1 69) (12 * c + x) (nI (po_w σ g c x))) = po_s σ g μ fa2 (12 * c + (x + 1)) := by
      intro fa2
      unfold po_s
      rw [sI_ne (show 69 ≠ 23 by omega), sI_eq, mm_sI_re (show 23 ≠ 69 by omega), mm_sI_sI, ew, pt_s]
      rfl
    refine mm_ev.run mm_y50 3 rfl ?_
    refine mm_ev.neg (nI_ge (b := 12) (by omega) (by decide)) ?_
    refine mm_ev.run mm_y50 4 rfl ?_
    refine mm_ev.call mm_y50 rfl rfl rfl rfl rfl C (fun v1 μ1 hq => ?_)
    obtain ⟨fa2, rfl, rfl⟩ := hq
    refine mm_ev.run mm_y50 13 rfl ?_
    refine mm_ev.val (po_w_n σ g c x).1 ?_
    refine mm_ev.ist mm_y50 rfl rfl rfl rfl (show nI c * 12 + nI x = nI (12 * c + x) from by rw [show (12 : Int32) = nI 12 from rfl, nI_mul, nI_add, Nat.mul_comm]) (by omega) (by decide) ?_
    refine mm_ev.run mm_y50 2 rfl ?_
    exact mm_ev.eq (e1 fa2) (ih fa2 _)
set_option maxRecDepth 100000 in
theorem C50_1 (hg : gC 16 σ g μ) {Φ : Option Value → mm_M → Prop} (K : ∀ fa x3 x4, mm_ev la_C (d + 4) 50 34 [some (.ref 68), some (.ref 16), some (.int (nI g.1)), x3, x4] [] (po_s σ g μ fa (12 * g.1)) Φ) : ∀ m c fa x3 x4, c + m = g.1 → mm_ev la_C (d + 4) 50 2 [some (.ref 68), some (.ref 16), some (.int (nI c)), x3, x4] [] (po_s σ g μ fa (12 * c)) Φ := by
  intro m
  have h6 := hg.2.2.1
  induction m with
  | zero =>
    intro c fa x3 x4 hc
    have hc : c = g.1 := by omega
    subst hc
    refine mm_ev.run mm_y50 3 rfl ?_
    refine mm_ev.val hg.1.n ?_
    refine mm_ev.run mm_y50 1 rfl ?_
    refine mm_ev.pos (nI_le (Nat.le_refl _) (by omega)) ?_
    exact K fa x3 x4
  | succ m ih =>
    intro c fa x3 x4 hc
    have ih := fun fa x3 x4 => ih (c + 1) fa x3 x4 (by omega)
    rw [nI_succ] at ih
    refine mm_ev.run mm_y50 3 rfl ?_
    refine mm_ev.val hg.1.n ?_
    refine mm_ev.run mm_y50 1 rfl ?_
    refine mm_ev.neg (nI_ge (by omega) (by omega)) ?_
    refine mm_ev.run mm_y50 2 rfl ?_
    refine C50_in (x4 := x4) hg (c := c) (by omega) ?_ 12 0 fa x4 (by omega)
    intro fa x4
    refine mm_ev.run mm_y50 2 rfl ?_
    exact ih fa _ _
set_option maxRecDepth 100000 in
theorem C50 (hg : gC 16 σ g μ) : mm_call la_C (d + 4) 50 [.ref 68, .ref 16] μ (fun v μ' => v = none ∧ po_a (po_w σ g) g.1 μ' ∧ po_r (po_w σ g) g.1 0 (μ'.1 70) ∧ mf (fun c => c = 23 ∨ c = 69 ∨ c = 70) μ μ') := by
  have h6 := hg.2.2.1
  have k := C50_1 (d := d) hg (Φ := fun v μ' => v = none ∧ po_a (po_w σ g) g.1 μ' ∧ po_r (po_w σ g) g.1 0 (μ'.1 70) ∧ mf (fun c => c = 23 ∨ c = 69 ∨ c = 70) μ μ') ?_ g.1 0 (μ.1 23) none none (by omega)
  · have e0 : po_s σ g μ (μ.1 23) (12 * 0) = μ := by
      unfold po_s
      rw [Nat.mul_zero, pt_0, mm_sI_self, mm_sI_self]
    rw [e0] at k
    refine mm_call.of mm_t50 ?_
    refine mm_ev.run mm_y50 2 rfl ?_
    exact k
  · intro fa x3 x4
    have ha : po_a (po_w σ g) g.1 (po_s σ g μ fa (12 * g.1)) := by
      intro c x hc hx
      unfold po_s
      rw [sI_eq, pt_lt (by omega)]
      unfold po_W
      rw [show (12 * c + x) / 12 = c by omega, show (12 * c + x) % 12 = x by omega]
    have k2 := C50_2 (d := d + 2) (μ := po_s σ g μ fa (12 * g.1)) (w := po_w σ g) h6 (po_s_g hg fa (12 * g.1)).1.n (fun c x => (po_w_n σ g c x).2) ha 4096 ((po_s σ g μ fa (12 * g.1)).1 70) x3 x4 (by omega) (fun u h1 h2 => absurd h1 (by omega))
    rw [mm_sI_self] at k2
    have k3 := k2.imp (Ψ := fun v μ' => v = none ∧ po_a (po_w σ g) g.1 μ' ∧ po_r (po_w σ g) g.1 0 (μ'.1 70) ∧ mf (fun c => c = 23 ∨ c = 69 ∨ c = 70) μ μ') (fun v μ' hh => by
      obtain ⟨hv, f, rfl, hf⟩ := hh
      exact ⟨hv, fun c x hc hx => ha c x hc hx, hf, (po_s_f.mono (fun c hc => by omega)).sI (Or.inr (Or.inr rfl))⟩)
    refine mm_ev.run mm_y50 3 rfl ?_
    refine mm_ev.run mm_y50 2 rfl ?_
    refine mm_ev.run mm_y50 1 rfl ?_
    exact k3
set_option maxRecDepth 100000 in
theorem C54_l {w : Nat → Nat → Nat} {n c u : Nat} (hn : n ≤ 6) (hw : ∀ c x, w c x ≤ 99) (hc : c < n) (hu : u < 4096) (hp : po_c u 12 = c) (ha : po_a w n μ) (hr : po_r w n 0 (μ.1 70)) : ∀ m k, k + m = 12 → po_ff (po_ok w n c u) m k < 12 → mm_ev la_C (d + 1) 54 2 [some (.ref 68), some (.int (nI c)), some (.int (nI u)), some (.int (nI k))] [] μ (fun v μ' => v = some (.int (nI (po_ff (po_ok w n c u) m k))) ∧ μ' = μ) := by
  intro m
  induction m with
  | zero =>
    intro k hk hl
    exact absurd (show k < 12 from hl) (by omega)
  | succ m ih =>
    intro k hk hl
    have e : po_ff (po_ok w n c u) (m + 1) k = if po_ok w n c u k = true then k else po_ff (po_ok w n c u) m (k + 1) := rfl
    have eok : po_ok w n c u k = (!u.testBit k && (w c k + po_mx w (n - (c + 1)) (c + 1) (u ||| 2 ^ k) == po_mx w (n - c) c u)) := rfl
    have ih := ih (k + 1) (by omega)
    rw [nI_succ] at ih
    rw [e] at hl ⊢
    have hru := hr u (by omega) hu (by omega)
    rw [hp] at hru
    refine mm_ev.run mm_y54 3 rfl ?_
    refine mm_ev.neg (nI_ge (b := 12) (by omega) (by decide)) ?_
    refine mm_ev.run mm_y54 6 rfl ?_
    refine mm_ev.ite (c := (nI u >>> (nI k &&& 31)) &&& 1 = 0) (fun h => ?_) (fun h => ?_)
    · have h0 := (po_z (by omega)).mp h
      have e1 := po_c_or h0 12
      rw [if_pos (by omega), hp] at e1
      have h2 := hr (u ||| 2 ^ k) (by omega) (po_lt hu (by omega)) (by omega)
      rw [e1] at h2
      refine mm_ev.run mm_y54 4 rfl ?_
      refine mm_ev.call mm_y54 rfl rfl rfl rfl rfl (C52 (d := d) (by omega) (by omega) hu (ha c k hc (by omega)) h2) (fun v1 μ1 hq => ?_)
      obtain ⟨rfl, rfl⟩ := hq
      refine mm_ev.run mm_y54 3 rfl ?_
      refine mm_ev.ild mm_y54 rfl rfl rfl rfl rfl (by omega) (by decide) hru ?_
      have b1 := hw c k
      have b2 := po_mx_le hw (n - (c + 1)) (c + 1) (u ||| 2 ^ k)
      have b3 := po_mx_le hw (n - c) c u
      refine mm_ev.run mm_y54 1 rfl ?_
      refine mm_ev.ite (fun h3 => ?_) (fun h3 => ?_)
      · have h4 := (nI_eq (by omega) (by omega)).mp h3
        rw [if_pos (by rw [eok, h0, h4]; simp)]
        refine mm_ev.run mm_y54 1 rfl ?_
        exact mm_ev.ret mm_y54 rfl rfl rfl ⟨rfl, rfl⟩
      · have hno : ¬ po_ok w n c u k = true := by
          rw [eok, h0]
          intro z
          simp at z
          exact h3 (by rw [z])
        rw [if_neg hno] at hl ⊢
        refine mm_ev.run mm_y54 2 rfl ?_
        exact ih hl
    · have hno : ¬ po_ok w n c u k = true := by
        intro z
        rw [eok] at z
        simp at z
        exact h ((po_z (by omega)).mpr z.1)
      rw [if_neg hno] at hl ⊢
      refine mm_ev.run mm_y54 2 rfl ?_
      exact ih hl
set_option maxRecDepth 100000 in
theorem C54 {w : Nat → Nat → Nat} {n c u : Nat} (hn : n ≤ 6) (hw : ∀ c x, w c x ≤ 99) (hc : c < n) (hu : u < 4096) (hp : po_c u 12 = c) (ha : po_a w n μ) (hr : po_r w n 0 (μ.1 70)) : mm_call la_C (d + 1) 54 [.ref 68, .int (nI c), .int (nI u)] μ (fun v μ' => v = some (.int (nI (po_fb w n c u))) ∧ μ' = μ) := by
  refine mm_call.of mm_t54 ?_
  refine mm_ev.run mm_y54 2 rfl ?_
  exact C54_l hn hw hc hu hp ha hr 12 0 (by omega) (po_fb_lt hc hn hp).1
set_option maxRecDepth 100000 in
theorem C53_l {w : Nat → Nat → Nat} {n ch : Nat} (hn : n ≤ 6) (hw : ∀ c x, w c x ≤ 99) (hch : ch < n) (ha : po_a w n μ) (hr : po_r w n 0 (μ.1 70)) : ∀ m c z, c + m = ch + 1 → (c = ch + 1 → z = nI (po_fb w n ch (po_gv w n ch))) → mm_ev la_C (d + 2) 53 9 [some (.ref 68), some (.ref 16), some (.int (nI ch)), some (.int (nI (po_gv w n c))), some (.int z), some (.int (nI c))] [] μ (fun v μ' => v = some (.int (nI (po_fb w n ch (po_gv w n ch)))) ∧ μ' = μ) := by
  intro m
  induction m with
  | zero =>
    intro c z hc hz
    have hz := hz (by omega)
    subst hz
    refine mm_ev.run mm_y53 3 rfl ?_
    refine mm_ev.pos (nI_lt (show ch < c by omega) (by omega)) ?_
    refine mm_ev.run mm_y53 1 rfl ?_
    exact mm_ev.ret mm_y53 rfl rfl rfl ⟨rfl, rfl⟩
  | succ m ih =>
    intro c z hc _
    have ih := ih (c + 1) (nI (po_fb w n c (po_gv w n c))) (by omega) (fun e => by
      have : c = ch := by omega
      subst this
      rfl)
    rw [nI_succ] at ih
    obtain ⟨g1, g2⟩ := po_gv_ok (w := w) hn c (by omega)
    have hlt := (po_fb_lt (w := w) (show c < n by omega) hn g2).1
    have e : po_gv w n (c + 1) = po_gv w n c ||| 2 ^ po_fb w n c (po_gv w n c) := rfl
    rw [e] at ih
    refine mm_ev.run mm_y53 3 rfl ?_
    refine mm_ev.neg (nI_nlt (show c ≤ ch by omega) (by omega)) ?_
    refine mm_ev.run mm_y53 3 rfl ?_
    refine mm_ev.call mm_y53 rfl rfl rfl rfl rfl (C54 (d := d) hn hw (show c < n by omega) g1 g2 ha hr) (fun v1 μ1 hq => ?_)
    obtain ⟨rfl, rfl⟩ := hq
    refine mm_ev.run mm_y53 3 rfl ?_
    refine mm_ev.pos (nI_pos' (by omega)) ?_
    refine mm_ev.run mm_y53 5 rfl ?_
    refine mm_ev.val (show nI (po_gv w n c) ||| ((1 : Int32) <<< (nI (po_fb w n c (po_gv w n c)) &&& 31)) = nI (po_gv w n c ||| 2 ^ po_fb w n c (po_gv w n c)) from by rw [po_1 _ hlt, po_or]) ?_
    refine mm_ev.run mm_y53 3 rfl ?_
    exact ih
set_option maxRecDepth 100000 in
theorem C53 (hg : gC 16 σ g μ) {ch : Nat} (hch : ch < g.1) : mm_call la_C (d + 5) 53 [.ref 68, .ref 16, .int (nI ch)] μ (fun v μ' => v = some (.int (nI (po_fb (po_w σ g) g.1 ch (po_gv (po_w σ g) g.1 ch)))) ∧ mf (fun c => c = 23 ∨ c = 69 ∨ c = 70) μ μ') := by
  refine mm_call.of mm_t53 ?_
  refine mm_ev.run mm_y53 2 rfl ?_
  refine mm_ev.call mm_y53 rfl rfl rfl rfl rfl (C50 (d := d) hg) (fun v1 μ1 hq => ?_)
  obtain ⟨rfl, ha, hr, hm⟩ := hq
  refine mm_ev.run mm_y53 6 rfl ?_
  exact (C53_l (d := d + 3) hg.2.2.1 (fun c x => (po_w_n σ g c x).2) hch ha hr (ch + 1) 0 (-1) (by omega) (fun e => absurd e (by omega))).imp (fun v μ' hh => ⟨hh.1, by rw [hh.2]; exact hm⟩)
set_option maxRecDepth 100000 in
theorem C49 (hg : gC 16 σ g μ) : mm_call la_C (d + 5) 49 [.ref 68, .ref 16] μ (fun v μ' => v = some (.int (nI (po_mx (po_w σ g) g.1 0 0))) ∧ mf (fun c => c = 23 ∨ c = 69 ∨ c = 70) μ μ') := by
  refine mm_call.of mm_t49 ?_
  refine mm_ev.run mm_y49 2 rfl ?_
  refine mm_ev.call mm_y49 rfl rfl rfl rfl rfl (C50 (d := d) hg) (fun v1 μ1 hq => ?_)
  obtain ⟨rfl, ha, hr, hm⟩ := hq
  refine mm_ev.run mm_y49 3 rfl ?_
  refine mm_ev.ild mm_y49 rfl rfl rfl rfl (show (0 : Int32) = nI 0 from rfl) (by omega) (by decide) (hr 0 (by omega) (by omega) (show po_c 0 12 ≤ g.1 from Nat.zero_le _)) ?_
  exact mm_ev.ret mm_y49 rfl rfl rfl ⟨rfl, hm⟩
end
