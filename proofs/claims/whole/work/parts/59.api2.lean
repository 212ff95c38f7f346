/-! THE CLASS'S CALLS: hours, rows -/
section
variable {d : Nat} {μ : mm_M} {A : sA}
theorem isC_10 {n : Nat} (hn : n ≤ 6) {w : Int32} (h : 0 ≤ w - 10 ∧ w - 10 ≤ nI n - 1) : ∃ c, c < n ∧ w - 10 = nI c ∧ w = nI (c + 10) := by
  obtain ⟨c, hc, e⟩ := nI_cap (by omega) h
  refine ⟨c, hc, e, ?_⟩
  rw [← nI_add c 10, ← e]
  exact (Int32.sub_add_cancel w 10).symm
set_option maxRecDepth 100000 in
theorem C100 (h : rC A μ) (ho : okA A) (w : Int32) : mm_call la_C (d + 10) 100 [.ref 14, .int w] μ (fun v μ' => v = some (.int (q_told A w)) ∧ rC A μ') := by
  have h6 := ho.n
  have hg := h.g ho
  unfold q_told
  refine mm_call.of mm_t100 ?_
  refine mm_ev.run mm_y100 2 rfl ?_
  refine mm_ev.swc (fun h2 => ?_) (fun n0 => mm_ev.swc (fun h2 => ?_) (fun n1 => mm_ev.swc (fun h2 => ?_) (fun n2 => mm_ev.swc (fun h2 => ?_) (fun n3 => mm_ev.swc (fun h2 => ?_) (fun n4 => mm_ev.sw0 ?_)))))
  · rw [if_pos h2]
    refine mm_ev.run mm_y100 4 rfl ?_
    refine mm_ev.val hg.1.hour ?_
    exact mm_ev.ret mm_y100 rfl rfl rfl ⟨rfl, h⟩
  · rw [if_neg n0, if_pos h2]
    refine mm_ev.run mm_y100 3 rfl ?_
    refine mm_ev.call mm_y100 rfl rfl rfl rfl rfl (C34 (Or.inl rfl) hg) (fun v1 μ1 hq => ?_)
    obtain ⟨rfl, hμ⟩ := hq
    obtain rfl := hμ.symm
    exact mm_ev.ret mm_y100 rfl rfl rfl ⟨rfl, h⟩
  · rw [if_neg n0, if_neg n1, if_pos h2]
    refine mm_ev.run mm_y100 4 rfl ?_
    refine mm_ev.call mm_y100 rfl rfl rfl rfl rfl (C41 (Or.inl rfl) hg (h := 0) (by decide)) (fun v1 μ1 hq => ?_)
    obtain ⟨fa, rfl, rfl⟩ := hq
    exact mm_ev.ret mm_y100 rfl rfl rfl ⟨rfl, h.fr (mf.rf.sI (Or.inl rfl))⟩
  · rw [if_neg n0, if_neg n1, if_neg n2, if_pos h2]
    refine mm_ev.run mm_y100 4 rfl ?_
    refine mm_ev.call mm_y100 rfl rfl rfl rfl rfl (C43 (Or.inl rfl) hg (h := 0) (by decide)) (fun v1 μ1 hq => ?_)
    obtain ⟨fa, rfl, rfl⟩ := hq
    exact mm_ev.ret mm_y100 rfl rfl rfl ⟨rfl, h.fr (mf.rf.sI (Or.inl rfl))⟩
  · rw [if_neg n0, if_neg n1, if_neg n2, if_neg n3, if_pos h2]
    refine mm_ev.run mm_y100 5 rfl ?_
    refine mm_ev.call mm_y100 rfl rfl rfl rfl rfl (C49 hg) (fun v1 μ1 hq => ?_)
    obtain ⟨rfl, hm⟩ := hq
    exact mm_ev.ret mm_y100 rfl rfl rfl ⟨rfl, h.fr' hm (fun c hc => by unfold sc; omega)⟩
  · rw [if_neg n0, if_neg n1, if_neg n2, if_neg n3, if_neg n4]
    refine mm_ev.run mm_y100 3 rfl ?_
    refine mm_ev.ite (fun h2 => ?_) (fun h2 => ?_)
    · rw [if_neg (fun z => by
        obtain ⟨c, hc, _, e⟩ := isC_10 h6 z
        rw [e] at h2
        exact absurd h2 (nI_nlt (b := 10) (by omega) (by omega)))]
      refine mm_ev.run mm_y100 1 rfl ?_
      exact mm_ev.ret mm_y100 rfl rfl rfl ⟨rfl, h⟩
    · refine mm_ev.run mm_y100 4 rfl ?_
      refine mm_ev.call mm_y100 rfl rfl rfl rfl rfl (C88' h.n (w - 10)) (fun v1 μ1 hq => ?_)
      obtain ⟨rfl, hμ⟩ := hq
      obtain rfl := hμ.symm
      refine mm_ev.run mm_y100 1 rfl ?_
      refine mm_ev.ifb (fun h3 => ?_) (fun h3 => ?_)
      · rw [if_neg h3]
        refine mm_ev.run mm_y100 1 rfl ?_
        exact mm_ev.ret mm_y100 rfl rfl rfl ⟨rfl, h⟩
      · rw [if_pos h3]
        obtain ⟨c, hc, e, _⟩ := isC_10 h6 h3
        rw [e, nI_clamp (by omega)]
        refine mm_ev.run mm_y100 8 rfl ?_
        refine mm_ev.val e ?_
        refine mm_ev.call mm_y100 rfl rfl rfl rfl rfl (C53 hg hc) (fun v1 μ1 hq => ?_)
        obtain ⟨rfl, hm⟩ := hq
        exact mm_ev.ret mm_y100 rfl rfl rfl ⟨rfl, h.fr' hm (fun c hc => by unfold sc; omega)⟩
theorem p_60 {n : Int32} (h : 0 ≤ n ∧ n ≤ 60) : ∃ j, j ≤ 60 ∧ n = nI j := nI_of2 (n := 60) (M := 60) (by decide) (Int32.not_lt.mpr h.1) h.2
set_option maxRecDepth 100000 in
theorem C101_l (h : rC A μ) (ho : okA A) {n : Nat} (hn : n ≤ 60) : ∀ m k μ1, k + m = n → gC 16 A.2.2.1 (sp_hours A.2.2.1 A.1.1 k) μ1 → mf (fun c => 16 ≤ c ∧ c ≤ 23) μ μ1 → mm_ev la_C (d + 5) 101 19 [some (.ref 14), some (.int (nI n)), some (.int (nI k))] [] μ1 (fun v μ' => v = some (.int (sp_hours A.2.2.1 A.1.1 n).2.1) ∧ rC (sA_G A (sp_hours A.2.2.1 A.1.1 n)) μ') := by
  intro m
  induction m with
  | zero =>
    intro k μ1 hk hg hf
    have hk : k = n := by omega
    subst hk
    refine mm_ev.run mm_y101 3 rfl ?_
    refine mm_ev.pos (nI_le (Nat.le_refl _) (by omega)) ?_
    refine mm_ev.run mm_y101 4 rfl ?_
    refine mm_ev.val hg.1.hour ?_
    exact mm_ev.ret mm_y101 rfl rfl rfl ⟨rfl, h.setG hg.1 hf (fun c hc => by unfold sc; omega)⟩
  | succ m ih =>
    intro k μ1 hk hg hf
    have ih := fun μ1 => ih (k + 1) μ1 (by omega)
    rw [nI_succ] at ih
    refine mm_ev.run mm_y101 3 rfl ?_
    refine mm_ev.neg (nI_ge (by omega) (by omega)) ?_
    refine mm_ev.run mm_y101 3 rfl ?_
    refine mm_ev.call mm_y101 rfl rfl rfl rfl rfl (C44 (d := d) (Or.inl rfl) hg) (fun v1 μ1 hq => ?_)
    obtain ⟨rfl, e1, e2⟩ := hq
    refine mm_ev.run mm_y101 2 rfl ?_
    exact ih _ e1 (hf.tr (e2.mono (fun c hc => by omega)))
set_option maxRecDepth 100000 in
theorem C101 (h : rC A μ) (ho : okA A) (n : Int32) : mm_call la_C (d + 10) 101 [.ref 14, .int n] μ (fun v μ' => v = some (.int (q_pass A n).1) ∧ rC (q_pass A n).2 μ') := by
  have hg := h.g ho
  refine mm_call.of mm_t101 ?_
  refine mm_ev.run mm_y101 3 rfl ?_
  refine mm_ev.call mm_y101 rfl rfl rfl rfl rfl (C86 n 0 60) (fun v1 μ1 hq => ?_)
  obtain ⟨rfl, hμ⟩ := hq
  obtain rfl := hμ.symm
  refine mm_ev.run mm_y101 1 rfl ?_
  refine mm_ev.ifb (fun h1 => ?_) (fun h1 => ?_)
  · rw [q_pass, if_neg h1]
    refine mm_ev.run mm_y101 1 rfl ?_
    exact mm_ev.ret mm_y101 rfl rfl rfl ⟨rfl, h⟩
  · rw [q_pass, if_pos h1]
    obtain ⟨n, hn, rfl⟩ := p_60 h1
    rw [nI_clamp (by omega)]
    refine mm_ev.run mm_y101 4 rfl ?_
    refine mm_ev.val hg.1.hour ?_
    refine mm_ev.run mm_y101 4 rfl ?_
    refine mm_ev.ite (fun h2 => ?_) (fun h2 => ?_)
    · rw [if_pos h2]
      refine mm_ev.run mm_y101 2 rfl ?_
      exact C101_l (d := d + 5) h ho hn n 0 μ (by omega) hg mf.rf
    · rw [if_neg h2]
      refine mm_ev.run mm_y101 1 rfl ?_
      exact mm_ev.ret mm_y101 rfl rfl rfl ⟨rfl, h⟩
set_option maxRecDepth 100000 in
theorem C102 (h : rC A μ) (ho : okA A) (n w : Int32) : mm_call la_C (d + 10) 102 [.ref 14, .int n, .int w] μ (fun v μ' => v = some (.int (q_on A n w)) ∧ rC A μ') := by
  have hg := h.g ho
  have key : ∀ hw : w = 0 ∨ w = 1 ∨ (10 ≤ w ∧ w ≤ 21), mm_ev la_C (d + 10) 102 10 [some (.ref 14), some (.int n), some (.int w)] [] μ (fun v μ' => v = some (.int (q_on A n w)) ∧ rC A μ') := by
    intro hw
    rw [q_on, if_pos hw]
    refine mm_ev.run mm_y102 3 rfl ?_
    refine mm_ev.call mm_y102 rfl rfl rfl rfl rfl (C86 n 0 60) (fun v1 μ1 hq => ?_)
    obtain ⟨rfl, hμ⟩ := hq
    obtain rfl := hμ.symm
    refine mm_ev.run mm_y102 1 rfl ?_
    refine mm_ev.ifb (fun h1 => ?_) (fun h1 => ?_)
    · rw [if_neg h1]
      refine mm_ev.run mm_y102 1 rfl ?_
      exact mm_ev.ret mm_y102 rfl rfl rfl ⟨rfl, h⟩
    · rw [if_pos h1]
      obtain ⟨n, hn, rfl⟩ := p_60 h1
      rw [nI_clamp (by omega)]
      refine mm_ev.run mm_y102 2 rfl ?_
      refine mm_ev.ite (fun h2 => ?_) (fun h2 => ?_)
      · rw [if_pos h2]
        refine mm_ev.run mm_y102 4 rfl ?_
        refine mm_ev.call mm_y102 rfl rfl rfl rfl rfl (C41 (Or.inl rfl) hg (h := n) (by omega)) (fun v1 μ1 hq => ?_)
        obtain ⟨fa, rfl, rfl⟩ := hq
        exact mm_ev.ret mm_y102 rfl rfl rfl ⟨rfl, h.fr (mf.rf.sI (Or.inl rfl))⟩
      · rw [if_neg h2]
        refine mm_ev.run mm_y102 3 rfl ?_
        refine mm_ev.ite (fun h3 => ?_) (fun h3 => ?_)
        · rw [if_pos h3]
          refine mm_ev.run mm_y102 4 rfl ?_
          refine mm_ev.call mm_y102 rfl rfl rfl rfl rfl (C43 (Or.inl rfl) hg (h := n) (by omega)) (fun v1 μ1 hq => ?_)
          obtain ⟨fa, rfl, rfl⟩ := hq
          exact mm_ev.ret mm_y102 rfl rfl rfl ⟨rfl, h.fr (mf.rf.sI (Or.inl rfl))⟩
        · rw [if_neg h3]
          obtain ⟨p, hp, e⟩ := w_10 ((hw.resolve_left h2).resolve_left h3)
          rw [e, nI_clamp (by omega)]
          refine mm_ev.run mm_y102 6 rfl ?_
          refine mm_ev.val e ?_
          refine mm_ev.run mm_y102 1 rfl ?_
          refine mm_ev.call mm_y102 rfl rfl rfl rfl rfl (C42 (Or.inl rfl) hg hp (h := n) (by omega)) (fun v1 μ1 hq => ?_)
          obtain ⟨fa, rfl, rfl⟩ := hq
          exact mm_ev.ret mm_y102 rfl rfl rfl ⟨rfl, h.fr (mf.rf.sI (Or.inl rfl))⟩
  refine mm_call.of mm_t102 ?_
  refine mm_ev.run mm_y102 2 rfl ?_
  refine mm_ev.ite (fun h1 => ?_) (fun h1 => ?_)
  · exact key (Or.inl h1)
  · refine mm_ev.run mm_y102 3 rfl ?_
    refine mm_ev.ite (fun h2 => ?_) (fun h2 => ?_)
    · exact key (Or.inr (Or.inl h2))
    · refine mm_ev.run mm_y102 1 rfl ?_
      refine mm_ev.call mm_y102 rfl rfl rfl rfl rfl (C89 w) (fun v1 μ1 hq => ?_)
      obtain ⟨rfl, hμ⟩ := hq
      obtain rfl := hμ.symm
      refine mm_ev.run mm_y102 1 rfl ?_
      refine mm_ev.ifb (fun h3 => ?_) (fun h3 => ?_)
      · rw [q_on, if_neg (fun z => z.elim h1 (fun z => z.elim h2 h3))]
        refine mm_ev.run mm_y102 1 rfl ?_
        exact mm_ev.ret mm_y102 rfl rfl rfl ⟨rfl, h⟩
      · exact key (Or.inr (Or.inr h3))
/-- the trial globe -/
theorem rC.tr (h : rC A μ) (ho : okA A) {μ1 : mm_M} (e : sG_c 57 A.1.1 μ1) (hf : mf (fun c => 57 ≤ c ∧ c ≤ 57 + 6) μ μ1) : gC 57 A.2.2.1 A.1.1 μ1 := ⟨e, h.2.2.2.1.fr' hf (fun c hc => by omega), ho.1.1.1, ho.1.1.2.1⟩
theorem sG_u_u {g : sG} {k : Nat} {f f2 : Nat → Int32} : sG_u (sG_u g k f) k f2 = sG_u g k f2 := by
  unfold sG_u
  refine Prod.ext rfl (Prod.ext rfl (Prod.ext rfl ?_))
  funext j
  dsimp only
  by_cases e : j = k
  · rw [if_pos e, if_pos e]
  · rw [if_neg e, if_neg e, if_neg e]
theorem upd_upd {f : Nat → Int32} {k : Nat} {x z : Int32} : upd (upd f k x) k z = upd f k z := by
  funext j
  unfold upd
  by_cases e : j = k
  · rw [if_pos e, if_pos e]
  · rw [if_neg e, if_neg e, if_neg e]
theorem sG_u_at {g : sG} {k : Nat} {f : Nat → Int32} : (sG_u g k f).2.2.2 k = f := if_pos rfl
theorem sp_cw_s (f : Nat → Int32) (m s : Nat) (b : Int32) : sp_cw f (m + 1) s b = if (b = -5 ∨ bc (nI s) < bc b) ∧ f s = 0 then sp_cw f m (s + 1) (nI s) else sp_cw f m (s + 1) b := rfl
set_option maxRecDepth 100000 in
theorem C103_l (h : rC A μ) (ho : okA A) {p n : Nat} (hp : p < 12) (hn : n ≤ 12) : ∀ m k b x6 g1 μ1, k + m = 2 ^ A.1.1.1 → gC 57 A.2.2.1 g1 μ1 → (∀ x, sp_gath g1 x (nI p) = sp_gath A.1.1 x (nI p)) → g1.1 = A.1.1.1 → mf sc μ μ1 → mm_ev la_C (d + 8) 103 29 [some (.ref 14), some (.int (nI p)), some (.int (nI n)), some (.int b), some (.int (nI (2 ^ A.1.1.1))), some (.int (nI k)), x6] [] μ1 (fun v μ' => v = some (.int (sp_cw (fun s => sp_beh A.2.2.1 (sp_gath A.1.1 (nI s) (nI p)) p n) m k b)) ∧ rC A μ') := by
  intro m
  have h6 := ho.n
  have h64 : 2 ^ A.1.1.1 ≤ 2 ^ 6 := Nat.pow_le_pow_right (by decide) h6
  induction m with
  | zero =>
    intro k b x6 g1 μ1 hk hg hgg hgn hf
    refine mm_ev.run mm_y103 3 rfl ?_
    refine mm_ev.pos (nI_le (show 2 ^ A.1.1.1 ≤ k by omega) (by omega)) ?_
    refine mm_ev.run mm_y103 1 rfl ?_
    exact mm_ev.ret mm_y103 rfl rfl rfl ⟨rfl, h.fr hf⟩
  | succ m ih =>
    intro k b x6 g1 μ1 hk hg hgg hgn hf
    have ih := fun b x6 g1 μ1 => ih (k + 1) b x6 g1 μ1 (by omega)
    rw [nI_succ] at ih
    rw [sp_cw_s]
    have hgo : ∀ hb : b = -5 ∨ bc (nI k) < bc b, mm_ev la_C (d + 8) 103 47 [some (.ref 14), some (.int (nI p)), some (.int (nI n)), some (.int b), some (.int (nI (2 ^ A.1.1.1))), some (.int (nI k)), some (.int 1)] [] μ1 (fun v μ' => v = some (.int (if (b = -5 ∨ bc (nI k) < bc b) ∧ sp_beh A.2.2.1 (sp_gath A.1.1 (nI k) (nI p)) p n = 0 then sp_cw (fun s => sp_beh A.2.2.1 (sp_gath A.1.1 (nI s) (nI p)) p n) m (k + 1) (nI k) else sp_cw (fun s => sp_beh A.2.2.1 (sp_gath A.1.1 (nI s) (nI p)) p n) m (k + 1) b)) ∧ rC A μ') := by
      intro hb
      have hg2 := hg.u (Or.inr rfl) (k := 3) (f := pt (μ1.1 61) (sp_gth (nI k) (nI p)) g1.1) (F := sp_gth (nI k) (nI p)) (by decide) (fun i hi => pt_lt hi)
      have e2 : sG_u g1 3 (sp_gth (nI k) (nI p)) = sp_gath A.1.1 (nI k) (nI p) := hgg (nI k)
      rw [e2] at hg2
      have hf2 : mf sc μ (mm_sI μ1 61 (pt (μ1.1 61) (sp_gth (nI k) (nI p)) g1.1)) := hf.sI (by unfold sc; omega)
      have hgg2 : ∀ x, sp_gath (sp_gath A.1.1 (nI k) (nI p)) x (nI p) = sp_gath A.1.1 x (nI p) := fun x => sG_u_u
      refine mm_ev.run mm_y103 4 rfl ?_
      refine mm_ev.call mm_y103 rfl rfl rfl rfl rfl (C45 (Or.inr rfl) hg.1 hg.2.2.1 (nI k) (nI p)) (fun v1 μ1 hq => ?_)
      obtain ⟨rfl, hμ⟩ := hq
      obtain rfl := hμ.symm
      refine mm_ev.run mm_y103 4 rfl ?_
      refine mm_ev.call mm_y103 rfl rfl rfl rfl rfl (C42 (Or.inr rfl) hg2 hp (h := n) (by omega)) (fun v1 μ1 hq => ?_)
      obtain ⟨fa, rfl, rfl⟩ := hq
      refine mm_ev.run mm_y103 1 rfl ?_
      refine mm_ev.ite (fun h3 => ?_) (fun h3 => ?_)
      · rw [if_pos ⟨hb, h3⟩]
        refine mm_ev.run mm_y103 4 rfl ?_
        exact ih _ _ _ _ (hg2.fa (Or.inr rfl) fa) hgg2 rfl (hf2.sI (by unfold sc; omega))
      · rw [if_neg (fun z => h3 z.2)]
        refine mm_ev.run mm_y103 2 rfl ?_
        exact ih _ _ _ _ (hg2.fa (Or.inr rfl) fa) hgg2 rfl (hf2.sI (by unfold sc; omega))
    refine mm_ev.run mm_y103 3 rfl ?_
    refine mm_ev.neg (nI_ge (show k < 2 ^ A.1.1.1 by omega) (by omega)) ?_
    refine mm_ev.run mm_y103 3 rfl ?_
    refine mm_ev.ite (fun h1 => ?_) (fun h1 => ?_)
    · refine mm_ev.run mm_y103 5 rfl ?_
      refine mm_ev.neg (by decide) ?_
      exact hgo (Or.inl h1)
    · refine mm_ev.run mm_y103 1 rfl ?_
      refine mm_ev.call mm_y103 rfl rfl rfl rfl rfl (C5 (nI k)) (fun v1 μ1 hq => ?_)
      obtain ⟨rfl, hμ⟩ := hq
      obtain rfl := hμ.symm
      refine mm_ev.run mm_y103 1 rfl ?_
      refine mm_ev.call mm_y103 rfl rfl rfl rfl rfl (C5 b) (fun v1 μ1 hq => ?_)
      obtain ⟨rfl, hμ⟩ := hq
      obtain rfl := hμ.symm
      refine mm_ev.run mm_y103 1 rfl ?_
      refine mm_ev.ite (fun h2 => ?_) (fun h2 => ?_)
      · rw [if_neg (fun z => z.1.elim h1 (fun z => Int32.not_lt.mpr h2 z))]
        refine mm_ev.run mm_y103 4 rfl ?_
        refine mm_ev.pos rfl ?_
        refine mm_ev.run mm_y103 3 rfl ?_
        exact ih _ _ _ _ hg hgg hgn hf
      · refine mm_ev.run mm_y103 5 rfl ?_
        refine mm_ev.neg (by decide) ?_
        exact hgo (Or.inr (Int32.not_le.mp h2))
theorem sh_n : ∀ n, n < 7 → (1 : Int32) <<< (nI n &&& 31) = nI (2 ^ n) := by decide +kernel
theorem p_112 {n : Int32} (h : 1 ≤ n ∧ n ≤ 12) : ∃ j, j ≤ 12 ∧ n = nI j := nI_of2 (n := 12) (M := 12) (by decide) (fun z => Int32.lt_irrefl (Int32.lt_of_lt_of_le z (Int32.le_trans (by decide) h.1))) h.2
set_option maxRecDepth 100000 in
theorem C103 (h : rC A μ) (ho : okA A) (p n : Int32) : mm_call la_C (d + 10) 103 [.ref 14, .int p, .int n] μ (fun v μ' => v = some (.int (q_crowd A p n)) ∧ rC A μ') := by
  have h6 := ho.n
  refine mm_call.of mm_t103 ?_
  refine mm_ev.run mm_y103 1 rfl ?_
  refine mm_ev.call mm_y103 rfl rfl rfl rfl rfl (C91 p) (fun v1 μ1 hq => ?_)
  obtain ⟨rfl, hμ⟩ := hq
  obtain rfl := hμ.symm
  refine mm_ev.run mm_y103 1 rfl ?_
  refine mm_ev.ifb (fun h1 => ?_) (fun h1 => ?_)
  · rw [q_crowd, if_neg h1]
    refine mm_ev.run mm_y103 1 rfl ?_
    exact mm_ev.ret mm_y103 rfl rfl rfl ⟨rfl, h⟩
  · rw [q_crowd, if_pos h1]
    obtain ⟨p, hp, rfl⟩ := p_12 h1
    refine mm_ev.run mm_y103 3 rfl ?_
    refine mm_ev.call mm_y103 rfl rfl rfl rfl rfl (C86 n 1 12) (fun v1 μ1 hq => ?_)
    obtain ⟨rfl, hμ⟩ := hq
    obtain rfl := hμ.symm
    refine mm_ev.run mm_y103 1 rfl ?_
    refine mm_ev.ifb (fun h2 => ?_) (fun h2 => ?_)
    · rw [if_neg h2]
      refine mm_ev.run mm_y103 1 rfl ?_
      exact mm_ev.ret mm_y103 rfl rfl rfl ⟨rfl, h⟩
    · rw [if_pos h2]
      obtain ⟨n, hn, rfl⟩ := p_112 h2
      rw [nI_clamp (by omega), nI_clamp (by omega)]
      refine mm_ev.run mm_y103 5 rfl ?_
      refine mm_ev.call mm_y103 rfl rfl rfl rfl rfl (C36 (by decide) h.1.1 h6) (fun v1 μ1 hq => ?_)
      obtain ⟨rfl, e1, e2⟩ := hq
      have hN : _ = nI A.1.1.1 := (h.fr' e2 (fun c hc => by unfold sc; omega)).n
      refine mm_ev.run mm_y103 7 rfl ?_
      refine mm_ev.val hN ?_
      refine mm_ev.run mm_y103 1 rfl ?_
      refine mm_ev.val (sh_n _ (by omega)) ?_
      refine mm_ev.run mm_y103 3 rfl ?_
      exact C103_l (d := d + 2) h ho hp hn (2 ^ A.1.1.1) 0 (-5) none A.1.1 _ (by omega) (h.tr ho e1 e2) (fun _ => rfl) rfl (e2.mono (fun c hc => by unfold sc; omega))
/-- globes that are alike as far as anyone looks -/
def sG_e (g g2 : sG) : Prop := g.1 = g2.1 ∧ g.2.1 = g2.2.1 ∧ g.2.2.1 = g2.2.2.1 ∧ ∀ k i, k < 6 → i < sp_z g.1 k → g.2.2.2 k i = g2.2.2.2 k i
theorem sG_c.eq {b : Nat} {g g2 : sG} (h : sG_c b g μ) (e : sG_e g g2) : sG_c b g2 μ := ⟨by rw [← e.1]; exact h.1, by rw [← e.2.1]; exact h.2.1, by rw [← e.2.2.1]; exact h.2.2.1, fun k i hk hi => by
  rw [← e.1] at hi
  rw [← e.2.2.2 k i hk hi]
  exact h.2.2.2 k i hk hi⟩
theorem gC.eq {b : Nat} {σ : List sS} {g g2 : sG} (h : gC b σ g μ) (e : sG_e g g2) : gC b σ g2 μ := ⟨h.1.eq e, h.2.1, by rw [← e.1]; exact h.2.2.1, fun j hj => h.2.2.2 j (by rw [e.2.2.1]; exact hj)⟩
theorem sp_spn_1 : ∀ x, x < 12 → ∀ s, s < 12 → sp_spn 1 (sp_spn (nI s) (nI x)) = sp_spn (nI (s + 1)) (nI x) := by decide +kernel
theorem sp_spn_0 : ∀ x, x < 12 → sp_spn 0 (nI x) = nI x := by decide +kernel
theorem sp_spn_5 (s : Int32) : sp_spn s (-5) = -5 := if_pos (by decide)
theorem sp_spin_at (g : sG) (s : Int32) (i : Nat) : (sp_spin g s).2.2.2 3 i = sp_spn s (g.2.2.2 3 i) := congrFun (sG_u_at (g := g) (k := 3) (f := fun c => sp_spn s (g.2.2.2 3 c))) i
theorem sp_spin_s {g : sG} (h6 : ∀ c, c < g.1 → g.2.2.2 3 c = -5 ∨ ∃ x, x < 12 ∧ g.2.2.2 3 c = nI x) {s : Nat} (hs : s < 12) : sG_e (sp_spin (sp_spin g (nI s)) 1) (sp_spin g (nI (s + 1))) := by
  refine ⟨(rfl : g.1 = g.1), (rfl : g.2.1 = g.2.1), (rfl : g.2.2.1 = g.2.2.1), fun k i hk hi => ?_⟩
  by_cases e : k = 3
  · subst e
    rw [sp_spin_at, sp_spin_at, sp_spin_at]
    rcases h6 i hi with e | ⟨x, hx, e⟩
    · rw [e, sp_spn_5, sp_spn_5, sp_spn_5]
    · rw [e, sp_spn_1 x hx s hs]
  · show (if k = 3 then _ else (if k = 3 then _ else g.2.2.2 k)) i = (if k = 3 then _ else g.2.2.2 k) i
    rw [if_neg e, if_neg e, if_neg e]
theorem sp_spin_0 {g : sG} (h6 : ∀ c, c < g.1 → g.2.2.2 3 c = -5 ∨ ∃ x, x < 12 ∧ g.2.2.2 3 c = nI x) : sG_e g (sp_spin g (nI 0)) := by
  refine ⟨rfl, rfl, rfl, fun k i hk hi => ?_⟩
  by_cases e : k = 3
  · subst e
    rw [sp_spin_at, nI_0]
    rcases h6 i hi with e | ⟨x, hx, e⟩
    · rw [e, sp_spn_5]
    · rw [e, sp_spn_0 x hx]
  · show g.2.2.2 k i = (if k = 3 then _ else g.2.2.2 k) i
    rw [if_neg e]
theorem sp_tn_s (f : Nat → Int32) (m s : Nat) (b l : Int32) : sp_tn f (m + 1) s b l = if f s < l then sp_tn f m (s + 1) (nI s) (f s) else sp_tn f m (s + 1) b l := rfl
set_option maxRecDepth 100000 in
theorem C104_l (h : rC A μ) (ho : okA A) {n : Nat} (hn : n ≤ 12) : ∀ m k b l x5 μ1, k + m = 11 → gC 57 A.2.2.1 (sp_spin A.1.1 (nI k)) μ1 → mf sc μ μ1 → mm_ev la_C (d + 8) 104 22 [some (.ref 14), some (.int (nI n)), some (.int b), some (.int l), some (.int (nI (k + 1))), x5] [] μ1 (fun v μ' => v = some (.int (sp_tn (fun s => sp_all A.2.2.1 (sp_spin A.1.1 (nI s)) n) m (k + 1) b l)) ∧ rC A μ') := by
  intro m
  induction m with
  | zero =>
    intro k b l x5 μ1 hk hg hf
    have hk : k = 11 := by omega
    subst hk
    refine mm_ev.run mm_y104 3 rfl ?_
    refine mm_ev.pos (by decide) ?_
    refine mm_ev.run mm_y104 1 rfl ?_
    exact mm_ev.ret mm_y104 rfl rfl rfl ⟨rfl, h.fr hf⟩
  | succ m ih =>
    intro k b l x5 μ1 hk hg hf
    have ih := fun b l x5 μ1 => ih (k + 1) b l x5 μ1 (by omega)
    rw [nI_succ (k + 1)] at ih
    rw [sp_tn_s]
    have hg2 := hg.u (Or.inr rfl) (k := 3) (f := pt (μ1.1 61) (fun c => sp_spn 1 ((sp_spin A.1.1 (nI k)).2.2.2 3 c)) A.1.1.1) (F := fun c => sp_spn 1 ((sp_spin A.1.1 (nI k)).2.2.2 3 c)) (by decide) (fun i hi => pt_lt hi)
    have hg3 := gC.eq hg2 (sp_spin_s (g := A.1.1) ho.1.1.2.2.2.2.1 (s := k) (by omega))
    have hf2 : mf sc μ (mm_sI μ1 61 (pt (μ1.1 61) (fun c => sp_spn 1 ((sp_spin A.1.1 (nI k)).2.2.2 3 c)) A.1.1.1)) := hf.sI (by unfold sc; omega)
    refine mm_ev.run mm_y104 3 rfl ?_
    refine mm_ev.neg (nI_ge (b := 12) (by omega) (by decide)) ?_
    refine mm_ev.run mm_y104 3 rfl ?_
    refine mm_ev.call mm_y104 rfl rfl rfl rfl rfl (C39 (Or.inr rfl) hg.1 hg.2.2.1 1) (fun v1 μ1 hq => ?_)
    obtain ⟨rfl, hμ⟩ := hq
    obtain rfl := hμ.symm
    refine mm_ev.run mm_y104 3 rfl ?_
    refine mm_ev.call mm_y104 rfl rfl rfl rfl rfl (C41 (Or.inr rfl) hg3 (h := n) (by omega)) (fun v1 μ1 hq => ?_)
    obtain ⟨fa, rfl, rfl⟩ := hq
    refine mm_ev.run mm_y104 4 rfl ?_
    refine mm_ev.ite (fun h3 => ?_) (fun h3 => ?_)
    · rw [if_neg (Int32.not_lt.mpr h3)]
      refine mm_ev.run mm_y104 2 rfl ?_
      exact ih _ _ _ _ (hg3.fa (Or.inr rfl) fa) (hf2.sI (by unfold sc; omega))
    · rw [if_pos (Int32.not_le.mp h3)]
      refine mm_ev.run mm_y104 6 rfl ?_
      exact ih _ _ _ _ (hg3.fa (Or.inr rfl) fa) (hf2.sI (by unfold sc; omega))
set_option maxRecDepth 100000 in
theorem C104 (h : rC A μ) (ho : okA A) (n : Int32) : mm_call la_C (d + 10) 104 [.ref 14, .int n] μ (fun v μ' => v = some (.int (q_turn A n)) ∧ rC A μ') := by
  have h6 := ho.n
  refine mm_call.of mm_t104 ?_
  refine mm_ev.run mm_y104 3 rfl ?_
  refine mm_ev.call mm_y104 rfl rfl rfl rfl rfl (C86 n 1 12) (fun v1 μ1 hq => ?_)
  obtain ⟨rfl, hμ⟩ := hq
  obtain rfl := hμ.symm
  refine mm_ev.run mm_y104 1 rfl ?_
  refine mm_ev.ifb (fun h2 => ?_) (fun h2 => ?_)
  · rw [q_turn, if_neg h2]
    refine mm_ev.run mm_y104 1 rfl ?_
    exact mm_ev.ret mm_y104 rfl rfl rfl ⟨rfl, h⟩
  · rw [q_turn, if_pos h2]
    obtain ⟨n, hn, rfl⟩ := p_112 h2
    rw [nI_clamp (by omega)]
    refine mm_ev.run mm_y104 5 rfl ?_
    refine mm_ev.call mm_y104 rfl rfl rfl rfl rfl (C36 (by decide) h.1.1 h6) (fun v1 μ1 hq => ?_)
    obtain ⟨rfl, e1, e2⟩ := hq
    have hg := h.tr ho e1 e2
    refine mm_ev.run mm_y104 5 rfl ?_
    refine mm_ev.call mm_y104 rfl rfl rfl rfl rfl (C41 (Or.inr rfl) hg (h := n) (by omega)) (fun v1 μ1 hq => ?_)
    obtain ⟨fa, rfl, rfl⟩ := hq
    refine mm_ev.run mm_y104 3 rfl ?_
    exact C104_l (d := d + 2) h ho hn 11 0 0 _ none _ (by omega) ((hg.fa (Or.inr rfl) fa).eq (sp_spin_0 ho.1.1.2.2.2.2.1)) ((e2.mono (fun c hc => by unfold sc; omega)).sI (by unfold sc; omega))
end
