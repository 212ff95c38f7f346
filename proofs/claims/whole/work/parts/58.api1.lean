/-! THE CLASS'S CALLS: children, places -/
section
variable {d : Nat} {μ : mm_M} {A : sA}
theorem C88' {n : Nat} (hN : μ.1 16 1 = nI n) (c : Int32) : mm_call la_C (d + 1) 88 [.ref 14, .int c] μ (fun v μ' => v = some (.int (bI (0 ≤ c ∧ c ≤ nI n - 1))) ∧ μ' = μ) := by
  have k := C88 (d := d) (μ := μ) c
  rw [hN] at k
  exact k
set_option maxRecDepth 100000 in
theorem C85 (h : rC A μ) (ho : okA A) (k x : Int32) : mm_call la_C (d + 10) 85 [.ref 14, .int k, .int x] μ (fun v μ' => v = some (.int (q_child A k x).1) ∧ rC (q_child A k x).2 μ') := by
  refine mm_call.of mm_t85 ?_
  refine mm_ev.run mm_y85 3 rfl ?_
  refine mm_ev.call mm_y85 rfl rfl rfl rfl rfl (C86 k 0 6) (fun v1 μ1 hq => ?_)
  obtain ⟨rfl, hμ⟩ := hq
  obtain rfl := hμ.symm
  refine mm_ev.run mm_y85 1 rfl ?_
  refine mm_ev.ifb (fun h1 => ?_) (fun h1 => ?_)
  · rw [q_child, if_neg h1]
    refine mm_ev.run mm_y85 1 rfl ?_
    exact mm_ev.ret mm_y85 rfl rfl rfl ⟨rfl, h⟩
  · refine mm_ev.run mm_y85 3 rfl ?_
    refine mm_ev.call mm_y85 rfl rfl rfl rfl rfl (C86 x 0 9) (fun v1 μ1 hq => ?_)
    obtain ⟨rfl, hμ⟩ := hq
    obtain rfl := hμ.symm
    refine mm_ev.run mm_y85 1 rfl ?_
    refine mm_ev.ifb (fun h2 => ?_) (fun h2 => ?_)
    · rw [q_child, if_pos h1, if_neg h2]
      refine mm_ev.run mm_y85 1 rfl ?_
      exact mm_ev.ret mm_y85 rfl rfl rfl ⟨rfl, h⟩
    · rw [q_child, if_pos h1, if_pos h2]
      refine mm_ev.run mm_y85 5 rfl ?_
      refine mm_ev.call mm_y85 rfl rfl rfl rfl rfl (C27 h.1.1 ho.n k x) (fun v1 μ1 hq => ?_)
      rcases hq with ⟨e, rfl, rfl⟩ | ⟨e, rfl, e2, e3⟩
      · rw [if_pos e]
        exact mm_ev.ret mm_y85 rfl rfl rfl ⟨rfl, h⟩
      · rw [if_neg (by omega)]
        exact mm_ev.ret mm_y85 rfl rfl rfl ⟨rfl, h.setG e2 e3 (fun c hc => Or.inl hc)⟩
theorem w_10 {w : Int32} (h : 10 ≤ w ∧ w ≤ 21) : ∃ p, p < 12 ∧ w - 10 = nI p := by
  obtain ⟨j, hj, rfl⟩ := nI_of2 (n := 21) (M := 21) (by decide) (fun z => Int32.lt_irrefl (Int32.lt_of_lt_of_le z (Int32.le_trans (by decide) h.1))) h.2
  have h10 : 10 ≤ j := (nI_leI (a := 10) (by decide) (by omega)).mp h.1
  exact ⟨j - 10, by omega, pk_sub (b := 10) h10⟩
set_option maxRecDepth 100000 in
theorem C87 (h : rC A μ) (ho : okA A) (c w : Int32) : mm_call la_C (d + 10) 87 [.ref 14, .int c, .int w] μ (fun v μ' => v = some (.int (q_of A c w)) ∧ rC A μ') := by
  have h6 := ho.n
  have hg := h.g ho
  refine mm_call.of mm_t87 ?_
  refine mm_ev.run mm_y87 2 rfl ?_
  refine mm_ev.call mm_y87 rfl rfl rfl rfl rfl (C88' h.n c) (fun v1 μ1 hq => ?_)
  obtain ⟨rfl, hμ⟩ := hq
  obtain rfl := hμ.symm
  refine mm_ev.run mm_y87 1 rfl ?_
  refine mm_ev.ifb (fun h1 => ?_) (fun h1 => ?_)
  · rw [q_of, if_neg h1]
    refine mm_ev.run mm_y87 1 rfl ?_
    exact mm_ev.ret mm_y87 rfl rfl rfl ⟨rfl, h⟩
  · rw [q_of, if_pos h1]
    obtain ⟨c, hc, rfl⟩ := nI_cap (by omega) h1
    rw [nI_clamp (by omega)]
    refine mm_ev.run mm_y87 6 rfl ?_
    refine mm_ev.swc (fun h2 => ?_) (fun n0 => mm_ev.swc (fun h2 => ?_) (fun n1 => mm_ev.swc (fun h2 => ?_) (fun n2 => mm_ev.swc (fun h2 => ?_) (fun n3 => mm_ev.sw0 ?_))))
    · rw [if_pos h2]
      refine mm_ev.run mm_y87 3 rfl ?_
      refine mm_ev.ild mm_y87 rfl rfl rfl rfl rfl (by omega) (by decide) (hg.1.kind hc) ?_
      exact mm_ev.ret mm_y87 rfl rfl rfl ⟨rfl, h⟩
    · rw [if_neg n0, if_pos h2]
      refine mm_ev.run mm_y87 3 rfl ?_
      refine mm_ev.ild mm_y87 rfl rfl rfl rfl rfl (by omega) (by decide) (hg.1.v hc) ?_
      exact mm_ev.ret mm_y87 rfl rfl rfl ⟨rfl, h⟩
    · rw [if_neg n0, if_neg n1, if_pos h2]
      refine mm_ev.run mm_y87 3 rfl ?_
      refine mm_ev.ild mm_y87 rfl rfl rfl rfl rfl (by omega) (by decide) (hg.1.fin hc) ?_
      exact mm_ev.ret mm_y87 rfl rfl rfl ⟨rfl, h⟩
    · rw [if_neg n0, if_neg n1, if_neg n2, if_pos h2]
      refine mm_ev.run mm_y87 3 rfl ?_
      refine mm_ev.ild mm_y87 rfl rfl rfl rfl rfl (by omega) (by decide) (hg.1.stood hc) ?_
      exact mm_ev.ret mm_y87 rfl rfl rfl ⟨rfl, h⟩
    · rw [if_neg n0, if_neg n1, if_neg n2, if_neg n3]
      refine mm_ev.run mm_y87 1 rfl ?_
      refine mm_ev.call mm_y87 rfl rfl rfl rfl rfl (C89 w) (fun v1 μ1 hq => ?_)
      obtain ⟨rfl, hμ⟩ := hq
      obtain rfl := hμ.symm
      refine mm_ev.run mm_y87 1 rfl ?_
      refine mm_ev.ifb (fun h3 => ?_) (fun h3 => ?_)
      · rw [if_neg h3]
        refine mm_ev.run mm_y87 1 rfl ?_
        exact mm_ev.ret mm_y87 rfl rfl rfl ⟨rfl, h⟩
      · rw [if_pos h3]
        obtain ⟨p, hp, e⟩ := w_10 h3
        rw [e, nI_clamp (by omega)]
        refine mm_ev.run mm_y87 5 rfl ?_
        refine mm_ev.val e ?_
        refine mm_ev.run mm_y87 5 rfl ?_
        refine mm_ev.val e ?_
        refine mm_ev.call mm_y87 rfl rfl rfl rfl rfl (C28 (Or.inl rfl) hg.1 h6 hc (nI p)) (fun v1 μ1 hq => ?_)
        obtain ⟨rfl, hμ⟩ := hq
        obtain rfl := hμ.symm
        refine mm_ev.call mm_y87 rfl rfl rfl rfl rfl (C29 (Or.inl rfl) hg hc hp (bI (sp_met A.1.1 c (nI p)))) (fun v1 μ1 hq => ?_)
        obtain ⟨fa, rfl, rfl⟩ := hq
        exact mm_ev.ret mm_y87 rfl rfl rfl ⟨rfl, h.fr (mf.rf.sI (Or.inl rfl))⟩
set_option maxRecDepth 100000 in
theorem C93 (h : rC A μ) (ho : okA A) (c p : Int32) : mm_call la_C (d + 10) 93 [.ref 14, .int c, .int p] μ (fun v μ' => v = some (.int (q_point A c p).1) ∧ rC (q_point A c p).2 μ') := by
  have h6 := ho.n
  have hg := h.g ho
  refine mm_call.of mm_t93 ?_
  refine mm_ev.run mm_y93 2 rfl ?_
  refine mm_ev.call mm_y93 rfl rfl rfl rfl rfl (C88' h.n c) (fun v1 μ1 hq => ?_)
  obtain ⟨rfl, hμ⟩ := hq
  obtain rfl := hμ.symm
  refine mm_ev.run mm_y93 1 rfl ?_
  refine mm_ev.ifb (fun h1 => ?_) (fun h1 => ?_)
  · rw [q_point, if_neg h1]
    refine mm_ev.run mm_y93 1 rfl ?_
    exact mm_ev.ret mm_y93 rfl rfl rfl ⟨rfl, h⟩
  · rw [q_point, if_pos h1]
    obtain ⟨c, hc, rfl⟩ := nI_cap (by omega) h1
    rw [nI_clamp (by omega)]
    have key : ∀ z, rC (sA_G A (sG_u A.1.1 3 (upd (A.1.1.2.2.2 3) c z))) (mm_sI μ 20 (upd (μ.1 20) c z)) := fun z =>
      h.setG (hg.u (Or.inl rfl) (k := 3) (by decide) (upd_co (fun i hi => hg.1.fin hi))).1 (mf.rf.sI (P := fun c => c = 20) rfl) (fun c hc => by omega)
    refine mm_ev.run mm_y93 3 rfl ?_
    refine mm_ev.ite (fun h2 => ?_) (fun h2 => ?_)
    · rw [if_pos (Or.inl h2), if_pos h2]
      refine mm_ev.run mm_y93 5 rfl ?_
      refine mm_ev.ild mm_y93 rfl rfl rfl rfl rfl (by omega) (by decide) (hg.1.fin hc) ?_
      refine mm_ev.run mm_y93 9 rfl ?_
      refine mm_ev.pos h2 ?_
      refine mm_ev.run mm_y93 2 rfl ?_
      refine mm_ev.ist mm_y93 rfl rfl rfl rfl rfl (by omega) (by decide) ?_
      refine mm_ev.run mm_y93 1 rfl ?_
      exact mm_ev.ret mm_y93 rfl rfl rfl ⟨rfl, key (-5)⟩
    · refine mm_ev.run mm_y93 1 rfl ?_
      refine mm_ev.call mm_y93 rfl rfl rfl rfl rfl (C91 p) (fun v1 μ1 hq => ?_)
      obtain ⟨rfl, hμ⟩ := hq
      obtain rfl := hμ.symm
      refine mm_ev.run mm_y93 1 rfl ?_
      refine mm_ev.ifb (fun h3 => ?_) (fun h3 => ?_)
      · rw [if_neg (fun z => z.elim h2 h3)]
        refine mm_ev.run mm_y93 1 rfl ?_
        exact mm_ev.ret mm_y93 rfl rfl rfl ⟨rfl, h⟩
      · rw [if_pos (Or.inr h3), if_neg h2]
        refine mm_ev.run mm_y93 5 rfl ?_
        refine mm_ev.ild mm_y93 rfl rfl rfl rfl rfl (by omega) (by decide) (hg.1.fin hc) ?_
        refine mm_ev.run mm_y93 9 rfl ?_
        refine mm_ev.neg h2 ?_
        refine mm_ev.run mm_y93 1 rfl ?_
        refine mm_ev.ist mm_y93 rfl rfl rfl rfl rfl (by omega) (by decide) ?_
        refine mm_ev.run mm_y93 1 rfl ?_
        exact mm_ev.ret mm_y93 rfl rfl rfl ⟨rfl, key p⟩
theorem p_12 {p : Int32} (h : 0 ≤ p ∧ p ≤ 11) : ∃ j, j < 12 ∧ p = nI j := by
  obtain ⟨j, hj, rfl⟩ := nI_of2 (n := 11) (M := 11) (by decide) (Int32.not_lt.mpr h.1) h.2
  exact ⟨j, by omega, rfl⟩
set_option maxRecDepth 100000 in
theorem C94 (h : rC A μ) (ho : okA A) (p n : Int32) : mm_call la_C (d + 10) 94 [.ref 14, .int p, .int n] μ (fun v μ' => v = some (.int (q_need A p n).1) ∧ rC (q_need A p n).2 μ') := by
  have hg := h.g ho
  refine mm_call.of mm_t94 ?_
  refine mm_ev.run mm_y94 1 rfl ?_
  refine mm_ev.call mm_y94 rfl rfl rfl rfl rfl (C91 p) (fun v1 μ1 hq => ?_)
  obtain ⟨rfl, hμ⟩ := hq
  obtain rfl := hμ.symm
  refine mm_ev.run mm_y94 1 rfl ?_
  refine mm_ev.ifb (fun h1 => ?_) (fun h1 => ?_)
  · rw [q_need, if_neg h1]
    refine mm_ev.run mm_y94 1 rfl ?_
    exact mm_ev.ret mm_y94 rfl rfl rfl ⟨rfl, h⟩
  · rw [q_need, if_pos h1]
    obtain ⟨p, hp, rfl⟩ := p_12 h1
    rw [nI_clamp (by omega)]
    refine mm_ev.run mm_y94 3 rfl ?_
    refine mm_ev.call mm_y94 rfl rfl rfl rfl rfl (C86 n 0 99) (fun v1 μ1 hq => ?_)
    obtain ⟨rfl, hμ⟩ := hq
    obtain rfl := hμ.symm
    refine mm_ev.run mm_y94 1 rfl ?_
    refine mm_ev.ifb (fun h2 => ?_) (fun h2 => ?_)
    · rw [if_neg h2]
      refine mm_ev.run mm_y94 1 rfl ?_
      exact mm_ev.ret mm_y94 rfl rfl rfl ⟨rfl, h⟩
    · rw [if_pos h2]
      refine mm_ev.run mm_y94 5 rfl ?_
      refine mm_ev.ild mm_y94 rfl rfl rfl rfl rfl (by omega) (by decide) (hg.1.need hp) ?_
      refine mm_ev.run mm_y94 7 rfl ?_
      refine mm_ev.ist mm_y94 rfl rfl rfl rfl rfl (by omega) (by decide) ?_
      refine mm_ev.run mm_y94 1 rfl ?_
      exact mm_ev.ret mm_y94 rfl rfl rfl ⟨rfl, h.setG (hg.u (Or.inl rfl) (k := 0) (by decide) (upd_co (fun i hi => hg.1.need hi))).1 (mf.rf.sI (P := fun c => c = 17) rfl) (fun c hc => by omega)⟩
set_option maxRecDepth 100000 in
theorem C95 (h : rC A μ) (ho : okA A) (s : Int32) : mm_call la_C (d + 10) 95 [.ref 14, .int s] μ (fun v μ' => v = some (.int (q_spin A s).1) ∧ rC (q_spin A s).2 μ') := by
  have h6 := ho.n
  have hg := h.g ho
  have hg2 := hg.u (Or.inl rfl) (k := 3) (f := pt (μ.1 20) (fun c => sp_spn s (A.1.1.2.2.2 3 c)) A.1.1.1) (F := fun c => sp_spn s (A.1.1.2.2.2 3 c)) (by decide) (fun i hi => pt_lt hi)
  refine mm_call.of mm_t95 ?_
  refine mm_ev.run mm_y95 3 rfl ?_
  refine mm_ev.call mm_y95 rfl rfl rfl rfl rfl (C86 s 0 11) (fun v1 μ1 hq => ?_)
  obtain ⟨rfl, hμ⟩ := hq
  obtain rfl := hμ.symm
  refine mm_ev.run mm_y95 1 rfl ?_
  refine mm_ev.ifb (fun h1 => ?_) (fun h1 => ?_)
  · rw [q_spin, if_neg h1]
    refine mm_ev.run mm_y95 1 rfl ?_
    exact mm_ev.ret mm_y95 rfl rfl rfl ⟨rfl, h⟩
  · rw [q_spin, if_pos h1]
    refine mm_ev.run mm_y95 4 rfl ?_
    refine mm_ev.call mm_y95 rfl rfl rfl rfl rfl (C39 (Or.inl rfl) hg.1 h6 s) (fun v1 μ1 hq => ?_)
    obtain ⟨rfl, hμ⟩ := hq
    obtain rfl := hμ.symm
    refine mm_ev.run mm_y95 3 rfl ?_
    refine mm_ev.call mm_y95 rfl rfl rfl rfl rfl (C40 (Or.inl rfl) hg2.1 h6) (fun v1 μ1 hq => ?_)
    obtain ⟨rfl, hμ⟩ := hq
    obtain rfl := hμ.symm
    exact mm_ev.ret mm_y95 rfl rfl rfl ⟨rfl, h.setG hg2.1 (mf.rf.sI (P := fun c => c = 20) rfl) (fun c hc => by omega)⟩
set_option maxRecDepth 100000 in
theorem C96 (h : rC A μ) (ho : okA A) : mm_call la_C (d + 10) 96 [.ref 14] μ (fun v μ' => v = some (.int (q_bell A).1) ∧ rC (q_bell A).2 μ') := by
  have h6 := ho.n
  have hg := h.g ho
  have hg2 := hg.u (Or.inl rfl) (k := 3) (f := fi_f (μ.1 20) (-5) 6) (F := fun _ => -5) (by decide) (fun i hi => if_pos (Nat.lt_of_lt_of_le (show i < A.1.1.1 from hi) h6))
  refine mm_call.of mm_t96 ?_
  refine mm_ev.run mm_y96 3 rfl ?_
  refine mm_ev.call mm_y96 rfl rfl rfl rfl rfl (C40 (Or.inl rfl) hg.1 h6) (fun v1 μ1 hq => ?_)
  obtain ⟨rfl, hμ⟩ := hq
  obtain rfl := hμ.symm
  refine mm_ev.run mm_y96 6 rfl ?_
  refine mm_ev.call mm_y96 rfl rfl rfl rfl rfl (C0 (-5) rfl (by decide)) (fun v1 μ1 hq => ?_)
  obtain ⟨rfl, hμ⟩ := hq
  obtain rfl := hμ.symm
  refine mm_ev.run mm_y96 1 rfl ?_
  exact mm_ev.ret mm_y96 rfl rfl rfl ⟨rfl, h.setG hg2.1 (mf.rf.sI (P := fun c => c = 20) rfl) (fun c hc => by omega)⟩
theorem p_4 {p : Int32} (h : 0 ≤ p ∧ p ≤ 3) : ∃ j, j < 4 ∧ p = nI j := by
  obtain ⟨j, hj, rfl⟩ := nI_of2 (n := 3) (M := 3) (by decide) (Int32.not_lt.mpr h.1) h.2
  exact ⟨j, by omega, rfl⟩
set_option maxRecDepth 100000 in
theorem C97 (h : rC A μ) (ho : okA A) (c p n : Int32) : mm_call la_C (d + 10) 97 [.ref 14, .int c, .int p, .int n] μ (fun v μ' => v = some (.int (q_row A c p n).1) ∧ rC (q_row A c p n).2 μ') := by
  have h6 := ho.n
  have hg := h.g ho
  refine mm_call.of mm_t97 ?_
  refine mm_ev.run mm_y97 2 rfl ?_
  refine mm_ev.call mm_y97 rfl rfl rfl rfl rfl (C88' h.n c) (fun v1 μ1 hq => ?_)
  obtain ⟨rfl, hμ⟩ := hq
  obtain rfl := hμ.symm
  refine mm_ev.run mm_y97 1 rfl ?_
  refine mm_ev.ifb (fun h1 => ?_) (fun h1 => ?_)
  · rw [q_row, if_neg (fun z => h1 z.1)]
    refine mm_ev.run mm_y97 1 rfl ?_
    exact mm_ev.ret mm_y97 rfl rfl rfl ⟨rfl, h⟩
  · refine mm_ev.run mm_y97 3 rfl ?_
    refine mm_ev.call mm_y97 rfl rfl rfl rfl rfl (C86 p 0 3) (fun v1 μ1 hq => ?_)
    obtain ⟨rfl, hμ⟩ := hq
    obtain rfl := hμ.symm
    refine mm_ev.run mm_y97 1 rfl ?_
    refine mm_ev.ifb (fun h2 => ?_) (fun h2 => ?_)
    · rw [q_row, if_neg (fun z => h2 z.2)]
      refine mm_ev.run mm_y97 1 rfl ?_
      exact mm_ev.ret mm_y97 rfl rfl rfl ⟨rfl, h⟩
    · rw [q_row, if_pos ⟨h1, h2⟩]
      obtain ⟨c, hc, rfl⟩ := nI_cap (by omega) h1
      obtain ⟨p, hp, rfl⟩ := p_4 h2
      rw [nI_clamp (by omega), nI_clamp (by omega)]
      have e4 : nI c * 4 + nI p = nI (4 * c + p) := by rw [show (4 : Int32) = nI 4 from rfl, nI_mul, nI_add, Nat.mul_comm]
      refine mm_ev.run mm_y97 3 rfl ?_
      refine mm_ev.call mm_y97 rfl rfl rfl rfl rfl (C86 n 0 9) (fun v1 μ1 hq => ?_)
      obtain ⟨rfl, hμ⟩ := hq
      obtain rfl := hμ.symm
      refine mm_ev.run mm_y97 1 rfl ?_
      refine mm_ev.ifb (fun h3 => ?_) (fun h3 => ?_)
      · rw [if_neg h3]
        refine mm_ev.run mm_y97 1 rfl ?_
        exact mm_ev.ret mm_y97 rfl rfl rfl ⟨rfl, h⟩
      · rw [if_pos h3]
        refine mm_ev.run mm_y97 5 rfl ?_
        refine mm_ev.ild mm_y97 rfl rfl rfl rfl rfl (by omega) (by decide) (hg.1.kind hc) ?_
        refine mm_ev.run mm_y97 2 rfl ?_
        refine mm_ev.ite (fun h4 => ?_) (fun h4 => ?_)
        · rw [if_pos h4]
          refine mm_ev.run mm_y97 9 rfl ?_
          refine mm_ev.ild mm_y97 rfl rfl rfl rfl e4 (by omega) (by decide) (hg.1.row (by omega)) ?_
          refine mm_ev.run mm_y97 11 rfl ?_
          refine mm_ev.ist mm_y97 rfl rfl rfl rfl e4 (by omega) (by decide) ?_
          refine mm_ev.run mm_y97 1 rfl ?_
          exact mm_ev.ret mm_y97 rfl rfl rfl ⟨rfl, h.setG (hg.u (Or.inl rfl) (k := 5) (by decide) (upd_co (fun i hi => hg.1.row hi))).1 (mf.rf.sI (P := fun c => c = 22) rfl) (fun c hc => by omega)⟩
        · rw [if_neg h4]
          refine mm_ev.run mm_y97 1 rfl ?_
          exact mm_ev.ret mm_y97 rfl rfl rfl ⟨rfl, h⟩
theorem vp_b : ∀ c, c < 128 → vp_nar .byte ((nI c).toInt8.toInt32) = nI c := by decide +kernel
theorem p_128 {s : Int32} (h : 0 ≤ s ∧ s ≤ 127) : ∃ j, j < 128 ∧ s = nI j := by
  obtain ⟨j, hj, rfl⟩ := nI_of2 (n := 127) (M := 127) (by decide) (Int32.not_lt.mpr h.1) h.2
  exact ⟨j, by omega, rfl⟩
set_option maxRecDepth 100000 in
theorem C98 (h : rC A μ) (ho : okA A) (s : Int32) : mm_call la_C (d + 10) 98 [.ref 14, .int s] μ (fun v μ' => v = some (.int (q_feed A s).1) ∧ rC (q_feed A s).2 μ') := by
  have hx := ho.2.2.2.2.1.1
  have h66 := h.2.2.2.2.1
  refine mm_call.of mm_t98 ?_
  refine mm_ev.run mm_y98 3 rfl ?_
  refine mm_ev.call mm_y98 rfl rfl rfl rfl rfl (C86 s 0 127) (fun v1 μ1 hq => ?_)
  obtain ⟨rfl, hμ⟩ := hq
  obtain rfl := hμ.symm
  refine mm_ev.run mm_y98 1 rfl ?_
  refine mm_ev.ifb (fun h1 => ?_) (fun h1 => ?_)
  · rw [q_feed, if_neg h1]
    refine mm_ev.run mm_y98 1 rfl ?_
    exact mm_ev.ret mm_y98 rfl rfl rfl ⟨rfl, h⟩
  · rw [q_feed, if_pos h1]
    obtain ⟨s, hs, rfl⟩ := p_128 h1
    have K : mm_call la_C (d + 9) 56 [.ref 66, .int (nI s)] μ (fun v μ' => (100 ≤ A.2.2.2.1.1 ∧ v = some (.int (-4)) ∧ μ' = μ) ∨ (A.2.2.2.1.1 < 100 ∧ v = some (.int (nI (A.2.2.2.1.1 + 1))) ∧ μ' = mm_sI (mm_sI μ 67 (upd (μ.1 67) A.2.2.2.1.1 (nI s))) 66 (upd (μ.1 66) 1 (nI (A.2.2.2.1.1 + 1))))) := by
      refine mm_call.of mm_t56 ?_
      refine mm_ev.run mm_y56 2 rfl ?_
      refine mm_ev.val h66.1 ?_
      refine mm_ev.run mm_y56 2 rfl ?_
      refine mm_ev.ite (fun h2 => ?_) (fun h2 => ?_)
      · have h3 := (nI_ltI (b := 100) (by omega) (by decide)).mp h2
        refine mm_ev.run mm_y56 4 rfl ?_
        refine mm_ev.val h66.1 ?_
        refine mm_ev.run mm_y56 2 rfl ?_
        refine mm_ev.bst mm_y56 rfl rfl rfl rfl rfl (by omega) (by decide) ?_
        rw [vp_b s hs]
        refine mm_ev.run mm_y56 3 rfl ?_
        refine mm_ev.val h66.1 ?_
        refine mm_ev.run mm_y56 2 rfl ?_
        refine mm_ev.val (nI_1 _) ?_
        refine mm_ev.run mm_y56 2 rfl ?_
        refine mm_ev.run mm_y56 1 rfl ?_
        exact mm_ev.ret mm_y56 rfl rfl rfl (Or.inr ⟨h3, rfl, rfl⟩)
      · refine mm_ev.run mm_y56 1 rfl ?_
        exact mm_ev.ret mm_y56 rfl rfl rfl (Or.inl ⟨by
          by_cases z : A.2.2.2.1.1 < 100
          · exact absurd (nI_lt z (by decide)) h2
          · omega, rfl, rfl⟩)
    refine mm_ev.run mm_y98 3 rfl ?_
    refine mm_ev.call mm_y98 rfl rfl rfl rfl rfl K (fun v1 μ1 hq => ?_)
    rcases hq with ⟨e, rfl, rfl⟩ | ⟨e, rfl, rfl⟩
    · rw [if_neg (by omega)]
      exact mm_ev.ret mm_y98 rfl rfl rfl ⟨rfl, h⟩
    · rw [if_pos e]
      obtain ⟨k1, k2, k3, k4, k5, k6, k7⟩ := h
      have hf : mf (fun c => c = 66 ∨ c = 67) μ (mm_sI (mm_sI μ 67 (upd (μ.1 67) A.2.2.2.1.1 (nI s))) 66 (upd (μ.1 66) 1 (nI (A.2.2.2.1.1 + 1)))) := (mf.rf.sI (Or.inr rfl)).sI (Or.inl rfl)
      have key : rC (sA_x A (A.2.2.2.1.1 + 1) (upd A.2.2.2.1.2 A.2.2.2.1.1 (nI s))) (mm_sI (mm_sI μ 67 (upd (μ.1 67) A.2.2.2.1.1 (nI s))) 66 (upd (μ.1 66) 1 (nI (A.2.2.2.1.1 + 1)))) := by
        refine ⟨k1.fr hf (fun c hc => by omega), k2, fun K hK => (k3 K hK).fr hf (fun c hc => by omega), k4.fr' hf (fun c hc => by omega), ⟨by rw [sI_eq, upd_eq]; rfl, fun i hi => ?_⟩, k6, fun t ht => (k7 t ht).fr hf (fun c hc => by omega)⟩
        exact upd_co1 (fun i hi => k5.2 i hi) i hi
      exact mm_ev.ret mm_y98 rfl rfl rfl ⟨rfl, key⟩
end
