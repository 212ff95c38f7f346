/-! THE REFERENCE'S TAPES -/
abbrev pt1 (t c j : Nat) : Prop := (c = 139 ∧ j = t) ∨ (c = 140 ∧ j = t) ∨ (c = 141 ∧ 60 * t ≤ j ∧ j < 60 * t + 60)
section
variable {A : sA} {μ μ' : mm_M} {t : Nat}
theorem rM.setT {T : sT} (h : rM A μ) (ht : t < 6) (hT : tTm t T μ') (hf : mh (pt1 t) μ μ') : rM (sA_t A t T) μ' := by
  obtain ⟨k1, k2, k3, k4, k5, k6, k7⟩ := h
  have e : ∀ c j, ¬ pt1 t c j → μ'.1 c j = μ.1 c j := fun c j hc => hf.1 c j hc
  refine ⟨k1.fr hf (fun c j hc => by omega), by rw [e 110 36 (by omega)]; exact k2, fun K hK => (k3 K hK).fr (fun j _ => e 133 j (by omega)), k4.fr hf (fun c j hc => by omega), ⟨by rw [e 110 8 (by omega)]; exact k5.1, fun i hi => by rw [e 117 i (by omega)]; exact k5.2 i hi⟩, ⟨by rw [e 110 34 (by omega)]; exact k6.1, fun i hi => by rw [e 132 i (by omega)]; exact k6.2 i hi⟩, fun u hu => ?_⟩
  show tTm u (if u = t then T else A.2.2.2.2.2 u) μ'
  by_cases e2 : u = t
  · subst e2
    rw [if_pos rfl]
    exact hT
  · rw [if_neg e2]
    obtain ⟨a1, a2, a3⟩ := k7 u hu
    exact ⟨by rw [e 139 u (by omega)]; exact a1, by rw [e 140 u (by omega)]; exact a2, fun i hi => by rw [hf.2 141 _ (by omega)]; exact a3 i hi⟩
end
section
variable {d : Nat} {μ : mm_M} {A : sA} {t : Nat}
set_option maxRecDepth 100000 in
theorem C197_l {Φ : Option Value → mm_M → Prop} (ht : t < 6) {s n : Int32} (K : ∀ G, (∀ i, i < 60 → G (60 * t + i) = 0) → mh (fun c j => c = 141 ∧ 60 * t ≤ j ∧ j < 60 * t + 60) μ (mm_sJ μ 141 G) → Φ (some (.int 1)) (mm_sJ μ 141 G)) : ∀ m k G, k + m = 60 → (∀ i, i < k → G (60 * t + i) = 0) → mh (fun c j => c = 141 ∧ 60 * t ≤ j ∧ j < 60 * t + 60) μ (mm_sJ μ 141 G) → mm_ev la_M d 197 39 [some (.ref 110), some (.int (nI t)), some (.int s), some (.int n), some (.int (nI k))] [] (mm_sJ μ 141 G) Φ := by
  have e60 : ∀ k, 60 * nI t + nI k = nI (60 * t + k) := fun k => by rw [show (60 : Int32) = nI 60 from rfl, nI_mul, nI_add]
  intro m
  induction m with
  | zero =>
    intro k G hk hG hm
    have hk : k = 60 := by omega
    subst hk
    refine mm_ev.run mm_y197 3 rfl ?_
    refine mm_ev.pos (by decide) ?_
    refine mm_ev.run mm_y197 1 rfl ?_
    exact mm_ev.ret mm_y197 rfl rfl rfl (K G hG hm)
  | succ m ih =>
    intro k G hk hG hm
    have ih := fun G => ih (k + 1) G (by omega)
    rw [nI_succ] at ih
    have hm2 := hm.sJ (q := 141) (k := 60 * t + k) (x := 0) ⟨rfl, by omega, by omega⟩
    rw [sJ_eq, mm_sJ_sJ] at hm2
    refine mm_ev.run mm_y197 3 rfl ?_
    refine mm_ev.neg (nI_ge (b := 60) (by omega) (by decide)) ?_
    refine mm_ev.run mm_y197 8 rfl ?_
    refine mm_ev.lst mm_y197 rfl rfl rfl rfl (e60 k) (by omega) (by decide) ?_
    refine mm_ev.run mm_y197 2 rfl ?_
    refine mm_ev.eq mm_sJ_sJ (ih _ (fun i hi => ?_) hm2)
    by_cases e : i = k
    · subst e
      exact pk_uLs
    · rw [pk_uLn (by omega)]
      exact hG i (by omega)
set_option maxRecDepth 100000 in
theorem C197_w (h : rM A μ) (ht : t < 6) {s n : Int32} {l : Nat} (hl : (if s < 0 then 0 else n) = nI l) : mm_ev la_M d 197 23 [some (.ref 110), some (.int (nI t)), some (.int s), some (.int n), none] [] μ (fun v μ' => v = some (.int 1) ∧ rM (sA_t A t (s, l, fun _ => 0)) μ') := by
  have hf0 : mh (pt1 t) μ (mm_sI (mm_sI μ 139 (upd (μ.1 139) t s)) 140 (upd (μ.1 140) t (nI l))) := (mh.rf.sU (Or.inl ⟨rfl, rfl⟩) rfl).sU (Or.inr (Or.inl ⟨rfl, rfl⟩)) rfl
  have fin : mm_ev la_M d 197 37 [some (.ref 110), some (.int (nI t)), some (.int s), some (.int n), none] [] (mm_sI (mm_sI μ 139 (upd (μ.1 139) t s)) 140 (upd (μ.1 140) t (nI l))) (fun v μ' => v = some (.int 1) ∧ rM (sA_t A t (s, l, fun _ => 0)) μ') := by
    have L := C197_l (d := d) (μ := mm_sI (mm_sI μ 139 (upd (μ.1 139) t s)) 140 (upd (μ.1 140) t (nI l))) (Φ := fun v μ' => v = some (.int 1) ∧ rM (sA_t A t (s, l, fun _ => 0)) μ') (s := s) (n := n) ht (fun G hG hm => ⟨rfl, h.setT ht ⟨?_, ?_, fun i hi => ?_⟩ (hf0.tr (hm.mono (fun c j hc => Or.inr (Or.inr hc))))⟩) 60 0 (μ.2.1 141) (by omega) (fun i hi => absurd hi (by omega)) (by
        rw [show mm_sJ (mm_sI (mm_sI μ 139 (upd (μ.1 139) t s)) 140 (upd (μ.1 140) t (nI l))) 141 (μ.2.1 141) = mm_sI (mm_sI μ 139 (upd (μ.1 139) t s)) 140 (upd (μ.1 140) t (nI l)) from mm_sJ_self]
        exact mh.rf)
    · rw [show mm_sJ (mm_sI (mm_sI μ 139 (upd (μ.1 139) t s)) 140 (upd (μ.1 140) t (nI l))) 141 (μ.2.1 141) = mm_sI (mm_sI μ 139 (upd (μ.1 139) t s)) 140 (upd (μ.1 140) t (nI l)) from mm_sJ_self] at L
      refine mm_ev.run mm_y197 2 rfl ?_
      exact L
    · show upd (μ.1 139) t s t = s
      exact upd_eq
    · show upd (μ.1 140) t (nI l) t = nI l
      exact upd_eq
    · rw [sJ_eq]
      exact hG i hi
  refine mm_ev.run mm_y197 4 rfl ?_
  refine mm_ev.ist mm_y197 rfl rfl rfl rfl rfl (by omega) (by decide) ?_
  refine mm_ev.run mm_y197 5 rfl ?_
  refine mm_ev.ite (fun h1 => ?_) (fun h1 => ?_)
  · rw [if_neg (Int32.not_lt.mpr h1)] at hl
    subst hl
    refine mm_ev.run mm_y197 1 rfl ?_
    refine mm_ev.ist mm_y197 rfl rfl rfl rfl rfl (by omega) (by decide) ?_
    exact fin
  · rw [if_pos (Int32.not_le.mp h1)] at hl
    refine mm_ev.run mm_y197 2 rfl ?_
    refine mm_ev.val hl ?_
    refine mm_ev.ist mm_y197 rfl rfl rfl rfl rfl (by omega) (by decide) ?_
    exact fin
theorem p_m14 {s : Int32} (h : -1 ≤ s ∧ s ≤ 4) (h1 : ¬ s = -1) : 0 ≤ s := by
  have a1 := h.1
  have a2 := h1
  rw [Int32.le_iff_toInt_le] at a1 ⊢
  have e : s.toInt ≠ -1 := fun z => a2 (Int32.toInt_inj.mp (by rw [z]; decide))
  have e1 : (-1 : Int32).toInt = -1 := by decide
  have e0 : (0 : Int32).toInt = 0 := by decide
  rw [e1] at a1
  rw [e0]
  omega
set_option maxRecDepth 100000 in
theorem C197 (h : rM A μ) (ho : okA A) (t s n : Int32) : mm_call la_M (d + 10) 197 [.ref 110, .int t, .int s, .int n] μ (fun v μ' => v = some (.int (q_tape A t s n).1) ∧ rM (q_tape A t s n).2 μ') := by
  refine mm_call.of mm_t197 ?_
  refine mm_ev.run mm_y197 1 rfl ?_
  refine mm_ev.call mm_y197 rfl rfl rfl rfl rfl (C198 t) (fun v1 μ1 hq => ?_)
  obtain ⟨rfl, hμ⟩ := hq
  obtain rfl := hμ.symm
  refine mm_ev.run mm_y197 1 rfl ?_
  refine mm_ev.ifb (fun h1 => ?_) (fun h1 => ?_)
  · rw [q_tape, if_neg h1]
    refine mm_ev.run mm_y197 1 rfl ?_
    exact mm_ev.ret mm_y197 rfl rfl rfl ⟨rfl, h⟩
  · rw [q_tape, if_pos h1]
    obtain ⟨t, ht, rfl⟩ := p_6 h1
    rw [nI_clamp (by omega)]
    refine mm_ev.run mm_y197 3 rfl ?_
    refine mm_ev.call mm_y197 rfl rfl rfl rfl rfl (C128 s (-1) 4) (fun v1 μ1 hq => ?_)
    obtain ⟨rfl, hμ⟩ := hq
    obtain rfl := hμ.symm
    refine mm_ev.run mm_y197 1 rfl ?_
    refine mm_ev.ifb (fun h2 => ?_) (fun h2 => ?_)
    · rw [if_neg h2]
      refine mm_ev.run mm_y197 1 rfl ?_
      exact mm_ev.ret mm_y197 rfl rfl rfl ⟨rfl, h⟩
    · rw [if_pos h2]
      by_cases h3 : s = -1
      · subst h3
        rw [if_pos rfl]
        refine mm_ev.run mm_y197 2 rfl ?_
        refine mm_ev.pos (by decide) ?_
        refine mm_ev.run mm_y197 2 rfl ?_
        refine mm_ev.pos (by decide) ?_
        exact C197_w h ht (by rw [if_pos (by decide)]; rfl)
      · have h4 := p_m14 h2 h3
        rw [if_neg h3]
        refine mm_ev.run mm_y197 2 rfl ?_
        refine mm_ev.neg (Int32.not_lt.mpr h4) ?_
        refine mm_ev.run mm_y197 3 rfl ?_
        refine mm_ev.ite (fun h5 => ?_) (fun h5 => ?_)
        · rw [if_neg (Int32.not_lt.mpr h5)]
          refine mm_ev.run mm_y197 2 rfl ?_
          refine mm_ev.neg (Int32.not_lt.mpr h4) ?_
          refine mm_ev.run mm_y197 2 rfl ?_
          refine mm_ev.ite (fun h6 => ?_) (fun h6 => ?_)
          · rw [if_neg (Int32.not_lt.mpr h6)]
            obtain ⟨n, hn, rfl⟩ := nI_of (Int32.not_lt.mpr h6)
            rw [nI_clamp hn]
            exact C197_w h ht (by rw [if_neg (Int32.not_lt.mpr h4)])
          · rw [if_pos (Int32.not_le.mp h6)]
            refine mm_ev.run mm_y197 1 rfl ?_
            exact mm_ev.ret mm_y197 rfl rfl rfl ⟨rfl, h⟩
        · rw [if_pos (Int32.not_le.mp h5)]
          refine mm_ev.run mm_y197 1 rfl ?_
          exact mm_ev.ret mm_y197 rfl rfl rfl ⟨rfl, h⟩
set_option maxRecDepth 100000 in
theorem C200 {Λ : List mm_D} (s : Int32) (x : Int64) : mm_call Λ d 200 [.int s, .long x] μ (fun v μ' => v = some (.long (sp_nar s x)) ∧ μ' = μ) := by
  unfold sp_nar
  refine mm_call.of mm_t200 ?_
  refine mm_ev.run mm_y200 2 rfl ?_
  refine mm_ev.swc (fun h => ?_) (fun n0 => mm_ev.swc (fun h => ?_) (fun n1 => mm_ev.swc (fun h => ?_) (fun n2 => mm_ev.swc (fun h => ?_) (fun n3 => mm_ev.sw0 ?_))))
  · rw [if_pos h]
    refine mm_ev.run mm_y200 4 rfl ?_
    exact mm_ev.ret mm_y200 rfl rfl rfl ⟨rfl, rfl⟩
  · rw [if_neg n0, if_pos h]
    refine mm_ev.run mm_y200 4 rfl ?_
    exact mm_ev.ret mm_y200 rfl rfl rfl ⟨rfl, rfl⟩
  · rw [if_neg n0, if_neg n1, if_pos h]
    refine mm_ev.run mm_y200 3 rfl ?_
    exact mm_ev.ret mm_y200 rfl rfl rfl ⟨rfl, rfl⟩
  · rw [if_neg n0, if_neg n1, if_neg n2, if_pos h]
    refine mm_ev.run mm_y200 1 rfl ?_
    exact mm_ev.ret mm_y200 rfl rfl rfl ⟨rfl, rfl⟩
  · rw [if_neg n0, if_neg n1, if_neg n2, if_neg n3]
    refine mm_ev.run mm_y200 4 rfl ?_
    refine mm_ev.ite (fun h2 => ?_) (fun h2 => ?_)
    · rw [if_pos ((lg_cmp_eq _ _).mp h2)]
      refine mm_ev.run mm_y200 1 rfl ?_
      exact mm_ev.ret mm_y200 rfl rfl rfl ⟨rfl, rfl⟩
    · rw [if_neg (fun z => h2 ((lg_cmp_eq _ _).mpr z))]
      refine mm_ev.run mm_y200 2 rfl ?_
      exact mm_ev.ret mm_y200 rfl rfl rfl ⟨rfl, rfl⟩
theorem okA.s (ho : okA A) (ht : t < 6) : ((A.2.2.2.2.2 t).1 = -1 ∧ (A.2.2.2.2.2 t).1 < 0 ∧ (A.2.2.2.2.2 t).2.1 = 0) ∨ (¬ (A.2.2.2.2.2 t).1 = -1 ∧ ¬ (A.2.2.2.2.2 t).1 < 0) := by
  rcases (ho.2.2.2.2.2.2 t ht).2 with ⟨a1, a2⟩ | ⟨s, hs, e⟩
  · exact Or.inl ⟨a1, by rw [a1]; decide, a2⟩
  · exact Or.inr ⟨by rw [e]; exact fun z => absurd (nI_pos' (n := s) (by omega)) (by rw [z]; decide), by rw [e]; exact nI_pos (by omega)⟩
set_option maxRecDepth 100000 in
theorem C199 (h : rM A μ) (ho : okA A) (t i : Int32) (x : Int64) : mm_call la_M (d + 10) 199 [.ref 110, .int t, .int i, .long x] μ (fun v μ' => v = some (.int (q_item A t i x).1) ∧ rM (q_item A t i x).2 μ') := by
  refine mm_call.of mm_t199 ?_
  refine mm_ev.run mm_y199 1 rfl ?_
  refine mm_ev.call mm_y199 rfl rfl rfl rfl rfl (C198 t) (fun v1 μ1 hq => ?_)
  obtain ⟨rfl, hμ⟩ := hq
  obtain rfl := hμ.symm
  refine mm_ev.run mm_y199 1 rfl ?_
  refine mm_ev.ifb (fun h1 => ?_) (fun h1 => ?_)
  · rw [q_item, if_neg h1]
    refine mm_ev.run mm_y199 1 rfl ?_
    exact mm_ev.ret mm_y199 rfl rfl rfl ⟨rfl, h⟩
  · rw [q_item, if_pos h1]
    obtain ⟨t, ht, rfl⟩ := p_6 h1
    rw [nI_clamp (by omega)]
    have hT := h.2.2.2.2.2.2 t ht
    have hl := (ho.2.2.2.2.2.2 t ht).1
    refine mm_ev.run mm_y199 3 rfl ?_
    refine mm_ev.ild mm_y199 rfl rfl rfl rfl rfl (by omega) (by decide) hT.1 ?_
    rcases ho.s ht with ⟨a1, a2, a3⟩ | ⟨a1, a2⟩
    · rw [if_pos a1]
      refine mm_ev.run mm_y199 1 rfl ?_
      refine mm_ev.neg (Int32.not_le.mpr a2) ?_
      refine mm_ev.run mm_y199 1 rfl ?_
      exact mm_ev.ret mm_y199 rfl rfl rfl ⟨rfl, h⟩
    · rw [if_neg a1]
      refine mm_ev.run mm_y199 1 rfl ?_
      refine mm_ev.pos (Int32.not_lt.mp a2) ?_
      refine mm_ev.run mm_y199 5 rfl ?_
      refine mm_ev.ild mm_y199 rfl rfl rfl rfl rfl (by omega) (by decide) hT.2.1 ?_
      refine mm_ev.run mm_y199 2 rfl ?_
      refine mm_ev.call mm_y199 rfl rfl rfl rfl rfl (C128 i 0 (nI (A.2.2.2.2.2 t).2.1 - 1)) (fun v1 μ1 hq => ?_)
      obtain ⟨rfl, hμ⟩ := hq
      obtain rfl := hμ.symm
      refine mm_ev.run mm_y199 1 rfl ?_
      refine mm_ev.ifb (fun h4 => ?_) (fun h4 => ?_)
      · rw [if_neg h4]
        refine mm_ev.run mm_y199 1 rfl ?_
        exact mm_ev.ret mm_y199 rfl rfl rfl ⟨rfl, h⟩
      · rw [if_pos h4]
        obtain ⟨j, hj, rfl⟩ := nI_cap (by omega) h4
        rw [nI_clamp (by omega)]
        refine mm_ev.run mm_y199 7 rfl ?_
        refine mm_ev.run mm_y199 3 rfl ?_
        refine mm_ev.ild mm_y199 rfl rfl rfl rfl rfl (by omega) (by decide) hT.1 ?_
        refine mm_ev.run mm_y199 1 rfl ?_
        refine mm_ev.call mm_y199 rfl rfl rfl rfl rfl (C200 (A.2.2.2.2.2 t).1 x) (fun v1 μ1 hq => ?_)
        obtain ⟨rfl, hμ⟩ := hq
        obtain rfl := hμ.symm
        refine mm_ev.lst mm_y199 rfl rfl rfl rfl (show (60 : Int32) * nI t + nI j = nI (60 * t + j) from by rw [show (60 : Int32) = nI 60 from rfl, nI_mul, nI_add]) (by omega) (by decide) ?_
        have key : tTm t ((A.2.2.2.2.2 t).1, (A.2.2.2.2.2 t).2.1, vp_updL (A.2.2.2.2.2 t).2.2 j (sp_nar (A.2.2.2.2.2 t).1 x)) (mm_sJ μ 141 (vp_updL (μ.2.1 141) (60 * t + j) (sp_nar (A.2.2.2.2.2 t).1 x))) := by
          refine ⟨hT.1, hT.2.1, fun i hi => ?_⟩
          rw [sJ_eq]
          by_cases e : i = j
          · subst e
            rw [pk_uLs]
            exact pk_uLs.symm
          · rw [pk_uLn (by omega)]
            exact (hT.2.2 i hi).trans (pk_uLn e).symm
        refine mm_ev.run mm_y199 1 rfl ?_
        exact mm_ev.ret mm_y199 rfl rfl rfl ⟨rfl, h.setT ht key (mh.rf.sJ (Or.inr (Or.inr ⟨rfl, by omega, by omega⟩)))⟩
set_option maxRecDepth 100000 in
theorem C201 (h : rM A μ) (ho : okA A) (t i : Int32) : mm_call la_M (d + 10) 201 [.ref 110, .int t, .int i] μ (fun v μ' => v = some (.long (q_read A t i)) ∧ rM A μ') := by
  refine mm_call.of mm_t201 ?_
  refine mm_ev.run mm_y201 1 rfl ?_
  refine mm_ev.call mm_y201 rfl rfl rfl rfl rfl (C198 t) (fun v1 μ1 hq => ?_)
  obtain ⟨rfl, hμ⟩ := hq
  obtain rfl := hμ.symm
  refine mm_ev.run mm_y201 1 rfl ?_
  refine mm_ev.ifb (fun h1 => ?_) (fun h1 => ?_)
  · rw [q_read, if_neg h1]
    refine mm_ev.run mm_y201 1 rfl ?_
    exact mm_ev.ret mm_y201 rfl rfl rfl ⟨rfl, h⟩
  · rw [q_read, if_pos h1]
    obtain ⟨t, ht, rfl⟩ := p_6 h1
    rw [nI_clamp (by omega)]
    have hT := h.2.2.2.2.2.2 t ht
    have hl := (ho.2.2.2.2.2.2 t ht).1
    refine mm_ev.run mm_y201 3 rfl ?_
    refine mm_ev.ild mm_y201 rfl rfl rfl rfl rfl (by omega) (by decide) hT.1 ?_
    rcases ho.s ht with ⟨a1, a2, a3⟩ | ⟨a1, a2⟩
    · rw [if_neg (fun z => by
        obtain ⟨j, hj, _⟩ := nI_cap (by omega) z
        omega)]
      refine mm_ev.run mm_y201 1 rfl ?_
      refine mm_ev.pos a2 ?_
      refine mm_ev.run mm_y201 1 rfl ?_
      exact mm_ev.ret mm_y201 rfl rfl rfl ⟨rfl, h⟩
    ·
      refine mm_ev.run mm_y201 1 rfl ?_
      refine mm_ev.neg a2 ?_
      refine mm_ev.run mm_y201 5 rfl ?_
      refine mm_ev.ild mm_y201 rfl rfl rfl rfl rfl (by omega) (by decide) hT.2.1 ?_
      refine mm_ev.run mm_y201 2 rfl ?_
      refine mm_ev.call mm_y201 rfl rfl rfl rfl rfl (C128 i 0 (nI (A.2.2.2.2.2 t).2.1 - 1)) (fun v1 μ1 hq => ?_)
      obtain ⟨rfl, hμ⟩ := hq
      obtain rfl := hμ.symm
      refine mm_ev.run mm_y201 1 rfl ?_
      refine mm_ev.ifb (fun h4 => ?_) (fun h4 => ?_)
      · rw [if_neg h4]
        refine mm_ev.run mm_y201 1 rfl ?_
        exact mm_ev.ret mm_y201 rfl rfl rfl ⟨rfl, h⟩
      · rw [if_pos h4]
        obtain ⟨j, hj, rfl⟩ := nI_cap (by omega) h4
        rw [nI_clamp (by omega)]
        refine mm_ev.run mm_y201 7 rfl ?_
        refine mm_ev.lld mm_y201 rfl rfl rfl rfl (show (60 : Int32) * nI t + nI j = nI (60 * t + j) from by rw [show (60 : Int32) = nI 60 from rfl, nI_mul, nI_add]) (by omega) (by decide) (hT.2.2 j (by omega)) ?_
        refine mm_ev.run mm_y201 1 rfl ?_
        exact mm_ev.ret mm_y201 rfl rfl rfl ⟨rfl, h⟩
theorem lc_lt {a b l : Nat} (ha : a < 2 ^ 31) (hb : b < 2 ^ 31) (hl : l < 2 ^ 31) : lg_cmp ((nI a).toInt64 + (nI b).toInt64) (nI l).toInt64 < 0 ↔ a + b < l := by
  rw [nI_l ha, nI_l hb, nI_l hl, lN_add, lg_cmp_lt]
  exact pk_lLT (by omega) (by omega)
theorem lc_gt {a b l : Nat} (ha : a < 2 ^ 31) (hb : b < 2 ^ 31) (hl : l < 2 ^ 31) : 0 < lg_cmp ((nI a).toInt64 + (nI b).toInt64) (nI l).toInt64 ↔ l < a + b := by
  rw [nI_l ha, nI_l hb, nI_l hl, lN_add, lg_cmp_gt]
  exact pk_lLT (by omega) (by omega)
set_option maxRecDepth 100000 in
theorem C185_l (h : rM A μ) (ho : okA A) (ht : t < 6) (i : Int32) : ∀ m k, k + m = 12 → mm_ev la_M d 185 22 [some (.ref 110), some (.int (nI t)), some (.int i), some (.int (nI k))] [] μ (fun v μ' => v = some (.int (sp_jd A.1.1 (A.2.2.2.2.2 t) i m k)) ∧ rM A μ') := by
  have hT := h.2.2.2.2.2.2 t ht
  have hl := (ho.2.2.2.2.2.2 t ht).1
  have hg := h.1.1
  intro m
  induction m with
  | zero =>
    intro k hk
    have hk : k = 12 := by omega
    subst hk
    refine mm_ev.run mm_y185 3 rfl ?_
    refine mm_ev.pos (by decide) ?_
    refine mm_ev.run mm_y185 1 rfl ?_
    exact mm_ev.ret mm_y185 rfl rfl rfl ⟨rfl, h⟩
  | succ m ih =>
    intro k hk
    have ih := ih (k + 1) (by omega)
    rw [nI_succ] at ih
    rw [sp_jd_s]
    rcases ho.s ht with ⟨a1, a2, a3⟩ | ⟨a1, a2⟩
    · rw [if_pos (Or.inr (by omega))]
      refine mm_ev.run mm_y185 3 rfl ?_
      refine mm_ev.neg (nI_ge (b := 12) (by omega) (by decide)) ?_
      refine mm_ev.run mm_y185 3 rfl ?_
      refine mm_ev.ild mm_y185 rfl rfl rfl rfl rfl (by omega) (by decide) (hT.1.trans a1) ?_
      refine mm_ev.run mm_y185 2 rfl ?_
      refine mm_ev.pos rfl ?_
      refine mm_ev.run mm_y185 3 rfl ?_
      refine mm_ev.val (nI_add 100 k) ?_
      exact mm_ev.ret mm_y185 rfl rfl rfl ⟨rfl, h⟩
    ·
      refine mm_ev.run mm_y185 3 rfl ?_
      refine mm_ev.neg (nI_ge (b := 12) (by omega) (by decide)) ?_
      refine mm_ev.run mm_y185 3 rfl ?_
      refine mm_ev.ild mm_y185 rfl rfl rfl rfl rfl (by omega) (by decide) hT.1 ?_
      refine mm_ev.run mm_y185 2 rfl ?_
      refine mm_ev.neg a1 ?_
      refine mm_ev.run mm_y185 2 rfl ?_
      refine mm_ev.ite (fun h1 => ?_) (fun h1 => ?_)
      · rw [if_pos (Or.inl h1)]
        refine mm_ev.run mm_y185 3 rfl ?_
        refine mm_ev.val (nI_add 100 k) ?_
        exact mm_ev.ret mm_y185 rfl rfl rfl ⟨rfl, h⟩
      · obtain ⟨j, hj, rfl⟩ := nI_of h1
        rw [nI_clamp hj]
        refine mm_ev.run mm_y185 8 rfl ?_
        refine mm_ev.ild mm_y185 rfl rfl rfl rfl rfl (by omega) (by decide) hT.2.1 ?_
        refine mm_ev.run mm_y185 3 rfl ?_
        refine mm_ev.ite (fun h2 => ?_) (fun h2 => ?_)
        · have h3 := (lc_lt hj (by omega) (by omega)).mp h2
          rw [if_neg (fun z => z.elim h1 (fun z => by omega))]
          refine mm_ev.run mm_y185 9 rfl ?_
          refine mm_ev.lld mm_y185 rfl rfl rfl rfl (show (60 : Int32) * nI t + nI j + nI k = nI (60 * t + (j + k)) from by rw [show (60 : Int32) = nI 60 from rfl, nI_mul, nI_add, nI_add, Nat.add_assoc]) (by omega) (by decide) (hT.2.2 (j + k) (by omega)) ?_
          refine mm_ev.run mm_y185 3 rfl ?_
          refine mm_ev.ild mm_y185 rfl rfl rfl rfl rfl (by omega) (by decide) (hg.need (by omega)) ?_
          refine mm_ev.run mm_y185 3 rfl ?_
          refine mm_ev.ite (fun h4 => ?_) (fun h4 => ?_)
          · rw [if_pos ((lg_cmp_eq _ _).mp h4)]
            refine mm_ev.run mm_y185 2 rfl ?_
            exact ih
          · rw [if_neg (fun z => h4 ((lg_cmp_eq _ _).mpr z))]
            refine mm_ev.run mm_y185 1 rfl ?_
            exact mm_ev.ret mm_y185 rfl rfl rfl ⟨rfl, h⟩
        · rw [if_pos (Or.inr (by
            by_cases z : j + k < (A.2.2.2.2.2 t).2.1
            · exact absurd ((lc_lt hj (by omega) (by omega)).mpr z) h2
            · omega))]
          refine mm_ev.run mm_y185 3 rfl ?_
          refine mm_ev.val (nI_add 100 k) ?_
          exact mm_ev.ret mm_y185 rfl rfl rfl ⟨rfl, h⟩
set_option maxRecDepth 100000 in
theorem C185 (h : rM A μ) (ho : okA A) (t i : Int32) : mm_call la_M (d + 10) 185 [.ref 110, .int t, .int i] μ (fun v μ' => v = some (.int (q_judge A t i)) ∧ rM A μ') := by
  refine mm_call.of mm_t185 ?_
  refine mm_ev.run mm_y185 3 rfl ?_
  refine mm_ev.call mm_y185 rfl rfl rfl rfl rfl (C128 t 0 5) (fun v1 μ1 hq => ?_)
  obtain ⟨rfl, hμ⟩ := hq
  obtain rfl := hμ.symm
  refine mm_ev.run mm_y185 1 rfl ?_
  refine mm_ev.ifb (fun h1 => ?_) (fun h1 => ?_)
  · rw [q_judge, if_neg h1]
    refine mm_ev.run mm_y185 1 rfl ?_
    exact mm_ev.ret mm_y185 rfl rfl rfl ⟨rfl, h⟩
  · rw [q_judge, if_pos h1]
    obtain ⟨t, ht, rfl⟩ := p_6 h1
    rw [nI_clamp (by omega)]
    have hT := h.2.2.2.2.2.2 t ht
    have L := C185_l (d := d + 10) h ho ht i 12 0 (by omega)
    refine mm_ev.run mm_y185 3 rfl ?_
    refine mm_ev.ild mm_y185 rfl rfl rfl rfl rfl (by omega) (by decide) hT.1 ?_
    refine mm_ev.run mm_y185 2 rfl ?_
    refine mm_ev.ite (fun h2 => ?_) (fun h2 => ?_)
    · rw [if_pos (Or.inl h2)]
      refine mm_ev.run mm_y185 2 rfl ?_
      exact L
    · refine mm_ev.run mm_y185 3 rfl ?_
      refine mm_ev.ild mm_y185 rfl rfl rfl rfl rfl (by omega) (by decide) hT.1 ?_
      refine mm_ev.run mm_y185 1 rfl ?_
      refine mm_ev.ite (fun h3 => ?_) (fun h3 => ?_)
      · rw [if_pos (Or.inr h3)]
        refine mm_ev.run mm_y185 2 rfl ?_
        exact L
      · rw [if_neg (fun z => z.elim h2 h3)]
        refine mm_ev.run mm_y185 1 rfl ?_
        exact mm_ev.ret mm_y185 rfl rfl rfl ⟨rfl, h⟩
/-! shift -/
theorem cpy_up {O : Nat → Int64} {a b k : Nat} : vp_updL (va_cpy O O a b k) (b + k) (O (a + k)) = va_cpy O O a b (k + 1) := by
  funext j
  unfold vp_updL va_cpy
  by_cases e : j = b + k
  · subst e
    rw [if_pos rfl, if_pos ⟨by omega, by omega⟩, show b + k - b = k by omega]
  · rw [if_neg e]
    by_cases h : b ≤ j ∧ j < b + k
    · rw [if_pos h, if_pos ⟨h.1, by omega⟩]
    · rw [if_neg h, if_neg (by omega)]
theorem cpy_dn {O : Nat → Int64} {a b k m : Nat} : vp_updL (va_cpy O O (a + (k + 1)) (b + (k + 1)) m) (b + k) (O (a + k)) = va_cpy O O (a + k) (b + k) (m + 1) := by
  funext j
  unfold vp_updL va_cpy
  by_cases e : j = b + k
  · subst e
    rw [if_pos rfl, if_pos ⟨by omega, by omega⟩, Nat.sub_self]
    rfl
  · rw [if_neg e]
    by_cases h : b + (k + 1) ≤ j ∧ j < b + (k + 1) + m
    · rw [if_pos h, if_pos ⟨by omega, by omega⟩]
      congr 1
      omega
    · rw [if_neg h, if_neg (by omega)]
theorem cpy_0 {O : Nat → Int64} {a b : Nat} : va_cpy O O a b 0 = O := by
  funext j
  unfold va_cpy
  rw [if_neg (by omega)]
set_option maxRecDepth 100000 in
theorem C202_up {Φ : Option Value → mm_M → Prop} {t u i j n : Nat} (ht : t < 6) (hu : u < 6) (hi : i + n ≤ 60) (hj : j + n ≤ 60) (hd : t ≠ u ∨ ¬ i < j) (K : Φ (some (.int (nI n))) (mm_sJ μ 141 (va_cpy (μ.2.1 141) (μ.2.1 141) (60 * t + i) (60 * u + j) n))) : ∀ m k, k + m = n → mm_ev la_M d 202 100 [some (.ref 110), some (.int (nI t)), some (.int (nI i)), some (.int (nI u)), some (.int (nI j)), some (.int (nI n)), some (.int (nI k))] [] (mm_sJ μ 141 (va_cpy (μ.2.1 141) (μ.2.1 141) (60 * t + i) (60 * u + j) k)) Φ := by
  have e3 : ∀ t i k, 60 * nI t + nI i + nI k = nI (60 * t + i + k) := fun t i k => by rw [show (60 : Int32) = nI 60 from rfl, nI_mul, nI_add, nI_add]
  intro m
  induction m with
  | zero =>
    intro k hk
    have hk : k = n := by omega
    subst hk
    refine mm_ev.run mm_y202 3 rfl ?_
    refine mm_ev.pos (nI_le (Nat.le_refl _) (by omega)) ?_
    refine mm_ev.run mm_y202 1 rfl ?_
    exact mm_ev.ret mm_y202 rfl rfl rfl K
  | succ m ih =>
    intro k hk
    have ih := ih (k + 1) (by omega)
    rw [nI_succ, ← cpy_up] at ih
    refine mm_ev.run mm_y202 3 rfl ?_
    refine mm_ev.neg (nI_ge (by omega) (by omega)) ?_
    refine mm_ev.run mm_y202 18 rfl ?_
    refine mm_ev.lld mm_y202 rfl rfl rfl rfl (e3 t i k) (by omega) (by decide) (show va_cpy (μ.2.1 141) (μ.2.1 141) (60 * t + i) (60 * u + j) k (60 * t + i + k) = μ.2.1 141 (60 * t + i + k) from by unfold va_cpy; rw [if_neg (by omega)]) ?_
    refine mm_ev.lst mm_y202 rfl rfl rfl rfl (e3 u j k) (by omega) (by decide) ?_
    refine mm_ev.run mm_y202 2 rfl ?_
    refine mm_ev.eq mm_sJ_sJ ?_
    exact ih
set_option maxRecDepth 100000 in
theorem C202_dn {Φ : Option Value → mm_M → Prop} {t i j n : Nat} (ht : t < 6) (hi : i + n ≤ 60) (hj : j + n ≤ 60) (hd : i < j) (K : Φ (some (.int (nI n))) (mm_sJ μ 141 (va_cpy (μ.2.1 141) (μ.2.1 141) (60 * t + i) (60 * t + j) n))) : ∀ k m, k + m = n → mm_ev la_M d 202 73 [some (.ref 110), some (.int (nI t)), some (.int (nI i)), some (.int (nI t)), some (.int (nI j)), some (.int (nI n)), some (.int (nI k - 1))] [] (mm_sJ μ 141 (va_cpy (μ.2.1 141) (μ.2.1 141) (60 * t + i + k) (60 * t + j + k) m)) Φ := by
  have e3 : ∀ t i k, 60 * nI t + nI i + nI k = nI (60 * t + i + k) := fun t i k => by rw [show (60 : Int32) = nI 60 from rfl, nI_mul, nI_add, nI_add]
  intro k
  induction k with
  | zero =>
    intro m hk
    have hk : m = n := by omega
    subst hk
    refine mm_ev.run mm_y202 2 rfl ?_
    refine mm_ev.pos (by decide) ?_
    refine mm_ev.run mm_y202 1 rfl ?_
    refine mm_ev.run mm_y202 1 rfl ?_
    exact mm_ev.ret mm_y202 rfl rfl rfl K
  | succ k ih =>
    intro m hk
    have ih := ih (m + 1) (by omega)
    rw [Int32.sub_eq_add_neg, ← cpy_dn] at ih
    rw [nI_pred]
    refine mm_ev.run mm_y202 2 rfl ?_
    refine mm_ev.neg (nI_pos (by omega)) ?_
    refine mm_ev.run mm_y202 18 rfl ?_
    refine mm_ev.lld mm_y202 rfl rfl rfl rfl (e3 t i k) (by omega) (by decide) (show va_cpy (μ.2.1 141) (μ.2.1 141) (60 * t + i + (k + 1)) (60 * t + j + (k + 1)) m (60 * t + i + k) = μ.2.1 141 (60 * t + i + k) from by unfold va_cpy; rw [if_neg (by omega)]) ?_
    refine mm_ev.lst mm_y202 rfl rfl rfl rfl (e3 t j k) (by omega) (by decide) ?_
    refine mm_ev.run mm_y202 2 rfl ?_
    refine mm_ev.eq mm_sJ_sJ ?_
    exact ih
theorem sp_hr_of {T : sT} {i n : Nat} (hl : T.2.1 ≤ 60) (h : i + n ≤ T.2.1) : sp_hr T (nI i) (nI n) := ⟨nI_pos' (by omega), nI_pos' (by omega), by rw [pk_sub (by omega)]; exact nI_le (by omega) (by omega)⟩
set_option maxRecDepth 100000 in
theorem C202 (h : rM A μ) (ho : okA A) (t i u j n : Int32) : mm_call la_M (d + 10) 202 [.ref 110, .int t, .int i, .int u, .int j, .int n] μ (fun v μ' => v = some (.int (q_shift A t i u j n).1) ∧ rM (q_shift A t i u j n).2 μ') := by
  refine mm_call.of mm_t202 ?_
  refine mm_ev.run mm_y202 1 rfl ?_
  refine mm_ev.call mm_y202 rfl rfl rfl rfl rfl (C198 t) (fun v1 μ1 hq => ?_)
  obtain ⟨rfl, hμ⟩ := hq
  obtain rfl := hμ.symm
  refine mm_ev.run mm_y202 1 rfl ?_
  refine mm_ev.ifb (fun h1 => ?_) (fun h1 => ?_)
  · rw [q_shift, if_neg (fun z => h1 z.1)]
    refine mm_ev.run mm_y202 1 rfl ?_
    exact mm_ev.ret mm_y202 rfl rfl rfl ⟨rfl, h⟩
  · refine mm_ev.run mm_y202 1 rfl ?_
    refine mm_ev.call mm_y202 rfl rfl rfl rfl rfl (C198 u) (fun v1 μ1 hq => ?_)
    obtain ⟨rfl, hμ⟩ := hq
    obtain rfl := hμ.symm
    refine mm_ev.run mm_y202 1 rfl ?_
    refine mm_ev.ifb (fun h2 => ?_) (fun h2 => ?_)
    · rw [q_shift, if_neg (fun z => h2 z.2)]
      refine mm_ev.run mm_y202 1 rfl ?_
      exact mm_ev.ret mm_y202 rfl rfl rfl ⟨rfl, h⟩
    · rw [q_shift, if_pos ⟨h1, h2⟩]
      obtain ⟨t, ht, rfl⟩ := p_6 h1
      obtain ⟨u, hu, rfl⟩ := p_6 h2
      rw [nI_clamp (show t < 2 ^ 31 by omega), nI_clamp (show u < 2 ^ 31 by omega)]
      have hT := h.2.2.2.2.2.2 t ht
      have hU := h.2.2.2.2.2.2 u hu
      have hl := (ho.2.2.2.2.2.2 t ht).1
      have hl2 := (ho.2.2.2.2.2.2 u hu).1
      refine mm_ev.run mm_y202 3 rfl ?_
      refine mm_ev.ild mm_y202 rfl rfl rfl rfl rfl (by omega) (by decide) hT.1 ?_
      rcases ho.s ht with ⟨a1, a2, a3⟩ | ⟨a1, a2⟩
      · rw [if_pos (Or.inl a1)]
        refine mm_ev.run mm_y202 1 rfl ?_
        refine mm_ev.pos a2 ?_
        refine mm_ev.run mm_y202 1 rfl ?_
        exact mm_ev.ret mm_y202 rfl rfl rfl ⟨rfl, h⟩
      ·
        refine mm_ev.run mm_y202 1 rfl ?_
        refine mm_ev.neg a2 ?_
        refine mm_ev.run mm_y202 3 rfl ?_
        refine mm_ev.ild mm_y202 rfl rfl rfl rfl rfl (by omega) (by decide) hU.1 ?_
        rcases ho.s hu with ⟨b1, b2, b3⟩ | ⟨b1, b2⟩
        · rw [if_pos (Or.inr b1)]
          refine mm_ev.run mm_y202 1 rfl ?_
          refine mm_ev.neg (Int32.not_le.mpr b2) ?_
          refine mm_ev.run mm_y202 1 rfl ?_
          exact mm_ev.ret mm_y202 rfl rfl rfl ⟨rfl, h⟩
        · rw [if_neg (fun z => z.elim a1 b1)]
          refine mm_ev.run mm_y202 1 rfl ?_
          refine mm_ev.pos (Int32.not_lt.mp b2) ?_
          refine mm_ev.run mm_y202 3 rfl ?_
          refine mm_ev.ild mm_y202 rfl rfl rfl rfl rfl (by omega) (by decide) hT.1 ?_
          refine mm_ev.run mm_y202 3 rfl ?_
          refine mm_ev.ild mm_y202 rfl rfl rfl rfl rfl (by omega) (by decide) hU.1 ?_
          refine mm_ev.run mm_y202 1 rfl ?_
          refine mm_ev.ite (fun h5 => ?_) (fun h5 => ?_)
          · rw [if_pos h5]
            refine mm_ev.run mm_y202 2 rfl ?_
            refine mm_ev.ite (fun g1 => ?_) (fun g1 => ?_)
            · rw [if_neg (fun z => Int32.not_lt.mpr z.1.1 g1)]
              refine mm_ev.run mm_y202 1 rfl ?_
              exact mm_ev.ret mm_y202 rfl rfl rfl ⟨rfl, h⟩
            · refine mm_ev.run mm_y202 2 rfl ?_
              refine mm_ev.ite (fun g2 => ?_) (fun g2 => ?_)
              · rw [if_neg (fun z => Int32.not_lt.mpr z.1.2.1 g2)]
                refine mm_ev.run mm_y202 1 rfl ?_
                exact mm_ev.ret mm_y202 rfl rfl rfl ⟨rfl, h⟩
              · refine mm_ev.run mm_y202 2 rfl ?_
                refine mm_ev.ite (fun g3 => ?_) (fun g3 => ?_)
                · rw [if_neg (fun z => Int32.not_lt.mpr z.2.2.1 g3)]
                  refine mm_ev.run mm_y202 1 rfl ?_
                  exact mm_ev.ret mm_y202 rfl rfl rfl ⟨rfl, h⟩
                · obtain ⟨n, hn, rfl⟩ := nI_of g1
                  obtain ⟨i, hi, rfl⟩ := nI_of g2
                  obtain ⟨j, hj, rfl⟩ := nI_of g3
                  refine mm_ev.run mm_y202 8 rfl ?_
                  refine mm_ev.ild mm_y202 rfl rfl rfl rfl rfl (by omega) (by decide) hT.2.1 ?_
                  refine mm_ev.run mm_y202 3 rfl ?_
                  refine mm_ev.ite (fun g4 => ?_) (fun g4 => ?_)
                  · have g4 := (lc_gt hi hn (by omega)).mp g4
                    rw [if_neg (fun z => by
                      obtain ⟨i', n', c1, c2, c3⟩ := sp_hr_n hl z.1
                      have := (nI_eq hi (by omega)).mp c1
                      have := (nI_eq hn (by omega)).mp c2
                      omega)]
                    refine mm_ev.run mm_y202 1 rfl ?_
                    exact mm_ev.ret mm_y202 rfl rfl rfl ⟨rfl, h⟩
                  · have g4 : i + n ≤ (A.2.2.2.2.2 t).2.1 := by
                      by_cases z : (A.2.2.2.2.2 t).2.1 < i + n
                      · exact absurd ((lc_gt hi hn (by omega)).mpr z) g4
                      · omega
                    refine mm_ev.run mm_y202 8 rfl ?_
                    refine mm_ev.ild mm_y202 rfl rfl rfl rfl rfl (by omega) (by decide) hU.2.1 ?_
                    refine mm_ev.run mm_y202 3 rfl ?_
                    refine mm_ev.ite (fun g5 => ?_) (fun g5 => ?_)
                    · have g5 : j + n ≤ (A.2.2.2.2.2 u).2.1 := by
                        by_cases z : (A.2.2.2.2.2 u).2.1 < j + n
                        · exact absurd ((lc_gt hj hn (by omega)).mpr z) (Int32.not_lt.mpr g5)
                        · omega
                      rw [if_pos ⟨sp_hr_of hl g4, sp_hr_of hl2 g5⟩, nI_clamp hi, nI_clamp hj, nI_clamp hn]
                      have key : rM (sA_t A u ((A.2.2.2.2.2 u).1, (A.2.2.2.2.2 u).2.1, va_cpy (A.2.2.2.2.2 t).2.2 (A.2.2.2.2.2 u).2.2 i j n)) (mm_sJ μ 141 (va_cpy (μ.2.1 141) (μ.2.1 141) (60 * t + i) (60 * u + j) n)) := by
                        refine h.setT hu ⟨hU.1, hU.2.1, fun k hk => ?_⟩ ⟨fun c j' hc => rfl, fun c j' hc => ?_⟩
                        · rw [sJ_eq]
                          show _ = va_cpy (A.2.2.2.2.2 t).2.2 (A.2.2.2.2.2 u).2.2 i j n k
                          unfold va_cpy
                          by_cases z : j ≤ k ∧ k < j + n
                          · rw [if_pos z, if_pos ⟨by omega, by omega⟩, show 60 * t + i + (60 * u + k - (60 * u + j)) = 60 * t + (i + (k - j)) by omega]
                            exact hT.2.2 _ (by omega)
                          · rw [if_neg z, if_neg (by omega)]
                            exact hU.2.2 k hk
                        · by_cases e : c = 141
                          · subst e
                            rw [sJ_eq]
                            unfold va_cpy
                            rw [if_neg (by omega)]
                          · rw [sJ_ne e]
                      have up : ∀ hd : t ≠ u ∨ ¬ i < j, mm_ev la_M (d + 10) 202 98 [some (.ref 110), some (.int (nI t)), some (.int (nI i)), some (.int (nI u)), some (.int (nI j)), some (.int (nI n)), none] [] μ (fun v μ' => v = some (.int (nI n)) ∧ rM (sA_t A u ((A.2.2.2.2.2 u).1, (A.2.2.2.2.2 u).2.1, va_cpy (A.2.2.2.2.2 t).2.2 (A.2.2.2.2.2 u).2.2 i j n)) μ') := by
                        intro hd
                        have L := C202_up (d := d + 10) (μ := μ) (Φ := fun v μ' => v = some (.int (nI n)) ∧ rM (sA_t A u ((A.2.2.2.2.2 u).1, (A.2.2.2.2.2 u).2.1, va_cpy (A.2.2.2.2.2 t).2.2 (A.2.2.2.2.2 u).2.2 i j n)) μ') (i := i) (j := j) (n := n) ht hu (by omega) (by omega) hd ⟨rfl, key⟩ n 0 (by omega)
                        rw [cpy_0, mm_sJ_self] at L
                        refine mm_ev.run mm_y202 2 rfl ?_
                        exact L
                      refine mm_ev.run mm_y202 3 rfl ?_
                      refine mm_ev.ite (fun g6 => ?_) (fun g6 => ?_)
                      · have etu : t = u := (nI_eq (by omega) (by omega)).mp g6
                        refine mm_ev.run mm_y202 3 rfl ?_
                        refine mm_ev.ite (fun g7 => ?_) (fun g7 => ?_)
                        · exact up (Or.inr (fun z => absurd (nI_lt z hj) (Int32.not_lt.mpr g7)))
                        · have hij : i < j := by
                            by_cases z : i < j
                            · exact z
                            · exact absurd (nI_le (show j ≤ i by omega) hi) g7
                          subst etu
                          have L := C202_dn (d := d + 10) (μ := μ) (Φ := fun v μ' => v = some (.int (nI n)) ∧ rM (sA_t A t ((A.2.2.2.2.2 t).1, (A.2.2.2.2.2 t).2.1, va_cpy (A.2.2.2.2.2 t).2.2 (A.2.2.2.2.2 t).2.2 i j n)) μ') (i := i) (j := j) (n := n) ht (by omega) (by omega) hij ⟨rfl, key⟩ n 0 (by omega)
                          rw [cpy_0, mm_sJ_self] at L
                          refine mm_ev.run mm_y202 4 rfl ?_
                          exact L
                      · exact up (Or.inl (fun z => g6 (by rw [z])))
                    · have g5 : ¬ j + n ≤ (A.2.2.2.2.2 u).2.1 := fun z => g5 (Int32.not_lt.mp (fun y => absurd ((lc_gt hj hn (by omega)).mp y) (by omega)))
                      rw [if_neg (fun z => by
                        obtain ⟨i', n', c1, c2, c3⟩ := sp_hr_n hl2 z.2
                        have := (nI_eq hj (by omega)).mp c1
                        have := (nI_eq hn (by omega)).mp c2
                        omega)]
                      refine mm_ev.run mm_y202 1 rfl ?_
                      exact mm_ev.ret mm_y202 rfl rfl rfl ⟨rfl, h⟩
          · rw [if_neg h5]
            refine mm_ev.run mm_y202 1 rfl ?_
            exact mm_ev.ret mm_y202 rfl rfl rfl ⟨rfl, h⟩
end
