/-! THE REFERENCE: all that it holds -/
def rRm (n a b : Nat) (r : sR) (μ : mm_M) : Prop := μ.1 110 n = nI r.1 ∧ ∀ i, i < r.1 → μ.1 a i = r.2 0 i ∧ μ.1 b i = r.2 1 i
def rKM (K : sK) (μ : mm_M) : Prop := sG_m K.1 μ ∧ (rRm 24 125 126 K.2.1 μ ∧ ∀ i, i < K.2.1.1 → μ.1 127 i = K.2.1.2 2 i) ∧ rRm 28 128 129 K.2.2.1 μ ∧ rRm 31 130 131 K.2.2.2 μ
def tTm (t : Nat) (T : sT) (μ : mm_M) : Prop := μ.1 139 t = T.1 ∧ μ.1 140 t = nI T.2.1 ∧ ∀ i, i < 60 → μ.2.1 141 (60 * t + i) = T.2.2 i
/-- an image holds K -/
def kK (K : sK) (f : Nat → Int32) : Prop := ∀ μ : mm_M, (∀ j, j < 117 → kG μ j = f j) → rKM K μ
def rM (A : sA) (μ : mm_M) : Prop :=
  rKM A.1 μ ∧ (μ.1 110 36 = match A.2.1 with
    | none => 0
    | some _ => 1) ∧ (∀ K, A.2.1 = some K → kK K (μ.1 133)) ∧ sC_m A.2.2.1 μ ∧ (μ.1 110 8 = nI A.2.2.2.1.1 ∧ ∀ i, i < A.2.2.2.1.1 → μ.1 117 i = A.2.2.2.1.2 i) ∧ (μ.1 110 34 = nI A.2.2.2.2.1.1 ∧ ∀ i, i < A.2.2.2.2.1.1 → μ.1 132 i = A.2.2.2.2.1.2 i) ∧ ∀ t, t < 6 → tTm t (A.2.2.2.2.2 t) μ
/-- what is used again for each call -/
abbrev sm (c j : Nat) : Prop := c = 124 ∨ c = 134 ∨ (135 ≤ c ∧ c ≤ 138) ∨ (c = 110 ∧ (j = 10 ∨ j = 11 ∨ j = 12 ∨ j = 13 ∨ j = 43))
abbrev pr (c j : Nat) : Prop := (125 ≤ c ∧ c ≤ 131) ∨ (c = 110 ∧ (j = 24 ∨ j = 28 ∨ j = 31))
section
variable {A : sA} {μ μ' : mm_M} {P : Nat → Nat → Prop} {K : sK}
theorem rRm.fr {n a b : Nat} {r : sR} (h : rRm n a b r μ) (hf : mh P μ μ') (h1 : ¬ P 110 n) (h2 : ∀ j, ¬ P a j) (h3 : ∀ j, ¬ P b j) : rRm n a b r μ' := ⟨by rw [hf.1 110 n h1]; exact h.1, fun i hi => ⟨by rw [hf.1 a i (h2 i)]; exact (h.2 i hi).1, by rw [hf.1 b i (h3 i)]; exact (h.2 i hi).2⟩⟩
theorem rKM.fr (h : rKM K μ) (hf : mh P μ μ') (hP : ∀ c j, P c j → ¬ pg c j ∧ ¬ pr c j) : rKM K μ' :=
  ⟨h.1.fr hf (fun c j z => (hP c j z).1), ⟨h.2.1.1.fr hf (fun z => (hP _ _ z).2 (by omega)) (fun j z => (hP _ _ z).2 (by omega)) (fun j z => (hP _ _ z).2 (by omega)), fun i hi => by rw [hf.1 127 i (fun z => (hP _ _ z).2 (by omega))]; exact h.2.1.2 i hi⟩, h.2.2.1.fr hf (fun z => (hP _ _ z).2 (by omega)) (fun j z => (hP _ _ z).2 (by omega)) (fun j z => (hP _ _ z).2 (by omega)), h.2.2.2.fr hf (fun z => (hP _ _ z).2 (by omega)) (fun j z => (hP _ _ z).2 (by omega)) (fun j z => (hP _ _ z).2 (by omega))⟩
theorem tTm.fr {t : Nat} {T : sT} (h : tTm t T μ) (hf : mh P μ μ') (hP : ∀ c j, P c j → ¬ (139 ≤ c ∧ c ≤ 141)) : tTm t T μ' := ⟨by rw [hf.1 139 t (fun z => hP _ _ z (by omega))]; exact h.1, by rw [hf.1 140 t (fun z => hP _ _ z (by omega))]; exact h.2.1, fun i hi => by rw [hf.2 141 _ (fun z => hP _ _ z (by omega))]; exact h.2.2 i hi⟩
theorem kK.fr {f f' : Nat → Int32} (h : kK K f) (e : ∀ j, j < 117 → f' j = f j) : kK K f' := fun μ hμ => h μ (fun j hj => (hμ j hj).trans (e j hj))
theorem rKM.cg (ho : okK K) (e : ∀ j, j < 117 → kG μ' j = kG μ j) (h : rKM K μ) : rKM K μ' := by
  obtain ⟨o1, o2, o3, o4⟩ := ho
  have f : ∀ j c k, kc j = (c, k) → j < 117 → μ'.1 c k = μ.1 c k := fun j c k hj h117 => by
    have := e j h117
    rw [kG_at hj, kG_at hj] at this
    exact this
  obtain ⟨⟨g1, g2, g3, g4⟩, ⟨⟨s1, s2⟩, s3⟩, ⟨p1, p2⟩, b1, b2⟩ := h
  refine ⟨⟨by rw [f 111 110 1 (by decide) (by decide)]; exact g1, by rw [f 112 110 7 (by decide) (by decide)]; exact g2, by rw [f 116 110 15 (by decide) (by decide)]; exact g3, fun k i hk hi => ?_⟩, ⟨⟨by rw [f 113 110 24 (by decide) (by decide)]; exact s1, fun i hi => ⟨by rw [f (60 + i) 125 i (kc_60 i (by omega)) (by omega)]; exact (s2 i hi).1, by rw [f (65 + i) 126 i (kc_65 i (by omega)) (by omega)]; exact (s2 i hi).2⟩⟩, fun i hi => by rw [f (70 + i) 127 i (kc_70 i (by omega)) (by omega)]; exact s3 i hi⟩, ⟨by rw [f 114 110 28 (by decide) (by decide)]; exact p1, fun i hi => ⟨by rw [f (75 + i) 128 i (kc_75 i (by omega)) (by omega)]; exact (p2 i hi).1, by rw [f (85 + i) 129 i (kc_85 i (by omega)) (by omega)]; exact (p2 i hi).2⟩⟩, by rw [f 115 110 31 (by decide) (by decide)]; exact b1, fun i hi => ⟨by rw [f (95 + i) 130 i (kc_95 i (by omega)) (by omega)]; exact (b2 i hi).1, by rw [f (103 + i) 131 i (kc_103 i (by omega)) (by omega)]; exact (b2 i hi).2⟩⟩
  have e0 := g4 k i hk hi
  rcases (show k = 0 ∨ k = 1 ∨ k = 2 ∨ k = 3 ∨ k = 4 ∨ k = 5 by omega) with rfl | rfl | rfl | rfl | rfl | rfl
  · have hi : i < 12 := hi
    rw [← e0, f (0 + i) (111 + 0) i (kc_0 i hi) (by omega)]
  · have hi : i < K.1.1 := hi
    rw [← e0, f (12 + i) (111 + 1) i (kc_12 i (by omega)) (by omega)]
  · have hi : i < K.1.1 := hi
    rw [← e0, f (18 + i) (111 + 2) i (kc_18 i (by omega)) (by omega)]
  · have hi : i < K.1.1 := hi
    rw [← e0, f (24 + i) (111 + 3) i (kc_24 i (by omega)) (by omega)]
  · have hi : i < K.1.1 := hi
    rw [← e0, f (30 + i) (111 + 4) i (kc_30 i (by omega)) (by omega)]
  · have hi : i < 4 * K.1.1 := hi
    rw [← e0, f (36 + i) (111 + 5) i (kc_36 i (by omega)) (by omega)]
theorem kK.of {f : Nat → Int32} (ho : okK K) (h : rKM K μ) (e : ∀ j, j < 117 → f j = kG μ j) : kK K f := fun μ' hμ => h.cg ho (fun j hj => (hμ j hj).trans (e j hj))
/-- all but now -/
theorem rM.setK {K : sK} (h : rM A μ) (hK : rKM K μ') (hf : mh P μ μ') (hP : ∀ c j, P c j → sm c j ∨ pg c j ∨ pr c j) : rM (K, A.2) μ' := by
  obtain ⟨h1, h2, h3, h4, h5, h6, h7⟩ := h
  have e : ∀ c j, ¬ (sm c j ∨ pg c j ∨ pr c j) → μ'.1 c j = μ.1 c j := fun c j hc => hf.1 c j (fun z => hc (hP c j z))
  exact ⟨hK, by rw [e 110 36 (by omega)]; exact h2, fun K hK => (h3 K hK).fr (fun j _ => e 133 j (by omega)), h4.fr hf (fun c j hc => by have := hP c j hc; omega), ⟨by rw [e 110 8 (by omega)]; exact h5.1, fun i hi => by rw [e 117 i (by omega)]; exact h5.2 i hi⟩, ⟨by rw [e 110 34 (by omega)]; exact h6.1, fun i hi => by rw [e 132 i (by omega)]; exact h6.2 i hi⟩, fun t ht => (h7 t ht).fr hf (fun c j hc => by have := hP c j hc; omega)⟩
theorem rM.fr (h : rM A μ) (hf : mh P μ μ') (hP : ∀ c j, P c j → sm c j) : rM A μ' := h.setK (h.1.fr hf (fun c j hc => by have := hP c j hc; omega)) hf (fun c j hc => Or.inl (hP c j hc))
theorem rM.setG {g : sG} (h : rM A μ) (hg : sG_m g μ') (hf : mh P μ μ') (hP : ∀ c j, P c j → sm c j ∨ pg c j) : rM ((g, A.1.2), A.2) μ' :=
  h.setK ⟨hg, ⟨h.1.2.1.1.fr hf (fun z => by have := hP _ _ z; omega) (fun j z => by have := hP _ _ z; omega) (fun j z => by have := hP _ _ z; omega), fun i hi => by rw [hf.1 127 i (fun z => by have := hP _ _ z; omega)]; exact h.1.2.1.2 i hi⟩, h.1.2.2.1.fr hf (fun z => by have := hP _ _ z; omega) (fun j z => by have := hP _ _ z; omega) (fun j z => by have := hP _ _ z; omega), h.1.2.2.2.fr hf (fun z => by have := hP _ _ z; omega) (fun j z => by have := hP _ _ z; omega) (fun j z => by have := hP _ _ z; omega)⟩ hf (fun c j hc => by have := hP c j hc; omega)
/-- all is again as it was -/
def bk (μ μ' : mm_M) : Prop := (∀ j, j < 117 → kG μ' j = kG μ j) ∧ mh (fun c j => sm c j ∨ pg c j ∨ pr c j) μ μ'
theorem bk.rf : bk μ μ := ⟨fun _ _ => rfl, mh.rf⟩
theorem bk.tr {μ2 : mm_M} (h : bk μ μ') (h2 : bk μ' μ2) : bk μ μ2 := ⟨fun j hj => (h2.1 j hj).trans (h.1 j hj), h.2.tr h2.2⟩
theorem rM.bk (h : rM A μ) (ho : okA A) (hb : bk μ μ') : rM A μ' := h.setK (h.1.cg ho.1.k hb.1) hb.2 (fun c j hc => hc)
/-- kept, gone on, again -/
theorem bk.of {F : Nat → Int32} {μ2 μ3 : mm_M} (hF : ∀ j, j < 117 → F j = kG μ j) (hm : mh P (mm_sI μ 134 F) μ2) (hP : ∀ c j, P c j → c ≠ 134 ∧ (sm c j ∨ pg c j)) (h3 : ∀ j, j < 117 → kG μ3 j = μ2.1 134 j) (h4 : mh pA2 μ2 μ3) : bk μ μ3 := by
  refine ⟨fun j hj => ?_, ?_⟩
  · rw [h3 j hj, hm.1 134 j (fun z => (hP _ _ z).1 rfl), sI_eq, hF j hj]
  · have m1 : mh (fun c j => sm c j ∨ pg c j ∨ pr c j) μ (mm_sI μ 134 F) := mh.rf.sI (fun j => Or.inl (Or.inr (Or.inl rfl)))
    exact (m1.tr (hm.mono (fun c j z => by have := hP c j z; omega))).tr (h4.mono (fun c j z => by omega))
theorem rM.g (h : rM A μ) (ho : okA A) : gM A.2.2.1 A.1.1 μ := ⟨h.1.1, h.2.2.2.1, ho.1.1.1, ho.1.1.2.1, ho.2.2.1, ho.2.2.2.1⟩
theorem okA.f (ho : okA A) : fM A.1.1 := ho.1.1.2.2.2.2.1
theorem rM.n (h : rM A μ) : μ.1 110 1 = nI A.1.1.1 := h.1.1.n
theorem gM.k {σ : List sS} {g : sG} {F : Nat → Int32} (h : gM σ g μ) : gM σ g (mm_sI μ 134 F) := h.fr (mh.rf.sI (P := fun c _ => c = 134) (fun _ => rfl)) (fun c j hc => by omega)
end
/-! THE REFERENCE'S CALLS: children, places -/
section
variable {d : Nat} {μ : mm_M} {A : sA}
theorem C130' {n : Nat} (hN : μ.1 110 1 = nI n) (c : Int32) : mm_call la_M (d + 1) 130 [.ref 110, .int c] μ (fun v μ' => v = some (.int (bI (0 ≤ c ∧ c ≤ nI n - 1))) ∧ μ' = μ) := by
  have k := C130 (d := d) (μ := μ) c
  rw [hN] at k
  exact k
theorem sp_join_m {g : sG} {n : Nat} {f2 f3 f4 f5 f6 f0 : Nat → Int32} {k v : Int32} (hg : sG_m g μ) (hn : g.1 = n) (h2 : f2 = upd (μ.1 112) n k) (h3 : f3 = upd (μ.1 113) n v) (h4 : f4 = upd (μ.1 114) n (-5)) (h5 : f5 = upd (μ.1 115) n 0) (h6 : f6 = sp_row4 (μ.1 116) n) (h0 : f0 = upd (μ.1 110) 1 (nI (n + 1))) : sG_m (sp_join g k v) (mm_sI (mm_sI (mm_sI (mm_sI (mm_sI (mm_sI μ 112 f2) 113 f3) 114 f4) 115 f5) 116 f6) 110 f0) ∧ mh (fun c j => (111 ≤ c ∧ c ≤ 116) ∨ (c = 110 ∧ j = 1)) μ (mm_sI (mm_sI (mm_sI (mm_sI (mm_sI (mm_sI μ 112 f2) 113 f3) 114 f4) 115 f5) 116 f6) 110 f0) := by
  subst hn
  subst h2 h3 h4 h5 h6 h0
  refine ⟨⟨by rw [sI_eq, upd_eq]; rfl, by rw [sI_eq]; exact hg.hour, by rw [sI_eq]; exact hg.2.2.1, fun j i hj hi => ?_⟩, ?_⟩
  · rcases (show j = 0 ∨ j = 1 ∨ j = 2 ∨ j = 3 ∨ j = 4 ∨ j = 5 by omega) with rfl | rfl | rfl | rfl | rfl | rfl
    · exact hg.need hi
    · exact upd_co1 (fun i hi => hg.kind hi) i hi
    · exact upd_co1 (fun i hi => hg.v hi) i hi
    · exact upd_co1 (fun i hi => hg.fin hi) i hi
    · exact upd_co1 (fun i hi => hg.stood hi) i hi
    · exact sp_row4_co (fun i hi => hg.row hi) i hi
  · exact (((((mh.rf.sI (fun j => Or.inl ⟨by decide, by decide⟩)).sI (fun j => Or.inl ⟨by decide, by decide⟩)).sI (fun j => Or.inl ⟨by decide, by decide⟩)).sI (fun j => Or.inl ⟨by decide, by decide⟩)).sI (fun j => Or.inl ⟨by decide, by decide⟩)).sU (Or.inr ⟨rfl, rfl⟩) rfl
set_option maxRecDepth 100000 in
theorem C127 (h : rM A μ) (ho : okA A) (k x : Int32) : mm_call la_M (d + 10) 127 [.ref 110, .int k, .int x] μ (fun v μ' => v = some (.int (q_child A k x).1) ∧ rM (q_child A k x).2 μ') := by
  have h6 := ho.n
  refine mm_call.of mm_t127 ?_
  refine mm_ev.run mm_y127 3 rfl ?_
  refine mm_ev.call mm_y127 rfl rfl rfl rfl rfl (C128 k 0 6) (fun v1 μ1 hq => ?_)
  obtain ⟨rfl, hμ⟩ := hq
  obtain rfl := hμ.symm
  refine mm_ev.run mm_y127 1 rfl ?_
  refine mm_ev.ifb (fun h1 => ?_) (fun h1 => ?_)
  · rw [q_child, if_neg h1]
    refine mm_ev.run mm_y127 1 rfl ?_
    exact mm_ev.ret mm_y127 rfl rfl rfl ⟨rfl, h⟩
  · refine mm_ev.run mm_y127 3 rfl ?_
    refine mm_ev.call mm_y127 rfl rfl rfl rfl rfl (C128 x 0 9) (fun v1 μ1 hq => ?_)
    obtain ⟨rfl, hμ⟩ := hq
    obtain rfl := hμ.symm
    refine mm_ev.run mm_y127 1 rfl ?_
    refine mm_ev.ifb (fun h2 => ?_) (fun h2 => ?_)
    · rw [q_child, if_pos h1, if_neg h2]
      refine mm_ev.run mm_y127 1 rfl ?_
      exact mm_ev.ret mm_y127 rfl rfl rfl ⟨rfl, h⟩
    · rw [q_child, if_pos h1, if_pos h2]
      refine mm_ev.run mm_y127 2 rfl ?_
      refine mm_ev.val h.n ?_
      refine mm_ev.run mm_y127 2 rfl ?_
      refine mm_ev.ite (fun h3 => ?_) (fun h3 => ?_)
      · rw [if_pos ((nI_eq (b := 6) (by omega) (by decide)).mp h3)]
        refine mm_ev.run mm_y127 1 rfl ?_
        exact mm_ev.ret mm_y127 rfl rfl rfl ⟨rfl, h⟩
      · have h4 : ¬ A.1.1.1 = 6 := fun z => h3 (by rw [z]; rfl)
        rw [if_neg h4]
        have e4 : ∀ i : Nat, 4 * nI A.1.1.1 + nI i = nI (4 * A.1.1.1 + i) := fun i => by rw [show (4 : Int32) = nI 4 from rfl, nI_mul, nI_add]
        refine mm_ev.run mm_y127 4 rfl ?_
        refine mm_ev.val h.n ?_
        refine mm_ev.run mm_y127 1 rfl ?_
        refine mm_ev.ist mm_y127 rfl rfl rfl rfl rfl (by omega) (by decide) ?_
        refine mm_ev.run mm_y127 4 rfl ?_
        refine mm_ev.val h.n ?_
        refine mm_ev.run mm_y127 1 rfl ?_
        refine mm_ev.ist mm_y127 rfl rfl rfl rfl rfl (by omega) (by decide) ?_
        refine mm_ev.run mm_y127 4 rfl ?_
        refine mm_ev.val h.n ?_
        refine mm_ev.run mm_y127 1 rfl ?_
        refine mm_ev.ist mm_y127 rfl rfl rfl rfl rfl (by omega) (by decide) ?_
        refine mm_ev.run mm_y127 4 rfl ?_
        refine mm_ev.val h.n ?_
        refine mm_ev.run mm_y127 1 rfl ?_
        refine mm_ev.ist mm_y127 rfl rfl rfl rfl rfl (by omega) (by decide) ?_
        refine mm_ev.run mm_y127 5 rfl ?_
        refine mm_ev.neg (by decide) ?_
        refine mm_ev.run mm_y127 5 rfl ?_
        refine mm_ev.val h.n ?_
        refine mm_ev.run mm_y127 4 rfl ?_
        refine mm_ev.ist mm_y127 rfl rfl rfl rfl (e4 0) (by omega) (by decide) ?_
        refine mm_ev.run mm_y127 5 rfl ?_
        refine mm_ev.neg (by decide) ?_
        refine mm_ev.run mm_y127 5 rfl ?_
        refine mm_ev.val h.n ?_
        refine mm_ev.run mm_y127 4 rfl ?_
        refine mm_ev.ist mm_y127 rfl rfl rfl rfl (e4 1) (by omega) (by decide) ?_
        refine mm_ev.run mm_y127 5 rfl ?_
        refine mm_ev.neg (by decide) ?_
        refine mm_ev.run mm_y127 5 rfl ?_
        refine mm_ev.val h.n ?_
        refine mm_ev.run mm_y127 4 rfl ?_
        refine mm_ev.ist mm_y127 rfl rfl rfl rfl (e4 2) (by omega) (by decide) ?_
        refine mm_ev.run mm_y127 5 rfl ?_
        refine mm_ev.neg (by decide) ?_
        refine mm_ev.run mm_y127 5 rfl ?_
        refine mm_ev.val h.n ?_
        refine mm_ev.run mm_y127 4 rfl ?_
        refine mm_ev.ist mm_y127 rfl rfl rfl rfl (e4 3) (by omega) (by decide) ?_
        refine mm_ev.run mm_y127 5 rfl ?_
        refine mm_ev.pos (by decide) ?_
        refine mm_ev.run mm_y127 3 rfl ?_
        refine mm_ev.val h.n ?_
        refine mm_ev.run mm_y127 3 rfl ?_
        refine mm_ev.val (nI_1 _) ?_
        refine mm_ev.run mm_y127 1 rfl ?_
        refine mm_ev.eq (by simp only [mm_sI_sI]; rfl) ?_
        have key := sp_join_m (k := k) (v := x) h.1.1 rfl rfl rfl rfl rfl rfl rfl
        exact mm_ev.ret mm_y127 rfl rfl rfl ⟨rfl, h.setG key.1 key.2 (fun c j hc => by omega)⟩
theorem w_10' {w : Int32} : (0 ≤ w - 10 ∧ w - 10 ≤ 11) ↔ (10 ≤ w ∧ w ≤ 21) := by
  constructor
  · intro h
    obtain ⟨j, hj, e⟩ := p_12 h
    have e2 : w = nI (j + 10) := by
      rw [← nI_add j 10, ← e]
      exact (Int32.sub_add_cancel w 10).symm
    rw [e2]
    exact ⟨nI_le (a := 10) (by omega) (by omega), nI_le (b := 21) (by omega) (by decide)⟩
  · intro h
    obtain ⟨p, hp, e⟩ := w_10 h
    rw [e]
    exact ⟨nI_pos' (by omega), nI_le (b := 11) (by omega) (by decide)⟩
set_option maxRecDepth 100000 in
theorem C129 (h : rM A μ) (ho : okA A) (c w : Int32) : mm_call la_M (d + 10) 129 [.ref 110, .int c, .int w] μ (fun v μ' => v = some (.int (q_of A c w)) ∧ rM A μ') := by
  have h6 := ho.n
  have hg := h.g ho
  refine mm_call.of mm_t129 ?_
  refine mm_ev.run mm_y129 2 rfl ?_
  refine mm_ev.call mm_y129 rfl rfl rfl rfl rfl (C130' h.n c) (fun v1 μ1 hq => ?_)
  obtain ⟨rfl, hμ⟩ := hq
  obtain rfl := hμ.symm
  refine mm_ev.run mm_y129 1 rfl ?_
  refine mm_ev.ifb (fun h1 => ?_) (fun h1 => ?_)
  · rw [q_of, if_neg h1]
    refine mm_ev.run mm_y129 1 rfl ?_
    exact mm_ev.ret mm_y129 rfl rfl rfl ⟨rfl, h⟩
  · rw [q_of, if_pos h1]
    obtain ⟨c, hc, rfl⟩ := nI_cap (by omega) h1
    rw [nI_clamp (by omega)]
    refine mm_ev.run mm_y129 3 rfl ?_
    refine mm_ev.call mm_y129 rfl rfl rfl rfl rfl (C131 (w - 10)) (fun v1 μ1 hq => ?_)
    obtain ⟨rfl, hμ⟩ := hq
    obtain rfl := hμ.symm
    refine mm_ev.run mm_y129 1 rfl ?_
    refine mm_ev.ifb (fun h2 => ?_) (fun h2 => ?_)
    · have h3 : ¬ (10 ≤ w ∧ w ≤ 21) := fun z => h2 (w_10'.mpr z)
      refine mm_ev.run mm_y129 2 rfl ?_
      refine mm_ev.swc (fun h4 => ?_) (fun n0 => mm_ev.swc (fun h4 => ?_) (fun n1 => mm_ev.swc (fun h4 => ?_) (fun n2 => mm_ev.swc (fun h4 => ?_) (fun n3 => mm_ev.sw0 ?_))))
      · rw [if_pos h4]
        refine mm_ev.run mm_y129 3 rfl ?_
        refine mm_ev.ild mm_y129 rfl rfl rfl rfl rfl (by omega) (by decide) (hg.1.kind hc) ?_
        exact mm_ev.ret mm_y129 rfl rfl rfl ⟨rfl, h⟩
      · rw [if_neg n0, if_pos h4]
        refine mm_ev.run mm_y129 3 rfl ?_
        refine mm_ev.ild mm_y129 rfl rfl rfl rfl rfl (by omega) (by decide) (hg.1.v hc) ?_
        exact mm_ev.ret mm_y129 rfl rfl rfl ⟨rfl, h⟩
      · rw [if_neg n0, if_neg n1, if_pos h4]
        refine mm_ev.run mm_y129 3 rfl ?_
        refine mm_ev.ild mm_y129 rfl rfl rfl rfl rfl (by omega) (by decide) (hg.1.fin hc) ?_
        exact mm_ev.ret mm_y129 rfl rfl rfl ⟨rfl, h⟩
      · rw [if_neg n0, if_neg n1, if_neg n2, if_pos h4]
        refine mm_ev.run mm_y129 3 rfl ?_
        refine mm_ev.ild mm_y129 rfl rfl rfl rfl rfl (by omega) (by decide) (hg.1.stood hc) ?_
        exact mm_ev.ret mm_y129 rfl rfl rfl ⟨rfl, h⟩
      · rw [if_neg n0, if_neg n1, if_neg n2, if_neg n3, if_neg h3]
        refine mm_ev.run mm_y129 1 rfl ?_
        exact mm_ev.ret mm_y129 rfl rfl rfl ⟨rfl, h⟩
    · have h3 := w_10'.mp h2
      have nn : ∀ z : Int32, z < 10 → ¬ w = z := fun z hz e => Int32.lt_irrefl (Int32.lt_of_lt_of_le hz (by rw [← e]; exact h3.1))
      rw [if_neg (nn 0 (by decide)), if_neg (nn 1 (by decide)), if_neg (nn 2 (by decide)), if_neg (nn 3 (by decide)), if_pos h3]
      obtain ⟨p, hp, e⟩ := w_10 h3
      rw [e, nI_clamp (by omega)]
      refine mm_ev.run mm_y129 5 rfl ?_
      refine mm_ev.val e ?_
      refine mm_ev.run mm_y129 5 rfl ?_
      refine mm_ev.val e ?_
      refine mm_ev.call mm_y129 rfl rfl rfl rfl rfl (C132 hg.1 h6 hc (nI p)) (fun v1 μ1 hq => ?_)
      obtain ⟨rfl, hμ⟩ := hq
      obtain rfl := hμ.symm
      refine mm_ev.call mm_y129 rfl rfl rfl rfl rfl (C133 hg hc hp (bI (sp_met A.1.1 c (nI p)))) (fun v1 μ1 hq => ?_)
      obtain ⟨rfl, f, rfl⟩ := hq
      exact mm_ev.ret mm_y129 rfl rfl rfl ⟨rfl, h.fr (mh.rf.sI (P := fun c _ => c = 124) (fun _ => rfl)) (fun c j hc => by omega)⟩
set_option maxRecDepth 100000 in
theorem C145 (h : rM A μ) (ho : okA A) (c p : Int32) : mm_call la_M (d + 10) 145 [.ref 110, .int c, .int p] μ (fun v μ' => v = some (.int (q_point A c p).1) ∧ rM (q_point A c p).2 μ') := by
  have h6 := ho.n
  have hg := h.g ho
  refine mm_call.of mm_t145 ?_
  refine mm_ev.run mm_y145 2 rfl ?_
  refine mm_ev.call mm_y145 rfl rfl rfl rfl rfl (C130' h.n c) (fun v1 μ1 hq => ?_)
  obtain ⟨rfl, hμ⟩ := hq
  obtain rfl := hμ.symm
  refine mm_ev.run mm_y145 1 rfl ?_
  refine mm_ev.ifb (fun h1 => ?_) (fun h1 => ?_)
  · rw [q_point, if_neg h1]
    refine mm_ev.run mm_y145 1 rfl ?_
    exact mm_ev.ret mm_y145 rfl rfl rfl ⟨rfl, h⟩
  · rw [q_point, if_pos h1]
    obtain ⟨c, hc, rfl⟩ := nI_cap (by omega) h1
    rw [nI_clamp (by omega)]
    have key : ∀ z, rM (sA_G A (sG_u A.1.1 3 (upd (A.1.1.2.2.2 3) c z))) (mm_sI μ 114 (upd (μ.1 114) c z)) := fun z =>
      h.setG (hg.1.u (k := 3) (by decide) (upd_co (fun i hi => hg.1.fin hi))) (mh.rf.sI (P := fun c _ => c = 114) (fun _ => rfl)) (fun c j hc => by omega)
    refine mm_ev.run mm_y145 3 rfl ?_
    refine mm_ev.ite (fun h2 => ?_) (fun h2 => ?_)
    · rw [if_pos (Or.inl h2), if_pos h2]
      refine mm_ev.run mm_y145 3 rfl ?_
      refine mm_ev.ild mm_y145 rfl rfl rfl rfl rfl (by omega) (by decide) (hg.1.fin hc) ?_
      refine mm_ev.run mm_y145 7 rfl ?_
      refine mm_ev.pos h2 ?_
      refine mm_ev.run mm_y145 2 rfl ?_
      refine mm_ev.ist mm_y145 rfl rfl rfl rfl rfl (by omega) (by decide) ?_
      refine mm_ev.run mm_y145 1 rfl ?_
      exact mm_ev.ret mm_y145 rfl rfl rfl ⟨rfl, key (-5)⟩
    · refine mm_ev.run mm_y145 1 rfl ?_
      refine mm_ev.call mm_y145 rfl rfl rfl rfl rfl (C131 p) (fun v1 μ1 hq => ?_)
      obtain ⟨rfl, hμ⟩ := hq
      obtain rfl := hμ.symm
      refine mm_ev.run mm_y145 1 rfl ?_
      refine mm_ev.ifb (fun h3 => ?_) (fun h3 => ?_)
      · rw [if_neg (fun z => z.elim h2 h3)]
        refine mm_ev.run mm_y145 1 rfl ?_
        exact mm_ev.ret mm_y145 rfl rfl rfl ⟨rfl, h⟩
      · rw [if_pos (Or.inr h3), if_neg h2]
        refine mm_ev.run mm_y145 3 rfl ?_
        refine mm_ev.ild mm_y145 rfl rfl rfl rfl rfl (by omega) (by decide) (hg.1.fin hc) ?_
        refine mm_ev.run mm_y145 7 rfl ?_
        refine mm_ev.neg h2 ?_
        refine mm_ev.run mm_y145 1 rfl ?_
        refine mm_ev.ist mm_y145 rfl rfl rfl rfl rfl (by omega) (by decide) ?_
        refine mm_ev.run mm_y145 1 rfl ?_
        exact mm_ev.ret mm_y145 rfl rfl rfl ⟨rfl, key p⟩
set_option maxRecDepth 100000 in
theorem C146 (h : rM A μ) (ho : okA A) (p n : Int32) : mm_call la_M (d + 10) 146 [.ref 110, .int p, .int n] μ (fun v μ' => v = some (.int (q_need A p n).1) ∧ rM (q_need A p n).2 μ') := by
  have hg := h.g ho
  refine mm_call.of mm_t146 ?_
  refine mm_ev.run mm_y146 1 rfl ?_
  refine mm_ev.call mm_y146 rfl rfl rfl rfl rfl (C131 p) (fun v1 μ1 hq => ?_)
  obtain ⟨rfl, hμ⟩ := hq
  obtain rfl := hμ.symm
  refine mm_ev.run mm_y146 1 rfl ?_
  refine mm_ev.ifb (fun h1 => ?_) (fun h1 => ?_)
  · rw [q_need, if_neg h1]
    refine mm_ev.run mm_y146 1 rfl ?_
    exact mm_ev.ret mm_y146 rfl rfl rfl ⟨rfl, h⟩
  · rw [q_need, if_pos h1]
    obtain ⟨p, hp, rfl⟩ := p_12 h1
    rw [nI_clamp (by omega)]
    refine mm_ev.run mm_y146 1 rfl ?_
    refine mm_ev.call mm_y146 rfl rfl rfl rfl rfl (C147 n) (fun v1 μ1 hq => ?_)
    obtain ⟨rfl, hμ⟩ := hq
    obtain rfl := hμ.symm
    refine mm_ev.run mm_y146 1 rfl ?_
    refine mm_ev.ifb (fun h2 => ?_) (fun h2 => ?_)
    · rw [if_neg h2]
      refine mm_ev.run mm_y146 1 rfl ?_
      exact mm_ev.ret mm_y146 rfl rfl rfl ⟨rfl, h⟩
    · rw [if_pos h2]
      refine mm_ev.run mm_y146 3 rfl ?_
      refine mm_ev.ild mm_y146 rfl rfl rfl rfl rfl (by omega) (by decide) (hg.1.need hp) ?_
      refine mm_ev.run mm_y146 5 rfl ?_
      refine mm_ev.ist mm_y146 rfl rfl rfl rfl rfl (by omega) (by decide) ?_
      refine mm_ev.run mm_y146 1 rfl ?_
      exact mm_ev.ret mm_y146 rfl rfl rfl ⟨rfl, h.setG (hg.1.u (k := 0) (by decide) (upd_co (fun i hi => hg.1.need hi))) (mh.rf.sI (P := fun c _ => c = 111) (fun _ => rfl)) (fun c j hc => by omega)⟩
theorem fM.spin {g : sG} (h : fM g) {s : Nat} (hs : s < 12) : fM (sp_spin g (nI s)) := by
  intro c hc
  have hc : c < g.1 := hc
  rw [sp_spin_at]
  rcases h c hc with e | ⟨x, hx, e⟩
  · rw [e, sp_spn_5]
    exact Or.inl rfl
  · rw [e]
    have t : ∀ x, x < 12 → ∀ s, s < 12 → sp_spn (nI s) (nI x) = nI ((x + s) % 12) := by decide +kernel
    rw [t x hx s hs]
    exact Or.inr ⟨_, Nat.mod_lt _ (by decide), rfl⟩
set_option maxRecDepth 100000 in
theorem C148 (h : rM A μ) (ho : okA A) (s : Int32) : mm_call la_M (d + 10) 148 [.ref 110, .int s] μ (fun v μ' => v = some (.int (q_spin A s).1) ∧ rM (q_spin A s).2 μ') := by
  have h6 := ho.n
  have hg := h.g ho
  refine mm_call.of mm_t148 ?_
  refine mm_ev.run mm_y148 3 rfl ?_
  refine mm_ev.call mm_y148 rfl rfl rfl rfl rfl (C128 s 0 11) (fun v1 μ1 hq => ?_)
  obtain ⟨rfl, hμ⟩ := hq
  obtain rfl := hμ.symm
  refine mm_ev.run mm_y148 1 rfl ?_
  refine mm_ev.ifb (fun h1 => ?_) (fun h1 => ?_)
  · rw [q_spin, if_neg h1]
    refine mm_ev.run mm_y148 1 rfl ?_
    exact mm_ev.ret mm_y148 rfl rfl rfl ⟨rfl, h⟩
  · rw [q_spin, if_pos h1]
    obtain ⟨s, hs, rfl⟩ := p_12 h1
    refine mm_ev.run mm_y148 2 rfl ?_
    refine mm_ev.call mm_y148 rfl rfl rfl rfl rfl (C149 hg ho.f (nI s)) (fun v1 μ1 hq => ?_)
    obtain ⟨rfl, e1, e2⟩ := hq
    refine mm_ev.run mm_y148 1 rfl ?_
    refine mm_ev.call mm_y148 rfl rfl rfl rfl rfl (C150 e1.1 h6 (ho.f.spin hs)) (fun v1 μ1 hq => ?_)
    obtain ⟨rfl, hμ⟩ := hq
    obtain rfl := hμ.symm
    exact mm_ev.ret mm_y148 rfl rfl rfl ⟨rfl, h.setG e1.1 e2 (fun c j hc => by omega)⟩
set_option maxRecDepth 100000 in
theorem C151_l (h : rM A μ) (ho : okA A) {z : Int32} : ∀ m k, k + m = A.1.1.1 → mm_ev la_M d 151 5 [some (.ref 110), some (.int z), some (.int (nI k))] [] (mm_sI μ 114 (pt (μ.1 114) (fun _ => -5) k)) (fun v μ' => v = some (.int z) ∧ rM (sA_G A (sG_u A.1.1 3 (fun _ => -5))) μ') := by
  have h6 := ho.n
  have hg := h.g ho
  intro m
  induction m with
  | zero =>
    intro k hk
    have hk : k = A.1.1.1 := by omega
    subst hk
    refine mm_ev.run mm_y151 3 rfl ?_
    refine mm_ev.val h.n ?_
    refine mm_ev.run mm_y151 1 rfl ?_
    refine mm_ev.pos (nI_le (Nat.le_refl _) (by omega)) ?_
    refine mm_ev.run mm_y151 1 rfl ?_
    exact mm_ev.ret mm_y151 rfl rfl rfl ⟨rfl, h.setG (hg.1.u (k := 3) (by decide) (fun i hi => pt_lt hi)) (mh.rf.sI (P := fun c _ => c = 114) (fun _ => rfl)) (fun c j hc => by omega)⟩
  | succ m ih =>
    intro k hk
    have ih := ih (k + 1) (by omega)
    rw [nI_succ, ← pt_s] at ih
    refine mm_ev.run mm_y151 3 rfl ?_
    refine mm_ev.val h.n ?_
    refine mm_ev.run mm_y151 1 rfl ?_
    refine mm_ev.neg (nI_ge (by omega) (by omega)) ?_
    refine mm_ev.run mm_y151 4 rfl ?_
    refine mm_ev.ist mm_y151 rfl rfl rfl rfl rfl (by omega) (by decide) ?_
    refine mm_ev.run mm_y151 2 rfl ?_
    refine mm_ev.eq mm_sI_sI ?_
    exact ih
set_option maxRecDepth 100000 in
theorem C151 (h : rM A μ) (ho : okA A) : mm_call la_M (d + 10) 151 [.ref 110] μ (fun v μ' => v = some (.int (q_bell A).1) ∧ rM (q_bell A).2 μ') := by
  have k := C151_l (d := d + 10) h ho (z := sp_fop A.1.1 A.1.1.1) A.1.1.1 0 (by omega)
  rw [pt_0, mm_sI_self] at k
  refine mm_call.of mm_t151 ?_
  refine mm_ev.run mm_y151 1 rfl ?_
  refine mm_ev.call mm_y151 rfl rfl rfl rfl rfl (C150 (h.g ho).1 ho.n ho.f) (fun v1 μ1 hq => ?_)
  obtain ⟨rfl, hμ⟩ := hq
  obtain rfl := hμ.symm
  refine mm_ev.run mm_y151 3 rfl ?_
  exact k
set_option maxRecDepth 100000 in
theorem C152 (h : rM A μ) (ho : okA A) (c p n : Int32) : mm_call la_M (d + 10) 152 [.ref 110, .int c, .int p, .int n] μ (fun v μ' => v = some (.int (q_row A c p n).1) ∧ rM (q_row A c p n).2 μ') := by
  have h6 := ho.n
  have hg := h.g ho
  refine mm_call.of mm_t152 ?_
  refine mm_ev.run mm_y152 2 rfl ?_
  refine mm_ev.call mm_y152 rfl rfl rfl rfl rfl (C130' h.n c) (fun v1 μ1 hq => ?_)
  obtain ⟨rfl, hμ⟩ := hq
  obtain rfl := hμ.symm
  refine mm_ev.run mm_y152 1 rfl ?_
  refine mm_ev.ifb (fun h1 => ?_) (fun h1 => ?_)
  · rw [q_row, if_neg (fun z => h1 z.1)]
    refine mm_ev.run mm_y152 1 rfl ?_
    exact mm_ev.ret mm_y152 rfl rfl rfl ⟨rfl, h⟩
  · refine mm_ev.run mm_y152 3 rfl ?_
    refine mm_ev.call mm_y152 rfl rfl rfl rfl rfl (C128 p 0 3) (fun v1 μ1 hq => ?_)
    obtain ⟨rfl, hμ⟩ := hq
    obtain rfl := hμ.symm
    refine mm_ev.run mm_y152 1 rfl ?_
    refine mm_ev.ifb (fun h2 => ?_) (fun h2 => ?_)
    · rw [q_row, if_neg (fun z => h2 z.2)]
      refine mm_ev.run mm_y152 1 rfl ?_
      exact mm_ev.ret mm_y152 rfl rfl rfl ⟨rfl, h⟩
    · rw [q_row, if_pos ⟨h1, h2⟩]
      obtain ⟨c, hc, rfl⟩ := nI_cap (by omega) h1
      obtain ⟨p, hp, rfl⟩ := p_4 h2
      rw [nI_clamp (by omega), nI_clamp (by omega)]
      have e4 : 4 * nI c + nI p = nI (4 * c + p) := by rw [show (4 : Int32) = nI 4 from rfl, nI_mul, nI_add]
      refine mm_ev.run mm_y152 3 rfl ?_
      refine mm_ev.call mm_y152 rfl rfl rfl rfl rfl (C128 n 0 9) (fun v1 μ1 hq => ?_)
      obtain ⟨rfl, hμ⟩ := hq
      obtain rfl := hμ.symm
      refine mm_ev.run mm_y152 1 rfl ?_
      refine mm_ev.ifb (fun h3 => ?_) (fun h3 => ?_)
      · rw [if_neg h3]
        refine mm_ev.run mm_y152 1 rfl ?_
        exact mm_ev.ret mm_y152 rfl rfl rfl ⟨rfl, h⟩
      · rw [if_pos h3]
        refine mm_ev.run mm_y152 3 rfl ?_
        refine mm_ev.ild mm_y152 rfl rfl rfl rfl rfl (by omega) (by decide) (hg.1.kind hc) ?_
        refine mm_ev.run mm_y152 2 rfl ?_
        refine mm_ev.ite (fun h4 => ?_) (fun h4 => ?_)
        · rw [if_pos h4]
          refine mm_ev.run mm_y152 7 rfl ?_
          refine mm_ev.ild mm_y152 rfl rfl rfl rfl e4 (by omega) (by decide) (hg.1.row (by omega)) ?_
          refine mm_ev.run mm_y152 9 rfl ?_
          refine mm_ev.ist mm_y152 rfl rfl rfl rfl e4 (by omega) (by decide) ?_
          refine mm_ev.run mm_y152 1 rfl ?_
          exact mm_ev.ret mm_y152 rfl rfl rfl ⟨rfl, h.setG (hg.1.u (k := 5) (by decide) (upd_co (fun i hi => hg.1.row hi))) (mh.rf.sI (P := fun c _ => c = 116) (fun _ => rfl)) (fun c j hc => by omega)⟩
        · rw [if_neg h4]
          refine mm_ev.run mm_y152 1 rfl ?_
          exact mm_ev.ret mm_y152 rfl rfl rfl ⟨rfl, h⟩
end
