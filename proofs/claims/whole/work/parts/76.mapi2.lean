/-! THE REFERENCE'S CALLS: rows, texts, the image -/
section
variable {A : sA} {μ μ' : mm_M} {P : Nat → Nat → Prop}
theorem rM.setX {n : Nat} {tx : Nat → Int32} (h : rM A μ) (h1 : μ'.1 110 8 = nI n) (h2 : ∀ i, i < n → μ'.1 117 i = tx i) (hf : mh P μ μ') (hP : ∀ c j, P c j → c = 117 ∨ (c = 110 ∧ j = 8)) : rM (sA_x A n tx) μ' := by
  obtain ⟨k1, k2, k3, k4, k5, k6, k7⟩ := h
  have e : ∀ c j, ¬ (c = 117 ∨ (c = 110 ∧ j = 8)) → μ'.1 c j = μ.1 c j := fun c j hc => hf.1 c j (fun z => hc (hP c j z))
  exact ⟨k1.fr hf (fun c j hc => by have := hP c j hc; omega), by rw [e 110 36 (by omega)]; exact k2, fun K hK => (k3 K hK).fr (fun j _ => e 133 j (by omega)), k4.fr hf (fun c j hc => by have := hP c j hc; omega), ⟨h1, h2⟩, ⟨by rw [e 110 34 (by omega)]; exact k6.1, fun i hi => by rw [e 132 i (by omega)]; exact k6.2 i hi⟩, fun t ht => (k7 t ht).fr hf (fun c j hc => by have := hP c j hc; omega)⟩
theorem rM.setA {n : Nat} {f : Nat → Int32} (h : rM A μ) (h1 : μ'.1 110 34 = nI n) (h2 : ∀ i, i < n → μ'.1 132 i = f i) (hf : mh P μ μ') (hP : ∀ c j, P c j → c = 132 ∨ (c = 110 ∧ j = 34)) : rM (sA_a A n f) μ' := by
  obtain ⟨k1, k2, k3, k4, k5, k6, k7⟩ := h
  have e : ∀ c j, ¬ (c = 132 ∨ (c = 110 ∧ j = 34)) → μ'.1 c j = μ.1 c j := fun c j hc => hf.1 c j (fun z => hc (hP c j z))
  exact ⟨k1.fr hf (fun c j hc => by have := hP c j hc; omega), by rw [e 110 36 (by omega)]; exact k2, fun K hK => (k3 K hK).fr (fun j _ => e 133 j (by omega)), k4.fr hf (fun c j hc => by have := hP c j hc; omega), ⟨by rw [e 110 8 (by omega)]; exact k5.1, fun i hi => by rw [e 117 i (by omega)]; exact k5.2 i hi⟩, ⟨h1, h2⟩, fun t ht => (k7 t ht).fr hf (fun c j hc => by have := hP c j hc; omega)⟩
/-- rows: three columns, or two -/
theorem rRm.add {n a b : Nat} {r : sR} {x y z : Int32} (h : rRm n a b r μ) (h0 : μ'.1 110 n = nI (r.1 + 1)) (h1 : μ'.1 a = upd (μ.1 a) r.1 x) (h2 : μ'.1 b = upd (μ.1 b) r.1 y) : rRm n a b (sp_add r x y z) μ' := by
  refine ⟨h0, fun i hi => ⟨?_, ?_⟩⟩
  · rw [h1]
    exact upd_co1 (fun i hi => (h.2 i hi).1) i hi
  · rw [h2]
    exact upd_co1 (fun i hi => (h.2 i hi).2) i hi
end
section
variable {d : Nat} {μ : mm_M} {A : sA}
set_option maxRecDepth 100000 in
theorem C153 (h : rM A μ) (ho : okA A) (s : Int32) : mm_call la_M (d + 10) 153 [.ref 110, .int s] μ (fun v μ' => v = some (.int (q_feed A s).1) ∧ rM (q_feed A s).2 μ') := by
  have hx := ho.t.1
  have h8 := h.2.2.2.2.1
  refine mm_call.of mm_t153 ?_
  refine mm_ev.run mm_y153 3 rfl ?_
  refine mm_ev.call mm_y153 rfl rfl rfl rfl rfl (C128 s 0 127) (fun v1 μ1 hq => ?_)
  obtain ⟨rfl, hμ⟩ := hq
  obtain rfl := hμ.symm
  refine mm_ev.run mm_y153 1 rfl ?_
  refine mm_ev.ifb (fun h1 => ?_) (fun h1 => ?_)
  · rw [q_feed, if_neg h1]
    refine mm_ev.run mm_y153 1 rfl ?_
    exact mm_ev.ret mm_y153 rfl rfl rfl ⟨rfl, h⟩
  · rw [q_feed, if_pos h1]
    refine mm_ev.run mm_y153 2 rfl ?_
    refine mm_ev.val h8.1 ?_
    refine mm_ev.run mm_y153 2 rfl ?_
    refine mm_ev.ite (fun h2 => ?_) (fun h2 => ?_)
    · have e := (nI_eq (b := 100) (by omega) (by decide)).mp h2
      rw [if_neg (by omega)]
      refine mm_ev.run mm_y153 1 rfl ?_
      exact mm_ev.ret mm_y153 rfl rfl rfl ⟨rfl, h⟩
    · have e : A.2.2.2.1.1 < 100 := by
        have : ¬ A.2.2.2.1.1 = 100 := fun z => h2 (by rw [z]; rfl)
        omega
      rw [if_pos e]
      refine mm_ev.run mm_y153 5 rfl ?_
      refine mm_ev.val h8.1 ?_
      refine mm_ev.run mm_y153 3 rfl ?_
      refine mm_ev.val (nI_1 _) ?_
      refine mm_ev.run mm_y153 2 rfl ?_
      refine mm_ev.ist mm_y153 rfl rfl rfl rfl rfl (by omega) (by decide) ?_
      refine mm_ev.run mm_y153 2 rfl ?_
      refine mm_ev.val (show upd (μ.1 110) 8 (nI (A.2.2.2.1.1 + 1)) 8 = nI (A.2.2.2.1.1 + 1) from upd_eq) ?_
      exact mm_ev.ret mm_y153 rfl rfl rfl ⟨rfl, h.setX rfl (upd_co1 (fun i hi => h8.2 i hi)) ((mh.rf.sU (P := fun c j => c = 117 ∨ (c = 110 ∧ j = 8)) (Or.inr ⟨rfl, rfl⟩) rfl).sI (fun _ => Or.inl rfl)) (fun c j hc => hc)⟩
set_option maxRecDepth 100000 in
theorem C175 (h : rM A μ) (ho : okA A) (p n x : Int32) : mm_call la_M (d + 10) 175 [.ref 110, .int p, .int n, .int x] μ (fun v μ' => v = some (.int (q_see A p n x).1) ∧ rM (q_see A p n x).2 μ') := by
  have hS := ho.1.2.1.1
  obtain ⟨k1, ⟨⟨k2, k3⟩, k4⟩, k5, k6⟩ := h.1
  refine mm_call.of mm_t175 ?_
  refine mm_ev.run mm_y175 3 rfl ?_
  refine mm_ev.ite (fun h1 => ?_) (fun h1 => ?_)
  · rw [q_see, if_pos h1]
    have hf : mh (fun c j => c = 110 ∧ j = 24) μ (mm_sI μ 110 (upd (μ.1 110) 24 0)) := mh.rf.sU ⟨rfl, rfl⟩ rfl
    refine mm_ev.run mm_y175 4 rfl ?_
    exact mm_ev.ret mm_y175 rfl rfl rfl ⟨rfl, h.setK ⟨k1.fr hf (fun c j hc => by omega), ⟨⟨rfl, fun i hi => absurd hi (by simp)⟩, fun i hi => absurd hi (by simp)⟩, k5.fr hf (by omega) (fun j => by omega) (fun j => by omega), k6.fr hf (by omega) (fun j => by omega) (fun j => by omega)⟩ hf (fun c j hc => by omega)⟩
  · rw [q_see, if_neg h1]
    refine mm_ev.run mm_y175 1 rfl ?_
    refine mm_ev.call mm_y175 rfl rfl rfl rfl rfl (C131 p) (fun v1 μ1 hq => ?_)
    obtain ⟨rfl, hμ⟩ := hq
    obtain rfl := hμ.symm
    refine mm_ev.run mm_y175 1 rfl ?_
    refine mm_ev.ifb (fun h2 => ?_) (fun h2 => ?_)
    · rw [if_neg h2]
      refine mm_ev.run mm_y175 1 rfl ?_
      exact mm_ev.ret mm_y175 rfl rfl rfl ⟨rfl, h⟩
    · rw [if_pos h2]
      refine mm_ev.run mm_y175 3 rfl ?_
      refine mm_ev.call mm_y175 rfl rfl rfl rfl rfl (C128 n 0 12) (fun v1 μ1 hq => ?_)
      obtain ⟨rfl, hμ⟩ := hq
      obtain rfl := hμ.symm
      refine mm_ev.run mm_y175 1 rfl ?_
      refine mm_ev.ifb (fun h3 => ?_) (fun h3 => ?_)
      · rw [if_neg (fun z => h3 z.1)]
        refine mm_ev.run mm_y175 1 rfl ?_
        exact mm_ev.ret mm_y175 rfl rfl rfl ⟨rfl, h⟩
      · refine mm_ev.run mm_y175 1 rfl ?_
        refine mm_ev.call mm_y175 rfl rfl rfl rfl rfl (C147 x) (fun v1 μ1 hq => ?_)
        obtain ⟨rfl, hμ⟩ := hq
        obtain rfl := hμ.symm
        refine mm_ev.run mm_y175 1 rfl ?_
        refine mm_ev.ifb (fun h4 => ?_) (fun h4 => ?_)
        · rw [if_neg (fun z => h4 z.2)]
          refine mm_ev.run mm_y175 1 rfl ?_
          exact mm_ev.ret mm_y175 rfl rfl rfl ⟨rfl, h⟩
        · rw [if_pos ⟨h3, h4⟩]
          refine mm_ev.run mm_y175 2 rfl ?_
          refine mm_ev.val k2 ?_
          refine mm_ev.run mm_y175 2 rfl ?_
          refine mm_ev.ite (fun h5 => ?_) (fun h5 => ?_)
          · rw [if_pos ((nI_eq (b := 5) (by omega) (by decide)).mp h5)]
            refine mm_ev.run mm_y175 1 rfl ?_
            exact mm_ev.ret mm_y175 rfl rfl rfl ⟨rfl, h⟩
          · have e : ¬ A.1.2.1.1 = 5 := fun z => h5 (by rw [z]; rfl)
            rw [if_neg e]
            refine mm_ev.run mm_y175 4 rfl ?_
            refine mm_ev.val k2 ?_
            refine mm_ev.run mm_y175 1 rfl ?_
            refine mm_ev.ist mm_y175 rfl rfl rfl rfl rfl (by omega) (by decide) ?_
            refine mm_ev.run mm_y175 4 rfl ?_
            refine mm_ev.val k2 ?_
            refine mm_ev.run mm_y175 1 rfl ?_
            refine mm_ev.ist mm_y175 rfl rfl rfl rfl rfl (by omega) (by decide) ?_
            refine mm_ev.run mm_y175 5 rfl ?_
            refine mm_ev.val k2 ?_
            refine mm_ev.run mm_y175 3 rfl ?_
            refine mm_ev.val (nI_1 _) ?_
            refine mm_ev.run mm_y175 2 rfl ?_
            refine mm_ev.ist mm_y175 rfl rfl rfl rfl rfl (by omega) (by decide) ?_
            refine mm_ev.run mm_y175 2 rfl ?_
            refine mm_ev.val (show upd (μ.1 110) 24 (nI (A.1.2.1.1 + 1)) 24 = nI (A.1.2.1.1 + 1) from upd_eq) ?_
            have hf : mh (fun c j => (125 ≤ c ∧ c ≤ 127) ∨ (c = 110 ∧ j = 24)) μ (mm_sI (mm_sI (mm_sI (mm_sI μ 125 (upd (μ.1 125) A.1.2.1.1 p)) 126 (upd (μ.1 126) A.1.2.1.1 n)) 110 (upd (μ.1 110) 24 (nI (A.1.2.1.1 + 1)))) 127 (upd (μ.1 127) A.1.2.1.1 x)) := (((mh.rf.sI (fun _ => Or.inl ⟨by decide, by decide⟩)).sI (fun _ => Or.inl ⟨by decide, by decide⟩)).sU (Or.inr ⟨rfl, rfl⟩) rfl).sI (fun _ => Or.inl ⟨by decide, by decide⟩)
            exact mm_ev.ret mm_y175 rfl rfl rfl ⟨rfl, h.setK ⟨k1.fr hf (fun c j hc => by omega), ⟨rRm.add ⟨k2, k3⟩ rfl rfl rfl, upd_co1 (fun i hi => k4 i hi)⟩, k5.fr hf (by omega) (fun j => by omega) (fun j => by omega), k6.fr hf (by omega) (fun j => by omega) (fun j => by omega)⟩ hf (fun c j hc => by omega)⟩
set_option maxRecDepth 100000 in
theorem C180_e (h : rM A μ) (ho : okA A) {w n m : Int32} (hm : m = if w = 0 then 0 else n) : mm_ev la_M d 180 38 [some (.ref 110), some (.int w), some (.int n)] [] μ (fun v μ' => v = some (.int (q_addP A w m).1) ∧ rM (q_addP A w m).2 μ') := by
  have hP := ho.1.2.2.1.1
  obtain ⟨k1, k4, ⟨k2, k3⟩, k6⟩ := h.1
  unfold q_addP
  refine mm_ev.run mm_y180 2 rfl ?_
  refine mm_ev.val k2 ?_
  refine mm_ev.run mm_y180 2 rfl ?_
  refine mm_ev.ite (fun h5 => ?_) (fun h5 => ?_)
  · rw [if_pos ((nI_eq (b := 10) (by omega) (by decide)).mp h5)]
    refine mm_ev.run mm_y180 1 rfl ?_
    exact mm_ev.ret mm_y180 rfl rfl rfl ⟨rfl, h⟩
  · have e : ¬ A.1.2.2.1.1 = 10 := fun z => h5 (by rw [z]; rfl)
    rw [if_neg e]
    refine mm_ev.run mm_y180 4 rfl ?_
    refine mm_ev.val k2 ?_
    refine mm_ev.run mm_y180 1 rfl ?_
    refine mm_ev.ist mm_y180 rfl rfl rfl rfl rfl (by omega) (by decide) ?_
    refine mm_ev.run mm_y180 5 rfl ?_
    refine mm_ev.val k2 ?_
    refine mm_ev.run mm_y180 3 rfl ?_
    refine mm_ev.val (nI_1 _) ?_
    refine mm_ev.run mm_y180 1 rfl ?_
    have hf : mh (fun c j => (128 ≤ c ∧ c ≤ 129) ∨ (c = 110 ∧ j = 28)) μ (mm_sI (mm_sI (mm_sI μ 128 (upd (μ.1 128) A.1.2.2.1.1 w)) 110 (upd (μ.1 110) 28 (nI (A.1.2.2.1.1 + 1)))) 129 (upd (μ.1 129) A.1.2.2.1.1 m)) := ((mh.rf.sI (fun _ => Or.inl ⟨by decide, by decide⟩)).sU (Or.inr ⟨rfl, rfl⟩) rfl).sI (fun _ => Or.inl ⟨by decide, by decide⟩)
    have key : rM (sA_R A A.1.2.1 (sp_add A.1.2.2.1 w m 0) A.1.2.2.2) (mm_sI (mm_sI (mm_sI μ 128 (upd (μ.1 128) A.1.2.2.1.1 w)) 110 (upd (μ.1 110) 28 (nI (A.1.2.2.1.1 + 1)))) 129 (upd (μ.1 129) A.1.2.2.1.1 m)) := h.setK ⟨k1.fr hf (fun c j hc => by omega), ⟨k4.1.fr hf (by omega) (fun j => by omega) (fun j => by omega), fun i hi => (hf.1 127 i (by omega)).trans (k4.2 i hi)⟩, rRm.add ⟨k2, k3⟩ rfl rfl rfl, k6.fr hf (by omega) (fun j => by omega) (fun j => by omega)⟩ hf (fun c j hc => by omega)
    refine mm_ev.run mm_y180 2 rfl ?_
    refine mm_ev.ite (fun h6 => ?_) (fun h6 => ?_)
    · rw [if_pos h6] at hm
      subst hm
      refine mm_ev.run mm_y180 2 rfl ?_
      refine mm_ev.ist mm_y180 rfl rfl rfl rfl rfl (by omega) (by decide) ?_
      refine mm_ev.run mm_y180 2 rfl ?_
      refine mm_ev.val (show upd (μ.1 110) 28 (nI (A.1.2.2.1.1 + 1)) 28 = nI (A.1.2.2.1.1 + 1) from upd_eq) ?_
      exact mm_ev.ret mm_y180 rfl rfl rfl ⟨rfl, key⟩
    · rw [if_neg h6] at hm
      subst hm
      refine mm_ev.run mm_y180 1 rfl ?_
      refine mm_ev.ist mm_y180 rfl rfl rfl rfl rfl (by omega) (by decide) ?_
      refine mm_ev.run mm_y180 2 rfl ?_
      refine mm_ev.val (show upd (μ.1 110) 28 (nI (A.1.2.2.1.1 + 1)) 28 = nI (A.1.2.2.1.1 + 1) from upd_eq) ?_
      exact mm_ev.ret mm_y180 rfl rfl rfl ⟨rfl, key⟩
theorem p_03 {w : Int32} (h : 0 ≤ w ∧ w ≤ 3) : w = 0 ∨ w = 1 ∨ w = 2 ∨ w = 3 := by
  obtain ⟨j, hj, rfl⟩ := p_4 h
  rcases (show j = 0 ∨ j = 1 ∨ j = 2 ∨ j = 3 by omega) with rfl | rfl | rfl | rfl
  · exact Or.inl rfl
  · exact Or.inr (Or.inl rfl)
  · exact Or.inr (Or.inr (Or.inl rfl))
  · exact Or.inr (Or.inr (Or.inr rfl))
set_option maxRecDepth 100000 in
theorem C180 (h : rM A μ) (ho : okA A) (w n : Int32) : mm_call la_M (d + 10) 180 [.ref 110, .int w, .int n] μ (fun v μ' => v = some (.int (q_plan A w n).1) ∧ rM (q_plan A w n).2 μ') := by
  obtain ⟨k1, k4, ⟨k2, k3⟩, k6⟩ := h.1
  refine mm_call.of mm_t180 ?_
  refine mm_ev.run mm_y180 3 rfl ?_
  refine mm_ev.ite (fun h1 => ?_) (fun h1 => ?_)
  · rw [q_plan, if_pos h1]
    have hf : mh (fun c j => c = 110 ∧ j = 28) μ (mm_sI μ 110 (upd (μ.1 110) 28 0)) := mh.rf.sU ⟨rfl, rfl⟩ rfl
    refine mm_ev.run mm_y180 4 rfl ?_
    exact mm_ev.ret mm_y180 rfl rfl rfl ⟨rfl, h.setK ⟨k1.fr hf (fun c j hc => by omega), ⟨k4.1.fr hf (by omega) (fun j => by omega) (fun j => by omega), fun i hi => (hf.1 127 i (by omega)).trans (k4.2 i hi)⟩, ⟨rfl, fun i hi => absurd hi (by simp)⟩, k6.fr hf (by omega) (fun j => by omega) (fun j => by omega)⟩ hf (fun c j hc => by omega)⟩
  · rw [q_plan, if_neg h1]
    refine mm_ev.run mm_y180 3 rfl ?_
    refine mm_ev.call mm_y180 rfl rfl rfl rfl rfl (C128 w 0 3) (fun v1 μ1 hq => ?_)
    obtain ⟨rfl, hμ⟩ := hq
    obtain rfl := hμ.symm
    refine mm_ev.run mm_y180 1 rfl ?_
    refine mm_ev.ifb (fun h2 => ?_) (fun h2 => ?_)
    · rw [if_neg (fun z => h2 (by rw [z]; decide)), if_neg (fun z => h2 (by rw [z]; decide)), if_neg (fun z => h2 (by rw [z]; decide)), if_neg (fun z => h2 (by rw [z]; decide))]
      refine mm_ev.run mm_y180 1 rfl ?_
      exact mm_ev.ret mm_y180 rfl rfl rfl ⟨rfl, h⟩
    · rcases p_03 h2 with rfl | rfl | rfl | rfl
      · rw [if_pos rfl]
        refine mm_ev.run mm_y180 3 rfl ?_
        refine mm_ev.neg (by decide) ?_
        refine mm_ev.run mm_y180 3 rfl ?_
        refine mm_ev.neg (by decide) ?_
        refine mm_ev.run mm_y180 3 rfl ?_
        refine mm_ev.neg (by decide) ?_
        exact C180_e h ho (by rw [if_pos rfl])
      · rw [if_neg (by decide), if_pos rfl]
        refine mm_ev.run mm_y180 3 rfl ?_
        refine mm_ev.pos rfl ?_
        refine mm_ev.run mm_y180 2 rfl ?_
        refine mm_ev.call mm_y180 rfl rfl rfl rfl rfl (C130' h.n n) (fun v1 μ1 hq => ?_)
        obtain ⟨rfl, hμ⟩ := hq
        obtain rfl := hμ.symm
        refine mm_ev.run mm_y180 1 rfl ?_
        refine mm_ev.ifb (fun h3 => ?_) (fun h3 => ?_)
        · rw [if_neg h3]
          refine mm_ev.run mm_y180 1 rfl ?_
          exact mm_ev.ret mm_y180 rfl rfl rfl ⟨rfl, h⟩
        · rw [if_pos h3]
          refine mm_ev.run mm_y180 3 rfl ?_
          refine mm_ev.neg (by decide) ?_
          refine mm_ev.run mm_y180 3 rfl ?_
          refine mm_ev.neg (by decide) ?_
          exact C180_e h ho (by rw [if_neg (by decide)])
      · rw [if_neg (by decide), if_neg (by decide), if_pos rfl]
        refine mm_ev.run mm_y180 3 rfl ?_
        refine mm_ev.neg (by decide) ?_
        refine mm_ev.run mm_y180 3 rfl ?_
        refine mm_ev.neg (by decide) ?_
        refine mm_ev.run mm_y180 3 rfl ?_
        refine mm_ev.pos rfl ?_
        refine mm_ev.run mm_y180 3 rfl ?_
        refine mm_ev.call mm_y180 rfl rfl rfl rfl rfl (C128 n 0 11) (fun v1 μ1 hq => ?_)
        obtain ⟨rfl, hμ⟩ := hq
        obtain rfl := hμ.symm
        refine mm_ev.run mm_y180 1 rfl ?_
        refine mm_ev.ifb (fun h3 => ?_) (fun h3 => ?_)
        · rw [if_neg h3]
          refine mm_ev.run mm_y180 1 rfl ?_
          exact mm_ev.ret mm_y180 rfl rfl rfl ⟨rfl, h⟩
        · rw [if_pos h3]
          exact C180_e h ho (by rw [if_neg (by decide)])
      · rw [if_neg (by decide), if_neg (by decide), if_neg (by decide), if_pos rfl]
        refine mm_ev.run mm_y180 3 rfl ?_
        refine mm_ev.neg (by decide) ?_
        refine mm_ev.run mm_y180 3 rfl ?_
        refine mm_ev.pos rfl ?_
        refine mm_ev.run mm_y180 1 rfl ?_
        refine mm_ev.call mm_y180 rfl rfl rfl rfl rfl (C131 n) (fun v1 μ1 hq => ?_)
        obtain ⟨rfl, hμ⟩ := hq
        obtain rfl := hμ.symm
        refine mm_ev.run mm_y180 1 rfl ?_
        refine mm_ev.ifb (fun h3 => ?_) (fun h3 => ?_)
        · rw [if_neg h3]
          refine mm_ev.run mm_y180 1 rfl ?_
          exact mm_ev.ret mm_y180 rfl rfl rfl ⟨rfl, h⟩
        · rw [if_pos h3]
          refine mm_ev.run mm_y180 3 rfl ?_
          refine mm_ev.neg (by decide) ?_
          exact C180_e h ho (by rw [if_neg (by decide)])
set_option maxRecDepth 100000 in
theorem C183 (h : rM A μ) (ho : okA A) (p x : Int32) : mm_call la_M (d + 10) 183 [.ref 110, .int p, .int x] μ (fun v μ' => v = some (.int (q_book A p x).1) ∧ rM (q_book A p x).2 μ') := by
  have hB := ho.1.2.2.2.1
  obtain ⟨k1, k4, k5, ⟨k2, k3⟩⟩ := h.1
  refine mm_call.of mm_t183 ?_
  refine mm_ev.run mm_y183 3 rfl ?_
  refine mm_ev.ite (fun h1 => ?_) (fun h1 => ?_)
  · rw [q_book, if_pos h1]
    have hf : mh (fun c j => c = 110 ∧ j = 31) μ (mm_sI μ 110 (upd (μ.1 110) 31 0)) := mh.rf.sU ⟨rfl, rfl⟩ rfl
    refine mm_ev.run mm_y183 4 rfl ?_
    exact mm_ev.ret mm_y183 rfl rfl rfl ⟨rfl, h.setK ⟨k1.fr hf (fun c j hc => by omega), ⟨k4.1.fr hf (by omega) (fun j => by omega) (fun j => by omega), fun i hi => (hf.1 127 i (by omega)).trans (k4.2 i hi)⟩, k5.fr hf (by omega) (fun j => by omega) (fun j => by omega), ⟨rfl, fun i hi => absurd hi (by simp)⟩⟩ hf (fun c j hc => by omega)⟩
  · rw [q_book, if_neg h1]
    refine mm_ev.run mm_y183 1 rfl ?_
    refine mm_ev.call mm_y183 rfl rfl rfl rfl rfl (C131 p) (fun v1 μ1 hq => ?_)
    obtain ⟨rfl, hμ⟩ := hq
    obtain rfl := hμ.symm
    refine mm_ev.run mm_y183 1 rfl ?_
    refine mm_ev.ifb (fun h2 => ?_) (fun h2 => ?_)
    · rw [if_neg h2]
      refine mm_ev.run mm_y183 1 rfl ?_
      exact mm_ev.ret mm_y183 rfl rfl rfl ⟨rfl, h⟩
    · rw [if_pos h2]
      refine mm_ev.run mm_y183 1 rfl ?_
      refine mm_ev.call mm_y183 rfl rfl rfl rfl rfl (C147 x) (fun v1 μ1 hq => ?_)
      obtain ⟨rfl, hμ⟩ := hq
      obtain rfl := hμ.symm
      refine mm_ev.run mm_y183 1 rfl ?_
      refine mm_ev.ifb (fun h4 => ?_) (fun h4 => ?_)
      · rw [if_neg h4]
        refine mm_ev.run mm_y183 1 rfl ?_
        exact mm_ev.ret mm_y183 rfl rfl rfl ⟨rfl, h⟩
      · rw [if_pos h4]
        refine mm_ev.run mm_y183 2 rfl ?_
        refine mm_ev.val k2 ?_
        refine mm_ev.run mm_y183 2 rfl ?_
        refine mm_ev.ite (fun h5 => ?_) (fun h5 => ?_)
        · rw [if_pos ((nI_eq (b := 8) (by omega) (by decide)).mp h5)]
          refine mm_ev.run mm_y183 1 rfl ?_
          exact mm_ev.ret mm_y183 rfl rfl rfl ⟨rfl, h⟩
        · have e : ¬ A.1.2.2.2.1 = 8 := fun z => h5 (by rw [z]; rfl)
          rw [if_neg e]
          refine mm_ev.run mm_y183 4 rfl ?_
          refine mm_ev.val k2 ?_
          refine mm_ev.run mm_y183 1 rfl ?_
          refine mm_ev.ist mm_y183 rfl rfl rfl rfl rfl (by omega) (by decide) ?_
          refine mm_ev.run mm_y183 5 rfl ?_
          refine mm_ev.val k2 ?_
          refine mm_ev.run mm_y183 3 rfl ?_
          refine mm_ev.val (nI_1 _) ?_
          refine mm_ev.run mm_y183 2 rfl ?_
          refine mm_ev.ist mm_y183 rfl rfl rfl rfl rfl (by omega) (by decide) ?_
          refine mm_ev.run mm_y183 2 rfl ?_
          refine mm_ev.val (show upd (μ.1 110) 31 (nI (A.1.2.2.2.1 + 1)) 31 = nI (A.1.2.2.2.1 + 1) from upd_eq) ?_
          have hf : mh (fun c j => (130 ≤ c ∧ c ≤ 131) ∨ (c = 110 ∧ j = 31)) μ (mm_sI (mm_sI (mm_sI μ 130 (upd (μ.1 130) A.1.2.2.2.1 p)) 110 (upd (μ.1 110) 31 (nI (A.1.2.2.2.1 + 1)))) 131 (upd (μ.1 131) A.1.2.2.2.1 x)) := ((mh.rf.sI (fun _ => Or.inl ⟨by decide, by decide⟩)).sU (Or.inr ⟨rfl, rfl⟩) rfl).sI (fun _ => Or.inl ⟨by decide, by decide⟩)
          exact mm_ev.ret mm_y183 rfl rfl rfl ⟨rfl, h.setK ⟨k1.fr hf (fun c j hc => by omega), ⟨k4.1.fr hf (by omega) (fun j => by omega) (fun j => by omega), fun i hi => (hf.1 127 i (by omega)).trans (k4.2 i hi)⟩, k5.fr hf (by omega) (fun j => by omega) (fun j => by omega), rRm.add ⟨k2, k3⟩ rfl rfl rfl⟩ hf (fun c j hc => by omega)⟩
set_option maxRecDepth 100000 in
theorem C184_l (h : rM A μ) (ho : okA A) : ∀ m k, k + m = A.1.2.2.2.1 → mm_ev la_M d 184 2 [some (.ref 110), some (.int (nI k))] [] μ (fun v μ' => v = some (.int (sp_lk A.1.1 A.1.2.2.2 m k)) ∧ rM A μ') := by
  intro m
  have h8 := ho.1.2.2.2.1
  have hr := h.1.2.2.2
  have hg := h.1.1
  induction m with
  | zero =>
    intro k hk
    refine mm_ev.run mm_y184 3 rfl ?_
    refine mm_ev.val hr.1 ?_
    refine mm_ev.run mm_y184 1 rfl ?_
    refine mm_ev.pos (nI_le (show A.1.2.2.2.1 ≤ k by omega) (by omega)) ?_
    refine mm_ev.run mm_y184 1 rfl ?_
    exact mm_ev.ret mm_y184 rfl rfl rfl ⟨rfl, h⟩
  | succ m ih =>
    intro k hk
    have ih := ih (k + 1) (by omega)
    rw [nI_succ] at ih
    rw [sp_lk_s]
    obtain ⟨p, hp, ep⟩ := ho.1.2.2.2.2 k (by omega)
    rw [ep, nI_clamp (by omega)]
    refine mm_ev.run mm_y184 3 rfl ?_
    refine mm_ev.val hr.1 ?_
    refine mm_ev.run mm_y184 1 rfl ?_
    refine mm_ev.neg (nI_ge (show k < A.1.2.2.2.1 by omega) (by omega)) ?_
    refine mm_ev.run mm_y184 5 rfl ?_
    refine mm_ev.ild mm_y184 rfl rfl rfl rfl rfl (by omega) (by decide) ((hr.2 k (by omega)).1.trans ep) ?_
    refine mm_ev.ild mm_y184 rfl rfl rfl rfl rfl (by omega) (by decide) (hg.need hp) ?_
    refine mm_ev.run mm_y184 3 rfl ?_
    refine mm_ev.ild mm_y184 rfl rfl rfl rfl rfl (by omega) (by decide) (hr.2 k (by omega)).2 ?_
    refine mm_ev.run mm_y184 1 rfl ?_
    refine mm_ev.ite (fun h2 => ?_) (fun h2 => ?_)
    · rw [if_pos h2]
      refine mm_ev.run mm_y184 2 rfl ?_
      exact ih
    · rw [if_neg h2]
      refine mm_ev.run mm_y184 1 rfl ?_
      exact mm_ev.ret mm_y184 rfl rfl rfl ⟨rfl, h⟩
set_option maxRecDepth 100000 in
theorem C184 (h : rM A μ) (ho : okA A) : mm_call la_M (d + 10) 184 [.ref 110] μ (fun v μ' => v = some (.int (q_looked A)) ∧ rM A μ') := by
  refine mm_call.of mm_t184 ?_
  refine mm_ev.run mm_y184 2 rfl ?_
  exact C184_l h ho A.1.2.2.2.1 0 (by omega)
set_option maxRecDepth 100000 in
theorem C186 (h : rM A μ) (ho : okA A) : mm_call la_M (d + 10) 186 [.ref 110] μ (fun v μ' => v = some (.int (q_image A).1) ∧ rM (q_image A).2 μ') := by
  refine mm_call.of mm_t186 ?_
  have hf0 : mh (fun c j => c = 110 ∧ j = 36) μ (mm_sI μ 110 (upd (μ.1 110) 36 1)) := mh.rf.sU ⟨rfl, rfl⟩ rfl
  refine mm_ev.run mm_y186 3 rfl ?_
  refine mm_ev.run mm_y186 3 rfl ?_
  refine mm_ev.call mm_y186 rfl rfl rfl rfl rfl (C139 (q := 133) (Or.inl rfl)) (fun v1 μ1 hq => ?_)
  obtain ⟨rfl, F, rfl, hF⟩ := hq
  have hf : mh (fun c j => c = 133 ∨ (c = 110 ∧ j = 36)) μ (mm_sI (mm_sI μ 110 (upd (μ.1 110) 36 1)) 133 F) := (hf0.mono (fun c j hc => Or.inr hc)).sI (fun _ => Or.inl rfl)
  obtain ⟨k1, k2, k3, k4, k5, k6, k7⟩ := h
  have e : ∀ c j, ¬ (c = 133 ∨ (c = 110 ∧ j = 36)) → (mm_sI (mm_sI μ 110 (upd (μ.1 110) 36 1)) 133 F).1 c j = μ.1 c j := fun c j hc => hf.1 c j hc
  have hK := k1.fr hf (fun c j hc => by omega)
  have key : rM (q_image A).2 (mm_sI (mm_sI μ 110 (upd (μ.1 110) 36 1)) 133 F) := by
    refine ⟨hK, rfl, fun K hK2 => ?_, k4.fr hf (fun c j hc => by omega), ⟨by rw [e 110 8 (by omega)]; exact k5.1, fun i hi => by rw [e 117 i (by omega)]; exact k5.2 i hi⟩, ⟨by rw [e 110 34 (by omega)]; exact k6.1, fun i hi => by rw [e 132 i (by omega)]; exact k6.2 i hi⟩, fun t ht => (k7 t ht).fr hf (fun c j hc => by omega)⟩
    cases hK2
    rw [sI_eq]
    exact kK.of ho.1.k (k1.fr hf0 (fun c j hc => by omega)) hF
  refine mm_ev.run mm_y186 2 rfl ?_
  refine mm_ev.val hK.1.n ?_
  exact mm_ev.ret mm_y186 rfl rfl rfl ⟨rfl, key⟩
set_option maxRecDepth 100000 in
theorem C187 (h : rM A μ) (ho : okA A) : mm_call la_M (d + 10) 187 [.ref 110] μ (fun v μ' => v = some (.int (q_undo A).1) ∧ rM (q_undo A).2 μ') := by
  have h2 := h.2.1
  unfold q_undo
  cases hk : A.2.1 with
  | none =>
    rw [hk] at h2
    refine mm_call.of mm_t187 ?_
    refine mm_ev.run mm_y187 2 rfl ?_
    refine mm_ev.val h2 ?_
    refine mm_ev.run mm_y187 1 rfl ?_
    refine mm_ev.pos rfl ?_
    refine mm_ev.run mm_y187 1 rfl ?_
    exact mm_ev.ret mm_y187 rfl rfl rfl ⟨rfl, h⟩
  | some K =>
    rw [hk] at h2
    have h2 : μ.1 110 36 = 1 := h2
    refine mm_call.of mm_t187 ?_
    refine mm_ev.run mm_y187 2 rfl ?_
    refine mm_ev.val h2 ?_
    refine mm_ev.run mm_y187 1 rfl ?_
    refine mm_ev.neg (by decide) ?_
    refine mm_ev.run mm_y187 3 rfl ?_
    refine mm_ev.call mm_y187 rfl rfl rfl rfl rfl (C142 (q := 133) (Or.inl rfl)) (fun v1 μ1 hq => ?_)
    obtain ⟨rfl, e1, e2⟩ := hq
    have hK := h.2.2.1 K hk μ1 e1
    refine mm_ev.run mm_y187 2 rfl ?_
    refine mm_ev.val hK.1.n ?_
    exact mm_ev.ret mm_y187 rfl rfl rfl ⟨rfl, h.setK hK e2 (fun c j hc => by omega)⟩
set_option maxRecDepth 100000 in
theorem C194 (h : rM A μ) (ho : okA A) (i : Int32) : mm_call la_M (d + 10) 194 [.ref 110, .int i] μ (fun v μ' => v = some (.int (q_trace A i)) ∧ rM A μ') := by
  have h20 := ho.2.2.2.2.2.1
  have h34 := h.2.2.2.2.2.1
  have e20 : (if nI A.2.2.2.2.1.1 < (20 : Int32) then nI A.2.2.2.2.1.1 else 20) = nI A.2.2.2.2.1.1 := by
    by_cases z : A.2.2.2.2.1.1 < 20
    · exact if_pos (nI_lt (b := 20) z (by decide))
    · have e : A.2.2.2.2.1.1 = 20 := by omega
      rw [e]
      rfl
  unfold q_trace
  refine mm_call.of mm_t194 ?_
  refine mm_ev.run mm_y194 5 rfl ?_
  refine mm_ev.val h34.1 ?_
  refine mm_ev.run mm_y194 1 rfl ?_
  refine mm_ev.val e20 ?_
  refine mm_ev.run mm_y194 2 rfl ?_
  refine mm_ev.call mm_y194 rfl rfl rfl rfl rfl (C128 i 0 (nI A.2.2.2.2.1.1 - 1)) (fun v1 μ1 hq => ?_)
  obtain ⟨rfl, hμ⟩ := hq
  obtain rfl := hμ.symm
  refine mm_ev.run mm_y194 1 rfl ?_
  refine mm_ev.ifb (fun h1 => ?_) (fun h1 => ?_)
  · rw [if_neg h1]
    refine mm_ev.run mm_y194 1 rfl ?_
    exact mm_ev.ret mm_y194 rfl rfl rfl ⟨rfl, h⟩
  · rw [if_pos h1]
    obtain ⟨j, hj, rfl⟩ := nI_cap (by omega) h1
    rw [nI_clamp (by omega)]
    refine mm_ev.run mm_y194 3 rfl ?_
    refine mm_ev.ild mm_y194 rfl rfl rfl rfl rfl (by omega) (by decide) (h34.2 j hj) ?_
    refine mm_ev.run mm_y194 1 rfl ?_
    exact mm_ev.ret mm_y194 rfl rfl rfl ⟨rfl, h⟩
set_option maxRecDepth 100000 in
theorem C191 {Λ : List mm_D} {k : Nat} (hk : k < 7) : mm_call Λ d 191 [.int (nI k)] μ (fun v μ' => v = some (.int (nI (ac_up k))) ∧ μ' = μ) := by
  rcases (show k = 0 ∨ k = 1 ∨ k = 2 ∨ k = 3 ∨ k = 4 ∨ k = 5 ∨ k = 6 by omega) with rfl | rfl | rfl | rfl | rfl | rfl | rfl
  ·
    refine mm_call.of mm_t191 ?_
    refine mm_ev.run mm_y191 3 rfl ?_
    refine mm_ev.neg (by decide) ?_
    refine mm_ev.run mm_y191 3 rfl ?_
    refine mm_ev.neg (by decide) ?_
    refine mm_ev.run mm_y191 3 rfl ?_
    refine mm_ev.neg (by decide) ?_
    refine mm_ev.run mm_y191 1 rfl ?_
    exact mm_ev.ret mm_y191 rfl rfl rfl ⟨rfl, rfl⟩
  ·
    refine mm_call.of mm_t191 ?_
    refine mm_ev.run mm_y191 3 rfl ?_
    refine mm_ev.neg (by decide) ?_
    refine mm_ev.run mm_y191 3 rfl ?_
    refine mm_ev.neg (by decide) ?_
    refine mm_ev.run mm_y191 3 rfl ?_
    refine mm_ev.neg (by decide) ?_
    refine mm_ev.run mm_y191 1 rfl ?_
    exact mm_ev.ret mm_y191 rfl rfl rfl ⟨rfl, rfl⟩
  ·
    refine mm_call.of mm_t191 ?_
    refine mm_ev.run mm_y191 3 rfl ?_
    refine mm_ev.neg (by decide) ?_
    refine mm_ev.run mm_y191 3 rfl ?_
    refine mm_ev.neg (by decide) ?_
    refine mm_ev.run mm_y191 3 rfl ?_
    refine mm_ev.neg (by decide) ?_
    refine mm_ev.run mm_y191 1 rfl ?_
    exact mm_ev.ret mm_y191 rfl rfl rfl ⟨rfl, rfl⟩
  ·
    refine mm_call.of mm_t191 ?_
    refine mm_ev.run mm_y191 3 rfl ?_
    refine mm_ev.neg (by decide) ?_
    refine mm_ev.run mm_y191 3 rfl ?_
    refine mm_ev.neg (by decide) ?_
    refine mm_ev.run mm_y191 3 rfl ?_
    refine mm_ev.neg (by decide) ?_
    refine mm_ev.run mm_y191 1 rfl ?_
    exact mm_ev.ret mm_y191 rfl rfl rfl ⟨rfl, rfl⟩
  ·
    refine mm_call.of mm_t191 ?_
    refine mm_ev.run mm_y191 3 rfl ?_
    refine mm_ev.pos rfl ?_
    refine mm_ev.run mm_y191 2 rfl ?_
    exact mm_ev.ret mm_y191 rfl rfl rfl ⟨rfl, rfl⟩
  ·
    refine mm_call.of mm_t191 ?_
    refine mm_ev.run mm_y191 3 rfl ?_
    refine mm_ev.neg (by decide) ?_
    refine mm_ev.run mm_y191 3 rfl ?_
    refine mm_ev.pos rfl ?_
    refine mm_ev.run mm_y191 2 rfl ?_
    exact mm_ev.ret mm_y191 rfl rfl rfl ⟨rfl, rfl⟩
  ·
    refine mm_call.of mm_t191 ?_
    refine mm_ev.run mm_y191 3 rfl ?_
    refine mm_ev.neg (by decide) ?_
    refine mm_ev.run mm_y191 3 rfl ?_
    refine mm_ev.neg (by decide) ?_
    refine mm_ev.run mm_y191 3 rfl ?_
    refine mm_ev.pos rfl ?_
    refine mm_ev.run mm_y191 2 rfl ?_
    exact mm_ev.ret mm_y191 rfl rfl rfl ⟨rfl, rfl⟩
set_option maxRecDepth 100000 in
theorem C195_e {c : Nat} {k : Int32} {u kd : Nat} (hg : sG_m A.1.1 μ) (h6 : A.1.1.1 ≤ 6) (hc : c < A.1.1.1) (hk : A.1.1.2.2.2 1 c = nI kd) {Φ : Option Value → mm_M → Prop} (h1 : k = nI u → Φ (some (.int (nI kd))) μ) (h2 : ¬ k = nI u → Φ (some (.int (-12))) μ) : mm_ev la_M d 195 27 [some (.ref 110), some (.int (nI c)), some (.int k), some (.int (nI u))] [] μ Φ := by
  refine mm_ev.run mm_y195 3 rfl ?_
  refine mm_ev.ite (fun h => ?_) (fun h => ?_)
  · refine mm_ev.run mm_y195 3 rfl ?_
    refine mm_ev.ild mm_y195 rfl rfl rfl rfl rfl (by omega) (by decide) ((hg.kind hc).trans hk) ?_
    refine mm_ev.run mm_y195 1 rfl ?_
    exact mm_ev.ret mm_y195 rfl rfl rfl (h1 h.symm)
  · refine mm_ev.run mm_y195 1 rfl ?_
    exact mm_ev.ret mm_y195 rfl rfl rfl (h2 (fun z => h z.symm))
set_option maxRecDepth 100000 in
theorem C195_0 {c : Nat} {k : Int32} {kd : Nat} (hg : sG_m A.1.1 μ) (h6 : A.1.1.1 ≤ 6) (hc : c < A.1.1.1) (hk : A.1.1.2.2.2 1 c = nI kd) {Φ : Option Value → mm_M → Prop} (h1 : k = 0 → Φ (some (.int (nI kd))) μ) (h2 : ¬ k = 0 → Φ (some (.int (-12))) μ) : mm_ev la_M (d + 1) 195 18 [some (.ref 110), some (.int (nI c)), some (.int k), some (.int (nI 0))] [] μ Φ := by
  refine mm_ev.run mm_y195 3 rfl ?_
  refine mm_ev.ite (fun h => ?_) (fun h => ?_)
  · exact C195_e hg h6 hc hk h1 h2
  · refine mm_ev.run mm_y195 2 rfl ?_
    refine mm_ev.pos (by decide) ?_
    exact C195_e hg h6 hc hk h1 h2
set_option maxRecDepth 100000 in
theorem C195_1 {c : Nat} {k : Int32} {kd j : Nat} (hj : j = 1 ∨ j = 2 ∨ j = 3) (hg : sG_m A.1.1 μ) (h6 : A.1.1.1 ≤ 6) (hc : c < A.1.1.1) (hk : A.1.1.2.2.2 1 c = nI kd) {Φ : Option Value → mm_M → Prop} (h1 : k = 0 ∨ k = nI j → Φ (some (.int (nI kd))) μ) (h2 : ¬ (k = 0 ∨ k = nI j) → Φ (some (.int (-12))) μ) : mm_ev la_M (d + 1) 195 18 [some (.ref 110), some (.int (nI c)), some (.int k), some (.int (nI j))] [] μ Φ := by
  have e : ac_up j = 0 := by unfold ac_up; rw [if_pos (by omega)]
  have K := C191 (Λ := la_M) (d := d) (μ := μ) (show j < 7 by omega)
  rw [e] at K
  refine mm_ev.run mm_y195 3 rfl ?_
  refine mm_ev.ite (fun h => ?_) (fun h => ?_)
  · exact C195_e hg h6 hc hk (fun z => h1 (Or.inr z)) (fun z => absurd h.symm z)
  · refine mm_ev.run mm_y195 2 rfl ?_
    refine mm_ev.neg (nI_nle (by omega) (by omega)) ?_
    refine mm_ev.run mm_y195 1 rfl ?_
    refine mm_ev.call mm_y195 rfl rfl rfl rfl rfl K (fun v1 μ1 hq => ?_)
    obtain ⟨rfl, hμ⟩ := hq
    obtain rfl := hμ.symm
    refine mm_ev.run mm_y195 2 rfl ?_
    exact C195_0 hg h6 hc hk (fun z => h1 (Or.inl z)) (fun z => h2 (fun y => y.elim z (fun y => h y.symm)))
set_option maxRecDepth 100000 in
theorem C195_2 {c : Nat} {k : Int32} {kd j : Nat} (hj : j = 4 ∨ j = 5 ∨ j = 6) (hg : sG_m A.1.1 μ) (h6 : A.1.1.1 ≤ 6) (hc : c < A.1.1.1) (hk : A.1.1.2.2.2 1 c = nI kd) {Φ : Option Value → mm_M → Prop} (h1 : k = 0 ∨ k = nI (j - 3) ∨ k = nI j → Φ (some (.int (nI kd))) μ) (h2 : ¬ (k = 0 ∨ k = nI (j - 3) ∨ k = nI j) → Φ (some (.int (-12))) μ) : mm_ev la_M (d + 1) 195 18 [some (.ref 110), some (.int (nI c)), some (.int k), some (.int (nI j))] [] μ Φ := by
  have e : ac_up j = j - 3 := by unfold ac_up; rw [if_neg (by omega)]
  have K := C191 (Λ := la_M) (d := d) (μ := μ) (show j < 7 by omega)
  rw [e] at K
  refine mm_ev.run mm_y195 3 rfl ?_
  refine mm_ev.ite (fun h => ?_) (fun h => ?_)
  · exact C195_e hg h6 hc hk (fun z => h1 (Or.inr (Or.inr z))) (fun z => absurd h.symm z)
  · refine mm_ev.run mm_y195 2 rfl ?_
    refine mm_ev.neg (nI_nle (by omega) (by omega)) ?_
    refine mm_ev.run mm_y195 1 rfl ?_
    refine mm_ev.call mm_y195 rfl rfl rfl rfl rfl K (fun v1 μ1 hq => ?_)
    obtain ⟨rfl, hμ⟩ := hq
    obtain rfl := hμ.symm
    refine mm_ev.run mm_y195 2 rfl ?_
    exact C195_1 (by omega) hg h6 hc hk (fun z => h1 (z.elim Or.inl (fun z => Or.inr (Or.inl z)))) (fun z => h2 (fun y => y.elim (fun y => z (Or.inl y)) (fun y => y.elim (fun y => z (Or.inr y)) (fun y => h y.symm))))
set_option maxRecDepth 100000 in
theorem C195 (h : rM A μ) (ho : okA A) (c k : Int32) : mm_call la_M (d + 10) 195 [.ref 110, .int c, .int k] μ (fun v μ' => v = some (.int (q_taken A c k)) ∧ rM A μ') := by
  have h6 := ho.n
  have hg := h.1.1
  refine mm_call.of mm_t195 ?_
  refine mm_ev.run mm_y195 3 rfl ?_
  refine mm_ev.call mm_y195 rfl rfl rfl rfl rfl (C128 k 0 6) (fun v1 μ1 hq => ?_)
  obtain ⟨rfl, hμ⟩ := hq
  obtain rfl := hμ.symm
  refine mm_ev.run mm_y195 1 rfl ?_
  refine mm_ev.ifb (fun h1 => ?_) (fun h1 => ?_)
  · rw [q_taken, if_neg h1]
    refine mm_ev.run mm_y195 1 rfl ?_
    exact mm_ev.ret mm_y195 rfl rfl rfl ⟨rfl, h⟩
  · rw [q_taken, if_pos h1]
    refine mm_ev.run mm_y195 2 rfl ?_
    refine mm_ev.call mm_y195 rfl rfl rfl rfl rfl (C130' h.n c) (fun v1 μ1 hq => ?_)
    obtain ⟨rfl, hμ⟩ := hq
    obtain rfl := hμ.symm
    refine mm_ev.run mm_y195 1 rfl ?_
    refine mm_ev.ifb (fun h2 => ?_) (fun h2 => ?_)
    · rw [if_neg h2]
      refine mm_ev.run mm_y195 1 rfl ?_
      exact mm_ev.ret mm_y195 rfl rfl rfl ⟨rfl, h⟩
    · rw [if_pos h2]
      obtain ⟨c, hc, rfl⟩ := nI_cap (by omega) h2
      rw [nI_clamp (by omega)]
      obtain ⟨kd, hkd, ek⟩ := ho.1.1.2.2.2.1 c hc
      have hkk := hg.kind hc
      rw [ek] at hkk ⊢
      refine mm_ev.run mm_y195 3 rfl ?_
      refine mm_ev.ild mm_y195 rfl rfl rfl rfl rfl (by omega) (by decide) hkk ?_
      refine mm_ev.run mm_y195 1 rfl ?_
      rcases (show kd = 0 ∨ (kd = 1 ∨ kd = 2 ∨ kd = 3) ∨ (kd = 4 ∨ kd = 5 ∨ kd = 6) by omega) with rfl | hz | hz
      · refine C195_0 hg h6 hc ek (fun z => ⟨?_, h⟩) (fun z => ⟨?_, h⟩)
        · rw [if_pos (Or.inr (Or.inl z))]
        · rw [if_neg (fun y => by
            rcases y with y | y | y | y | y
            · exact z y
            · exact z y
            · exact absurd y.1 (by decide)
            · exact absurd y.1 (by decide)
            · exact absurd y.1 (by decide))]
      · refine C195_1 hz hg h6 hc ek (fun z => ⟨?_, h⟩) (fun z => ⟨?_, h⟩)
        · rw [if_pos (z.elim (fun z => Or.inr (Or.inl z)) Or.inl)]
        · rw [if_neg (fun y => by
            rcases y with y | y | y | y | y
            · exact z (Or.inr y)
            · exact z (Or.inl y)
            · exact absurd ((nI_eq (b := 4) (by omega) (by decide)).mp y.1) (by omega)
            · exact absurd ((nI_eq (b := 5) (by omega) (by decide)).mp y.1) (by omega)
            · exact absurd ((nI_eq (b := 6) (by omega) (by decide)).mp y.1) (by omega))]
      · refine C195_2 hz hg h6 hc ek (fun z => ⟨?_, h⟩) (fun z => ⟨?_, h⟩)
        · rw [if_pos]
          rcases hz with rfl | rfl | rfl
          · exact z.elim (fun z => Or.inr (Or.inl z)) (fun z => z.elim (fun z => Or.inr (Or.inr (Or.inl ⟨rfl, z⟩))) Or.inl)
          · exact z.elim (fun z => Or.inr (Or.inl z)) (fun z => z.elim (fun z => Or.inr (Or.inr (Or.inr (Or.inl ⟨rfl, z⟩)))) Or.inl)
          · exact z.elim (fun z => Or.inr (Or.inl z)) (fun z => z.elim (fun z => Or.inr (Or.inr (Or.inr (Or.inr ⟨rfl, z⟩)))) Or.inl)
        · rw [if_neg]
          intro y
          rcases y with y | y | y | y | y
          · exact z (Or.inr (Or.inr y))
          · exact z (Or.inl y)
          · have := (nI_eq (b := 4) (by omega) (by decide)).mp y.1
            subst this
            exact z (Or.inr (Or.inl y.2))
          · have := (nI_eq (b := 5) (by omega) (by decide)).mp y.1
            subst this
            exact z (Or.inr (Or.inl y.2))
          · have := (nI_eq (b := 6) (by omega) (by decide)).mp y.1
            subst this
            exact z (Or.inr (Or.inl y.2))
set_option maxRecDepth 100000 in
theorem C196 (h : rM A μ) (ho : okA A) (w : Int32) : mm_call la_M (d + 10) 196 [.ref 110, .int w] μ (fun v μ' => v = some (.int (q_count A w)) ∧ rM A μ') := by
  unfold q_count
  refine mm_call.of mm_t196 ?_
  refine mm_ev.run mm_y196 2 rfl ?_
  refine mm_ev.swc (fun h2 => ?_) (fun n0 => mm_ev.swc (fun h2 => ?_) (fun n1 => mm_ev.swc (fun h2 => ?_) (fun n2 => mm_ev.swc (fun h2 => ?_) (fun n3 => mm_ev.swc (fun h2 => ?_) (fun n4 => mm_ev.swc (fun h2 => ?_) (fun n5 => mm_ev.swc (fun h2 => ?_) (fun n6 => mm_ev.sw0 ?_)))))))
  · rw [if_pos h2]
    refine mm_ev.run mm_y196 2 rfl ?_
    refine mm_ev.val h.n ?_
    exact mm_ev.ret mm_y196 rfl rfl rfl ⟨rfl, h⟩
  · rw [if_neg n0, if_pos h2]
    refine mm_ev.run mm_y196 2 rfl ?_
    refine mm_ev.val h.2.2.2.1.1 ?_
    exact mm_ev.ret mm_y196 rfl rfl rfl ⟨rfl, h⟩
  · rw [if_neg n0, if_neg n1, if_pos h2]
    refine mm_ev.run mm_y196 2 rfl ?_
    refine mm_ev.val h.1.2.1.1.1 ?_
    exact mm_ev.ret mm_y196 rfl rfl rfl ⟨rfl, h⟩
  · rw [if_neg n0, if_neg n1, if_neg n2, if_pos h2]
    refine mm_ev.run mm_y196 2 rfl ?_
    refine mm_ev.val h.1.2.2.1.1 ?_
    exact mm_ev.ret mm_y196 rfl rfl rfl ⟨rfl, h⟩
  · rw [if_neg n0, if_neg n1, if_neg n2, if_neg n3, if_pos h2]
    refine mm_ev.run mm_y196 2 rfl ?_
    refine mm_ev.val h.1.2.2.2.1 ?_
    exact mm_ev.ret mm_y196 rfl rfl rfl ⟨rfl, h⟩
  · rw [if_neg n0, if_neg n1, if_neg n2, if_neg n3, if_neg n4, if_pos h2]
    refine mm_ev.run mm_y196 2 rfl ?_
    refine mm_ev.val h.2.2.2.2.1.1 ?_
    exact mm_ev.ret mm_y196 rfl rfl rfl ⟨rfl, h⟩
  · rw [if_neg n0, if_neg n1, if_neg n2, if_neg n3, if_neg n4, if_neg n5, if_pos h2]
    refine mm_ev.run mm_y196 2 rfl ?_
    refine mm_ev.val h.2.2.2.2.2.1.1 ?_
    exact mm_ev.ret mm_y196 rfl rfl rfl ⟨rfl, h⟩
  · rw [if_neg n0, if_neg n1, if_neg n2, if_neg n3, if_neg n4, if_neg n5, if_neg n6]
    refine mm_ev.run mm_y196 1 rfl ?_
    exact mm_ev.ret mm_y196 rfl rfl rfl ⟨rfl, h⟩
end
