/-! THE REFERENCE'S READER -/
def rPm (n : Nat) (tx : Nat → Int32) (c0 a o : Nat) (cs : List Nat) (μ : mm_M) : Prop :=
  (μ.1 110 8 = nI n ∧ μ.1 110 10 = nI a ∧ ∀ i, i < n → μ.1 117 i = tx i) ∧ μ.1 110 13 = nI o ∧ μ.1 110 22 = nI (c0 + cs.length) ∧ sp_seg (μ.1 123) nI c0 cs
abbrev rdm (c0 c j : Nat) : Prop := (c = 110 ∧ (10 ≤ j ∧ j ≤ 13 ∨ j = 22)) ∨ (c = 123 ∧ c0 ≤ j)
abbrev rQm (n : Nat) (tx : Nat → Int32) (c0 o : Nat) (cs : List Nat) (μ : mm_M) (z : pZ) (v : Option Value) (μ' : mm_M) : Prop := v = some (.int (bI (z.1 = true))) ∧ rPm n tx c0 z.2.1 o (cs ++ z.2.2) μ' ∧ mh (rdm c0) μ μ'
section
variable {d n c0 a o : Nat} {tx : Nat → Int32} {cs : List Nat} {μ : mm_M}
theorem rPm.sa (h : rPm n tx c0 a o cs μ) {a' : Nat} : rPm n tx c0 a' o cs (mm_sI μ 110 (upd (μ.1 110) 10 (nI a'))) := by
  obtain ⟨⟨h1, h2, h3⟩, h4, h5, h6⟩ := h
  exact ⟨⟨h1, rfl, h3⟩, h4, h5, h6⟩
theorem rPm.s1 (h : rPm n tx c0 a o cs μ) (x : Int32) : rPm n tx c0 a o cs (mm_sI μ 110 (upd (μ.1 110) 11 x)) := h
theorem rPm.s2 (h : rPm n tx c0 a o cs μ) (x : Int32) : rPm n tx c0 a o cs (mm_sI μ 110 (upd (μ.1 110) 12 x)) := h
theorem rPm.so (h : rPm n tx c0 a o cs μ) {o' : Nat} : rPm n tx c0 a o' cs (mm_sI μ 110 (upd (μ.1 110) 13 (nI o'))) := by
  obtain ⟨⟨h1, h2, h3⟩, h4, h5, h6⟩ := h
  exact ⟨⟨h1, h2, h3⟩, rfl, h5, h6⟩
set_option maxRecDepth 100000 in
theorem C157 (h : rPm n tx c0 a o cs μ) (ht : okT n tx) (ha : a ≤ n) {s : Int32} (hs : s ≠ -1) : mm_call la_M d 157 [.ref 110, .int s] μ (fun v μ' => v = some (.int (bI (pN n tx a = s))) ∧ rPm n tx c0 (if pN n tx a = s then a + 1 else a) o cs μ' ∧ mh (rdm c0) μ μ') := by
  have h100 := ht.1
  refine mm_call.of mm_t157 ?_
  refine mm_ev.run mm_y157 2 rfl ?_
  refine mm_ev.val h.1.2.1 ?_
  refine mm_ev.run mm_y157 2 rfl ?_
  refine mm_ev.val h.1.1 ?_
  refine mm_ev.run mm_y157 1 rfl ?_
  refine mm_ev.ite (fun h1 => ?_) (fun h1 => ?_)
  · have e : ¬ a < n := by
      have := (nI_eq (by omega) (by omega)).mp h1
      omega
    have e2 : ¬ pN n tx a = s := fun z => hs (z.symm.trans (pN_end e))
    rw [bI_0 (p := pN n tx a = s) e2, if_neg e2]
    refine mm_ev.run mm_y157 1 rfl ?_
    exact mm_ev.ret mm_y157 rfl rfl rfl ⟨rfl, h, mh.rf⟩
  · have e : a < n := by
      have : ¬ a = n := fun z => h1 (by rw [z])
      omega
    have ep : pN n tx a = tx a := if_pos e
    refine mm_ev.run mm_y157 4 rfl ?_
    refine mm_ev.val h.1.2.1 ?_
    refine mm_ev.ild mm_y157 rfl rfl rfl rfl rfl (by omega) (by decide) (h.1.2.2 a e) ?_
    refine mm_ev.run mm_y157 2 rfl ?_
    refine mm_ev.ite (fun h2 => ?_) (fun h2 => ?_)
    · rw [bI_1 (p := pN n tx a = s) (ep.trans h2), if_pos (ep.trans h2)]
      refine mm_ev.run mm_y157 3 rfl ?_
      refine mm_ev.val h.1.2.1 ?_
      refine mm_ev.run mm_y157 2 rfl ?_
      refine mm_ev.val (nI_1 a) ?_
      refine mm_ev.run mm_y157 2 rfl ?_
      exact mm_ev.ret mm_y157 rfl rfl rfl ⟨rfl, h.sa, mh.rf.sU (Or.inl ⟨rfl, Or.inl ⟨by decide, by decide⟩⟩) rfl⟩
    · have e2 : ¬ pN n tx a = s := fun z => h2 (ep.symm.trans z)
      rw [bI_0 (p := pN n tx a = s) e2, if_neg e2]
      refine mm_ev.run mm_y157 1 rfl ?_
      exact mm_ev.ret mm_y157 rfl rfl rfl ⟨rfl, h, mh.rf⟩
set_option maxRecDepth 100000 in
theorem C159 (h : rPm n tx c0 a o cs μ) (ht : okT n tx) (ha : a ≤ n) : mm_call la_M d 159 [.ref 110] μ (fun v μ' => v = some (.int (bI (pD n tx a))) ∧ μ' = μ) := by
  have h100 := ht.1
  refine mm_call.of mm_t159 ?_
  refine mm_ev.run mm_y159 2 rfl ?_
  refine mm_ev.val h.1.2.1 ?_
  refine mm_ev.run mm_y159 2 rfl ?_
  refine mm_ev.val h.1.1 ?_
  refine mm_ev.run mm_y159 1 rfl ?_
  refine mm_ev.ite (fun h1 => ?_) (fun h1 => ?_)
  · have e := (nI_leI (by omega) (by omega)).mp h1
    rw [bI_0 (p := pD n tx a) (fun z => by have := z.1; omega)]
    refine mm_ev.run mm_y159 1 rfl ?_
    exact mm_ev.ret mm_y159 rfl rfl rfl ⟨rfl, rfl⟩
  · have e : a < n := by
      by_cases z : a < n
      · exact z
      · exact absurd (nI_le (show n ≤ a by omega) (by omega)) h1
    refine mm_ev.run mm_y159 4 rfl ?_
    refine mm_ev.val h.1.2.1 ?_
    refine mm_ev.ild mm_y159 rfl rfl rfl rfl rfl (by omega) (by decide) (h.1.2.2 a e) ?_
    refine mm_ev.run mm_y159 2 rfl ?_
    refine mm_ev.ite (fun h2 => ?_) (fun h2 => ?_)
    · rw [bI_0 (p := pD n tx a) (fun z => Int32.not_lt.mpr z.2.1 h2)]
      refine mm_ev.run mm_y159 1 rfl ?_
      exact mm_ev.ret mm_y159 rfl rfl rfl ⟨rfl, rfl⟩
    · refine mm_ev.run mm_y159 4 rfl ?_
      refine mm_ev.val h.1.2.1 ?_
      refine mm_ev.ild mm_y159 rfl rfl rfl rfl rfl (by omega) (by decide) (h.1.2.2 a e) ?_
      refine mm_ev.run mm_y159 2 rfl ?_
      refine mm_ev.ite (fun h3 => ?_) (fun h3 => ?_)
      · rw [bI_0 (p := pD n tx a) (fun z => Int32.not_lt.mpr z.2.2 h3)]
        refine mm_ev.run mm_y159 1 rfl ?_
        exact mm_ev.ret mm_y159 rfl rfl rfl ⟨rfl, rfl⟩
      · rw [bI_1 (p := pD n tx a) ⟨e, Int32.not_lt.mp h2, Int32.not_lt.mp h3⟩]
        refine mm_ev.run mm_y159 2 rfl ?_
        exact mm_ev.ret mm_y159 rfl rfl rfl ⟨rfl, rfl⟩
set_option maxRecDepth 100000 in
theorem C158_s (ht : okT n tx) (ha : a ≤ n) {k x : Nat} (hk : k < 2) (h : rPm n tx c0 a o cs μ) (hx : μ.1 110 11 = nI x) (hk2 : μ.1 110 12 = nI k) {Φ : Option Value → mm_M → Prop} (h1 : pD n tx a → ∀ μ1, rPm n tx c0 (a + 1) o cs μ1 → μ1.1 110 11 = nI (10 * x + p_g tx a) → μ1.1 110 12 = nI (k + 1) → mh (rdm c0) μ μ1 → mm_ev la_M (d + 1) 158 6 [some (.ref 110)] [] μ1 Φ) (h2 : ¬ pD n tx a → mm_ev la_M (d + 1) 158 40 [some (.ref 110)] [] μ Φ) : mm_ev la_M (d + 1) 158 6 [some (.ref 110)] [] μ Φ := by
  have h100 := ht.1
  refine mm_ev.run mm_y158 2 rfl ?_
  refine mm_ev.val hk2 ?_
  refine mm_ev.run mm_y158 2 rfl ?_
  refine mm_ev.neg (nI_ge (b := 2) hk (by decide)) ?_
  refine mm_ev.run mm_y158 1 rfl ?_
  refine mm_ev.call mm_y158 rfl rfl rfl rfl rfl (C159 h ht ha) (fun v1 μ1 hq => ?_)
  obtain ⟨rfl, hμ⟩ := hq
  obtain rfl := hμ.symm
  refine mm_ev.run mm_y158 1 rfl ?_
  refine mm_ev.ifb (fun hd => ?_) (fun hd => ?_)
  · exact h2 hd
  · have h1 := h1 hd
    have ev : 10 * nI x + tx a - 48 = nI (10 * x + p_g tx a) := by
      rw [p_g_n ht hd, show (10 : Int32) = nI 10 from rfl, nI_mul, nI_add, show (48 : Int32) = nI 48 from rfl, pk_sub (by omega)]
      congr 1
      omega
    refine mm_ev.run mm_y158 4 rfl ?_
    refine mm_ev.val hx ?_
    refine mm_ev.run mm_y158 5 rfl ?_
    refine mm_ev.val h.1.2.1 ?_
    refine mm_ev.ild mm_y158 rfl rfl rfl rfl rfl (by have := hd.1; omega) (by decide) (h.1.2.2 a hd.1) ?_
    refine mm_ev.run mm_y158 3 rfl ?_
    refine mm_ev.val ev ?_
    refine mm_ev.run mm_y158 1 rfl ?_
    refine mm_ev.run mm_y158 3 rfl ?_
    refine mm_ev.val h.1.2.1 ?_
    refine mm_ev.run mm_y158 2 rfl ?_
    refine mm_ev.val (nI_1 a) ?_
    refine mm_ev.run mm_y158 1 rfl ?_
    refine mm_ev.run mm_y158 3 rfl ?_
    refine mm_ev.val hk2 ?_
    refine mm_ev.run mm_y158 2 rfl ?_
    refine mm_ev.val (nI_1 k) ?_
    refine mm_ev.run mm_y158 2 rfl ?_
    exact h1 _ (((h.s1 _).sa).s2 _) rfl rfl (((mh.rf.sU (Or.inl ⟨rfl, Or.inl ⟨by decide, by decide⟩⟩) rfl).sU (Or.inl ⟨rfl, Or.inl ⟨by decide, by decide⟩⟩) rfl).sU (Or.inl ⟨rfl, Or.inl ⟨by decide, by decide⟩⟩) rfl)
set_option maxRecDepth 100000 in
theorem C158 (h : rPm n tx c0 a o cs μ) (ht : okT n tx) (ha : a ≤ n) : mm_call la_M (d + 1) 158 [.ref 110] μ (fun v μ' => v = some (.int (bI ((pM n tx a).1 = true))) ∧ rPm n tx c0 (pM n tx a).2.1 o cs μ' ∧ μ'.1 110 11 = nI (pM n tx a).2.2 ∧ mh (rdm c0) μ μ') := by
  have h0 := (h.s1 0).s2 0
  have m0 : mh (rdm c0) μ (mm_sI (mm_sI μ 110 (upd (μ.1 110) 11 0)) 110 (upd (upd (μ.1 110) 11 0) 12 0)) := (mh.rf.sU (Or.inl ⟨rfl, Or.inl ⟨by decide, by decide⟩⟩) rfl).sU (Or.inl ⟨rfl, Or.inl ⟨by decide, by decide⟩⟩) rfl
  unfold pM
  refine mm_call.of mm_t158 ?_
  refine mm_ev.run mm_y158 6 rfl ?_
  refine C158_s (k := 0) (x := 0) ht ha (by decide) h0 rfl rfl (fun hd μ1 e1 e2 e3 e4 => ?_) (fun hd => ?_)
  · rw [if_pos hd]
    have ha1 : a + 1 ≤ n := hd.1
    refine C158_s (k := 1) ht ha1 (by decide) e1 e2 e3 (fun hd2 μ2 k1 k2 k3 k4 => ?_) (fun hd2 => ?_)
    · rw [if_pos hd2, bI_1 (p := (true, a + 2, 10 * p_g tx a + p_g tx (a + 1)).1 = true) rfl]
      refine mm_ev.run mm_y158 2 rfl ?_
      refine mm_ev.val k3 ?_
      refine mm_ev.run mm_y158 2 rfl ?_
      refine mm_ev.pos (by decide) ?_
      refine mm_ev.run mm_y158 2 rfl ?_
      refine mm_ev.val k3 ?_
      refine mm_ev.run mm_y158 1 rfl ?_
      refine mm_ev.neg (by decide) ?_
      refine mm_ev.run mm_y158 2 rfl ?_
      exact mm_ev.ret mm_y158 rfl rfl rfl ⟨rfl, k1, by rw [k2]; congr 1; dsimp only; omega, (m0.tr e4).tr k4⟩
    · rw [if_neg hd2, bI_1 (p := (true, a + 1, p_g tx a).1 = true) rfl]
      refine mm_ev.run mm_y158 2 rfl ?_
      refine mm_ev.val e3 ?_
      refine mm_ev.run mm_y158 1 rfl ?_
      refine mm_ev.neg (by decide) ?_
      refine mm_ev.run mm_y158 2 rfl ?_
      exact mm_ev.ret mm_y158 rfl rfl rfl ⟨rfl, e1, by rw [e2]; congr 1; dsimp only; omega, m0.tr e4⟩
  · rw [if_neg hd, bI_0 (p := (false, a, 0).1 = true) (by simp)]
    refine mm_ev.run mm_y158 2 rfl ?_
    refine mm_ev.val (show _ = (0 : Int32) from rfl) ?_
    refine mm_ev.run mm_y158 1 rfl ?_
    refine mm_ev.pos (by decide) ?_
    refine mm_ev.run mm_y158 1 rfl ?_
    exact mm_ev.ret mm_y158 rfl rfl rfl ⟨rfl, h0, rfl, m0⟩
set_option maxRecDepth 100000 in
theorem C164 (h : rPm n tx c0 a o cs μ) (hc : c0 + cs.length < 600) (op : Nat) {z : Int32} (hz : z = nI op) : mm_call la_M d 164 [.ref 110, .int z] μ (fun v μ' => v = some (.int 1) ∧ rPm n tx c0 a o (cs ++ [op]) μ' ∧ mh (rdm c0) μ μ') := by
  subst hz
  have key : rPm n tx c0 a o (cs ++ [op]) (mm_sI (mm_sI μ 110 (upd (μ.1 110) 22 (nI (c0 + cs.length + 1)))) 123 (upd (μ.1 123) (c0 + cs.length) (nI op))) := by
    obtain ⟨⟨h1, h2, h3⟩, h4, h5, h6⟩ := h
    refine ⟨⟨h1, h2, h3⟩, h4, ?_, ?_⟩
    · rw [List.length_append]
      rfl
    · rw [sI_eq]
      exact sp_seg_app (o := op) cs _ c0 h6
  have hm : mh (rdm c0) μ (mm_sI (mm_sI μ 110 (upd (μ.1 110) 22 (nI (c0 + cs.length + 1)))) 123 (upd (μ.1 123) (c0 + cs.length) (nI op))) := (mh.rf.sU (Or.inl ⟨rfl, Or.inr rfl⟩) rfl).sU (Or.inr ⟨rfl, by omega⟩) rfl
  refine mm_call.of mm_t164 ?_
  refine mm_ev.run mm_y164 5 rfl ?_
  refine mm_ev.val h.2.2.1 ?_
  refine mm_ev.run mm_y164 3 rfl ?_
  refine mm_ev.val (nI_1 _) ?_
  refine mm_ev.run mm_y164 2 rfl ?_
  refine mm_ev.ist mm_y164 rfl rfl rfl rfl rfl (by omega) (by decide) ?_
  refine mm_ev.run mm_y164 1 rfl ?_
  exact mm_ev.ret mm_y164 rfl rfl rfl ⟨rfl, key, hm⟩
set_option maxRecDepth 100000 in
theorem C163 (h : rPm n tx c0 a o cs μ) (ht : okT n tx) (ha : a ≤ n) (ho : o < 4) {s : Int32} (hs : s ≠ -1) : mm_call la_M (d + 1) 163 [.ref 110, .int s] μ (fun v μ' => v = some (.int (bI (pN n tx a = s))) ∧ rPm n tx c0 (if pN n tx a = s then a + 1 else a) (if pN n tx a = s then o + 1 else o) cs μ' ∧ mh (rdm c0) μ μ') := by
  refine mm_call.of mm_t163 ?_
  refine mm_ev.run mm_y163 2 rfl ?_
  refine mm_ev.val h.2.1 ?_
  refine mm_ev.run mm_y163 2 rfl ?_
  refine mm_ev.neg (fun z => by have := (nI_eq (b := 4) (by omega) (by decide)).mp z; omega) ?_
  refine mm_ev.run mm_y163 2 rfl ?_
  refine mm_ev.call mm_y163 rfl rfl rfl rfl rfl (C157 h ht ha hs) (fun v1 μ1 hq => ?_)
  obtain ⟨rfl, e1, e2⟩ := hq
  refine mm_ev.run mm_y163 1 rfl ?_
  refine mm_ev.ifb (fun h1 => ?_) (fun h1 => ?_)
  · rw [if_neg h1] at e1
    rw [if_neg h1, if_neg h1, bI_0 (p := pN n tx a = s) h1]
    refine mm_ev.run mm_y163 1 rfl ?_
    exact mm_ev.ret mm_y163 rfl rfl rfl ⟨rfl, e1, e2⟩
  · rw [if_pos h1] at e1
    rw [if_pos h1, if_pos h1, bI_1 (p := pN n tx a = s) h1]
    refine mm_ev.run mm_y163 3 rfl ?_
    refine mm_ev.val e1.2.1 ?_
    refine mm_ev.run mm_y163 2 rfl ?_
    refine mm_ev.val (nI_1 o) ?_
    refine mm_ev.run mm_y163 2 rfl ?_
    exact mm_ev.ret mm_y163 rfl rfl rfl ⟨rfl, e1.so, e2.sU (Or.inl ⟨rfl, Or.inl ⟨by decide, by decide⟩⟩) rfl⟩
set_option maxRecDepth 100000 in
theorem C163_4 (h : rPm n tx c0 a 4 cs μ) (s : Int32) : mm_call la_M d 163 [.ref 110, .int s] μ (fun v μ' => v = some (.int 0) ∧ μ' = μ) := by
  refine mm_call.of mm_t163 ?_
  refine mm_ev.run mm_y163 2 rfl ?_
  refine mm_ev.val h.2.1 ?_
  refine mm_ev.run mm_y163 2 rfl ?_
  refine mm_ev.pos rfl ?_
  refine mm_ev.run mm_y163 1 rfl ?_
  exact mm_ev.ret mm_y163 rfl rfl rfl ⟨rfl, rfl⟩
set_option maxRecDepth 100000 in
theorem C165_a (ht : okT n tx) (ha : a ≤ n) (h : rPm n tx c0 a o cs μ) {Φ : Option Value → mm_M → Prop} (K : mm_ev la_M (d + 4) 165 21 [some (.ref 110), some (.int (if pLt (pN n tx a) < 6 then nI (pLt (pN n tx a)) else -1)), none] [] μ Φ) : mm_ev la_M (d + 4) 165 0 [some (.ref 110), none, none] [] μ Φ := by
  have h100 := ht.1
  refine mm_ev.run mm_y165 2 rfl ?_
  refine mm_ev.val h.1.2.1 ?_
  refine mm_ev.run mm_y165 2 rfl ?_
  refine mm_ev.val h.1.1 ?_
  refine mm_ev.run mm_y165 1 rfl ?_
  refine mm_ev.ite (fun h1 => ?_) (fun h1 => ?_)
  · have e := (nI_leI (by omega) (by omega)).mp h1
    rw [pN_end (show ¬ a < n by omega), if_neg (by decide)] at K
    refine mm_ev.run mm_y165 2 rfl ?_
    exact K
  · have e : a < n := by
      by_cases z : a < n
      · exact z
      · exact absurd (nI_le (show n ≤ a by omega) (by omega)) h1
    obtain ⟨c, hc, ec⟩ := ht.2 a e
    have et := (h.1.2.2 a e).trans ec
    rw [show pN n tx a = nI c from (if_pos e).trans ec] at K
    refine mm_ev.run mm_y165 4 rfl ?_
    refine mm_ev.val h.1.2.1 ?_
    refine mm_ev.ild mm_y165 rfl rfl rfl rfl rfl (by omega) (by decide) et ?_
    refine mm_ev.run mm_y165 1 rfl ?_
    refine mm_ev.ite (fun h2 => ?_) (fun h2 => ?_)
    · have : c = 0 := by
        have := (nI_leI (b := 0) (by omega) (by decide)).mp h2
        omega
      subst this
      rw [if_neg (by decide)] at K
      refine mm_ev.run mm_y165 2 rfl ?_
      exact K
    · refine mm_ev.run mm_y165 5 rfl ?_
      refine mm_ev.val h.1.2.1 ?_
      refine mm_ev.ild mm_y165 rfl rfl rfl rfl rfl (by omega) (by decide) et ?_
      refine mm_ev.call mm_y165 rfl rfl rfl rfl rfl (S11M_6 hc) (fun v1 μ1 hq => ?_)
      obtain ⟨rfl, hμ⟩ := hq
      obtain rfl := hμ.symm
      refine mm_ev.run mm_y165 2 rfl ?_
      exact K
set_option maxRecDepth 100000 in
theorem C165_b (ht : okT n tx) (ha : a ≤ n) (h : rPm n tx c0 a o cs μ) {Φ : Option Value → mm_M → Prop} {x : Int32} (K : mm_ev la_M (d + 4) 165 52 [some (.ref 110), some (.int x), some (.int (if pWy (pN n tx a) < 3 then nI (pWy (pN n tx a)) else -1))] [] μ Φ) : mm_ev la_M (d + 4) 165 31 [some (.ref 110), some (.int x), none] [] μ Φ := by
  have h100 := ht.1
  refine mm_ev.run mm_y165 2 rfl ?_
  refine mm_ev.val h.1.2.1 ?_
  refine mm_ev.run mm_y165 2 rfl ?_
  refine mm_ev.val h.1.1 ?_
  refine mm_ev.run mm_y165 1 rfl ?_
  refine mm_ev.ite (fun h1 => ?_) (fun h1 => ?_)
  · have e := (nI_leI (by omega) (by omega)).mp h1
    rw [pN_end (show ¬ a < n by omega), if_neg (by decide)] at K
    refine mm_ev.run mm_y165 2 rfl ?_
    exact K
  · have e : a < n := by
      by_cases z : a < n
      · exact z
      · exact absurd (nI_le (show n ≤ a by omega) (by omega)) h1
    obtain ⟨c, hc, ec⟩ := ht.2 a e
    have et := (h.1.2.2 a e).trans ec
    rw [show pN n tx a = nI c from (if_pos e).trans ec] at K
    refine mm_ev.run mm_y165 4 rfl ?_
    refine mm_ev.val h.1.2.1 ?_
    refine mm_ev.ild mm_y165 rfl rfl rfl rfl rfl (by omega) (by decide) et ?_
    refine mm_ev.run mm_y165 1 rfl ?_
    refine mm_ev.ite (fun h2 => ?_) (fun h2 => ?_)
    · have : c = 0 := by
        have := (nI_leI (b := 0) (by omega) (by decide)).mp h2
        omega
      subst this
      rw [if_neg (by decide)] at K
      refine mm_ev.run mm_y165 2 rfl ?_
      exact K
    · refine mm_ev.run mm_y165 5 rfl ?_
      refine mm_ev.val h.1.2.1 ?_
      refine mm_ev.ild mm_y165 rfl rfl rfl rfl rfl (by omega) (by decide) et ?_
      refine mm_ev.call mm_y165 rfl rfl rfl rfl rfl (S11M_7 hc) (fun v1 μ1 hq => ?_)
      obtain ⟨rfl, hμ⟩ := hq
      obtain rfl := hμ.symm
      refine mm_ev.run mm_y165 2 rfl ?_
      exact K
set_option maxRecDepth 100000 in
theorem C165 (h : rPm n tx c0 a o cs μ) (ht : okT n tx) (ha : a ≤ n) (hc : c0 + cs.length ≤ 500 + a) : mm_call la_M (d + 4) 165 [.ref 110] μ (rQm n tx c0 o cs μ (pTs n tx a)) := by
  have h100 := ht.1
  unfold pTs
  refine mm_call.of mm_t165 ?_
  refine C165_a ht ha h ?_
  by_cases h1 : pLt (pN n tx a) < 6
  · rw [if_pos h1, if_pos h1]
    have hlt := pLt_lt h1
    refine mm_ev.run mm_y165 2 rfl ?_
    refine mm_ev.pos (nI_pos' (by omega)) ?_
    refine mm_ev.run mm_y165 3 rfl ?_
    refine mm_ev.val h.1.2.1 ?_
    refine mm_ev.run mm_y165 2 rfl ?_
    refine mm_ev.val (nI_1 a) ?_
    refine mm_ev.run mm_y165 1 rfl ?_
    refine C165_b (a := a + 1) ht hlt h.sa ?_
    by_cases h2 : pWy (pN n tx (a + 1)) < 3
    · rw [if_pos h2, if_pos h2]
      have hlt2 := pWy_lt h2
      have hM := C158 (d := d + 2) (h.sa (a' := a + 1)).sa ht (show a + 2 ≤ n by omega)
      obtain ⟨m1, m2, m3, m4⟩ := pM_le (tx := tx) (show a + 2 ≤ n by omega)
      refine mm_ev.run mm_y165 2 rfl ?_
      refine mm_ev.pos (nI_pos' (by omega)) ?_
      refine mm_ev.run mm_y165 3 rfl ?_
      refine mm_ev.val (h.sa (a' := a + 1)).1.2.1 ?_
      refine mm_ev.run mm_y165 2 rfl ?_
      refine mm_ev.val (nI_1 (a + 1)) ?_
      refine mm_ev.run mm_y165 1 rfl ?_
      have hm2 : mh (rdm c0) μ (mm_sI (mm_sI μ 110 (upd (μ.1 110) 10 (nI (a + 1)))) 110 (upd ((mm_sI μ 110 (upd (μ.1 110) 10 (nI (a + 1)))).1 110) 10 (nI (a + 1 + 1)))) := (mh.rf.sU (Or.inl ⟨rfl, Or.inl ⟨by decide, by decide⟩⟩) rfl).sU (Or.inl ⟨rfl, Or.inl ⟨by decide, by decide⟩⟩) rfl
      by_cases h3 : (pM n tx (a + 2)).1 = true
      · have m4 := m4 h3
        rw [bI_1 (p := (pM n tx (a + 2)).1 = true) h3] at hM
        rw [if_pos h3]
        refine mm_ev.run mm_y165 1 rfl ?_
        refine mm_ev.call mm_y165 rfl rfl rfl rfl rfl hM (fun v1 μ1 hq => ?_)
        obtain ⟨rfl, e1, e2, e3⟩ := hq
        refine mm_ev.run mm_y165 1 rfl ?_
        refine mm_ev.neg (by decide) ?_
        refine mm_ev.run mm_y165 12 rfl ?_
        refine mm_ev.val e2 ?_
        refine mm_ev.run mm_y165 1 rfl ?_
        refine mm_ev.val (show (3 : Int32) + 300 * nI (pLt (pN n tx a)) + 100 * nI (pWy (pN n tx (a + 1))) + nI (pM n tx (a + 2)).2.2 = nI (3 + 300 * pLt (pN n tx a) + 100 * pWy (pN n tx (a + 1)) + (pM n tx (a + 2)).2.2) from by rw [show (3 : Int32) = nI 3 from rfl, show (300 : Int32) = nI 300 from rfl, show (100 : Int32) = nI 100 from rfl, nI_mul, nI_mul, nI_add, nI_add, nI_add]) ?_
        refine mm_ev.call mm_y165 rfl rfl rfl rfl rfl (C164 e1 (by omega) _ rfl) (fun v1 μ1 hq => ?_)
        obtain ⟨rfl, k1, k2⟩ := hq
        refine mm_ev.run mm_y165 1 rfl ?_
        refine mm_ev.neg (by decide) ?_
        refine mm_ev.run mm_y165 2 rfl ?_
        exact mm_ev.ret mm_y165 rfl rfl rfl ⟨rfl, k1, (hm2.tr e3).tr k2⟩
      · rw [bI_0 (p := (pM n tx (a + 2)).1 = true) h3] at hM
        rw [if_neg h3]
        refine mm_ev.run mm_y165 1 rfl ?_
        refine mm_ev.call mm_y165 rfl rfl rfl rfl rfl hM (fun v1 μ1 hq => ?_)
        obtain ⟨rfl, e1, e2, e3⟩ := hq
        refine mm_ev.run mm_y165 1 rfl ?_
        refine mm_ev.pos rfl ?_
        refine mm_ev.run mm_y165 1 rfl ?_
        exact mm_ev.ret mm_y165 rfl rfl rfl ⟨rfl, by rw [List.append_nil]; exact e1, hm2.tr e3⟩
    · rw [if_neg h2, if_neg h2]
      refine mm_ev.run mm_y165 2 rfl ?_
      refine mm_ev.neg (by decide) ?_
      refine mm_ev.run mm_y165 1 rfl ?_
      exact mm_ev.ret mm_y165 rfl rfl rfl ⟨rfl, by rw [List.append_nil]; exact h.sa, mh.rf.sU (Or.inl ⟨rfl, Or.inl ⟨by decide, by decide⟩⟩) rfl⟩
  · rw [if_neg h1, if_neg h1]
    refine mm_ev.run mm_y165 2 rfl ?_
    refine mm_ev.neg (by decide) ?_
    refine mm_ev.run mm_y165 1 rfl ?_
    exact mm_ev.ret mm_y165 rfl rfl rfl ⟨rfl, by rw [List.append_nil]; exact h, mh.rf⟩
set_option maxRecDepth 100000 in
theorem C161_l (ht : okT n tx) {f : Nat → pZ} {hh : Nat} (hG : pG n hh f) (hf : ∀ a cs μ1, a ≤ n → c0 + cs.length ≤ 500 + a → rPm n tx c0 a o cs μ1 → mm_call la_M d 162 [.ref 110] μ1 (rQm n tx c0 o cs μ1 (f a))) : ∀ m a cs μ1, n ≤ a + m → a ≤ n → c0 + cs.length ≤ 500 + a → rPm n tx c0 a o cs μ1 → mh (rdm c0) μ μ1 → mm_ev la_M (d + 1) 161 5 [some (.ref 110)] [] μ1 (rQm n tx c0 o cs μ (pLp n tx f 38 1 m a)) := by
  intro m
  have h100 := ht.1
  induction m with
  | zero =>
    intro a cs μ1 hi ha hc h hm
    rw [show pLp n tx f 38 1 0 a = (true, a, []) from rfl]
    have e : ¬ pN n tx a = 38 := fun z => by
      have := pN_lt z (by decide)
      omega
    have K := C157 (d := d) h ht ha (s := 38) (by decide)
    rw [bI_0 (p := pN n tx a = 38) e, if_neg e] at K
    refine mm_ev.run mm_y161 2 rfl ?_
    refine mm_ev.call mm_y161 rfl rfl rfl rfl rfl K (fun v1 μ1 hq => ?_)
    obtain ⟨rfl, e1, e2⟩ := hq
    refine mm_ev.run mm_y161 1 rfl ?_
    refine mm_ev.pos rfl ?_
    refine mm_ev.run mm_y161 1 rfl ?_
    exact mm_ev.ret mm_y161 rfl rfl rfl ⟨rfl, by rw [List.append_nil]; exact e1, hm.tr e2⟩
  | succ m ih =>
    intro a cs μ1 hi ha hc h hm
    rw [pLp_s]
    have K := C157 (d := d) h ht ha (s := 38) (by decide)
    by_cases h1 : pN n tx a = 38
    · have hlt := pN_lt h1 (by decide)
      rw [bI_1 (p := pN n tx a = 38) h1, if_pos h1] at K
      rw [if_pos h1]
      obtain ⟨g1, g2, g3, g4⟩ := hG (a + 1) hlt
      refine mm_ev.run mm_y161 2 rfl ?_
      refine mm_ev.call mm_y161 rfl rfl rfl rfl rfl K (fun v1 μ1 hq => ?_)
      obtain ⟨rfl, e1, e2⟩ := hq
      refine mm_ev.run mm_y161 1 rfl ?_
      refine mm_ev.neg (by decide) ?_
      have hF := hf (a + 1) cs _ hlt (by omega) e1
      unfold rQm at hF
      by_cases h2 : (f (a + 1)).1 = true
      · rw [if_pos h2]
        rw [bI_1 (p := (f (a + 1)).1 = true) h2] at hF
        refine mm_ev.run mm_y161 1 rfl ?_
        refine mm_ev.call mm_y161 rfl rfl rfl rfl rfl hF (fun v1 μ1 hq => ?_)
        obtain ⟨rfl, e3, e4⟩ := hq
        refine mm_ev.run mm_y161 1 rfl ?_
        refine mm_ev.neg (by decide) ?_
        have hl : c0 + (cs ++ (f (a + 1)).2.2).length < 600 := by rw [List.length_append]; omega
        refine mm_ev.run mm_y161 2 rfl ?_
        refine mm_ev.call mm_y161 rfl rfl rfl rfl rfl (C164 e3 hl 1 rfl) (fun v1 μ1 hq => ?_)
        obtain ⟨rfl, k1, k2⟩ := hq
        refine mm_ev.run mm_y161 1 rfl ?_
        refine mm_ev.neg (by decide) ?_
        have hl2 : c0 + (cs ++ (f (a + 1)).2.2 ++ [1]).length ≤ 500 + (f (a + 1)).2.1 := by rw [List.length_append, List.length_append, List.length_singleton]; omega
        have fin := ih _ _ _ (by omega) g2 hl2 k1 (((hm.tr e2).tr e4).tr k2)
        unfold rQm at fin
        rw [List.append_assoc, List.append_assoc] at fin
        exact fin
      · rw [if_neg h2]
        rw [bI_0 (p := (f (a + 1)).1 = true) h2] at hF
        refine mm_ev.run mm_y161 1 rfl ?_
        refine mm_ev.call mm_y161 rfl rfl rfl rfl rfl hF (fun v1 μ1 hq => ?_)
        obtain ⟨rfl, e3, e4⟩ := hq
        refine mm_ev.run mm_y161 1 rfl ?_
        refine mm_ev.pos rfl ?_
        refine mm_ev.run mm_y161 1 rfl ?_
        exact mm_ev.ret mm_y161 rfl rfl rfl ⟨rfl, e3, (hm.tr e2).tr e4⟩
    · rw [bI_0 (p := pN n tx a = 38) h1, if_neg h1] at K
      rw [if_neg h1]
      refine mm_ev.run mm_y161 2 rfl ?_
      refine mm_ev.call mm_y161 rfl rfl rfl rfl rfl K (fun v1 μ1 hq => ?_)
      obtain ⟨rfl, e1, e2⟩ := hq
      refine mm_ev.run mm_y161 1 rfl ?_
      refine mm_ev.pos rfl ?_
      refine mm_ev.run mm_y161 1 rfl ?_
      exact mm_ev.ret mm_y161 rfl rfl rfl ⟨rfl, by rw [List.append_nil]; exact e1, hm.tr e2⟩
set_option maxRecDepth 100000 in
theorem C161 (ht : okT n tx) {f : Nat → pZ} {hh : Nat} (hG : pG n hh f) (hf : ∀ a cs μ1, a ≤ n → c0 + cs.length ≤ 500 + a → rPm n tx c0 a o cs μ1 → mm_call la_M d 162 [.ref 110] μ1 (rQm n tx c0 o cs μ1 (f a))) : ∀ a cs μ1, a ≤ n → c0 + cs.length ≤ 500 + a → rPm n tx c0 a o cs μ1 → mm_call la_M (d + 1) 161 [.ref 110] μ1 (rQm n tx c0 o cs μ1 (pJ n tx f 38 1 a)) := by
  intro a cs μ ha hc h
  have h100 := ht.1
  have hF := hf a cs μ ha hc h
  obtain ⟨g1, g2, g3, g4⟩ := hG a ha
  unfold pJ
  unfold rQm at hF
  by_cases h2 : (f a).1 = true
  · rw [if_pos h2]
    rw [bI_1 (p := (f a).1 = true) h2] at hF
    refine mm_call.of mm_t161 ?_
    refine mm_ev.run mm_y161 1 rfl ?_
    refine mm_ev.call mm_y161 rfl rfl rfl rfl rfl hF (fun v1 μ1 hq => ?_)
    obtain ⟨rfl, e1, e2⟩ := hq
    refine mm_ev.run mm_y161 1 rfl ?_
    refine mm_ev.neg (by decide) ?_
    have hl : c0 + (cs ++ (f a).2.2).length ≤ 500 + (f a).2.1 := by rw [List.length_append]; omega
    have fin := C161_l (μ := μ) ht hG hf 100 (f a).2.1 _ _ (by omega) g2 hl e1 e2
    unfold rQm at fin
    rw [List.append_assoc] at fin
    exact fin
  · rw [if_neg h2]
    rw [bI_0 (p := (f a).1 = true) h2] at hF
    refine mm_call.of mm_t161 ?_
    refine mm_ev.run mm_y161 1 rfl ?_
    refine mm_ev.call mm_y161 rfl rfl rfl rfl rfl hF (fun v1 μ1 hq => ?_)
    obtain ⟨rfl, e1, e2⟩ := hq
    refine mm_ev.run mm_y161 1 rfl ?_
    refine mm_ev.pos rfl ?_
    refine mm_ev.run mm_y161 1 rfl ?_
    exact mm_ev.ret mm_y161 rfl rfl rfl ⟨rfl, e1, e2⟩
set_option maxRecDepth 100000 in
theorem C160_l (ht : okT n tx) {f : Nat → pZ} {hh : Nat} (hG : pG n hh f) (hf : ∀ a cs μ1, a ≤ n → c0 + cs.length ≤ 500 + a → rPm n tx c0 a o cs μ1 → mm_call la_M d 161 [.ref 110] μ1 (rQm n tx c0 o cs μ1 (f a))) : ∀ m a cs μ1, n ≤ a + m → a ≤ n → c0 + cs.length ≤ 500 + a → rPm n tx c0 a o cs μ1 → mh (rdm c0) μ μ1 → mm_ev la_M (d + 1) 160 5 [some (.ref 110)] [] μ1 (rQm n tx c0 o cs μ (pLp n tx f 124 2 m a)) := by
  intro m
  have h100 := ht.1
  induction m with
  | zero =>
    intro a cs μ1 hi ha hc h hm
    rw [show pLp n tx f 124 2 0 a = (true, a, []) from rfl]
    have e : ¬ pN n tx a = 124 := fun z => by
      have := pN_lt z (by decide)
      omega
    have K := C157 (d := d) h ht ha (s := 124) (by decide)
    rw [bI_0 (p := pN n tx a = 124) e, if_neg e] at K
    refine mm_ev.run mm_y160 2 rfl ?_
    refine mm_ev.call mm_y160 rfl rfl rfl rfl rfl K (fun v1 μ1 hq => ?_)
    obtain ⟨rfl, e1, e2⟩ := hq
    refine mm_ev.run mm_y160 1 rfl ?_
    refine mm_ev.pos rfl ?_
    refine mm_ev.run mm_y160 1 rfl ?_
    exact mm_ev.ret mm_y160 rfl rfl rfl ⟨rfl, by rw [List.append_nil]; exact e1, hm.tr e2⟩
  | succ m ih =>
    intro a cs μ1 hi ha hc h hm
    rw [pLp_s]
    have K := C157 (d := d) h ht ha (s := 124) (by decide)
    by_cases h1 : pN n tx a = 124
    · have hlt := pN_lt h1 (by decide)
      rw [bI_1 (p := pN n tx a = 124) h1, if_pos h1] at K
      rw [if_pos h1]
      obtain ⟨g1, g2, g3, g4⟩ := hG (a + 1) hlt
      refine mm_ev.run mm_y160 2 rfl ?_
      refine mm_ev.call mm_y160 rfl rfl rfl rfl rfl K (fun v1 μ1 hq => ?_)
      obtain ⟨rfl, e1, e2⟩ := hq
      refine mm_ev.run mm_y160 1 rfl ?_
      refine mm_ev.neg (by decide) ?_
      have hF := hf (a + 1) cs _ hlt (by omega) e1
      unfold rQm at hF
      by_cases h2 : (f (a + 1)).1 = true
      · rw [if_pos h2]
        rw [bI_1 (p := (f (a + 1)).1 = true) h2] at hF
        refine mm_ev.run mm_y160 1 rfl ?_
        refine mm_ev.call mm_y160 rfl rfl rfl rfl rfl hF (fun v1 μ1 hq => ?_)
        obtain ⟨rfl, e3, e4⟩ := hq
        refine mm_ev.run mm_y160 1 rfl ?_
        refine mm_ev.neg (by decide) ?_
        have hl : c0 + (cs ++ (f (a + 1)).2.2).length < 600 := by rw [List.length_append]; omega
        refine mm_ev.run mm_y160 2 rfl ?_
        refine mm_ev.call mm_y160 rfl rfl rfl rfl rfl (C164 e3 hl 2 rfl) (fun v1 μ1 hq => ?_)
        obtain ⟨rfl, k1, k2⟩ := hq
        refine mm_ev.run mm_y160 1 rfl ?_
        refine mm_ev.neg (by decide) ?_
        have hl2 : c0 + (cs ++ (f (a + 1)).2.2 ++ [2]).length ≤ 500 + (f (a + 1)).2.1 := by rw [List.length_append, List.length_append, List.length_singleton]; omega
        have fin := ih _ _ _ (by omega) g2 hl2 k1 (((hm.tr e2).tr e4).tr k2)
        unfold rQm at fin
        rw [List.append_assoc, List.append_assoc] at fin
        exact fin
      · rw [if_neg h2]
        rw [bI_0 (p := (f (a + 1)).1 = true) h2] at hF
        refine mm_ev.run mm_y160 1 rfl ?_
        refine mm_ev.call mm_y160 rfl rfl rfl rfl rfl hF (fun v1 μ1 hq => ?_)
        obtain ⟨rfl, e3, e4⟩ := hq
        refine mm_ev.run mm_y160 1 rfl ?_
        refine mm_ev.pos rfl ?_
        refine mm_ev.run mm_y160 1 rfl ?_
        exact mm_ev.ret mm_y160 rfl rfl rfl ⟨rfl, e3, (hm.tr e2).tr e4⟩
    · rw [bI_0 (p := pN n tx a = 124) h1, if_neg h1] at K
      rw [if_neg h1]
      refine mm_ev.run mm_y160 2 rfl ?_
      refine mm_ev.call mm_y160 rfl rfl rfl rfl rfl K (fun v1 μ1 hq => ?_)
      obtain ⟨rfl, e1, e2⟩ := hq
      refine mm_ev.run mm_y160 1 rfl ?_
      refine mm_ev.pos rfl ?_
      refine mm_ev.run mm_y160 1 rfl ?_
      exact mm_ev.ret mm_y160 rfl rfl rfl ⟨rfl, by rw [List.append_nil]; exact e1, hm.tr e2⟩
set_option maxRecDepth 100000 in
theorem C160 (ht : okT n tx) {f : Nat → pZ} {hh : Nat} (hG : pG n hh f) (hf : ∀ a cs μ1, a ≤ n → c0 + cs.length ≤ 500 + a → rPm n tx c0 a o cs μ1 → mm_call la_M d 161 [.ref 110] μ1 (rQm n tx c0 o cs μ1 (f a))) : ∀ a cs μ1, a ≤ n → c0 + cs.length ≤ 500 + a → rPm n tx c0 a o cs μ1 → mm_call la_M (d + 1) 160 [.ref 110] μ1 (rQm n tx c0 o cs μ1 (pJ n tx f 124 2 a)) := by
  intro a cs μ ha hc h
  have h100 := ht.1
  have hF := hf a cs μ ha hc h
  obtain ⟨g1, g2, g3, g4⟩ := hG a ha
  unfold pJ
  unfold rQm at hF
  by_cases h2 : (f a).1 = true
  · rw [if_pos h2]
    rw [bI_1 (p := (f a).1 = true) h2] at hF
    refine mm_call.of mm_t160 ?_
    refine mm_ev.run mm_y160 1 rfl ?_
    refine mm_ev.call mm_y160 rfl rfl rfl rfl rfl hF (fun v1 μ1 hq => ?_)
    obtain ⟨rfl, e1, e2⟩ := hq
    refine mm_ev.run mm_y160 1 rfl ?_
    refine mm_ev.neg (by decide) ?_
    have hl : c0 + (cs ++ (f a).2.2).length ≤ 500 + (f a).2.1 := by rw [List.length_append]; omega
    have fin := C160_l (μ := μ) ht hG hf 100 (f a).2.1 _ _ (by omega) g2 hl e1 e2
    unfold rQm at fin
    rw [List.append_assoc] at fin
    exact fin
  · rw [if_neg h2]
    rw [bI_0 (p := (f a).1 = true) h2] at hF
    refine mm_call.of mm_t160 ?_
    refine mm_ev.run mm_y160 1 rfl ?_
    refine mm_ev.call mm_y160 rfl rfl rfl rfl rfl hF (fun v1 μ1 hq => ?_)
    obtain ⟨rfl, e1, e2⟩ := hq
    refine mm_ev.run mm_y160 1 rfl ?_
    refine mm_ev.pos rfl ?_
    refine mm_ev.run mm_y160 1 rfl ?_
    exact mm_ev.ret mm_y160 rfl rfl rfl ⟨rfl, e1, e2⟩
set_option maxRecDepth 100000 in
theorem C162 (ht : okT n tx) : ∀ r d o a cs μ, o + r = 4 → a ≤ n → c0 + cs.length ≤ 500 + a → rPm n tx c0 a o cs μ → mm_call la_M (d + 5 + 3 * r) 162 [.ref 110] μ (rQm n tx c0 o cs μ (pF n tx r a)) := by
  have h100 := ht.1
  intro r
  induction r with
  | zero =>
    intro d o a cs μ hd ha hc h
    have hd : o = 4 := by omega
    subst hd
    show mm_call la_M (d + 4 + 1) 162 _ _ _
    rw [show pF n tx 0 a = pTs n tx a from rfl]
    refine mm_call.of mm_t162 ?_
    refine mm_ev.run mm_y162 2 rfl ?_
    refine mm_ev.call mm_y162 rfl rfl rfl rfl rfl (C163_4 h 33) (fun v1 μ1 hq => ?_)
    obtain ⟨rfl, hμ⟩ := hq
    obtain rfl := hμ.symm
    refine mm_ev.run mm_y162 1 rfl ?_
    refine mm_ev.pos rfl ?_
    refine mm_ev.run mm_y162 2 rfl ?_
    refine mm_ev.call mm_y162 rfl rfl rfl rfl rfl (C163_4 h 40) (fun v1 μ1 hq => ?_)
    obtain ⟨rfl, hμ⟩ := hq
    obtain rfl := hμ.symm
    refine mm_ev.run mm_y162 1 rfl ?_
    refine mm_ev.pos rfl ?_
    refine mm_ev.run mm_y162 1 rfl ?_
    refine mm_ev.call mm_y162 rfl rfl rfl rfl rfl (C165 (d := d) h ht ha hc) (fun v1 μ1 hq => ?_)
    obtain ⟨rfl, e1, e2⟩ := hq
    exact mm_ev.ret mm_y162 rfl rfl mm_retb ⟨rfl, e1, e2⟩
  | succ r ih =>
    intro d o a cs μ hd ha hc h
    rw [show d + 5 + 3 * (r + 1) = (d + 5 + 3 * r + 2) + 1 by omega, pF_s]
    have K := C163 (d := d + 5 + 3 * r + 1) h ht ha (show o < 4 by omega) (s := 33) (by decide)
    have back : ∀ {p : Prop} [Decidable p] {a' cs' μ1}, rPm n tx c0 a' (o + 1) cs' μ1 → mh (rdm c0) μ μ1 → mm_ev la_M (d + 5 + 3 * r + 2 + 1) 162 35 [some (.ref 110), some (.int (bI p))] [] μ1 (fun v μ' => v = some (.int (bI p)) ∧ rPm n tx c0 a' o cs' μ' ∧ mh (rdm c0) μ μ') := by
      intro p _ a' cs' μ1 e1 e2
      refine mm_ev.run mm_y162 3 rfl ?_
      refine mm_ev.val e1.2.1 ?_
      refine mm_ev.run mm_y162 2 rfl ?_
      refine mm_ev.val (nI_pred o) ?_
      refine mm_ev.run mm_y162 2 rfl ?_
      exact mm_ev.ret mm_y162 rfl rfl mm_retb ⟨rfl, e1.so, e2.sU (Or.inl ⟨rfl, Or.inl ⟨by decide, by decide⟩⟩) rfl⟩
    by_cases h1 : pN n tx a = 33
    · have hlt := pN_lt h1 (by decide)
      rw [bI_1 (p := pN n tx a = 33) h1, if_pos h1, if_pos h1] at K
      rw [if_pos h1]
      obtain ⟨g1, g2, g3, g4⟩ := pF_G (tx := tx) r (a + 1) hlt
      refine mm_call.of mm_t162 ?_
      refine mm_ev.run mm_y162 2 rfl ?_
      refine mm_ev.call mm_y162 rfl rfl rfl rfl rfl K (fun v1 μ1 hq => ?_)
      obtain ⟨rfl, e1, e2⟩ := hq
      refine mm_ev.run mm_y162 1 rfl ?_
      refine mm_ev.neg (by decide) ?_
      have hF := (ih d (o + 1) (a + 1) cs _ (by omega) hlt (by omega) e1).deep (show d + 5 + 3 * r ≤ d + 5 + 3 * r + 2 by omega)
      unfold rQm at hF
      by_cases h2 : (pF n tx r (a + 1)).1 = true
      · rw [if_pos h2]
        rw [bI_1 (p := (pF n tx r (a + 1)).1 = true) h2] at hF
        refine mm_ev.run mm_y162 1 rfl ?_
        refine mm_ev.call mm_y162 rfl rfl rfl rfl rfl hF (fun v1 μ1 hq => ?_)
        obtain ⟨rfl, e3, e4⟩ := hq
        refine mm_ev.run mm_y162 1 rfl ?_
        refine mm_ev.neg (by decide) ?_
        have hl : c0 + (cs ++ (pF n tx r (a + 1)).2.2).length < 600 := by rw [List.length_append]; omega
        refine mm_ev.run mm_y162 2 rfl ?_
        refine mm_ev.call mm_y162 rfl rfl rfl rfl rfl (C164 e3 hl 0 rfl) (fun v1 μ1 hq => ?_)
        obtain ⟨rfl, k1, k2⟩ := hq
        refine mm_ev.run mm_y162 1 rfl ?_
        refine mm_ev.neg (by decide) ?_
        have fin := back (p := (true, (pF n tx r (a + 1)).2.1, (pF n tx r (a + 1)).2.2 ++ [0]).1 = true) k1 ((e2.tr e4).tr k2)
        refine mm_ev.run mm_y162 4 rfl ?_
        rw [List.append_assoc] at fin
        exact fin
      · rw [if_neg h2]
        rw [bI_0 (p := (pF n tx r (a + 1)).1 = true) h2] at hF
        refine mm_ev.run mm_y162 1 rfl ?_
        refine mm_ev.call mm_y162 rfl rfl rfl rfl rfl hF (fun v1 μ1 hq => ?_)
        obtain ⟨rfl, e3, e4⟩ := hq
        refine mm_ev.run mm_y162 1 rfl ?_
        refine mm_ev.pos rfl ?_
        refine mm_ev.run mm_y162 3 rfl ?_
        exact back (p := (false, (pF n tx r (a + 1)).2.1, (pF n tx r (a + 1)).2.2).1 = true) e3 (e2.tr e4)
    · rw [bI_0 (p := pN n tx a = 33) h1, if_neg h1, if_neg h1] at K
      rw [if_neg h1]
      refine mm_call.of mm_t162 ?_
      refine mm_ev.run mm_y162 2 rfl ?_
      refine mm_ev.call mm_y162 rfl rfl rfl rfl rfl K (fun v1 μ1 hq => ?_)
      obtain ⟨rfl, e1, e2⟩ := hq
      refine mm_ev.run mm_y162 1 rfl ?_
      refine mm_ev.pos rfl ?_
      have K := C163 (d := d + 5 + 3 * r + 1) e1 ht ha (show o < 4 by omega) (s := 40) (by decide)
      by_cases h2 : pN n tx a = 40
      · have hlt := pN_lt h2 (by decide)
        rw [bI_1 (p := pN n tx a = 40) h2, if_pos h2, if_pos h2] at K
        rw [if_pos h2]
        refine mm_ev.run mm_y162 2 rfl ?_
        refine mm_ev.call mm_y162 rfl rfl rfl rfl rfl K (fun v1 μ1 hq => ?_)
        obtain ⟨rfl, e3, e4⟩ := hq
        refine mm_ev.run mm_y162 1 rfl ?_
        refine mm_ev.neg (by decide) ?_
        have hG := pF_G (n := n) (tx := tx) r
        have hF1 := fun a cs μ1 (ha : a ≤ n) (hc : c0 + cs.length ≤ 500 + a) (h : rPm n tx c0 a (o + 1) cs μ1) => ih d (o + 1) a cs μ1 (by omega) ha hc h
        have hF := C160 ht (pJ_G hG (by decide) (Or.inl rfl)) (C161 ht hG hF1) (a + 1) cs _ hlt (by omega) e3
        obtain ⟨g1, g2, g3, g4⟩ := pE_G (tx := tx) hG (a + 1) hlt
        have eE : pJ n tx (pJ n tx (pF n tx r) 38 1) 124 2 (a + 1) = pE n tx (pF n tx r) (a + 1) := rfl
        rw [eE] at hF
        unfold rQm at hF
        by_cases h3 : (pE n tx (pF n tx r) (a + 1)).1 = true
        · rw [if_pos h3]
          rw [bI_1 (p := (pE n tx (pF n tx r) (a + 1)).1 = true) h3] at hF
          refine mm_ev.run mm_y162 1 rfl ?_
          refine mm_ev.call mm_y162 rfl rfl rfl rfl rfl hF (fun v1 μ1 hq => ?_)
          obtain ⟨rfl, e5, e6⟩ := hq
          refine mm_ev.run mm_y162 1 rfl ?_
          refine mm_ev.neg (by decide) ?_
          refine mm_ev.run mm_y162 2 rfl ?_
          refine mm_ev.call mm_y162 rfl rfl rfl rfl rfl (C157 e5 ht g2 (s := 41) (by decide)) (fun v1 μ1 hq => ?_)
          obtain ⟨rfl, k1, k2⟩ := hq
          refine mm_ev.run mm_y162 1 rfl ?_
          refine mm_ev.ifb (fun h4 => ?_) (fun h4 => ?_)
          · rw [if_neg h4] at k1 ⊢
            refine mm_ev.run mm_y162 3 rfl ?_
            exact back (p := (false, (pE n tx (pF n tx r) (a + 1)).2.1, (pE n tx (pF n tx r) (a + 1)).2.2).1 = true) k1 (((e2.tr e4).tr e6).tr k2)
          · rw [if_pos h4] at k1 ⊢
            refine mm_ev.run mm_y162 4 rfl ?_
            exact back (p := (true, (pE n tx (pF n tx r) (a + 1)).2.1 + 1, (pE n tx (pF n tx r) (a + 1)).2.2).1 = true) k1 (((e2.tr e4).tr e6).tr k2)
        · rw [if_neg h3]
          rw [bI_0 (p := (pE n tx (pF n tx r) (a + 1)).1 = true) h3] at hF
          refine mm_ev.run mm_y162 1 rfl ?_
          refine mm_ev.call mm_y162 rfl rfl rfl rfl rfl hF (fun v1 μ1 hq => ?_)
          obtain ⟨rfl, e5, e6⟩ := hq
          refine mm_ev.run mm_y162 1 rfl ?_
          refine mm_ev.pos rfl ?_
          refine mm_ev.run mm_y162 3 rfl ?_
          exact back (p := (false, (pE n tx (pF n tx r) (a + 1)).2.1, (pE n tx (pF n tx r) (a + 1)).2.2).1 = true) e5 ((e2.tr e4).tr e6)
      · rw [bI_0 (p := pN n tx a = 40) h2, if_neg h2, if_neg h2] at K
        rw [if_neg h2]
        refine mm_ev.run mm_y162 2 rfl ?_
        refine mm_ev.call mm_y162 rfl rfl rfl rfl rfl K (fun v1 μ1 hq => ?_)
        obtain ⟨rfl, e3, e4⟩ := hq
        refine mm_ev.run mm_y162 1 rfl ?_
        refine mm_ev.pos rfl ?_
        refine mm_ev.run mm_y162 1 rfl ?_
        refine mm_ev.call mm_y162 rfl rfl rfl rfl rfl ((C165 (d := d) e3 ht ha hc).deep (by omega)) (fun v1 μ1 hq => ?_)
        obtain ⟨rfl, e5, e6⟩ := hq
        exact mm_ev.ret mm_y162 rfl rfl mm_retb ⟨rfl, e5, (e2.tr e4).tr e6⟩
end
