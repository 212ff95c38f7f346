/-! THE REFERENCE'S ACTS -/
def ac_R (c K : Nat) (v : Int32) (r : Nat) (f : Nat → Int32) (μ : mm_M) : Prop := μ.1 110 34 = nI r ∧ (∀ j, j < r → μ.1 132 j = f j) ∧ μ.1 112 c = nI K ∧ μ.1 113 c = v
abbrev am (c j : Nat) : Prop := c = 132 ∨ (c = 110 ∧ j = 34)
abbrev ac_N (c K : Nat) (v : Int32) (r : Nat) (f : Nat → Int32) (μ : mm_M) (z : Int32 × List Nat) (u : Option Value) (μ' : mm_M) : Prop := u = some (.int z.1) ∧ ac_R c K v (r + z.2.length) (ac_F f r z.2) μ' ∧ mh am μ μ'
section
variable {c K r : Nat} {v : Int32} {f g : Nat → Int32} {μ : mm_M} {l m : List Nat}
theorem ac_R.co (h : ac_R c K v r f μ) (e : ∀ j, j < r → f j = g j) : ac_R c K v r g μ := ⟨h.1, fun j hj => (h.2.1 j hj).trans (e j hj), h.2.2⟩
theorem ac_R.nil (h : ac_R c K v r f μ) : ac_R c K v r (ac_F f r []) μ := h.co (fun j hj => (if_pos hj).symm)
theorem ac_R.app (h : ac_R c K v (r + l.length + m.length) (ac_F (ac_F f r l) (r + l.length) m) μ) : ac_R c K v (r + (l ++ m).length) (ac_F f r (l ++ m)) μ := by
  rw [List.length_append, ← Nat.add_assoc]
  exact h.co (ac_F_F f r l m)
end
section
variable {d : Nat} {μ : mm_M} {c K r : Nat} {v x : Int32} {f : Nat → Int32} {k : Nat}
set_option maxRecDepth 100000 in
theorem C190 (h : ac_R c K v r f μ) (hr : r < 20) {b : Int32} {bb : Nat} (hb : b = nI bb) : mm_call la_M d 190 [.ref 110, .int b] μ (fun u μ' => u = none ∧ ac_R c K v (r + 1) (ac_F f r [bb]) μ' ∧ mh am μ μ') := by
  have hC2 : ac_R c K v (r + 1) (ac_F f r [bb]) (mm_sI (mm_sI μ 132 (upd (μ.1 132) r b)) 110 (upd (μ.1 110) 34 (nI (r + 1)))) := by
    obtain ⟨c1, c5, c3, c4⟩ := h
    refine ⟨by rw [sI_eq, upd_eq], fun j hj => ?_, c3, c4⟩
    show upd (μ.1 132) r b j = _
    unfold ac_F
    by_cases e : j = r
    · subst e
      rw [upd_eq, if_neg (by omega), Nat.sub_self, hb]
      rfl
    · rw [upd_ne e, if_pos (by omega)]
      exact c5 j (by omega)
  have hm : mh am μ (mm_sI (mm_sI μ 132 (upd (μ.1 132) r b)) 110 (upd (μ.1 110) 34 (nI (r + 1)))) := (mh.rf.sI (fun _ => Or.inl rfl)).sU (Or.inr ⟨rfl, rfl⟩) rfl
  refine mm_call.of mm_t190 ?_
  refine mm_ev.run mm_y190 2 rfl ?_
  refine mm_ev.val h.1 ?_
  refine mm_ev.run mm_y190 2 rfl ?_
  refine mm_ev.neg (nI_ge (b := 20) hr (by decide)) ?_
  refine mm_ev.run mm_y190 4 rfl ?_
  refine mm_ev.val h.1 ?_
  refine mm_ev.run mm_y190 1 rfl ?_
  refine mm_ev.ist mm_y190 rfl rfl rfl rfl rfl (by omega) (by decide) ?_
  refine mm_ev.run mm_y190 3 rfl ?_
  refine mm_ev.val h.1 ?_
  refine mm_ev.run mm_y190 2 rfl ?_
  refine mm_ev.val (nI_1 r) ?_
  refine mm_ev.run mm_y190 1 rfl ?_
  exact mm_ev.ret mm_y190 rfl rfl rfl ⟨rfl, hC2, hm⟩
set_option maxRecDepth 100000 in
theorem MP0 (h : ac_R c K v r f μ) (hr : r < 20) : mm_call la_M (d + 1) 189 [.ref 110, .int (nI c), .int (nI 0), .int x] μ (ac_N c K v r f μ (x + nI c, [10])) := by
  refine mm_call.of mm_t189 ?_
  refine mm_ev.run mm_y189 2 rfl ?_
  refine mm_ev.run mm_y189 2 rfl ?_
  refine mm_ev.call mm_y189 rfl rfl rfl rfl rfl (C190 h hr (bb := 10) rfl) (fun v1 μ1 hq => ?_)
  obtain ⟨rfl, e1, e2⟩ := hq
  refine mm_ev.run mm_y189 3 rfl ?_
  exact mm_ev.ret mm_y189 rfl rfl rfl ⟨rfl, e1, e2⟩
set_option maxRecDepth 100000 in
theorem MP1 (hk : k = 1 ∨ k = 3) (h : ac_R c K v r f μ) (hr : r < 20) : mm_call la_M (d + 2) 189 [.ref 110, .int (nI c), .int (nI k), .int x] μ (ac_N c K v r f μ (x + nI c, [10])) := by
  have K1 := C191 (Λ := la_M) (d := d + 1) (μ := μ) (show k < 7 by omega)
  have e : ac_up k = 0 := by unfold ac_up; rw [if_pos (by omega)]
  rw [e] at K1
  rcases hk with rfl | rfl
  ·
    refine mm_call.of mm_t189 ?_
    refine mm_ev.run mm_y189 2 rfl ?_
    refine mm_ev.run mm_y189 3 rfl ?_
    refine mm_ev.call mm_y189 rfl rfl rfl rfl rfl K1 (fun v1 μ1 hq => ?_)
    obtain ⟨rfl, hμ⟩ := hq
    obtain rfl := hμ.symm
    refine mm_ev.run mm_y189 1 rfl ?_
    refine mm_ev.call mm_y189 rfl rfl rfl rfl rfl (MP0 (d := d) h hr) (fun v1 μ1 hq => ?_)
    obtain ⟨rfl, e1, e2⟩ := hq
    exact mm_ev.ret mm_y189 rfl rfl rfl ⟨rfl, e1, e2⟩
  ·
    refine mm_call.of mm_t189 ?_
    refine mm_ev.run mm_y189 2 rfl ?_
    refine mm_ev.run mm_y189 3 rfl ?_
    refine mm_ev.call mm_y189 rfl rfl rfl rfl rfl K1 (fun v1 μ1 hq => ?_)
    obtain ⟨rfl, hμ⟩ := hq
    obtain rfl := hμ.symm
    refine mm_ev.run mm_y189 1 rfl ?_
    refine mm_ev.call mm_y189 rfl rfl rfl rfl rfl (MP0 (d := d) h hr) (fun v1 μ1 hq => ?_)
    obtain ⟨rfl, e1, e2⟩ := hq
    exact mm_ev.ret mm_y189 rfl rfl rfl ⟨rfl, e1, e2⟩
set_option maxRecDepth 100000 in
theorem MP2 (h : ac_R c K v r f μ) (hr : r + 1 < 20) : mm_call la_M (d + 2) 189 [.ref 110, .int (nI c), .int (nI 2), .int x] μ (ac_N c K v r f μ (x * 3 + nI c, [30, 10])) := by
  refine mm_call.of mm_t189 ?_
  refine mm_ev.run mm_y189 2 rfl ?_
  refine mm_ev.run mm_y189 2 rfl ?_
  refine mm_ev.call mm_y189 rfl rfl rfl rfl rfl (C190 h (by omega) (bb := 30) rfl) (fun v1 μ1 hq => ?_)
  obtain ⟨rfl, e1, e2⟩ := hq
  refine mm_ev.run mm_y189 6 rfl ?_
  refine mm_ev.call mm_y189 rfl rfl rfl rfl rfl (MP0 (d := d) e1 hr) (fun v1 μ1 hq => ?_)
  obtain ⟨rfl, e3, e4⟩ := hq
  exact mm_ev.ret mm_y189 rfl rfl rfl ⟨rfl, ac_R.app (l := [30]) (m := [10]) e3, e2.tr e4⟩
set_option maxRecDepth 100000 in
theorem MP (hk : k < 7) (hc : c < 6) (h : ac_R c K v r f μ) (hr : r + 1 < 20) : mm_call la_M (d + 3) 189 [.ref 110, .int (nI c), .int (nI k), .int x] μ (ac_N c K v r f μ (ac_P (nI c) v k x)) := by
  rcases (show k = 0 ∨ k = 1 ∨ k = 2 ∨ k = 3 ∨ k = 4 ∨ k = 5 ∨ k = 6 by omega) with rfl | rfl | rfl | rfl | rfl | rfl | rfl
  · exact (MP0 (d := d) h (by omega)).deep (by omega)
  · exact (MP1 (d := d) (by decide) h (by omega)).deep (by omega)
  · exact (MP2 (d := d) h (by omega)).deep (by omega)
  · exact (MP1 (d := d) (by decide) h (by omega)).deep (by omega)
  ·
    refine mm_call.of mm_t189 ?_
    refine mm_ev.run mm_y189 2 rfl ?_
    refine mm_ev.run mm_y189 2 rfl ?_
    refine mm_ev.call mm_y189 rfl rfl rfl rfl rfl (C190 h (by omega) (bb := 50) rfl) (fun v1 μ1 hq => ?_)
    obtain ⟨rfl, e1, e2⟩ := hq
    refine mm_ev.run mm_y189 4 rfl ?_
    refine mm_ev.call mm_y189 rfl rfl rfl rfl rfl (MP1 (d := d) (k := 1) (by decide) e1 hr) (fun v1 μ1 hq => ?_)
    obtain ⟨rfl, e3, e4⟩ := hq
    refine mm_ev.run mm_y189 1 rfl ?_
    exact mm_ev.ret mm_y189 rfl rfl rfl ⟨rfl, ac_R.app (l := [50]) (m := [10]) e3, e2.tr e4⟩
  · have K1 := C191 (Λ := la_M) (d := d + 2) (μ := μ) (show 5 < 7 by omega)
    refine mm_call.of mm_t189 ?_
    refine mm_ev.run mm_y189 2 rfl ?_
    refine mm_ev.run mm_y189 3 rfl ?_
    refine mm_ev.call mm_y189 rfl rfl rfl rfl rfl K1 (fun v1 μ1 hq => ?_)
    obtain ⟨rfl, hμ⟩ := hq
    obtain rfl := hμ.symm
    refine mm_ev.run mm_y189 1 rfl ?_
    refine mm_ev.call mm_y189 rfl rfl rfl rfl rfl (MP2 (d := d) h hr) (fun v1 μ1 hq => ?_)
    obtain ⟨rfl, e1, e2⟩ := hq
    exact mm_ev.ret mm_y189 rfl rfl rfl ⟨rfl, e1, e2⟩
  ·
    refine mm_call.of mm_t189 ?_
    refine mm_ev.run mm_y189 2 rfl ?_
    refine mm_ev.run mm_y189 2 rfl ?_
    refine mm_ev.call mm_y189 rfl rfl rfl rfl rfl (C190 h (by omega) (bb := 71) rfl) (fun v1 μ1 hq => ?_)
    obtain ⟨rfl, e1, e2⟩ := hq
    refine mm_ev.run mm_y189 4 rfl ?_
    refine mm_ev.call mm_y189 rfl rfl rfl rfl rfl (MP1 (d := d) (k := 3) (by decide) e1 hr) (fun v1 μ1 hq => ?_)
    obtain ⟨rfl, e3, e4⟩ := hq
    refine mm_ev.run mm_y189 3 rfl ?_
    refine mm_ev.ild mm_y189 rfl rfl rfl rfl rfl (by omega) (by decide) e3.2.2.2 ?_
    refine mm_ev.run mm_y189 1 rfl ?_
    exact mm_ev.ret mm_y189 rfl rfl rfl ⟨rfl, ac_R.app (l := [71]) (m := [10]) e3, e2.tr e4⟩
set_option maxRecDepth 100000 in
theorem MS0 (hK : K < 7) (hc : c < 6) (h : ac_R c K v r f μ) (hr : r + 2 < 20) : mm_call la_M (d + 4) 192 [.ref 110, .int (nI c), .int (nI 0), .int x] μ (ac_N c K v r f μ (ac_S0 (nI c) v K x)) := by
  refine mm_call.of mm_t192 ?_
  refine mm_ev.run mm_y192 2 rfl ?_
  refine mm_ev.run mm_y192 2 rfl ?_
  refine mm_ev.call mm_y192 rfl rfl rfl rfl rfl (C190 h (by omega) (bb := 11) rfl) (fun v1 μ1 hq => ?_)
  obtain ⟨rfl, e1, e2⟩ := hq
  refine mm_ev.run mm_y192 5 rfl ?_
  refine mm_ev.ild mm_y192 rfl rfl rfl rfl rfl (by omega) (by decide) e1.2.2.1 ?_
  refine mm_ev.run mm_y192 1 rfl ?_
  refine mm_ev.call mm_y192 rfl rfl rfl rfl rfl (MP (d := d) (k := K) hK hc e1 (by omega)) (fun v1 μ1 hq => ?_)
  obtain ⟨rfl, e3, e4⟩ := hq
  refine mm_ev.run mm_y192 3 rfl ?_
  refine mm_ev.ild mm_y192 rfl rfl rfl rfl rfl (by omega) (by decide) e3.2.2.2 ?_
  refine mm_ev.run mm_y192 1 rfl ?_
  exact mm_ev.ret mm_y192 rfl rfl rfl ⟨rfl, ac_R.app (l := [11]) (m := (ac_P (nI c) v K x).2) e3, e2.tr e4⟩
set_option maxRecDepth 100000 in
theorem MS3 (hk : k = 2 ∨ k = 3) (hK : K < 7) (hc : c < 6) (h : ac_R c K v r f μ) (hr : r + 2 < 20) : mm_call la_M (d + 5) 192 [.ref 110, .int (nI c), .int (nI k), .int x] μ (ac_N c K v r f μ (ac_S0 (nI c) v K x)) := by
  have K1 := C191 (Λ := la_M) (d := d + 4) (μ := μ) (show k < 7 by omega)
  have e : ac_up k = 0 := by unfold ac_up; rw [if_pos (by omega)]
  rw [e] at K1
  rcases hk with rfl | rfl
  ·
    refine mm_call.of mm_t192 ?_
    refine mm_ev.run mm_y192 2 rfl ?_
    refine mm_ev.run mm_y192 3 rfl ?_
    refine mm_ev.call mm_y192 rfl rfl rfl rfl rfl K1 (fun v1 μ1 hq => ?_)
    obtain ⟨rfl, hμ⟩ := hq
    obtain rfl := hμ.symm
    refine mm_ev.run mm_y192 1 rfl ?_
    refine mm_ev.call mm_y192 rfl rfl rfl rfl rfl (MS0 (d := d) hK hc h hr) (fun v1 μ1 hq => ?_)
    obtain ⟨rfl, e1, e2⟩ := hq
    exact mm_ev.ret mm_y192 rfl rfl rfl ⟨rfl, e1, e2⟩
  ·
    refine mm_call.of mm_t192 ?_
    refine mm_ev.run mm_y192 2 rfl ?_
    refine mm_ev.run mm_y192 3 rfl ?_
    refine mm_ev.call mm_y192 rfl rfl rfl rfl rfl K1 (fun v1 μ1 hq => ?_)
    obtain ⟨rfl, hμ⟩ := hq
    obtain rfl := hμ.symm
    refine mm_ev.run mm_y192 1 rfl ?_
    refine mm_ev.call mm_y192 rfl rfl rfl rfl rfl (MS0 (d := d) hK hc h hr) (fun v1 μ1 hq => ?_)
    obtain ⟨rfl, e1, e2⟩ := hq
    exact mm_ev.ret mm_y192 rfl rfl rfl ⟨rfl, e1, e2⟩
set_option maxRecDepth 100000 in
theorem MS1 (hK : K < 7) (hc : c < 6) (h : ac_R c K v r f μ) (hr : r + 3 < 20) : mm_call la_M (d + 5) 192 [.ref 110, .int (nI c), .int (nI 1), .int x] μ (ac_N c K v r f μ ((ac_S0 (nI c) v K x).1 ^^^ 6, 20 :: (ac_S0 (nI c) v K x).2)) := by
  refine mm_call.of mm_t192 ?_
  refine mm_ev.run mm_y192 2 rfl ?_
  refine mm_ev.run mm_y192 2 rfl ?_
  refine mm_ev.call mm_y192 rfl rfl rfl rfl rfl (C190 h (by omega) (bb := 20) rfl) (fun v1 μ1 hq => ?_)
  obtain ⟨rfl, e1, e2⟩ := hq
  refine mm_ev.run mm_y192 4 rfl ?_
  refine mm_ev.call mm_y192 rfl rfl rfl rfl rfl (MS0 (d := d) hK hc e1 (by omega)) (fun v1 μ1 hq => ?_)
  obtain ⟨rfl, e3, e4⟩ := hq
  refine mm_ev.run mm_y192 2 rfl ?_
  exact mm_ev.ret mm_y192 rfl rfl rfl ⟨rfl, ac_R.app (l := [20]) e3, e2.tr e4⟩
set_option maxRecDepth 100000 in
theorem MS (hK : K < 7) (hk : k < 7) (hc : c < 6) (h : ac_R c K v r f μ) (hr : r + 5 ≤ 20) : mm_call la_M (d + 6) 192 [.ref 110, .int (nI c), .int (nI k), .int x] μ (ac_N c K v r f μ (ac_S (nI c) v K k x)) := by
  rcases (show k = 0 ∨ k = 1 ∨ k = 2 ∨ k = 3 ∨ k = 4 ∨ k = 5 ∨ k = 6 by omega) with rfl | rfl | rfl | rfl | rfl | rfl | rfl
  · exact (MS0 (d := d) hK hc h (by omega)).deep (by omega)
  · exact (MS1 (d := d) hK hc h (by omega)).deep (by omega)
  · exact (MS3 (d := d) (by decide) hK hc h (by omega)).deep (by omega)
  · exact (MS3 (d := d) (by decide) hK hc h (by omega)).deep (by omega)
  ·
    refine mm_call.of mm_t192 ?_
    refine mm_ev.run mm_y192 2 rfl ?_
    refine mm_ev.run mm_y192 2 rfl ?_
    refine mm_ev.call mm_y192 rfl rfl rfl rfl rfl (C190 h (by omega) (bb := 51) rfl) (fun v1 μ1 hq => ?_)
    obtain ⟨rfl, e1, e2⟩ := hq
    refine mm_ev.run mm_y192 6 rfl ?_
    refine mm_ev.call mm_y192 rfl rfl rfl rfl rfl (MS1 (d := d) hK hc e1 (by omega)) (fun v1 μ1 hq => ?_)
    obtain ⟨rfl, e3, e4⟩ := hq
    exact mm_ev.ret mm_y192 rfl rfl rfl ⟨rfl, ac_R.app (l := [51]) e3, e2.tr e4⟩
  · have K1 := C191 (Λ := la_M) (d := d + 5) (μ := μ) (show 5 < 7 by omega)
    refine mm_call.of mm_t192 ?_
    refine mm_ev.run mm_y192 2 rfl ?_
    refine mm_ev.run mm_y192 3 rfl ?_
    refine mm_ev.call mm_y192 rfl rfl rfl rfl rfl K1 (fun v1 μ1 hq => ?_)
    obtain ⟨rfl, hμ⟩ := hq
    obtain rfl := hμ.symm
    refine mm_ev.run mm_y192 1 rfl ?_
    refine mm_ev.call mm_y192 rfl rfl rfl rfl rfl (MS3 (d := d) (k := 2) (by decide) hK hc h (by omega)) (fun v1 μ1 hq => ?_)
    obtain ⟨rfl, e1, e2⟩ := hq
    exact mm_ev.ret mm_y192 rfl rfl rfl ⟨rfl, e1, e2⟩
  · have hl := ac_S0_l (nI c) v K x
    refine mm_call.of mm_t192 ?_
    refine mm_ev.run mm_y192 2 rfl ?_
    refine mm_ev.run mm_y192 2 rfl ?_
    refine mm_ev.call mm_y192 rfl rfl rfl rfl rfl (C190 h (by omega) (bb := 70) rfl) (fun v1 μ1 hq => ?_)
    obtain ⟨rfl, e1, e2⟩ := hq
    refine mm_ev.run mm_y192 4 rfl ?_
    refine mm_ev.call mm_y192 rfl rfl rfl rfl rfl (MS3 (d := d) (k := 3) (by decide) hK hc e1 (by omega)) (fun v1 μ1 hq => ?_)
    obtain ⟨rfl, e3, e4⟩ := hq
    refine mm_ev.run mm_y192 6 rfl ?_
    refine mm_ev.call mm_y192 rfl rfl rfl rfl rfl ((MP1 (d := d) (k := 3) (x := 2) (by decide) e3 (by omega)).deep (by omega)) (fun v1 μ1 hq => ?_)
    obtain ⟨rfl, e5, e6⟩ := hq
    refine mm_ev.run mm_y192 1 rfl ?_
    exact mm_ev.ret mm_y192 rfl rfl rfl ⟨rfl, ac_R.app (l := [70]) (ac_R.app e5), (e2.tr e4).tr e6⟩
set_option maxRecDepth 100000 in
theorem MT0 (hK : K < 7) (hc : c < 6) (h : ac_R c K v r f μ) (hr : r + 6 ≤ 20) : mm_call la_M (d + 7) 193 [.ref 110, .int (nI c), .int (nI 0), .int x] μ (ac_N c K v r f μ (ac_T0 (nI c) v K x)) := by
  refine mm_call.of mm_t193 ?_
  refine mm_ev.run mm_y193 2 rfl ?_
  refine mm_ev.run mm_y193 2 rfl ?_
  refine mm_ev.call mm_y193 rfl rfl rfl rfl rfl (C190 h (by omega) (bb := 12) rfl) (fun v1 μ1 hq => ?_)
  obtain ⟨rfl, e1, e2⟩ := hq
  refine mm_ev.run mm_y193 5 rfl ?_
  refine mm_ev.ild mm_y193 rfl rfl rfl rfl rfl (by omega) (by decide) e1.2.2.1 ?_
  refine mm_ev.run mm_y193 1 rfl ?_
  refine mm_ev.call mm_y193 rfl rfl rfl rfl rfl (MS (d := d) (k := K) hK hK hc e1 (by omega)) (fun v1 μ1 hq => ?_)
  obtain ⟨rfl, e3, e4⟩ := hq
  refine mm_ev.run mm_y193 2 rfl ?_
  exact mm_ev.ret mm_y193 rfl rfl rfl ⟨rfl, ac_R.app (l := [12]) (m := (ac_S (nI c) v K K x).2) e3, e2.tr e4⟩
set_option maxRecDepth 100000 in
theorem MT1 (hk : k = 1 ∨ k = 2) (hK : K < 7) (hc : c < 6) (h : ac_R c K v r f μ) (hr : r + 6 ≤ 20) : mm_call la_M (d + 8) 193 [.ref 110, .int (nI c), .int (nI k), .int x] μ (ac_N c K v r f μ (ac_T0 (nI c) v K x)) := by
  have K1 := C191 (Λ := la_M) (d := d + 7) (μ := μ) (show k < 7 by omega)
  have e : ac_up k = 0 := by unfold ac_up; rw [if_pos (by omega)]
  rw [e] at K1
  rcases hk with rfl | rfl
  ·
    refine mm_call.of mm_t193 ?_
    refine mm_ev.run mm_y193 2 rfl ?_
    refine mm_ev.run mm_y193 3 rfl ?_
    refine mm_ev.call mm_y193 rfl rfl rfl rfl rfl K1 (fun v1 μ1 hq => ?_)
    obtain ⟨rfl, hμ⟩ := hq
    obtain rfl := hμ.symm
    refine mm_ev.run mm_y193 1 rfl ?_
    refine mm_ev.call mm_y193 rfl rfl rfl rfl rfl (MT0 (d := d) hK hc h hr) (fun v1 μ1 hq => ?_)
    obtain ⟨rfl, e1, e2⟩ := hq
    exact mm_ev.ret mm_y193 rfl rfl rfl ⟨rfl, e1, e2⟩
  ·
    refine mm_call.of mm_t193 ?_
    refine mm_ev.run mm_y193 2 rfl ?_
    refine mm_ev.run mm_y193 3 rfl ?_
    refine mm_ev.call mm_y193 rfl rfl rfl rfl rfl K1 (fun v1 μ1 hq => ?_)
    obtain ⟨rfl, hμ⟩ := hq
    obtain rfl := hμ.symm
    refine mm_ev.run mm_y193 1 rfl ?_
    refine mm_ev.call mm_y193 rfl rfl rfl rfl rfl (MT0 (d := d) hK hc h hr) (fun v1 μ1 hq => ?_)
    obtain ⟨rfl, e1, e2⟩ := hq
    exact mm_ev.ret mm_y193 rfl rfl rfl ⟨rfl, e1, e2⟩
set_option maxRecDepth 100000 in
theorem MT3 (hK : K < 7) (hc : c < 6) (h : ac_R c K v r f μ) (hr : r + 12 ≤ 20) : mm_call la_M (d + 8) 193 [.ref 110, .int (nI c), .int (nI 3), .int x] μ (ac_N c K v r f μ ((ac_T0 (nI c) v K x).1 + (ac_S (nI c) v K K 1).1, 40 :: ((ac_T0 (nI c) v K x).2 ++ (ac_S (nI c) v K K 1).2))) := by
  have hl := ac_T0_l (nI c) v K x
  refine mm_call.of mm_t193 ?_
  refine mm_ev.run mm_y193 2 rfl ?_
  refine mm_ev.run mm_y193 2 rfl ?_
  refine mm_ev.call mm_y193 rfl rfl rfl rfl rfl (C190 h (by omega) (bb := 40) rfl) (fun v1 μ1 hq => ?_)
  obtain ⟨rfl, e1, e2⟩ := hq
  refine mm_ev.run mm_y193 4 rfl ?_
  refine mm_ev.call mm_y193 rfl rfl rfl rfl rfl (MT0 (d := d) hK hc e1 (by omega)) (fun v1 μ1 hq => ?_)
  obtain ⟨rfl, e3, e4⟩ := hq
  refine mm_ev.run mm_y193 7 rfl ?_
  refine mm_ev.ild mm_y193 rfl rfl rfl rfl rfl (by omega) (by decide) e3.2.2.1 ?_
  refine mm_ev.run mm_y193 1 rfl ?_
  refine mm_ev.call mm_y193 rfl rfl rfl rfl rfl ((MS (d := d) (k := K) (x := 1) hK hK hc e3 (by omega)).deep (by omega)) (fun v1 μ1 hq => ?_)
  obtain ⟨rfl, e5, e6⟩ := hq
  refine mm_ev.run mm_y193 1 rfl ?_
  exact mm_ev.ret mm_y193 rfl rfl rfl ⟨rfl, ac_R.app (l := [40]) (ac_R.app e5), (e2.tr e4).tr e6⟩
set_option maxRecDepth 100000 in
theorem MT (hK : K < 7) (hk : k < 7) (hc : c < 6) (h : ac_R c K v r f μ) (hr : r + 12 ≤ 20) : mm_call la_M (d + 9) 193 [.ref 110, .int (nI c), .int (nI k), .int x] μ (ac_N c K v r f μ (ac_T (nI c) v K k x)) := by
  rcases (show k = 0 ∨ k = 1 ∨ k = 2 ∨ k = 3 ∨ k = 4 ∨ k = 5 ∨ k = 6 by omega) with rfl | rfl | rfl | rfl | rfl | rfl | rfl
  · exact (MT0 (d := d) hK hc h (by omega)).deep (by omega)
  · exact (MT1 (d := d) (by decide) hK hc h (by omega)).deep (by omega)
  · exact (MT1 (d := d) (by decide) hK hc h (by omega)).deep (by omega)
  · exact (MT3 (d := d) hK hc h (by omega)).deep (by omega)
  · have K1 := C191 (Λ := la_M) (d := d + 8) (μ := μ) (show 4 < 7 by omega)
    refine mm_call.of mm_t193 ?_
    refine mm_ev.run mm_y193 2 rfl ?_
    refine mm_ev.run mm_y193 3 rfl ?_
    refine mm_ev.call mm_y193 rfl rfl rfl rfl rfl K1 (fun v1 μ1 hq => ?_)
    obtain ⟨rfl, hμ⟩ := hq
    obtain rfl := hμ.symm
    refine mm_ev.run mm_y193 1 rfl ?_
    refine mm_ev.call mm_y193 rfl rfl rfl rfl rfl (MT1 (d := d) (k := 1) (by decide) hK hc h (by omega)) (fun v1 μ1 hq => ?_)
    obtain ⟨rfl, e1, e2⟩ := hq
    exact mm_ev.ret mm_y193 rfl rfl rfl ⟨rfl, e1, e2⟩
  ·
    refine mm_call.of mm_t193 ?_
    refine mm_ev.run mm_y193 2 rfl ?_
    refine mm_ev.run mm_y193 2 rfl ?_
    refine mm_ev.call mm_y193 rfl rfl rfl rfl rfl (C190 h (by omega) (bb := 60) rfl) (fun v1 μ1 hq => ?_)
    obtain ⟨rfl, e1, e2⟩ := hq
    refine mm_ev.run mm_y193 6 rfl ?_
    refine mm_ev.call mm_y193 rfl rfl rfl rfl rfl (MT1 (d := d) (k := 2) (x := x - nI c) (by decide) hK hc e1 (by omega)) (fun v1 μ1 hq => ?_)
    obtain ⟨rfl, e3, e4⟩ := hq
    exact mm_ev.ret mm_y193 rfl rfl rfl ⟨rfl, ac_R.app (l := [60]) e3, e2.tr e4⟩
  · have K1 := C191 (Λ := la_M) (d := d + 8) (μ := μ) (show 6 < 7 by omega)
    refine mm_call.of mm_t193 ?_
    refine mm_ev.run mm_y193 2 rfl ?_
    refine mm_ev.run mm_y193 3 rfl ?_
    refine mm_ev.call mm_y193 rfl rfl rfl rfl rfl K1 (fun v1 μ1 hq => ?_)
    obtain ⟨rfl, hμ⟩ := hq
    obtain rfl := hμ.symm
    refine mm_ev.run mm_y193 1 rfl ?_
    refine mm_ev.call mm_y193 rfl rfl rfl rfl rfl (MT3 (d := d) hK hc h (by omega)) (fun v1 μ1 hq => ?_)
    obtain ⟨rfl, e1, e2⟩ := hq
    exact mm_ev.ret mm_y193 rfl rfl rfl ⟨rfl, e1, e2⟩
set_option maxRecDepth 100000 in
theorem C188 {A : sA} (h : rM A μ) (ho : okA A) (c a x : Int32) : mm_call la_M (d + 10) 188 [.ref 110, .int c, .int a, .int x] μ (fun v μ' => v = some (.int (q_act A c a x).1) ∧ rM (q_act A c a x).2 μ') := by
  have h6 := ho.n
  have hm0 : mh am μ (mm_sI μ 110 (upd (μ.1 110) 34 0)) := mh.rf.sU (Or.inr ⟨rfl, rfl⟩) rfl
  have h0 : rM (sA_a A 0 (fun _ => 0)) (mm_sI μ 110 (upd (μ.1 110) 34 0)) := h.setA rfl (fun j hj => absurd hj (by omega)) hm0 (fun c j hc => hc)
  refine mm_call.of mm_t188 ?_
  refine mm_ev.run mm_y188 3 rfl ?_
  refine mm_ev.run mm_y188 2 rfl ?_
  refine mm_ev.call mm_y188 rfl rfl rfl rfl rfl (C130' (show _ = nI A.1.1.1 from h0.n) c) (fun v1 μ1 hq => ?_)
  obtain ⟨rfl, hμ⟩ := hq
  obtain rfl := hμ.symm
  refine mm_ev.run mm_y188 1 rfl ?_
  refine mm_ev.ifb (fun h1 => ?_) (fun h1 => ?_)
  · rw [q_act, if_neg (fun z => h1 z.1)]
    refine mm_ev.run mm_y188 1 rfl ?_
    exact mm_ev.ret mm_y188 rfl rfl rfl ⟨rfl, h0⟩
  · refine mm_ev.run mm_y188 3 rfl ?_
    refine mm_ev.call mm_y188 rfl rfl rfl rfl rfl (C128 a 0 2) (fun v1 μ1 hq => ?_)
    obtain ⟨rfl, hμ⟩ := hq
    obtain rfl := hμ.symm
    refine mm_ev.run mm_y188 1 rfl ?_
    refine mm_ev.ifb (fun h2 => ?_) (fun h2 => ?_)
    · rw [q_act, if_neg (fun z => h2 z.2)]
      refine mm_ev.run mm_y188 1 rfl ?_
      exact mm_ev.ret mm_y188 rfl rfl rfl ⟨rfl, h0⟩
    · rw [q_act, if_pos ⟨h1, h2⟩]
      obtain ⟨c, hc, rfl⟩ := nI_cap (by omega) h1
      rw [nI_clamp (by omega)]
      obtain ⟨k, hk, ek⟩ := ho.1.1.2.2.2.1 c hc
      have hkd := (h.1.1.kind hc).trans ek
      have hv := h.1.1.v hc
      unfold ac_z
      rw [ek, nI_clamp (by omega)]
      have hR : ac_R c k (A.1.1.2.2.2 2 c) 0 (fun _ => 0) (mm_sI μ 110 (upd (μ.1 110) 34 0)) := ⟨rfl, fun j hj => absurd hj (by omega), hkd, hv⟩
      have fin : ∀ (z : Int32 × List Nat) (μ1 : mm_M), ac_R c k (A.1.1.2.2.2 2 c) (0 + z.2.length) (ac_F (fun _ => 0) 0 z.2) μ1 → mh am (mm_sI μ 110 (upd (μ.1 110) 34 0)) μ1 → rM (sA_a A z.2.length (ac_F (fun _ => 0) 0 z.2)) μ1 := fun z μ1 e1 e2 => h.setA (by rw [e1.1, Nat.zero_add]) (fun j hj => e1.2.1 j (by omega)) (hm0.tr e2) (fun c j hc => hc)
      refine mm_ev.run mm_y188 3 rfl ?_
      refine mm_ev.ild mm_y188 rfl rfl rfl rfl rfl (by omega) (by decide) hkd ?_
      rcases p_3 h2 with rfl | rfl | rfl
      · rw [if_pos (show nI 0 = 0 from rfl)]
        refine mm_ev.run mm_y188 3 rfl ?_
        refine mm_ev.pos rfl ?_
        refine mm_ev.run mm_y188 4 rfl ?_
        refine mm_ev.call mm_y188 rfl rfl rfl rfl rfl ((MP (d := d) (k := k) (x := x) hk (by omega) hR (by omega)).deep (by omega)) (fun v1 μ1 hq => ?_)
        obtain ⟨rfl, e1, e2⟩ := hq
        refine mm_ev.run mm_y188 1 rfl ?_
        exact mm_ev.ret mm_y188 rfl rfl rfl ⟨rfl, fin _ _ e1 e2⟩
      · rw [if_neg (show ¬ nI 1 = 0 by decide), if_pos (show nI 1 = 1 from rfl)]
        refine mm_ev.run mm_y188 3 rfl ?_
        refine mm_ev.neg (by decide) ?_
        refine mm_ev.run mm_y188 3 rfl ?_
        refine mm_ev.pos rfl ?_
        refine mm_ev.run mm_y188 4 rfl ?_
        refine mm_ev.call mm_y188 rfl rfl rfl rfl rfl ((MS (d := d) (k := k) (x := x) hk hk (by omega) hR (by omega)).deep (by omega)) (fun v1 μ1 hq => ?_)
        obtain ⟨rfl, e1, e2⟩ := hq
        refine mm_ev.run mm_y188 1 rfl ?_
        exact mm_ev.ret mm_y188 rfl rfl rfl ⟨rfl, fin _ _ e1 e2⟩
      · rw [if_neg (show ¬ nI 2 = 0 by decide), if_neg (show ¬ nI 2 = 1 by decide)]
        refine mm_ev.run mm_y188 3 rfl ?_
        refine mm_ev.neg (by decide) ?_
        refine mm_ev.run mm_y188 3 rfl ?_
        refine mm_ev.neg (by decide) ?_
        refine mm_ev.run mm_y188 4 rfl ?_
        refine mm_ev.call mm_y188 rfl rfl rfl rfl rfl ((MT (d := d) (k := k) (x := x) hk hk (by omega) hR (by omega)).deep (by omega)) (fun v1 μ1 hq => ?_)
        obtain ⟨rfl, e1, e2⟩ := hq
        exact mm_ev.ret mm_y188 rfl rfl rfl ⟨rfl, fin _ _ e1 e2⟩
end
