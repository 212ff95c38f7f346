/-! THE CLASS'S ACTS -/
/-- points, sees, tells from a kind on: the answer, the bodies -/
def ac_P (i v : Int32) (k : Nat) (x : Int32) : Int32 × List Nat := if k = 2 ∨ k = 5 then (x * 3 + i, [30, 10]) else if k = 4 then (-(x + i), [50, 10]) else if k = 6 then ((x + i) ^^^ v, [71, 10]) else (x + i, [10])
def ac_S0 (i v : Int32) (K : Nat) (x : Int32) : Int32 × List Nat := ((ac_P i v K x).1 - v, 11 :: (ac_P i v K x).2)
def ac_S (i v : Int32) (K k : Nat) (x : Int32) : Int32 × List Nat := if k = 1 then ((ac_S0 i v K x).1 ^^^ 6, 20 :: (ac_S0 i v K x).2) else if k = 4 then ((ac_S0 i v K (x + 1)).1 ^^^ 6, 51 :: 20 :: (ac_S0 i v K (x + 1)).2) else if k = 6 then ((ac_S0 i v K x).1 + (2 + i), 70 :: ((ac_S0 i v K x).2 ++ [10])) else ac_S0 i v K x
def ac_T0 (i v : Int32) (K : Nat) (x : Int32) : Int32 × List Nat := ((ac_S i v K K x).1 * 2, 12 :: (ac_S i v K K x).2)
def ac_T (i v : Int32) (K k : Nat) (x : Int32) : Int32 × List Nat := if k = 3 ∨ k = 6 then ((ac_T0 i v K x).1 + (ac_S i v K K 1).1, 40 :: ((ac_T0 i v K x).2 ++ (ac_S i v K K 1).2)) else if k = 5 then ((ac_T0 i v K (x - i)).1, 60 :: (ac_T0 i v K (x - i)).2) else ac_T0 i v K x
/-- the trace so far, with more behind -/
def ac_F (f : Nat → Int32) (r : Nat) (l : List Nat) : Nat → Int32 := fun j => if j < r then f j else nI (l.getD (j - r) 0)
theorem ac_F_F (f : Nat → Int32) (r : Nat) (l m : List Nat) : ∀ j, j < r + l.length + m.length → ac_F (ac_F f r l) (r + l.length) m j = ac_F f r (l ++ m) j := by
  intro j hj
  unfold ac_F
  by_cases h1 : j < r
  · rw [if_pos (by omega), if_pos h1, if_pos h1]
  · by_cases h2 : j < r + l.length
    · rw [if_pos h2, if_neg h1, if_neg h1, List.getD_eq_getElem?_getD, List.getD_eq_getElem?_getD, List.getElem?_append_left (by omega)]
    · rw [if_neg h2, if_neg h1, List.getD_eq_getElem?_getD, List.getD_eq_getElem?_getD, List.getElem?_append_right (by omega), show j - r - l.length = j - (r + l.length) by omega]
theorem ac_P_l (i v : Int32) (k : Nat) (x : Int32) : (ac_P i v k x).2.length ≤ 2 := by
  unfold ac_P
  split
  · simp
  · split
    · simp
    · split <;> simp
theorem ac_S0_l (i v : Int32) (K : Nat) (x : Int32) : (ac_S0 i v K x).2.length ≤ 3 := by
  have := ac_P_l i v K x
  show (11 :: (ac_P i v K x).2).length ≤ 3
  simp only [List.length_cons]
  omega
theorem ac_S_l (i v : Int32) (K k : Nat) (x : Int32) : (ac_S i v K k x).2.length ≤ 5 := by
  have h1 := ac_S0_l i v K x
  have h2 := ac_S0_l i v K (x + 1)
  unfold ac_S
  split
  · simp only [List.length_cons]; omega
  · split
    · simp only [List.length_cons]; omega
    · split
      · simp only [List.length_cons, List.length_append, List.length_nil]; omega
      · omega
theorem ac_T0_l (i v : Int32) (K : Nat) (x : Int32) : (ac_T0 i v K x).2.length ≤ 6 := by
  have := ac_S_l i v K K x
  show (12 :: (ac_S i v K K x).2).length ≤ 6
  simp only [List.length_cons]
  omega
theorem ac_T_l (i v : Int32) (K k : Nat) (x : Int32) : (ac_T i v K k x).2.length ≤ 12 := by
  have h1 := ac_T0_l i v K x
  have h2 := ac_T0_l i v K (x - i)
  have h3 := ac_S_l i v K K 1
  unfold ac_T
  split
  · simp only [List.length_cons, List.length_append]; omega
  · split
    · simp only [List.length_cons]; omega
    · omega
/-- the class's trace -/
def ac_C (K : Nat) (i v : Int32) (r : Nat) (f : Nat → Int32) (μ : mm_M) : Prop := μ.1 71 1 = nI r ∧ μ.1 71 2 = nI K ∧ μ.1 71 3 = i ∧ μ.1 71 4 = v ∧ ∀ j, j < r → μ.1 72 j = f j
abbrev ac_m (c : Nat) : Prop := c = 71 ∨ c = 72
def ac_bo : Nat → Int32 := sm_by [10, 11, 12, 0, 20, 0, 30, 0, 0, 0, 0, 40, 50, 51, 0, 0, 0, 60, 71, 70, 0]
def ac_ab : Nat → Int32 := sm_by [-1, 0, 0, 0, 1, 2, 3]
def ac_up (k : Nat) : Nat := if k ≤ 3 then 0 else k - 3
def ac_ow (w : Nat) : Nat → Nat → Nat
  | 0, k => k
  | m + 1, k => if k = 0 then 0 else if ac_bo (3 * k + w) = 0 then ac_ow w m (ac_up k) else k
theorem ac_ab_up : ∀ k, k < 7 → k ≠ 0 → ac_ab k = nI (ac_up k) := by decide +kernel
theorem ac_ow_s (w m k : Nat) : ac_ow w (m + 1) k = if k = 0 then 0 else if ac_bo (3 * k + w) = 0 then ac_ow w m (ac_up k) else k := rfl
/-- the answer, and the bodies that came to the trace -/
abbrev ac_Q (K : Nat) (i v : Int32) (r : Nat) (f : Nat → Int32) (μ : mm_M) (z : Int32 × List Nat) (u : Option Value) (μ' : mm_M) : Prop := u = some (.int z.1) ∧ ac_C K i v (r + z.2.length) (ac_F f r z.2) μ' ∧ mf ac_m μ μ'
section
variable {K r : Nat} {i v : Int32} {f g : Nat → Int32} {μ : mm_M} {l m : List Nat}
theorem ac_C.co (h : ac_C K i v r f μ) (e : ∀ j, j < r → f j = g j) : ac_C K i v r g μ := ⟨h.1, h.2.1, h.2.2.1, h.2.2.2.1, fun j hj => (h.2.2.2.2 j hj).trans (e j hj)⟩
theorem ac_C.nil (h : ac_C K i v r f μ) : ac_C K i v r (ac_F f r []) μ := h.co (fun j hj => (if_pos hj).symm)
theorem ac_C.app (h : ac_C K i v (r + l.length + m.length) (ac_F (ac_F f r l) (r + l.length) m) μ) : ac_C K i v (r + (l ++ m).length) (ac_F f r (l ++ m)) μ := by
  rw [List.length_append, ← Nat.add_assoc]
  exact h.co (ac_F_F f r l m)
end
section
variable {d : Nat} {μ : mm_M} {Φ : Option Value → mm_M → Prop} {K r : Nat} {i v : Int32} {f : Nat → Int32}
set_option maxRecDepth 100000 in
theorem C21_l {k0 : Int32} {w : Nat} (hw : w < 3) {x dd : Int32} : ∀ m n k, n + m = 7 → k < 7 → (∀ o n, o < 7 → o = ac_ow w m k → mm_ev la_C d 21 23 [some (.ref 71), some (.int k0), some (.int (nI w)), some (.int x), some (.int dd), some (.int (nI o)), some (.int (nI n))] [] μ Φ) → mm_ev la_C d 21 4 [some (.ref 71), some (.int k0), some (.int (nI w)), some (.int x), some (.int dd), some (.int (nI k)), some (.int (nI n))] [] μ Φ := by
  intro m
  induction m with
  | zero =>
    intro n k hn hk hK
    have hn : n = 7 := by omega
    subst hn
    refine mm_ev.run mm_y21 3 rfl ?_
    refine mm_ev.pos (by decide) ?_
    exact hK k 7 hk rfl
  | succ m ih =>
    intro n k hn hk hK
    have e3 : nI k * 3 + nI w = nI (3 * k + w) := by rw [show (3 : Int32) = nI 3 from rfl, nI_mul, nI_add, Nat.mul_comm]
    rw [ac_ow_s] at hK
    refine mm_ev.run mm_y21 3 rfl ?_
    refine mm_ev.neg (nI_ge (b := 7) (by omega) (by decide)) ?_
    refine mm_ev.run mm_y21 2 rfl ?_
    refine mm_ev.ite (fun h => ?_) (fun h => ?_)
    · have hk0 : k = 0 := by
        have := (nI_leI (b := 0) (by omega) (by decide)).mp h
        omega
      subst hk0
      exact hK 0 n (by omega) (if_pos rfl).symm
    · have hk0 : k ≠ 0 := fun z => h (by rw [z]; decide)
      rw [if_neg hk0] at hK
      refine mm_ev.run mm_y21 6 rfl ?_
      refine mm_ev.ild mm_y21 rfl rfl rfl rfl e3 (by omega) (by decide) (show _ = ac_bo (3 * k + w) from rfl) ?_
      refine mm_ev.run mm_y21 1 rfl ?_
      refine mm_ev.ite (fun h2 => ?_) (fun h2 => ?_)
      · rw [if_pos h2] at hK
        refine mm_ev.run mm_y21 2 rfl ?_
        refine mm_ev.ild mm_y21 rfl rfl rfl rfl rfl (by omega) (by decide) (show _ = nI (ac_up k) from ac_ab_up k hk hk0) ?_
        refine mm_ev.run mm_y21 3 rfl ?_
        rw [← nI_succ]
        exact ih (n + 1) (ac_up k) (by omega) (by unfold ac_up; split <;> omega) hK
      · rw [if_neg h2] at hK
        exact hK k n hk rfl
set_option maxRecDepth 100000 in
theorem C21 {k w dd o : Nat} (hk : k < 7) (hw : w < 3) (ho : ac_ow w 7 k = o) {x b a : Int32} (hb : ac_bo (3 * o + w) = b) (ha : ac_ab o = a) (hd : dd ≤ 20) (hC : ac_C K i v r f μ) (hr : r < 20) {bb : Nat} (hbb : b = nI bb) {z : Int32 × List Nat} (h22 : ∀ μ1, ac_C K i v (r + 1) (ac_F f r [bb]) μ1 → mm_call la_C d 22 [.ref 71, .int b, .int a, .int x, .int (nI (dd + 1))] μ1 (ac_Q K i v (r + 1) (ac_F f r [bb]) μ1 z)) : mm_call la_C (d + 1) 21 [.ref 71, .int (nI k), .int (nI w), .int x, .int (nI dd)] μ (ac_Q K i v r f μ (z.1, bb :: z.2)) := by
  refine mm_call.of mm_t21 ?_
  refine mm_ev.run mm_y21 4 rfl ?_
  refine C21_l hw 7 0 k (by omega) hk ?_
  intro o' n ho7 e
  rw [ho] at e
  subst e
  have e3 : nI o' * 3 + nI w = nI (3 * o' + w) := by rw [show (3 : Int32) = nI 3 from rfl, nI_mul, nI_add, Nat.mul_comm]
  have hC2 : ac_C K i v (r + 1) (ac_F f r [bb]) (mm_sI (mm_sI μ 72 (upd (μ.1 72) r b)) 71 (upd (μ.1 71) 1 (nI (r + 1)))) := by
    obtain ⟨c1, c2, c3, c4, c5⟩ := hC
    refine ⟨by rw [sI_eq, upd_eq], c2, c3, c4, fun j hj => ?_⟩
    show upd (μ.1 72) r b j = _
    unfold ac_F
    by_cases e : j = r
    · subst e
      rw [upd_eq, if_neg (by omega), Nat.sub_self, hbb]
      rfl
    · rw [upd_ne e, if_pos (by omega)]
      exact c5 j (by omega)
  have hm : mf ac_m μ (mm_sI (mm_sI μ 72 (upd (μ.1 72) r b)) 71 (upd (μ.1 71) 1 (nI (r + 1)))) := (mf.rf.sI (Or.inr rfl)).sI (Or.inl rfl)
  have h22 := h22 _ hC2
  refine mm_ev.run mm_y21 2 rfl ?_
  refine mm_ev.neg (nI_pos (by omega)) ?_
  refine mm_ev.run mm_y21 3 rfl ?_
  refine mm_ev.pos (nI_le (b := 20) hd (by decide)) ?_
  refine mm_ev.run mm_y21 6 rfl ?_
  refine mm_ev.ild mm_y21 rfl rfl rfl rfl e3 (by omega) (by decide) (show _ = b from hb) ?_
  refine mm_ev.run mm_y21 3 rfl ?_
  refine mm_ev.val hC.1 ?_
  refine mm_ev.run mm_y21 3 rfl ?_
  refine mm_ev.run mm_y21 1 rfl ?_
  refine mm_ev.neg (nI_ge (b := 20) hr (by decide)) ?_
  refine mm_ev.run mm_y21 4 rfl ?_
  refine mm_ev.val hC.1 ?_
  refine mm_ev.run mm_y21 1 rfl ?_
  refine mm_ev.ist mm_y21 rfl rfl rfl rfl rfl (by omega) (by decide) ?_
  refine mm_ev.run mm_y21 3 rfl ?_
  refine mm_ev.val hC.1 ?_
  refine mm_ev.run mm_y21 2 rfl ?_
  refine mm_ev.val (nI_1 r) ?_
  refine mm_ev.run mm_y21 1 rfl ?_
  refine mm_ev.run mm_y21 4 rfl ?_
  refine mm_ev.ild mm_y21 rfl rfl rfl rfl rfl (by omega) (by decide) (show _ = a from ha) ?_
  refine mm_ev.run mm_y21 4 rfl ?_
  refine mm_ev.val (nI_1 dd) ?_
  refine mm_ev.call mm_y21 rfl rfl rfl rfl rfl h22 (fun v1 μ1 hq => ?_)
  obtain ⟨rfl, e1, e2⟩ := hq
  exact mm_ev.ret mm_y21 rfl rfl rfl ⟨rfl, ac_C.app (l := [bb]) (m := z.2) e1, hm.tr e2⟩
set_option maxRecDepth 100000 in
theorem C22_10 (hC : ac_C K i v r f μ) (a x dd : Int32) : mm_call la_C d 22 [.ref 71, .int 10, .int a, .int x, .int dd] μ (ac_Q K i v r f μ (x + i, [])) := by
  refine mm_call.of mm_t22 ?_
  refine mm_ev.run mm_y22 2 rfl ?_
  refine mm_ev.run mm_y22 3 rfl ?_
  refine mm_ev.val hC.2.2.1 ?_
  refine mm_ev.run mm_y22 1 rfl ?_
  exact mm_ev.ret mm_y22 rfl rfl rfl ⟨rfl, hC.nil, mf.rf⟩
set_option maxRecDepth 100000 in
theorem C22_11 {z : Int32 × List Nat} {a x dd : Int32} (hC : ac_C K i v r f μ) (h : mm_call la_C d 21 [.ref 71, .int (nI K), .int 0, .int x, .int dd] μ (ac_Q K i v r f μ z)) : mm_call la_C (d + 1) 22 [.ref 71, .int 11, .int a, .int x, .int dd] μ (ac_Q K i v r f μ (z.1 - v, z.2)) := by
  refine mm_call.of mm_t22 ?_
  refine mm_ev.run mm_y22 2 rfl ?_
  refine mm_ev.run mm_y22 3 rfl ?_
  refine mm_ev.val hC.2.1 ?_
  refine mm_ev.run mm_y22 3 rfl ?_
  refine mm_ev.call mm_y22 rfl rfl rfl rfl rfl h (fun v1 μ1 hq => ?_)
  obtain ⟨rfl, e1, e2⟩ := hq
  refine mm_ev.run mm_y22 2 rfl ?_
  refine mm_ev.val e1.2.2.2.1 ?_
  refine mm_ev.run mm_y22 1 rfl ?_
  exact mm_ev.ret mm_y22 rfl rfl rfl ⟨rfl, e1, e2⟩
set_option maxRecDepth 100000 in
theorem C22_12 {z : Int32 × List Nat} {a x dd : Int32} (hC : ac_C K i v r f μ) (h : mm_call la_C d 21 [.ref 71, .int (nI K), .int 1, .int x, .int dd] μ (ac_Q K i v r f μ z)) : mm_call la_C (d + 1) 22 [.ref 71, .int 12, .int a, .int x, .int dd] μ (ac_Q K i v r f μ (z.1 * 2, z.2)) := by
  refine mm_call.of mm_t22 ?_
  refine mm_ev.run mm_y22 2 rfl ?_
  refine mm_ev.run mm_y22 3 rfl ?_
  refine mm_ev.val hC.2.1 ?_
  refine mm_ev.run mm_y22 3 rfl ?_
  refine mm_ev.call mm_y22 rfl rfl rfl rfl rfl h (fun v1 μ1 hq => ?_)
  obtain ⟨rfl, e1, e2⟩ := hq
  refine mm_ev.run mm_y22 2 rfl ?_
  exact mm_ev.ret mm_y22 rfl rfl rfl ⟨rfl, e1, e2⟩
set_option maxRecDepth 100000 in
theorem C22_20 {z : Int32 × List Nat} {a x dd : Int32} (h : mm_call la_C d 21 [.ref 71, .int a, .int 1, .int x, .int dd] μ (ac_Q K i v r f μ z)) : mm_call la_C (d + 1) 22 [.ref 71, .int 20, .int a, .int x, .int dd] μ (ac_Q K i v r f μ (z.1 ^^^ 6, z.2)) := by
  refine mm_call.of mm_t22 ?_
  refine mm_ev.run mm_y22 2 rfl ?_
  refine mm_ev.run mm_y22 5 rfl ?_
  refine mm_ev.call mm_y22 rfl rfl rfl rfl rfl h (fun v1 μ1 hq => ?_)
  obtain ⟨rfl, e1, e2⟩ := hq
  refine mm_ev.run mm_y22 2 rfl ?_
  exact mm_ev.ret mm_y22 rfl rfl rfl ⟨rfl, e1, e2⟩
set_option maxRecDepth 100000 in
theorem C22_30 {z : Int32 × List Nat} {a x dd : Int32} (h : mm_call la_C d 21 [.ref 71, .int a, .int 0, .int (x * 3), .int dd] μ (ac_Q K i v r f μ z)) : mm_call la_C (d + 1) 22 [.ref 71, .int 30, .int a, .int x, .int dd] μ (ac_Q K i v r f μ z) := by
  refine mm_call.of mm_t22 ?_
  refine mm_ev.run mm_y22 2 rfl ?_
  refine mm_ev.run mm_y22 7 rfl ?_
  refine mm_ev.call mm_y22 rfl rfl rfl rfl rfl h (fun v1 μ1 hq => ?_)
  obtain ⟨rfl, e1, e2⟩ := hq
  exact mm_ev.ret mm_y22 rfl rfl rfl ⟨rfl, e1, e2⟩
set_option maxRecDepth 100000 in
theorem C22_40 {z z2 : Int32 × List Nat} {a x dd : Int32} (h : mm_call la_C d 21 [.ref 71, .int a, .int 2, .int x, .int dd] μ (ac_Q K i v r f μ z)) (h2 : ∀ μ1, ac_C K i v (r + z.2.length) (ac_F f r z.2) μ1 → mm_call la_C d 21 [.ref 71, .int (nI K), .int 1, .int 1, .int dd] μ1 (ac_Q K i v (r + z.2.length) (ac_F f r z.2) μ1 z2)) : mm_call la_C (d + 1) 22 [.ref 71, .int 40, .int a, .int x, .int dd] μ (ac_Q K i v r f μ (z.1 + z2.1, z.2 ++ z2.2)) := by
  refine mm_call.of mm_t22 ?_
  refine mm_ev.run mm_y22 2 rfl ?_
  refine mm_ev.run mm_y22 5 rfl ?_
  refine mm_ev.call mm_y22 rfl rfl rfl rfl rfl h (fun v1 μ1 hq => ?_)
  obtain ⟨rfl, e1, e2⟩ := hq
  refine mm_ev.run mm_y22 3 rfl ?_
  refine mm_ev.val e1.2.1 ?_
  refine mm_ev.run mm_y22 3 rfl ?_
  refine mm_ev.call mm_y22 rfl rfl rfl rfl rfl (h2 _ e1) (fun v1 μ1 hq => ?_)
  obtain ⟨rfl, e3, e4⟩ := hq
  refine mm_ev.run mm_y22 1 rfl ?_
  exact mm_ev.ret mm_y22 rfl rfl rfl ⟨rfl, e3.app, e2.tr e4⟩
set_option maxRecDepth 100000 in
theorem C22_50 {z : Int32 × List Nat} {a x dd : Int32} (h : mm_call la_C d 21 [.ref 71, .int a, .int 0, .int x, .int dd] μ (ac_Q K i v r f μ z)) : mm_call la_C (d + 1) 22 [.ref 71, .int 50, .int a, .int x, .int dd] μ (ac_Q K i v r f μ (-z.1, z.2)) := by
  refine mm_call.of mm_t22 ?_
  refine mm_ev.run mm_y22 2 rfl ?_
  refine mm_ev.run mm_y22 5 rfl ?_
  refine mm_ev.call mm_y22 rfl rfl rfl rfl rfl h (fun v1 μ1 hq => ?_)
  obtain ⟨rfl, e1, e2⟩ := hq
  refine mm_ev.run mm_y22 1 rfl ?_
  exact mm_ev.ret mm_y22 rfl rfl rfl ⟨rfl, e1, e2⟩
set_option maxRecDepth 100000 in
theorem C22_51 {z : Int32 × List Nat} {a x dd : Int32} (h : mm_call la_C d 21 [.ref 71, .int a, .int 1, .int (x + 1), .int dd] μ (ac_Q K i v r f μ z)) : mm_call la_C (d + 1) 22 [.ref 71, .int 51, .int a, .int x, .int dd] μ (ac_Q K i v r f μ z) := by
  refine mm_call.of mm_t22 ?_
  refine mm_ev.run mm_y22 2 rfl ?_
  refine mm_ev.run mm_y22 7 rfl ?_
  refine mm_ev.call mm_y22 rfl rfl rfl rfl rfl h (fun v1 μ1 hq => ?_)
  obtain ⟨rfl, e1, e2⟩ := hq
  exact mm_ev.ret mm_y22 rfl rfl rfl ⟨rfl, e1, e2⟩
set_option maxRecDepth 100000 in
theorem C22_60 {z : Int32 × List Nat} {a x dd : Int32} (hC : ac_C K i v r f μ) (h : mm_call la_C d 21 [.ref 71, .int a, .int 2, .int (x - i), .int dd] μ (ac_Q K i v r f μ z)) : mm_call la_C (d + 1) 22 [.ref 71, .int 60, .int a, .int x, .int dd] μ (ac_Q K i v r f μ z) := by
  refine mm_call.of mm_t22 ?_
  refine mm_ev.run mm_y22 2 rfl ?_
  refine mm_ev.run mm_y22 6 rfl ?_
  refine mm_ev.val hC.2.2.1 ?_
  refine mm_ev.run mm_y22 2 rfl ?_
  refine mm_ev.call mm_y22 rfl rfl rfl rfl rfl h (fun v1 μ1 hq => ?_)
  obtain ⟨rfl, e1, e2⟩ := hq
  exact mm_ev.ret mm_y22 rfl rfl rfl ⟨rfl, e1, e2⟩
set_option maxRecDepth 100000 in
theorem C22_70 {z z2 : Int32 × List Nat} {a x dd : Int32} (h : mm_call la_C d 21 [.ref 71, .int a, .int 1, .int x, .int dd] μ (ac_Q K i v r f μ z)) (h2 : ∀ μ1, ac_C K i v (r + z.2.length) (ac_F f r z.2) μ1 → mm_call la_C d 21 [.ref 71, .int a, .int 0, .int 2, .int dd] μ1 (ac_Q K i v (r + z.2.length) (ac_F f r z.2) μ1 z2)) : mm_call la_C (d + 1) 22 [.ref 71, .int 70, .int a, .int x, .int dd] μ (ac_Q K i v r f μ (z.1 + z2.1, z.2 ++ z2.2)) := by
  refine mm_call.of mm_t22 ?_
  refine mm_ev.run mm_y22 2 rfl ?_
  refine mm_ev.run mm_y22 5 rfl ?_
  refine mm_ev.call mm_y22 rfl rfl rfl rfl rfl h (fun v1 μ1 hq => ?_)
  obtain ⟨rfl, e1, e2⟩ := hq
  refine mm_ev.run mm_y22 5 rfl ?_
  refine mm_ev.call mm_y22 rfl rfl rfl rfl rfl (h2 _ e1) (fun v1 μ1 hq => ?_)
  obtain ⟨rfl, e3, e4⟩ := hq
  refine mm_ev.run mm_y22 1 rfl ?_
  exact mm_ev.ret mm_y22 rfl rfl rfl ⟨rfl, e3.app, e2.tr e4⟩
set_option maxRecDepth 100000 in
theorem C22_71 {z : Int32 × List Nat} {a x dd : Int32} (h : mm_call la_C d 21 [.ref 71, .int a, .int 0, .int x, .int dd] μ (ac_Q K i v r f μ z)) : mm_call la_C (d + 1) 22 [.ref 71, .int 71, .int a, .int x, .int dd] μ (ac_Q K i v r f μ (z.1 ^^^ v, z.2)) := by
  refine mm_call.of mm_t22 ?_
  refine mm_ev.run mm_y22 2 rfl ?_
  refine mm_ev.run mm_y22 5 rfl ?_
  refine mm_ev.call mm_y22 rfl rfl rfl rfl rfl h (fun v1 μ1 hq => ?_)
  obtain ⟨rfl, e1, e2⟩ := hq
  refine mm_ev.run mm_y22 2 rfl ?_
  refine mm_ev.val e1.2.2.2.1 ?_
  refine mm_ev.run mm_y22 1 rfl ?_
  exact mm_ev.ret mm_y22 rfl rfl rfl ⟨rfl, e1, e2⟩
end
section
variable {d : Nat} {μ : mm_M} {K r : Nat} {i v : Int32} {f : Nat → Int32} {k dd : Nat} {x : Int32}
theorem RP0 (hk : k = 0 ∨ k = 1 ∨ k = 3) (hd : dd ≤ 20) (hC : ac_C K i v r f μ) (hr : r < 20) : mm_call la_C (d + 1) 21 [.ref 71, .int (nI k), .int (nI 0), .int x, .int (nI dd)] μ (ac_Q K i v r f μ (x + i, [10])) :=
  C21 (o := 0) (b := 10) (a := -1) (bb := 10) (z := (x + i, [])) (by omega) (by decide) (by rcases hk with rfl | rfl | rfl <;> decide +kernel) (by decide +kernel) (by decide +kernel) hd hC hr rfl (fun μ1 h1 => C22_10 h1 _ _ _)
theorem RP (hk : k < 7) (hd : dd ≤ 18) (hC : ac_C K i v r f μ) (hr : r + 1 < 20) : mm_call la_C (d + 3) 21 [.ref 71, .int (nI k), .int (nI 0), .int x, .int (nI dd)] μ (ac_Q K i v r f μ (ac_P i v k x)) := by
  rcases (show k = 0 ∨ k = 1 ∨ k = 2 ∨ k = 3 ∨ k = 4 ∨ k = 5 ∨ k = 6 by omega) with rfl | rfl | rfl | rfl | rfl | rfl | rfl
  · exact (RP0 (d := d) (by decide) (by omega) hC (by omega)).deep (by omega)
  · exact (RP0 (d := d) (by decide) (by omega) hC (by omega)).deep (by omega)
  · exact C21 (o := 2) (b := 30) (a := 0) (bb := 30) (z := (x * 3 + i, [10])) (by decide) (by decide) (by decide +kernel) (by decide +kernel) (by decide +kernel) (by omega) hC (by omega) rfl (fun μ1 h1 => C22_30 (RP0 (k := 0) (by decide) (by omega) h1 (by omega)))
  · exact (RP0 (d := d) (by decide) (by omega) hC (by omega)).deep (by omega)
  · exact C21 (o := 4) (b := 50) (a := 1) (bb := 50) (z := (-(x + i), [10])) (by decide) (by decide) (by decide +kernel) (by decide +kernel) (by decide +kernel) (by omega) hC (by omega) rfl (fun μ1 h1 => C22_50 (z := (x + i, [10])) (RP0 (k := 1) (by decide) (by omega) h1 (by omega)))
  · exact C21 (o := 2) (b := 30) (a := 0) (bb := 30) (z := (x * 3 + i, [10])) (by decide) (by decide) (by decide +kernel) (by decide +kernel) (by decide +kernel) (by omega) hC (by omega) rfl (fun μ1 h1 => C22_30 (RP0 (k := 0) (by decide) (by omega) h1 (by omega)))
  · exact C21 (o := 6) (b := 71) (a := 3) (bb := 71) (z := ((x + i) ^^^ v, [10])) (by decide) (by decide) (by decide +kernel) (by decide +kernel) (by decide +kernel) (by omega) hC (by omega) rfl (fun μ1 h1 => C22_71 (z := (x + i, [10])) (RP0 (k := 3) (by decide) (by omega) h1 (by omega)))
theorem RS0 (hK : K < 7) (hk : k = 0 ∨ k = 2 ∨ k = 3 ∨ k = 5) (hd : dd ≤ 17) (hC : ac_C K i v r f μ) (hr : r + 2 < 20) : mm_call la_C (d + 5) 21 [.ref 71, .int (nI k), .int (nI 1), .int x, .int (nI dd)] μ (ac_Q K i v r f μ (ac_S0 i v K x)) :=
  C21 (o := 0) (b := 11) (a := -1) (bb := 11) (z := ((ac_P i v K x).1 - v, (ac_P i v K x).2)) (by omega) (by decide) (by rcases hk with rfl | rfl | rfl | rfl <;> decide +kernel) (by decide +kernel) (by decide +kernel) (by omega) hC (by omega) rfl (fun μ1 h1 => C22_11 h1 (RP hK (by omega) h1 (by omega)))
theorem RS (hK : K < 7) (hk : k < 7) (hd : dd ≤ 15) (hC : ac_C K i v r f μ) (hr : r + 5 ≤ 20) : mm_call la_C (d + 9) 21 [.ref 71, .int (nI k), .int (nI 1), .int x, .int (nI dd)] μ (ac_Q K i v r f μ (ac_S i v K k x)) := by
  have h1 : ∀ {d dd : Nat} {x : Int32} {μ : mm_M} {r : Nat} {f : Nat → Int32}, dd ≤ 16 → ac_C K i v r f μ → r + 4 ≤ 20 → mm_call la_C (d + 7) 21 [.ref 71, .int (nI 1), .int (nI 1), .int x, .int (nI dd)] μ (ac_Q K i v r f μ ((ac_S0 i v K x).1 ^^^ 6, 20 :: (ac_S0 i v K x).2)) := fun {d dd x μ r f} hd hC hr =>
    C21 (o := 1) (b := 20) (a := 0) (bb := 20) (z := ((ac_S0 i v K x).1 ^^^ 6, (ac_S0 i v K x).2)) (by decide) (by decide) (by decide +kernel) (by decide +kernel) (by decide +kernel) (by omega) hC (by omega) rfl (fun μ1 h1 => C22_20 (RS0 (k := 0) hK (by decide) (by omega) h1 (by omega)))
  rcases (show k = 0 ∨ k = 1 ∨ k = 2 ∨ k = 3 ∨ k = 4 ∨ k = 5 ∨ k = 6 by omega) with rfl | rfl | rfl | rfl | rfl | rfl | rfl
  · exact (RS0 (d := d) hK (by decide) (by omega) hC (by omega)).deep (by omega)
  · exact (h1 (d := d) (by omega) hC (by omega)).deep (by omega)
  · exact (RS0 (d := d) hK (by decide) (by omega) hC (by omega)).deep (by omega)
  · exact (RS0 (d := d) hK (by decide) (by omega) hC (by omega)).deep (by omega)
  · exact C21 (o := 4) (b := 51) (a := 1) (bb := 51) (z := ((ac_S0 i v K (x + 1)).1 ^^^ 6, 20 :: (ac_S0 i v K (x + 1)).2)) (by decide) (by decide) (by decide +kernel) (by decide +kernel) (by decide +kernel) (by omega) hC (by omega) rfl (fun μ1 hh => C22_51 (h1 (by omega) hh (by omega)))
  · exact (RS0 (d := d) hK (by decide) (by omega) hC (by omega)).deep (by omega)
  · have hl := ac_S0_l i v K x
    exact C21 (o := 6) (b := 70) (a := 3) (bb := 70) (z := ((ac_S0 i v K x).1 + (2 + i), (ac_S0 i v K x).2 ++ [10])) (by decide) (by decide) (by decide +kernel) (by decide +kernel) (by decide +kernel) (by omega) hC (by omega) rfl (fun μ1 hh => C22_70 (z2 := (2 + i, [10])) ((RS0 (d := d + 2) (k := 3) hK (by decide) (by omega) hh (by omega))) (fun μ2 h2 => (RP0 (d := d) (k := 3) (by decide) (by omega) h2 (by omega)).deep (by omega)))
theorem RT0 (hK : K < 7) (hk : k = 0 ∨ k = 1 ∨ k = 2 ∨ k = 4) (hd : dd ≤ 14) (hC : ac_C K i v r f μ) (hr : r + 6 ≤ 20) : mm_call la_C (d + 11) 21 [.ref 71, .int (nI k), .int (nI 2), .int x, .int (nI dd)] μ (ac_Q K i v r f μ (ac_T0 i v K x)) :=
  C21 (o := 0) (b := 12) (a := -1) (bb := 12) (z := ((ac_S i v K K x).1 * 2, (ac_S i v K K x).2)) (by omega) (by decide) (by rcases hk with rfl | rfl | rfl | rfl <;> decide +kernel) (by decide +kernel) (by decide +kernel) (by omega) hC (by omega) rfl (fun μ1 h1 => C22_12 h1 (RS hK hK (by omega) h1 (by omega)))
theorem RT (hK : K < 7) (hk : k < 7) (hd : dd ≤ 13) (hC : ac_C K i v r f μ) (hr : r + 12 ≤ 20) : mm_call la_C (d + 13) 21 [.ref 71, .int (nI k), .int (nI 2), .int x, .int (nI dd)] μ (ac_Q K i v r f μ (ac_T i v K k x)) := by
  have hl := ac_T0_l i v K x
  rcases (show k = 0 ∨ k = 1 ∨ k = 2 ∨ k = 3 ∨ k = 4 ∨ k = 5 ∨ k = 6 by omega) with rfl | rfl | rfl | rfl | rfl | rfl | rfl
  · exact (RT0 (d := d) hK (by decide) (by omega) hC (by omega)).deep (by omega)
  · exact (RT0 (d := d) hK (by decide) (by omega) hC (by omega)).deep (by omega)
  · exact (RT0 (d := d) hK (by decide) (by omega) hC (by omega)).deep (by omega)
  · exact C21 (o := 3) (b := 40) (a := 0) (bb := 40) (z := ((ac_T0 i v K x).1 + (ac_S i v K K 1).1, (ac_T0 i v K x).2 ++ (ac_S i v K K 1).2)) (by decide) (by decide) (by decide +kernel) (by decide +kernel) (by decide +kernel) (by omega) hC (by omega) rfl (fun μ1 hh => C22_40 (RT0 (d := d) (k := 0) hK (by decide) (by omega) hh (by omega)) (fun μ2 h2 => (RS (d := d) hK hK (by omega) h2 (by omega)).deep (by omega)))
  · exact (RT0 (d := d) hK (by decide) (by omega) hC (by omega)).deep (by omega)
  · exact C21 (o := 5) (b := 60) (a := 2) (bb := 60) (z := ac_T0 i v K (x - i)) (by decide) (by decide) (by decide +kernel) (by decide +kernel) (by decide +kernel) (by omega) hC (by omega) rfl (fun μ1 hh => C22_60 hh (RT0 (d := d) (k := 2) hK (by decide) (by omega) hh (by omega)))
  · exact C21 (o := 3) (b := 40) (a := 0) (bb := 40) (z := ((ac_T0 i v K x).1 + (ac_S i v K K 1).1, (ac_T0 i v K x).2 ++ (ac_S i v K K 1).2)) (by decide) (by decide) (by decide +kernel) (by decide +kernel) (by decide +kernel) (by omega) hC (by omega) rfl (fun μ1 hh => C22_40 (RT0 (d := d) (k := 0) hK (by decide) (by omega) hh (by omega)) (fun μ2 h2 => (RS (d := d) hK hK (by omega) h2 (by omega)).deep (by omega)))
def sA_a (A : sA) (n : Nat) (f : Nat → Int32) : sA := (A.1, A.2.1, A.2.2.1, A.2.2.2.1, (n, f), A.2.2.2.2.2)
def ac_z (A : sA) (c : Nat) (a x : Int32) : Int32 × List Nat := if a = 0 then ac_P (nI c) (A.1.1.2.2.2 2 c) (A.1.1.2.2.2 1 c).toNatClampNeg x else if a = 1 then ac_S (nI c) (A.1.1.2.2.2 2 c) (A.1.1.2.2.2 1 c).toNatClampNeg (A.1.1.2.2.2 1 c).toNatClampNeg x else ac_T (nI c) (A.1.1.2.2.2 2 c) (A.1.1.2.2.2 1 c).toNatClampNeg (A.1.1.2.2.2 1 c).toNatClampNeg x
def q_act (A : sA) (c a x : Int32) : Int32 × sA := if isC A c ∧ (0 ≤ a ∧ a ≤ 2) then ((ac_z A c.toNatClampNeg a x).1, sA_a A (ac_z A c.toNatClampNeg a x).2.length (ac_F (fun _ => 0) 0 (ac_z A c.toNatClampNeg a x).2)) else (0, sA_a A 0 (fun _ => 0))
theorem rC.setA {A : sA} {μ' : mm_M} {n : Nat} {P : Nat → Prop} (h : rC A μ) (h1 : μ'.1 71 1 = nI n) (h2 : ∀ j, j < n → μ'.1 72 j = f j) (hf : mf P μ μ') (hP : ∀ c, P c → c = 71 ∨ c = 72) : rC (sA_a A n f) μ' := by
  obtain ⟨k1, k2, k3, k4, k5, k6, k7⟩ := h
  have e : ∀ c, ¬ (c = 71 ∨ c = 72) → μ'.1 c = μ.1 c := fun c hc => (hf c (fun z => hc (hP c z))).1
  exact ⟨k1.fr hf (fun c hc => by have := hP c hc; omega), by rw [e 14 (by omega)]; exact k2, fun K hK => (k3 K hK).fr hf (fun c hc => by have := hP c hc; omega), k4.fr' hf (fun c hc => by have := hP c hc; omega), ⟨by rw [e 66 (by omega)]; exact k5.1, fun i hi => by rw [e 67 (by omega)]; exact k5.2 i hi⟩, ⟨h1, h2⟩, fun t ht => (k7 t ht).fr hf (fun c hc => by have := hP c hc; omega)⟩
theorem p_3 {a : Int32} (h : 0 ≤ a ∧ a ≤ 2) : a = nI 0 ∨ a = nI 1 ∨ a = nI 2 := by
  obtain ⟨j, hj, rfl⟩ := nI_of2 (n := 2) (M := 2) (by decide) (Int32.not_lt.mpr h.1) h.2
  rcases (show j = 0 ∨ j = 1 ∨ j = 2 by omega) with rfl | rfl | rfl <;> simp
set_option maxRecDepth 100000 in
theorem C118 {A : sA} (h : rC A μ) (ho : okA A) (c a x : Int32) : mm_call la_C (d + 16) 118 [.ref 14, .int c, .int a, .int x] μ (fun v μ' => v = some (.int (q_act A c a x).1) ∧ rC (q_act A c a x).2 μ') := by
  have h6 := ho.n
  have K19 : mm_call la_C (d + 15) 19 [.ref 71] μ (fun v μ' => v = none ∧ μ' = mm_sI μ 71 (upd (μ.1 71) 1 0)) := by
    refine mm_call.of mm_t19 ?_
    refine mm_ev.run mm_y19 3 rfl ?_
    exact mm_ev.ret mm_y19 rfl rfl rfl ⟨rfl, rfl⟩
  have h0 : rC (sA_a A 0 (fun _ => 0)) (mm_sI μ 71 (upd (μ.1 71) 1 0)) := h.setA (by rw [sI_eq, upd_eq]; rfl) (fun j hj => absurd hj (by omega)) (mf.rf.sI (P := fun c => c = 71) rfl) (fun c hc => Or.inl hc)
  refine mm_call.of mm_t118 ?_
  refine mm_ev.run mm_y118 2 rfl ?_
  refine mm_ev.call mm_y118 rfl rfl rfl rfl rfl K19 (fun v1 μ1 hq => ?_)
  obtain ⟨rfl, hμ⟩ := hq
  obtain rfl := hμ.symm
  refine mm_ev.run mm_y118 2 rfl ?_
  refine mm_ev.call mm_y118 rfl rfl rfl rfl rfl (C88' (show _ = nI A.1.1.1 from h0.n) c) (fun v1 μ1 hq => ?_)
  obtain ⟨rfl, hμ⟩ := hq
  obtain rfl := hμ.symm
  refine mm_ev.run mm_y118 1 rfl ?_
  refine mm_ev.ifb (fun h1 => ?_) (fun h1 => ?_)
  · rw [q_act, if_neg (fun z => h1 z.1)]
    refine mm_ev.run mm_y118 1 rfl ?_
    exact mm_ev.ret mm_y118 rfl rfl rfl ⟨rfl, h0⟩
  · refine mm_ev.run mm_y118 3 rfl ?_
    refine mm_ev.call mm_y118 rfl rfl rfl rfl rfl (C86 a 0 2) (fun v1 μ1 hq => ?_)
    obtain ⟨rfl, hμ⟩ := hq
    obtain rfl := hμ.symm
    refine mm_ev.run mm_y118 1 rfl ?_
    refine mm_ev.ifb (fun h2 => ?_) (fun h2 => ?_)
    · rw [q_act, if_neg (fun z => h2 z.2)]
      refine mm_ev.run mm_y118 1 rfl ?_
      exact mm_ev.ret mm_y118 rfl rfl rfl ⟨rfl, h0⟩
    · rw [q_act, if_pos ⟨h1, h2⟩]
      obtain ⟨c, hc, rfl⟩ := nI_cap (by omega) h1
      rw [nI_clamp (by omega)]
      have hc : c < A.1.1.1 := hc
      obtain ⟨k, hk, ek⟩ := ho.1.1.2.2.2.1 c hc
      have hkd := h.1.1.kind hc
      have hv := h.1.1.v hc
      rw [ek] at hkd
      unfold ac_z
      rw [ek, nI_clamp (by omega)]
      have hC : ac_C k (nI c) (A.1.1.2.2.2 2 c) 0 (fun _ => 0) (mm_sI (mm_sI (mm_sI (mm_sI μ 71 (upd (μ.1 71) 1 0)) 71 (upd (upd (μ.1 71) 1 0) 2 (nI k))) 71 (upd (upd (upd (μ.1 71) 1 0) 2 (nI k)) 3 (nI c))) 71 (upd (upd (upd (upd (μ.1 71) 1 0) 2 (nI k)) 3 (nI c)) 4 (A.1.1.2.2.2 2 c))) := ⟨rfl, rfl, rfl, rfl, fun j hj => absurd hj (by omega)⟩
      have hm : mf ac_m μ (mm_sI (mm_sI (mm_sI (mm_sI μ 71 (upd (μ.1 71) 1 0)) 71 (upd (upd (μ.1 71) 1 0) 2 (nI k))) 71 (upd (upd (upd (μ.1 71) 1 0) 2 (nI k)) 3 (nI c))) 71 (upd (upd (upd (upd (μ.1 71) 1 0) 2 (nI k)) 3 (nI c)) 4 (A.1.1.2.2.2 2 c))) := (((mf.rf.sI (Or.inl rfl)).sI (Or.inl rfl)).sI (Or.inl rfl)).sI (Or.inl rfl)
      have K20 : ∀ z, mm_call la_C (d + 14) 21 [.ref 71, .int (nI k), .int a, .int x, .int (nI 0)] (mm_sI (mm_sI (mm_sI (mm_sI μ 71 (upd (μ.1 71) 1 0)) 71 (upd (upd (μ.1 71) 1 0) 2 (nI k))) 71 (upd (upd (upd (μ.1 71) 1 0) 2 (nI k)) 3 (nI c))) 71 (upd (upd (upd (upd (μ.1 71) 1 0) 2 (nI k)) 3 (nI c)) 4 (A.1.1.2.2.2 2 c))) (ac_Q k (nI c) (A.1.1.2.2.2 2 c) 0 (fun _ => 0) (mm_sI (mm_sI (mm_sI (mm_sI μ 71 (upd (μ.1 71) 1 0)) 71 (upd (upd (μ.1 71) 1 0) 2 (nI k))) 71 (upd (upd (upd (μ.1 71) 1 0) 2 (nI k)) 3 (nI c))) 71 (upd (upd (upd (upd (μ.1 71) 1 0) 2 (nI k)) 3 (nI c)) 4 (A.1.1.2.2.2 2 c))) z) → mm_call la_C (d + 15) 20 [.ref 71, .ref 16, .int (nI c), .int a, .int x] (mm_sI μ 71 (upd (μ.1 71) 1 0)) (fun v μ' => v = some (.int z.1) ∧ rC (sA_a A z.2.length (ac_F (fun _ => 0) 0 z.2)) μ') := by
        intro z hz
        refine mm_call.of mm_t20 ?_
        refine mm_ev.run mm_y20 4 rfl ?_
        refine mm_ev.ild mm_y20 rfl rfl rfl rfl rfl (by omega) (by decide) hkd ?_
        refine mm_ev.run mm_y20 8 rfl ?_
        refine mm_ev.ild mm_y20 rfl rfl rfl rfl rfl (by omega) (by decide) hv ?_
        refine mm_ev.run mm_y20 7 rfl ?_
        refine mm_ev.call mm_y20 rfl rfl rfl rfl rfl hz (fun v1 μ1 hq => ?_)
        obtain ⟨rfl, e1, e2⟩ := hq
        exact mm_ev.ret mm_y20 rfl rfl rfl ⟨rfl, h.setA (by rw [e1.1, Nat.zero_add]) (fun j hj => e1.2.2.2.2 j (by omega)) (hm.tr e2) (fun c hc => hc)⟩
      rcases p_3 h2 with rfl | rfl | rfl
      · rw [if_pos (show nI 0 = 0 from rfl)]
        refine mm_ev.run mm_y118 8 rfl ?_
        refine mm_ev.call mm_y118 rfl rfl rfl rfl rfl (K20 _ ((RP (d := d) hk (by omega) hC (by omega)).deep (by omega))) (fun v1 μ1 hq => ?_)
        obtain ⟨rfl, e1⟩ := hq
        exact mm_ev.ret mm_y118 rfl rfl rfl ⟨rfl, e1⟩
      · rw [if_neg (show ¬ nI 1 = 0 by decide), if_pos (show nI 1 = 1 from rfl)]
        refine mm_ev.run mm_y118 8 rfl ?_
        refine mm_ev.call mm_y118 rfl rfl rfl rfl rfl (K20 _ ((RS (d := d) hk hk (by omega) hC (by omega)).deep (by omega))) (fun v1 μ1 hq => ?_)
        obtain ⟨rfl, e1⟩ := hq
        exact mm_ev.ret mm_y118 rfl rfl rfl ⟨rfl, e1⟩
      · rw [if_neg (show ¬ nI 2 = 0 by decide), if_neg (show ¬ nI 2 = 1 by decide)]
        refine mm_ev.run mm_y118 8 rfl ?_
        refine mm_ev.call mm_y118 rfl rfl rfl rfl rfl (K20 _ ((RT (d := d) hk hk (by omega) hC (by omega)).deep (by omega))) (fun v1 μ1 hq => ?_)
        obtain ⟨rfl, e1⟩ := hq
        exact mm_ev.ret mm_y118 rfl rfl rfl ⟨rfl, e1⟩
end
