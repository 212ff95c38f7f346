/-! TEXTS -/
theorem i2b_n : ∀ c, c < 128 → (nI c).toInt8.toInt32 = nI c := by decide +kernel
theorem i2c_n : ∀ c, c < 128 → ((nI c).toUInt32 % 65536).toInt32 = nI c := by decide +kernel
section
variable {Λ : List mm_D} {d : Nat} {μ : mm_M}
set_option maxRecDepth 100000 in
theorem C17 {i n q : Nat} (h : i < n) (hn : n < 2 ^ 31) : mm_call Λ d 17 [.int (nI i), .int (nI n), .ref q] μ (fun v μ' => v = some (.int (nI i)) ∧ μ' = μ) := by
  refine mm_call.of mm_t17 ?_
  refine mm_ev.run mm_y17 2 rfl ?_
  refine mm_ev.neg (nI_pos (by omega)) ?_
  refine mm_ev.run mm_y17 3 rfl ?_
  refine mm_ev.pos (nI_lt h hn) ?_
  refine mm_ev.run mm_y17 1 rfl ?_
  exact mm_ev.ret mm_y17 rfl rfl rfl ⟨rfl, rfl⟩
set_option maxRecDepth 100000 in
theorem C10 {i n : Nat} (h : i < n) (hn : n < 2 ^ 31) : mm_call Λ (d + 1) 10 [.int (nI i), .int (nI n)] μ (fun v μ' => v = none ∧ μ' = μ) := by
  refine mm_call.of mm_t10 ?_
  refine mm_ev.run mm_y10 3 rfl ?_
  refine mm_ev.call mm_y10 rfl rfl rfl rfl rfl (C17 h hn) (fun v1 μ1 hq => ?_)
  obtain ⟨rfl, hμ⟩ := hq
  obtain rfl := hμ.symm
  refine mm_ev.run mm_y10 1 rfl ?_
  exact mm_ev.ret mm_y10 rfl rfl rfl ⟨rfl, rfl⟩
set_option maxRecDepth 100000 in
theorem C15 {c : Nat} (h : c < 128) : mm_call Λ d 15 [.int (nI c)] μ (fun v μ' => v = some (.int 1) ∧ μ' = μ) := by
  refine mm_call.of mm_t15 ?_
  refine mm_ev.run mm_y15 2 rfl ?_
  refine mm_ev.neg (nI_pos (by omega)) ?_
  refine mm_ev.run mm_y15 3 rfl ?_
  refine mm_ev.neg (nI_nlt (a := 255) (show c ≤ 255 by omega) (by decide)) ?_
  refine mm_ev.run mm_y15 2 rfl ?_
  exact mm_ev.ret mm_y15 rfl rfl rfl ⟨rfl, rfl⟩
set_option maxRecDepth 100000 in
theorem S7C {w : Nat} (hw : w = 3 ∨ w = 4 ∨ w = 5 ∨ w = 6 ∨ w = 7) : mm_call la_C d 7 [.ref w] μ (fun v μ' => v = some (.int 0) ∧ μ' = μ) := by
  rcases hw with rfl | rfl | rfl | rfl | rfl
  all_goals
    refine mm_call.of mm_t7 ?_
    refine mm_ev.run mm_y7 2 rfl ?_
    refine mm_ev.neg (by decide) ?_
    refine mm_ev.run mm_y7 3 rfl ?_
    exact mm_ev.ret mm_y7 rfl rfl rfl ⟨rfl, rfl⟩
set_option maxRecDepth 100000 in
theorem S9C {w : Nat} (hw : w = 3 ∨ w = 4 ∨ w = 5 ∨ w = 6 ∨ w = 7) : mm_call la_C d 9 [.ref w] μ (fun v μ' => v = some (.int 1) ∧ μ' = μ) := by
  rcases hw with rfl | rfl | rfl | rfl | rfl
  all_goals
    refine mm_call.of mm_t9 ?_
    refine mm_ev.run mm_y9 2 rfl ?_
    refine mm_ev.neg (by decide) ?_
    refine mm_ev.run mm_y9 3 rfl ?_
    refine mm_ev.pos rfl ?_
    refine mm_ev.run mm_y9 2 rfl ?_
    exact mm_ev.ret mm_y9 rfl rfl rfl ⟨rfl, rfl⟩
set_option maxRecDepth 100000 in
theorem S6C {w l : Nat} (hw : (w = 3 ∧ l = 5) ∨ (w = 4 ∧ l = 5) ∨ (w = 5 ∧ l = 5) ∨ (w = 6 ∧ l = 6) ∨ (w = 7 ∧ l = 3)) : mm_call la_C (d + 1) 6 [.ref w] μ (fun v μ' => v = some (.int (nI l)) ∧ μ' = μ) := by
  rcases hw with ⟨rfl, rfl⟩ | ⟨rfl, rfl⟩ | ⟨rfl, rfl⟩ | ⟨rfl, rfl⟩ | ⟨rfl, rfl⟩
  all_goals
    refine mm_call.of mm_t6 ?_
    refine mm_ev.run mm_y6 4 rfl ?_
    refine mm_ev.call mm_y6 rfl rfl rfl rfl rfl (S7C (by decide)) (fun v1 μ1 hq => ?_)
    obtain ⟨rfl, hμ⟩ := hq
    obtain rfl := hμ.symm
    refine mm_ev.run mm_y6 1 rfl ?_
    exact mm_ev.ret mm_y6 rfl rfl rfl ⟨rfl, rfl⟩
set_option maxRecDepth 100000 in
theorem S8C {w i : Nat} (hw : w = 0 ∨ w = 1 ∨ w = 2) (hi : i < 5) : mm_call la_C (d + 3) 8 [.ref (3 + w), .int (nI i)] μ (fun v μ' => v = some (.int ((pwd w).getD i 0)) ∧ μ' = μ) := by
  have K : mm_call la_C (d + 2) 13 [.ref (8 + w), .int (nI i)] μ (fun v μ' => v = some (.int ((pwd w).getD i 0)) ∧ μ' = μ) := by
    rcases hw with rfl | rfl | rfl
    all_goals
      rcases (show i = 0 ∨ i = 1 ∨ i = 2 ∨ i = 3 ∨ i = 4 by omega) with rfl | rfl | rfl | rfl | rfl
      all_goals
        refine mm_call.of mm_t13 ?_
        refine mm_ev.run mm_y13 3 rfl ?_
        refine mm_ev.call mm_y13 rfl rfl rfl rfl rfl (C10 (n := 5) (by decide) (by decide)) (fun v1 μ1 hq => ?_)
        obtain ⟨rfl, hμ⟩ := hq
        obtain rfl := hμ.symm
        refine mm_ev.run mm_y13 2 rfl ?_
        refine mm_ev.bld mm_y13 rfl rfl rfl rfl rfl (by decide) (by decide) rfl ?_
        refine mm_ev.run mm_y13 3 rfl ?_
        exact mm_ev.ret mm_y13 rfl rfl rfl ⟨rfl, rfl⟩
  rcases hw with rfl | rfl | rfl
  all_goals
    refine mm_call.of mm_t8 ?_
    refine mm_ev.run mm_y8 1 rfl ?_
    refine mm_ev.call mm_y8 rfl rfl rfl rfl rfl (S9C (by decide)) (fun v1 μ1 hq => ?_)
    obtain ⟨rfl, hμ⟩ := hq
    obtain rfl := hμ.symm
    refine mm_ev.run mm_y8 1 rfl ?_
    refine mm_ev.neg (by decide) ?_
    refine mm_ev.run mm_y8 3 rfl ?_
    refine mm_ev.call mm_y8 rfl rfl rfl rfl rfl K (fun v1 μ1 hq => ?_)
    obtain ⟨rfl, hμ⟩ := hq
    obtain rfl := hμ.symm
    refine mm_ev.ret mm_y8 rfl rfl ?_ ⟨rfl, rfl⟩
    rcases (show i = 0 ∨ i = 1 ∨ i = 2 ∨ i = 3 ∨ i = 4 by omega) with rfl | rfl | rfl | rfl | rfl <;> rfl
set_option maxRecDepth 100000 in
theorem S16C_6 {c : Nat} (hc : c < 128) : mm_call la_C d 16 [.ref 11, .int (nI c), .int 0, .int 6] μ (fun v μ' => v = some (.int (if pLt (nI c) < 6 then nI (pLt (nI c)) else -1)) ∧ μ' = μ) := by
  refine mm_call.of mm_t16 ?_
  refine mm_ev.run mm_y16 2 rfl ?_
  refine mm_ev.val (i2b_n c hc) ?_
  refine mm_ev.run mm_y16 6 rfl ?_
  refine mm_ev.neg (by decide) ?_
  refine mm_ev.run mm_y16 2 rfl ?_
  refine mm_ev.bld mm_y16 rfl rfl rfl rfl (show _ = nI 0 from rfl) (by decide) (by decide) (show _ = (112 : Int32) from rfl) ?_
  refine mm_ev.run mm_y16 2 rfl ?_
  refine mm_ev.ite (fun h => ?_) (fun h => ?_)
  · have e : pLt (nI c) = 0 := by unfold pLt; rw [if_pos h.symm]
    rw [e, if_pos (by decide)]
    refine mm_ev.run mm_y16 1 rfl ?_
    exact mm_ev.ret mm_y16 rfl rfl rfl ⟨rfl, rfl⟩
  · have n0 := h
    refine mm_ev.run mm_y16 5 rfl ?_
    refine mm_ev.neg (by decide) ?_
    refine mm_ev.run mm_y16 2 rfl ?_
    refine mm_ev.bld mm_y16 rfl rfl rfl rfl (show _ = nI 1 from rfl) (by decide) (by decide) (show _ = (107 : Int32) from rfl) ?_
    refine mm_ev.run mm_y16 2 rfl ?_
    refine mm_ev.ite (fun h => ?_) (fun h => ?_)
    · have e : pLt (nI c) = 1 := by unfold pLt; rw [if_neg (Ne.symm n0), if_pos h.symm]
      rw [e, if_pos (by decide)]
      refine mm_ev.run mm_y16 1 rfl ?_
      exact mm_ev.ret mm_y16 rfl rfl rfl ⟨rfl, rfl⟩
    · have n1 := h
      refine mm_ev.run mm_y16 5 rfl ?_
      refine mm_ev.neg (by decide) ?_
      refine mm_ev.run mm_y16 2 rfl ?_
      refine mm_ev.bld mm_y16 rfl rfl rfl rfl (show _ = nI 2 from rfl) (by decide) (by decide) (show _ = (118 : Int32) from rfl) ?_
      refine mm_ev.run mm_y16 2 rfl ?_
      refine mm_ev.ite (fun h => ?_) (fun h => ?_)
      · have e : pLt (nI c) = 2 := by unfold pLt; rw [if_neg (Ne.symm n0), if_neg (Ne.symm n1), if_pos h.symm]
        rw [e, if_pos (by decide)]
        refine mm_ev.run mm_y16 1 rfl ?_
        exact mm_ev.ret mm_y16 rfl rfl rfl ⟨rfl, rfl⟩
      · have n2 := h
        refine mm_ev.run mm_y16 5 rfl ?_
        refine mm_ev.neg (by decide) ?_
        refine mm_ev.run mm_y16 2 rfl ?_
        refine mm_ev.bld mm_y16 rfl rfl rfl rfl (show _ = nI 3 from rfl) (by decide) (by decide) (show _ = (120 : Int32) from rfl) ?_
        refine mm_ev.run mm_y16 2 rfl ?_
        refine mm_ev.ite (fun h => ?_) (fun h => ?_)
        · have e : pLt (nI c) = 3 := by unfold pLt; rw [if_neg (Ne.symm n0), if_neg (Ne.symm n1), if_neg (Ne.symm n2), if_pos h.symm]
          rw [e, if_pos (by decide)]
          refine mm_ev.run mm_y16 1 rfl ?_
          exact mm_ev.ret mm_y16 rfl rfl rfl ⟨rfl, rfl⟩
        · have n3 := h
          refine mm_ev.run mm_y16 5 rfl ?_
          refine mm_ev.neg (by decide) ?_
          refine mm_ev.run mm_y16 2 rfl ?_
          refine mm_ev.bld mm_y16 rfl rfl rfl rfl (show _ = nI 4 from rfl) (by decide) (by decide) (show _ = (110 : Int32) from rfl) ?_
          refine mm_ev.run mm_y16 2 rfl ?_
          refine mm_ev.ite (fun h => ?_) (fun h => ?_)
          · have e : pLt (nI c) = 4 := by unfold pLt; rw [if_neg (Ne.symm n0), if_neg (Ne.symm n1), if_neg (Ne.symm n2), if_neg (Ne.symm n3), if_pos h.symm]
            rw [e, if_pos (by decide)]
            refine mm_ev.run mm_y16 1 rfl ?_
            exact mm_ev.ret mm_y16 rfl rfl rfl ⟨rfl, rfl⟩
          · have n4 := h
            refine mm_ev.run mm_y16 5 rfl ?_
            refine mm_ev.neg (by decide) ?_
            refine mm_ev.run mm_y16 2 rfl ?_
            refine mm_ev.bld mm_y16 rfl rfl rfl rfl (show _ = nI 5 from rfl) (by decide) (by decide) (show _ = (104 : Int32) from rfl) ?_
            refine mm_ev.run mm_y16 2 rfl ?_
            refine mm_ev.ite (fun h => ?_) (fun h => ?_)
            · have e : pLt (nI c) = 5 := by unfold pLt; rw [if_neg (Ne.symm n0), if_neg (Ne.symm n1), if_neg (Ne.symm n2), if_neg (Ne.symm n3), if_neg (Ne.symm n4), if_pos h.symm]
              rw [e, if_pos (by decide)]
              refine mm_ev.run mm_y16 1 rfl ?_
              exact mm_ev.ret mm_y16 rfl rfl rfl ⟨rfl, rfl⟩
            · have n5 := h
              refine mm_ev.run mm_y16 5 rfl ?_
              refine mm_ev.pos (by decide) ?_
              have e : pLt (nI c) = 6 := by unfold pLt; rw [if_neg (Ne.symm n0), if_neg (Ne.symm n1), if_neg (Ne.symm n2), if_neg (Ne.symm n3), if_neg (Ne.symm n4), if_neg (Ne.symm n5)]
              rw [e, if_neg (by decide)]
              refine mm_ev.run mm_y16 1 rfl ?_
              exact mm_ev.ret mm_y16 rfl rfl rfl ⟨rfl, rfl⟩
set_option maxRecDepth 100000 in
theorem S11C_6 {c : Nat} (hc : c < 128) : mm_call la_C (d + 3) 11 [.ref 6, .int (nI c)] μ (fun v μ' => v = some (.int (if pLt (nI c) < 6 then nI (pLt (nI c)) else -1)) ∧ μ' = μ) := by
  have K14 : mm_call la_C (d + 1) 14 [.ref 11, .int (nI c), .int 0, .int 6] μ (fun v μ' => v = some (.int (if pLt (nI c) < 6 then nI (pLt (nI c)) else -1)) ∧ μ' = μ) := by
    refine mm_call.of mm_t14 ?_
    refine mm_ev.run mm_y14 1 rfl ?_
    refine mm_ev.call mm_y14 rfl rfl rfl rfl rfl (C15 hc) (fun v1 μ1 hq => ?_)
    obtain ⟨rfl, hμ⟩ := hq
    obtain rfl := hμ.symm
    refine mm_ev.run mm_y14 1 rfl ?_
    refine mm_ev.neg (by decide) ?_
    refine mm_ev.run mm_y14 12 rfl ?_
    refine mm_ev.pos (by decide) ?_
    refine mm_ev.run mm_y14 4 rfl ?_
    refine mm_ev.call mm_y14 rfl rfl rfl rfl rfl (S16C_6 hc) (fun v1 μ1 hq => ?_)
    obtain ⟨rfl, hμ⟩ := hq
    obtain rfl := hμ.symm
    exact mm_ev.ret mm_y14 rfl rfl rfl ⟨rfl, rfl⟩
  have K12 : mm_call la_C (d + 2) 12 [.ref 6, .int (nI c), .int 0] μ (fun v μ' => v = some (.int (if pLt (nI c) < 6 then nI (pLt (nI c)) else -1)) ∧ μ' = μ) := by
    refine mm_call.of mm_t12 ?_
    refine mm_ev.run mm_y12 1 rfl ?_
    refine mm_ev.call mm_y12 rfl rfl rfl rfl rfl (S9C (by decide)) (fun v1 μ1 hq => ?_)
    obtain ⟨rfl, hμ⟩ := hq
    obtain rfl := hμ.symm
    refine mm_ev.run mm_y12 1 rfl ?_
    refine mm_ev.neg (by decide) ?_
    refine mm_ev.run mm_y12 5 rfl ?_
    refine mm_ev.call mm_y12 rfl rfl rfl rfl rfl (S6C (l := 6) (by decide)) (fun v1 μ1 hq => ?_)
    obtain ⟨rfl, hμ⟩ := hq
    obtain rfl := hμ.symm
    refine mm_ev.call mm_y12 rfl rfl rfl rfl rfl K14 (fun v1 μ1 hq => ?_)
    obtain ⟨rfl, hμ⟩ := hq
    obtain rfl := hμ.symm
    refine mm_ev.run mm_y12 1 rfl ?_
    exact mm_ev.ret mm_y12 rfl rfl rfl ⟨rfl, rfl⟩
  refine mm_call.of mm_t11 ?_
  refine mm_ev.run mm_y11 3 rfl ?_
  refine mm_ev.call mm_y11 rfl rfl rfl rfl rfl K12 (fun v1 μ1 hq => ?_)
  obtain ⟨rfl, hμ⟩ := hq
  obtain rfl := hμ.symm
  exact mm_ev.ret mm_y11 rfl rfl rfl ⟨rfl, rfl⟩
set_option maxRecDepth 100000 in
theorem S7M {w : Nat} (hw : w = 3 ∨ w = 4 ∨ w = 5 ∨ w = 6 ∨ w = 7) : mm_call la_M d 7 [.ref w] μ (fun v μ' => v = some (.int 0) ∧ μ' = μ) := by
  rcases hw with rfl | rfl | rfl | rfl | rfl
  all_goals
    refine mm_call.of mm_t7 ?_
    refine mm_ev.run mm_y7 2 rfl ?_
    refine mm_ev.neg (by decide) ?_
    refine mm_ev.run mm_y7 3 rfl ?_
    exact mm_ev.ret mm_y7 rfl rfl rfl ⟨rfl, rfl⟩
set_option maxRecDepth 100000 in
theorem S9M {w : Nat} (hw : w = 3 ∨ w = 4 ∨ w = 5 ∨ w = 6 ∨ w = 7) : mm_call la_M d 9 [.ref w] μ (fun v μ' => v = some (.int 1) ∧ μ' = μ) := by
  rcases hw with rfl | rfl | rfl | rfl | rfl
  all_goals
    refine mm_call.of mm_t9 ?_
    refine mm_ev.run mm_y9 2 rfl ?_
    refine mm_ev.neg (by decide) ?_
    refine mm_ev.run mm_y9 3 rfl ?_
    refine mm_ev.pos rfl ?_
    refine mm_ev.run mm_y9 2 rfl ?_
    exact mm_ev.ret mm_y9 rfl rfl rfl ⟨rfl, rfl⟩
set_option maxRecDepth 100000 in
theorem S6M {w l : Nat} (hw : (w = 3 ∧ l = 5) ∨ (w = 4 ∧ l = 5) ∨ (w = 5 ∧ l = 5) ∨ (w = 6 ∧ l = 6) ∨ (w = 7 ∧ l = 3)) : mm_call la_M (d + 1) 6 [.ref w] μ (fun v μ' => v = some (.int (nI l)) ∧ μ' = μ) := by
  rcases hw with ⟨rfl, rfl⟩ | ⟨rfl, rfl⟩ | ⟨rfl, rfl⟩ | ⟨rfl, rfl⟩ | ⟨rfl, rfl⟩
  all_goals
    refine mm_call.of mm_t6 ?_
    refine mm_ev.run mm_y6 4 rfl ?_
    refine mm_ev.call mm_y6 rfl rfl rfl rfl rfl (S7M (by decide)) (fun v1 μ1 hq => ?_)
    obtain ⟨rfl, hμ⟩ := hq
    obtain rfl := hμ.symm
    refine mm_ev.run mm_y6 1 rfl ?_
    exact mm_ev.ret mm_y6 rfl rfl rfl ⟨rfl, rfl⟩
set_option maxRecDepth 100000 in
theorem S8M {w i : Nat} (hw : w = 0 ∨ w = 1 ∨ w = 2) (hi : i < 5) : mm_call la_M (d + 3) 8 [.ref (3 + w), .int (nI i)] μ (fun v μ' => v = some (.int ((pwd w).getD i 0)) ∧ μ' = μ) := by
  have K : mm_call la_M (d + 2) 13 [.ref (8 + w), .int (nI i)] μ (fun v μ' => v = some (.int ((pwd w).getD i 0)) ∧ μ' = μ) := by
    rcases hw with rfl | rfl | rfl
    all_goals
      rcases (show i = 0 ∨ i = 1 ∨ i = 2 ∨ i = 3 ∨ i = 4 by omega) with rfl | rfl | rfl | rfl | rfl
      all_goals
        refine mm_call.of mm_t13 ?_
        refine mm_ev.run mm_y13 3 rfl ?_
        refine mm_ev.call mm_y13 rfl rfl rfl rfl rfl (C10 (n := 5) (by decide) (by decide)) (fun v1 μ1 hq => ?_)
        obtain ⟨rfl, hμ⟩ := hq
        obtain rfl := hμ.symm
        refine mm_ev.run mm_y13 2 rfl ?_
        refine mm_ev.bld mm_y13 rfl rfl rfl rfl rfl (by decide) (by decide) rfl ?_
        refine mm_ev.run mm_y13 3 rfl ?_
        exact mm_ev.ret mm_y13 rfl rfl rfl ⟨rfl, rfl⟩
  rcases hw with rfl | rfl | rfl
  all_goals
    refine mm_call.of mm_t8 ?_
    refine mm_ev.run mm_y8 1 rfl ?_
    refine mm_ev.call mm_y8 rfl rfl rfl rfl rfl (S9M (by decide)) (fun v1 μ1 hq => ?_)
    obtain ⟨rfl, hμ⟩ := hq
    obtain rfl := hμ.symm
    refine mm_ev.run mm_y8 1 rfl ?_
    refine mm_ev.neg (by decide) ?_
    refine mm_ev.run mm_y8 3 rfl ?_
    refine mm_ev.call mm_y8 rfl rfl rfl rfl rfl K (fun v1 μ1 hq => ?_)
    obtain ⟨rfl, hμ⟩ := hq
    obtain rfl := hμ.symm
    refine mm_ev.ret mm_y8 rfl rfl ?_ ⟨rfl, rfl⟩
    rcases (show i = 0 ∨ i = 1 ∨ i = 2 ∨ i = 3 ∨ i = 4 by omega) with rfl | rfl | rfl | rfl | rfl <;> rfl
set_option maxRecDepth 100000 in
theorem S16M_6 {c : Nat} (hc : c < 128) : mm_call la_M d 16 [.ref 11, .int (nI c), .int 0, .int 6] μ (fun v μ' => v = some (.int (if pLt (nI c) < 6 then nI (pLt (nI c)) else -1)) ∧ μ' = μ) := by
  refine mm_call.of mm_t16 ?_
  refine mm_ev.run mm_y16 2 rfl ?_
  refine mm_ev.val (i2b_n c hc) ?_
  refine mm_ev.run mm_y16 6 rfl ?_
  refine mm_ev.neg (by decide) ?_
  refine mm_ev.run mm_y16 2 rfl ?_
  refine mm_ev.bld mm_y16 rfl rfl rfl rfl (show _ = nI 0 from rfl) (by decide) (by decide) (show _ = (112 : Int32) from rfl) ?_
  refine mm_ev.run mm_y16 2 rfl ?_
  refine mm_ev.ite (fun h => ?_) (fun h => ?_)
  · have e : pLt (nI c) = 0 := by unfold pLt; rw [if_pos h.symm]
    rw [e, if_pos (by decide)]
    refine mm_ev.run mm_y16 1 rfl ?_
    exact mm_ev.ret mm_y16 rfl rfl rfl ⟨rfl, rfl⟩
  · have n0 := h
    refine mm_ev.run mm_y16 5 rfl ?_
    refine mm_ev.neg (by decide) ?_
    refine mm_ev.run mm_y16 2 rfl ?_
    refine mm_ev.bld mm_y16 rfl rfl rfl rfl (show _ = nI 1 from rfl) (by decide) (by decide) (show _ = (107 : Int32) from rfl) ?_
    refine mm_ev.run mm_y16 2 rfl ?_
    refine mm_ev.ite (fun h => ?_) (fun h => ?_)
    · have e : pLt (nI c) = 1 := by unfold pLt; rw [if_neg (Ne.symm n0), if_pos h.symm]
      rw [e, if_pos (by decide)]
      refine mm_ev.run mm_y16 1 rfl ?_
      exact mm_ev.ret mm_y16 rfl rfl rfl ⟨rfl, rfl⟩
    · have n1 := h
      refine mm_ev.run mm_y16 5 rfl ?_
      refine mm_ev.neg (by decide) ?_
      refine mm_ev.run mm_y16 2 rfl ?_
      refine mm_ev.bld mm_y16 rfl rfl rfl rfl (show _ = nI 2 from rfl) (by decide) (by decide) (show _ = (118 : Int32) from rfl) ?_
      refine mm_ev.run mm_y16 2 rfl ?_
      refine mm_ev.ite (fun h => ?_) (fun h => ?_)
      · have e : pLt (nI c) = 2 := by unfold pLt; rw [if_neg (Ne.symm n0), if_neg (Ne.symm n1), if_pos h.symm]
        rw [e, if_pos (by decide)]
        refine mm_ev.run mm_y16 1 rfl ?_
        exact mm_ev.ret mm_y16 rfl rfl rfl ⟨rfl, rfl⟩
      · have n2 := h
        refine mm_ev.run mm_y16 5 rfl ?_
        refine mm_ev.neg (by decide) ?_
        refine mm_ev.run mm_y16 2 rfl ?_
        refine mm_ev.bld mm_y16 rfl rfl rfl rfl (show _ = nI 3 from rfl) (by decide) (by decide) (show _ = (120 : Int32) from rfl) ?_
        refine mm_ev.run mm_y16 2 rfl ?_
        refine mm_ev.ite (fun h => ?_) (fun h => ?_)
        · have e : pLt (nI c) = 3 := by unfold pLt; rw [if_neg (Ne.symm n0), if_neg (Ne.symm n1), if_neg (Ne.symm n2), if_pos h.symm]
          rw [e, if_pos (by decide)]
          refine mm_ev.run mm_y16 1 rfl ?_
          exact mm_ev.ret mm_y16 rfl rfl rfl ⟨rfl, rfl⟩
        · have n3 := h
          refine mm_ev.run mm_y16 5 rfl ?_
          refine mm_ev.neg (by decide) ?_
          refine mm_ev.run mm_y16 2 rfl ?_
          refine mm_ev.bld mm_y16 rfl rfl rfl rfl (show _ = nI 4 from rfl) (by decide) (by decide) (show _ = (110 : Int32) from rfl) ?_
          refine mm_ev.run mm_y16 2 rfl ?_
          refine mm_ev.ite (fun h => ?_) (fun h => ?_)
          · have e : pLt (nI c) = 4 := by unfold pLt; rw [if_neg (Ne.symm n0), if_neg (Ne.symm n1), if_neg (Ne.symm n2), if_neg (Ne.symm n3), if_pos h.symm]
            rw [e, if_pos (by decide)]
            refine mm_ev.run mm_y16 1 rfl ?_
            exact mm_ev.ret mm_y16 rfl rfl rfl ⟨rfl, rfl⟩
          · have n4 := h
            refine mm_ev.run mm_y16 5 rfl ?_
            refine mm_ev.neg (by decide) ?_
            refine mm_ev.run mm_y16 2 rfl ?_
            refine mm_ev.bld mm_y16 rfl rfl rfl rfl (show _ = nI 5 from rfl) (by decide) (by decide) (show _ = (104 : Int32) from rfl) ?_
            refine mm_ev.run mm_y16 2 rfl ?_
            refine mm_ev.ite (fun h => ?_) (fun h => ?_)
            · have e : pLt (nI c) = 5 := by unfold pLt; rw [if_neg (Ne.symm n0), if_neg (Ne.symm n1), if_neg (Ne.symm n2), if_neg (Ne.symm n3), if_neg (Ne.symm n4), if_pos h.symm]
              rw [e, if_pos (by decide)]
              refine mm_ev.run mm_y16 1 rfl ?_
              exact mm_ev.ret mm_y16 rfl rfl rfl ⟨rfl, rfl⟩
            · have n5 := h
              refine mm_ev.run mm_y16 5 rfl ?_
              refine mm_ev.pos (by decide) ?_
              have e : pLt (nI c) = 6 := by unfold pLt; rw [if_neg (Ne.symm n0), if_neg (Ne.symm n1), if_neg (Ne.symm n2), if_neg (Ne.symm n3), if_neg (Ne.symm n4), if_neg (Ne.symm n5)]
              rw [e, if_neg (by decide)]
              refine mm_ev.run mm_y16 1 rfl ?_
              exact mm_ev.ret mm_y16 rfl rfl rfl ⟨rfl, rfl⟩
set_option maxRecDepth 100000 in
theorem S11M_6 {c : Nat} (hc : c < 128) : mm_call la_M (d + 3) 11 [.ref 6, .int (nI c)] μ (fun v μ' => v = some (.int (if pLt (nI c) < 6 then nI (pLt (nI c)) else -1)) ∧ μ' = μ) := by
  have K14 : mm_call la_M (d + 1) 14 [.ref 11, .int (nI c), .int 0, .int 6] μ (fun v μ' => v = some (.int (if pLt (nI c) < 6 then nI (pLt (nI c)) else -1)) ∧ μ' = μ) := by
    refine mm_call.of mm_t14 ?_
    refine mm_ev.run mm_y14 1 rfl ?_
    refine mm_ev.call mm_y14 rfl rfl rfl rfl rfl (C15 hc) (fun v1 μ1 hq => ?_)
    obtain ⟨rfl, hμ⟩ := hq
    obtain rfl := hμ.symm
    refine mm_ev.run mm_y14 1 rfl ?_
    refine mm_ev.neg (by decide) ?_
    refine mm_ev.run mm_y14 12 rfl ?_
    refine mm_ev.pos (by decide) ?_
    refine mm_ev.run mm_y14 4 rfl ?_
    refine mm_ev.call mm_y14 rfl rfl rfl rfl rfl (S16M_6 hc) (fun v1 μ1 hq => ?_)
    obtain ⟨rfl, hμ⟩ := hq
    obtain rfl := hμ.symm
    exact mm_ev.ret mm_y14 rfl rfl rfl ⟨rfl, rfl⟩
  have K12 : mm_call la_M (d + 2) 12 [.ref 6, .int (nI c), .int 0] μ (fun v μ' => v = some (.int (if pLt (nI c) < 6 then nI (pLt (nI c)) else -1)) ∧ μ' = μ) := by
    refine mm_call.of mm_t12 ?_
    refine mm_ev.run mm_y12 1 rfl ?_
    refine mm_ev.call mm_y12 rfl rfl rfl rfl rfl (S9M (by decide)) (fun v1 μ1 hq => ?_)
    obtain ⟨rfl, hμ⟩ := hq
    obtain rfl := hμ.symm
    refine mm_ev.run mm_y12 1 rfl ?_
    refine mm_ev.neg (by decide) ?_
    refine mm_ev.run mm_y12 5 rfl ?_
    refine mm_ev.call mm_y12 rfl rfl rfl rfl rfl (S6M (l := 6) (by decide)) (fun v1 μ1 hq => ?_)
    obtain ⟨rfl, hμ⟩ := hq
    obtain rfl := hμ.symm
    refine mm_ev.call mm_y12 rfl rfl rfl rfl rfl K14 (fun v1 μ1 hq => ?_)
    obtain ⟨rfl, hμ⟩ := hq
    obtain rfl := hμ.symm
    refine mm_ev.run mm_y12 1 rfl ?_
    exact mm_ev.ret mm_y12 rfl rfl rfl ⟨rfl, rfl⟩
  refine mm_call.of mm_t11 ?_
  refine mm_ev.run mm_y11 3 rfl ?_
  refine mm_ev.call mm_y11 rfl rfl rfl rfl rfl K12 (fun v1 μ1 hq => ?_)
  obtain ⟨rfl, hμ⟩ := hq
  obtain rfl := hμ.symm
  exact mm_ev.ret mm_y11 rfl rfl rfl ⟨rfl, rfl⟩
set_option maxRecDepth 100000 in
theorem S16M_7 {c : Nat} (hc : c < 128) : mm_call la_M d 16 [.ref 12, .int (nI c), .int 0, .int 3] μ (fun v μ' => v = some (.int (if pWy (nI c) < 3 then nI (pWy (nI c)) else -1)) ∧ μ' = μ) := by
  refine mm_call.of mm_t16 ?_
  refine mm_ev.run mm_y16 2 rfl ?_
  refine mm_ev.val (i2b_n c hc) ?_
  refine mm_ev.run mm_y16 6 rfl ?_
  refine mm_ev.neg (by decide) ?_
  refine mm_ev.run mm_y16 2 rfl ?_
  refine mm_ev.bld mm_y16 rfl rfl rfl rfl (show _ = nI 0 from rfl) (by decide) (by decide) (show _ = (60 : Int32) from rfl) ?_
  refine mm_ev.run mm_y16 2 rfl ?_
  refine mm_ev.ite (fun h => ?_) (fun h => ?_)
  · have e : pWy (nI c) = 0 := by unfold pWy; rw [if_pos h.symm]
    rw [e, if_pos (by decide)]
    refine mm_ev.run mm_y16 1 rfl ?_
    exact mm_ev.ret mm_y16 rfl rfl rfl ⟨rfl, rfl⟩
  · have n0 := h
    refine mm_ev.run mm_y16 5 rfl ?_
    refine mm_ev.neg (by decide) ?_
    refine mm_ev.run mm_y16 2 rfl ?_
    refine mm_ev.bld mm_y16 rfl rfl rfl rfl (show _ = nI 1 from rfl) (by decide) (by decide) (show _ = (61 : Int32) from rfl) ?_
    refine mm_ev.run mm_y16 2 rfl ?_
    refine mm_ev.ite (fun h => ?_) (fun h => ?_)
    · have e : pWy (nI c) = 1 := by unfold pWy; rw [if_neg (Ne.symm n0), if_pos h.symm]
      rw [e, if_pos (by decide)]
      refine mm_ev.run mm_y16 1 rfl ?_
      exact mm_ev.ret mm_y16 rfl rfl rfl ⟨rfl, rfl⟩
    · have n1 := h
      refine mm_ev.run mm_y16 5 rfl ?_
      refine mm_ev.neg (by decide) ?_
      refine mm_ev.run mm_y16 2 rfl ?_
      refine mm_ev.bld mm_y16 rfl rfl rfl rfl (show _ = nI 2 from rfl) (by decide) (by decide) (show _ = (62 : Int32) from rfl) ?_
      refine mm_ev.run mm_y16 2 rfl ?_
      refine mm_ev.ite (fun h => ?_) (fun h => ?_)
      · have e : pWy (nI c) = 2 := by unfold pWy; rw [if_neg (Ne.symm n0), if_neg (Ne.symm n1), if_pos h.symm]
        rw [e, if_pos (by decide)]
        refine mm_ev.run mm_y16 1 rfl ?_
        exact mm_ev.ret mm_y16 rfl rfl rfl ⟨rfl, rfl⟩
      · have n2 := h
        refine mm_ev.run mm_y16 5 rfl ?_
        refine mm_ev.pos (by decide) ?_
        have e : pWy (nI c) = 3 := by unfold pWy; rw [if_neg (Ne.symm n0), if_neg (Ne.symm n1), if_neg (Ne.symm n2)]
        rw [e, if_neg (by decide)]
        refine mm_ev.run mm_y16 1 rfl ?_
        exact mm_ev.ret mm_y16 rfl rfl rfl ⟨rfl, rfl⟩
set_option maxRecDepth 100000 in
theorem S11M_7 {c : Nat} (hc : c < 128) : mm_call la_M (d + 3) 11 [.ref 7, .int (nI c)] μ (fun v μ' => v = some (.int (if pWy (nI c) < 3 then nI (pWy (nI c)) else -1)) ∧ μ' = μ) := by
  have K14 : mm_call la_M (d + 1) 14 [.ref 12, .int (nI c), .int 0, .int 3] μ (fun v μ' => v = some (.int (if pWy (nI c) < 3 then nI (pWy (nI c)) else -1)) ∧ μ' = μ) := by
    refine mm_call.of mm_t14 ?_
    refine mm_ev.run mm_y14 1 rfl ?_
    refine mm_ev.call mm_y14 rfl rfl rfl rfl rfl (C15 hc) (fun v1 μ1 hq => ?_)
    obtain ⟨rfl, hμ⟩ := hq
    obtain rfl := hμ.symm
    refine mm_ev.run mm_y14 1 rfl ?_
    refine mm_ev.neg (by decide) ?_
    refine mm_ev.run mm_y14 12 rfl ?_
    refine mm_ev.pos (by decide) ?_
    refine mm_ev.run mm_y14 4 rfl ?_
    refine mm_ev.call mm_y14 rfl rfl rfl rfl rfl (S16M_7 hc) (fun v1 μ1 hq => ?_)
    obtain ⟨rfl, hμ⟩ := hq
    obtain rfl := hμ.symm
    exact mm_ev.ret mm_y14 rfl rfl rfl ⟨rfl, rfl⟩
  have K12 : mm_call la_M (d + 2) 12 [.ref 7, .int (nI c), .int 0] μ (fun v μ' => v = some (.int (if pWy (nI c) < 3 then nI (pWy (nI c)) else -1)) ∧ μ' = μ) := by
    refine mm_call.of mm_t12 ?_
    refine mm_ev.run mm_y12 1 rfl ?_
    refine mm_ev.call mm_y12 rfl rfl rfl rfl rfl (S9M (by decide)) (fun v1 μ1 hq => ?_)
    obtain ⟨rfl, hμ⟩ := hq
    obtain rfl := hμ.symm
    refine mm_ev.run mm_y12 1 rfl ?_
    refine mm_ev.neg (by decide) ?_
    refine mm_ev.run mm_y12 5 rfl ?_
    refine mm_ev.call mm_y12 rfl rfl rfl rfl rfl (S6M (l := 3) (by decide)) (fun v1 μ1 hq => ?_)
    obtain ⟨rfl, hμ⟩ := hq
    obtain rfl := hμ.symm
    refine mm_ev.call mm_y12 rfl rfl rfl rfl rfl K14 (fun v1 μ1 hq => ?_)
    obtain ⟨rfl, hμ⟩ := hq
    obtain rfl := hμ.symm
    refine mm_ev.run mm_y12 1 rfl ?_
    exact mm_ev.ret mm_y12 rfl rfl rfl ⟨rfl, rfl⟩
  refine mm_call.of mm_t11 ?_
  refine mm_ev.run mm_y11 3 rfl ?_
  refine mm_ev.call mm_y11 rfl rfl rfl rfl rfl K12 (fun v1 μ1 hq => ?_)
  obtain ⟨rfl, hμ⟩ := hq
  obtain rfl := hμ.symm
  exact mm_ev.ret mm_y11 rfl rfl rfl ⟨rfl, rfl⟩
end
