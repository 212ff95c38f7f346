theorem mm_y86 : mm_rows 86 = mm_r86 := rfl
theorem mm_t86 : mm_T 86 = some (3, mm_r86) := rfl
set_option maxRecDepth 100000 in
theorem tr_within (Λ : List mm_D) (d : Nat) (n lo hi : Int32) (μ : mm_M) : mm_call Λ d 86 [.int n, .int lo, .int hi] μ (fun v μ' => v = some (.int (if lo ≤ n ∧ n ≤ hi then 1 else 0)) ∧ μ' = μ) := by
  refine mm_call.of mm_t86 ?_
  refine mm_ev.run mm_y86 3 (i' := if n < lo then 8 else 3) (L' := [some (.int n), some (.int lo), some (.int hi)]) (st' := []) (μ' := μ) rfl ?_
  refine mm_ev.ite (fun h => ?_) (fun h => ?_)
  · refine mm_ev.run mm_y86 1 (i' := 9) (L' := [some (.int n), some (.int lo), some (.int hi)]) (st' := [.int 0]) (μ' := μ) rfl ?_
    refine mm_ev.ret mm_y86 (v := some (.int 0)) rfl rfl rfl ?_
    sorry
  · sorry
theorem i_vc : Claimed_1_1 ∧ Claimed_1_2 := sorry
