/-! THE LAW, RUN OVER EVERY SCRIPT, ENDS WITH 1 -/
theorem sm_sz_app (a b : List mm_D) : sm_sz (a ++ b) = sm_sz a + sm_sz b := by simp [sm_sz]
theorem la_sz : sm_sz (la_c ++ la_m) ≤ 100000 := by decide +kernel
theorem la_FO (L : Nat) (xs : Nat → Int32) : la_F L xs = sm_O L xs ++ (la_c ++ la_m) := rfl
set_option maxRecDepth 100000 in
theorem st_pure : st_owed := by
  intro L xs hL
  obtain ⟨μ1, e1, c1, h1⟩ := la_m1 (L := L) (xs := xs)
  rw [h1] at c1
  obtain ⟨μ2, e2, c2, m2⟩ := la_m2 (L := L) (xs := xs) c1
  rw [← h1] at e2
  have e1 := mm_more _ _ _ _ _ _ _ _ e1 4000 59 (Nat.le_refl _) (by decide)
  have e2 := mm_more _ _ _ _ _ _ _ _ e2 4000 59 (Nat.le_refl _) (by decide)
  have law := law_l (xs := xs) hL (L + 1) 0 sA0 μ2 (by omega) (Nat.zero_le _) c2 m2 ok_0
  have key : mm_ex 60 203 0 [some (.ref 0), none, none, none] [] (sm_O L xs, st_m0) (la_F L xs) (fun v _ => v = some (.int 1)) := by
    refine mm_ex.run mm_y203 2 0 _ _ _ rfl ?_
    refine mm_ex.call mm_y203 rfl rfl rfl rfl rfl mm_t84 e1 ?_
    refine mm_ex.run mm_y203 3 3 _ _ _ rfl ?_
    refine mm_ex.call mm_y203 rfl rfl rfl rfl rfl mm_t126 e2 ?_
    refine mm_ex.run mm_y203 3 7 _ _ _ rfl ?_
    exact law
  obtain ⟨f, v, μ', h, rfl⟩ := key
  refine ⟨f, (la_F L xs, μ'), h, ?_, ?_⟩
  · show (la_F L xs).length ≤ 1000
    rw [show (la_F L xs).length = 142 from rfl]
    decide
  · show sm_sz (la_F L xs) ≤ _
    rw [la_FO, sm_sz_app]
    have := la_sz
    omega
