/-! THE LAW: its cases -/
section
variable {L i : Nat} {xs : Nat → Int32} {A : sA} {μ : mm_M} {Φ : Option Value → mm_M → Prop}
abbrev lw_K (L : Nat) (xs : Nat → Int32) (i : Nat) (Φ : Option Value → mm_M → Prop) : Prop := ∀ A μ, rC A μ → rM A μ → okA A → mm_ev (la_F L xs) 60 203 887 [some (.ref 0), some (.ref 14), some (.ref 110), some (.int (nI i))] [] μ Φ
set_option maxRecDepth 100000 in
theorem law_0 (hi : i + 6 ≤ L) (hL : L < 2 ^ 31) (hC : rC A μ) (hM : rM A μ) (ho : okA A) (K : lw_K L xs i Φ) : mm_ev (la_F L xs) 60 203 22 [some (.ref 0), some (.ref 14), some (.ref 110), some (.int (nI i))] [] μ Φ := by
  refine mm_ev.run mm_y203 5 rfl ?_
  refine mm_ev.ild mm_y203 rfl rfl rfl rfl (nI_add i 1) (by omega) hL rfl ?_
  refine mm_ev.run mm_y203 4 rfl ?_
  refine mm_ev.ild mm_y203 rfl rfl rfl rfl (nI_add i 2) (by omega) hL rfl ?_
  refine mm_ev.call mm_y203 rfl rfl rfl rfl rfl (la_liftC (C85 (d := 49) hC ho (xs (i + 1)) (xs (i + 2))) hM) (fun v1 μ1 hq => ?_)
  obtain ⟨rfl, hC1, hM1⟩ := hq
  refine mm_ev.run mm_y203 5 rfl ?_
  refine mm_ev.ild mm_y203 rfl rfl rfl rfl (nI_add i 1) (by omega) hL rfl ?_
  refine mm_ev.run mm_y203 4 rfl ?_
  refine mm_ev.ild mm_y203 rfl rfl rfl rfl (nI_add i 2) (by omega) hL rfl ?_
  refine mm_ev.call mm_y203 rfl rfl rfl rfl rfl (la_liftM (C127 (d := 49) hM1 ho (xs (i + 1)) (xs (i + 2))) hC1) (fun v1 μ1 hq => ?_)
  obtain ⟨rfl, hM2, hC2⟩ := hq
  refine mm_ev.run mm_y203 1 rfl ?_
  refine mm_ev.pos rfl ?_
  exact K _ _ hC2 hM2 (ok_child ho _ _)
set_option maxRecDepth 100000 in
theorem law_1 (hi : i + 6 ≤ L) (hL : L < 2 ^ 31) (hC : rC A μ) (hM : rM A μ) (ho : okA A) (K : lw_K L xs i Φ) : mm_ev (la_F L xs) 60 203 49 [some (.ref 0), some (.ref 14), some (.ref 110), some (.int (nI i))] [] μ Φ := by
  refine mm_ev.run mm_y203 5 rfl ?_
  refine mm_ev.ild mm_y203 rfl rfl rfl rfl (nI_add i 1) (by omega) hL rfl ?_
  refine mm_ev.run mm_y203 4 rfl ?_
  refine mm_ev.ild mm_y203 rfl rfl rfl rfl (nI_add i 2) (by omega) hL rfl ?_
  refine mm_ev.call mm_y203 rfl rfl rfl rfl rfl (la_liftC (C87 (d := 49) hC ho (xs (i + 1)) (xs (i + 2))) hM) (fun v1 μ1 hq => ?_)
  obtain ⟨rfl, hC1, hM1⟩ := hq
  refine mm_ev.run mm_y203 5 rfl ?_
  refine mm_ev.ild mm_y203 rfl rfl rfl rfl (nI_add i 1) (by omega) hL rfl ?_
  refine mm_ev.run mm_y203 4 rfl ?_
  refine mm_ev.ild mm_y203 rfl rfl rfl rfl (nI_add i 2) (by omega) hL rfl ?_
  refine mm_ev.call mm_y203 rfl rfl rfl rfl rfl (la_liftM (C129 (d := 49) hM1 ho (xs (i + 1)) (xs (i + 2))) hC1) (fun v1 μ1 hq => ?_)
  obtain ⟨rfl, hM2, hC2⟩ := hq
  refine mm_ev.run mm_y203 1 rfl ?_
  refine mm_ev.pos rfl ?_
  exact K _ _ hC2 hM2 ho
set_option maxRecDepth 100000 in
theorem law_2 (hi : i + 6 ≤ L) (hL : L < 2 ^ 31) (hC : rC A μ) (hM : rM A μ) (ho : okA A) (K : lw_K L xs i Φ) : mm_ev (la_F L xs) 60 203 76 [some (.ref 0), some (.ref 14), some (.ref 110), some (.int (nI i))] [] μ Φ := by
  refine mm_ev.run mm_y203 5 rfl ?_
  refine mm_ev.ild mm_y203 rfl rfl rfl rfl (nI_add i 1) (by omega) hL rfl ?_
  refine mm_ev.run mm_y203 4 rfl ?_
  refine mm_ev.ild mm_y203 rfl rfl rfl rfl (nI_add i 2) (by omega) hL rfl ?_
  refine mm_ev.call mm_y203 rfl rfl rfl rfl rfl (la_liftC (C90 (d := 49) hC ho (xs (i + 1)) (xs (i + 2))) hM) (fun v1 μ1 hq => ?_)
  obtain ⟨rfl, hC1, hM1⟩ := hq
  refine mm_ev.run mm_y203 5 rfl ?_
  refine mm_ev.ild mm_y203 rfl rfl rfl rfl (nI_add i 1) (by omega) hL rfl ?_
  refine mm_ev.run mm_y203 4 rfl ?_
  refine mm_ev.ild mm_y203 rfl rfl rfl rfl (nI_add i 2) (by omega) hL rfl ?_
  refine mm_ev.call mm_y203 rfl rfl rfl rfl rfl (la_liftM (C137 (d := 49) hM1 ho (xs (i + 1)) (xs (i + 2))) hC1) (fun v1 μ1 hq => ?_)
  obtain ⟨rfl, hM2, hC2⟩ := hq
  refine mm_ev.run mm_y203 1 rfl ?_
  refine mm_ev.pos rfl ?_
  exact K _ _ hC2 hM2 ho
set_option maxRecDepth 100000 in
theorem law_3 (hi : i + 6 ≤ L) (hL : L < 2 ^ 31) (hC : rC A μ) (hM : rM A μ) (ho : okA A) (K : lw_K L xs i Φ) : mm_ev (la_F L xs) 60 203 103 [some (.ref 0), some (.ref 14), some (.ref 110), some (.int (nI i))] [] μ Φ := by
  refine mm_ev.run mm_y203 5 rfl ?_
  refine mm_ev.ild mm_y203 rfl rfl rfl rfl (nI_add i 1) (by omega) hL rfl ?_
  refine mm_ev.run mm_y203 4 rfl ?_
  refine mm_ev.ild mm_y203 rfl rfl rfl rfl (nI_add i 2) (by omega) hL rfl ?_
  refine mm_ev.call mm_y203 rfl rfl rfl rfl rfl (la_liftC (C93 (d := 49) hC ho (xs (i + 1)) (xs (i + 2))) hM) (fun v1 μ1 hq => ?_)
  obtain ⟨rfl, hC1, hM1⟩ := hq
  refine mm_ev.run mm_y203 5 rfl ?_
  refine mm_ev.ild mm_y203 rfl rfl rfl rfl (nI_add i 1) (by omega) hL rfl ?_
  refine mm_ev.run mm_y203 4 rfl ?_
  refine mm_ev.ild mm_y203 rfl rfl rfl rfl (nI_add i 2) (by omega) hL rfl ?_
  refine mm_ev.call mm_y203 rfl rfl rfl rfl rfl (la_liftM (C145 (d := 49) hM1 ho (xs (i + 1)) (xs (i + 2))) hC1) (fun v1 μ1 hq => ?_)
  obtain ⟨rfl, hM2, hC2⟩ := hq
  refine mm_ev.run mm_y203 1 rfl ?_
  refine mm_ev.pos rfl ?_
  exact K _ _ hC2 hM2 (ok_point ho _ _)
set_option maxRecDepth 100000 in
theorem law_4 (hi : i + 6 ≤ L) (hL : L < 2 ^ 31) (hC : rC A μ) (hM : rM A μ) (ho : okA A) (K : lw_K L xs i Φ) : mm_ev (la_F L xs) 60 203 130 [some (.ref 0), some (.ref 14), some (.ref 110), some (.int (nI i))] [] μ Φ := by
  refine mm_ev.run mm_y203 5 rfl ?_
  refine mm_ev.ild mm_y203 rfl rfl rfl rfl (nI_add i 1) (by omega) hL rfl ?_
  refine mm_ev.run mm_y203 4 rfl ?_
  refine mm_ev.ild mm_y203 rfl rfl rfl rfl (nI_add i 2) (by omega) hL rfl ?_
  refine mm_ev.call mm_y203 rfl rfl rfl rfl rfl (la_liftC (C94 (d := 49) hC ho (xs (i + 1)) (xs (i + 2))) hM) (fun v1 μ1 hq => ?_)
  obtain ⟨rfl, hC1, hM1⟩ := hq
  refine mm_ev.run mm_y203 5 rfl ?_
  refine mm_ev.ild mm_y203 rfl rfl rfl rfl (nI_add i 1) (by omega) hL rfl ?_
  refine mm_ev.run mm_y203 4 rfl ?_
  refine mm_ev.ild mm_y203 rfl rfl rfl rfl (nI_add i 2) (by omega) hL rfl ?_
  refine mm_ev.call mm_y203 rfl rfl rfl rfl rfl (la_liftM (C146 (d := 49) hM1 ho (xs (i + 1)) (xs (i + 2))) hC1) (fun v1 μ1 hq => ?_)
  obtain ⟨rfl, hM2, hC2⟩ := hq
  refine mm_ev.run mm_y203 1 rfl ?_
  refine mm_ev.pos rfl ?_
  exact K _ _ hC2 hM2 (ok_need ho _ _)
set_option maxRecDepth 100000 in
theorem law_5 (hi : i + 6 ≤ L) (hL : L < 2 ^ 31) (hC : rC A μ) (hM : rM A μ) (ho : okA A) (K : lw_K L xs i Φ) : mm_ev (la_F L xs) 60 203 157 [some (.ref 0), some (.ref 14), some (.ref 110), some (.int (nI i))] [] μ Φ := by
  refine mm_ev.run mm_y203 5 rfl ?_
  refine mm_ev.ild mm_y203 rfl rfl rfl rfl (nI_add i 1) (by omega) hL rfl ?_
  refine mm_ev.call mm_y203 rfl rfl rfl rfl rfl (la_liftC (C95 (d := 49) hC ho (xs (i + 1))) hM) (fun v1 μ1 hq => ?_)
  obtain ⟨rfl, hC1, hM1⟩ := hq
  refine mm_ev.run mm_y203 5 rfl ?_
  refine mm_ev.ild mm_y203 rfl rfl rfl rfl (nI_add i 1) (by omega) hL rfl ?_
  refine mm_ev.call mm_y203 rfl rfl rfl rfl rfl (la_liftM (C148 (d := 49) hM1 ho (xs (i + 1))) hC1) (fun v1 μ1 hq => ?_)
  obtain ⟨rfl, hM2, hC2⟩ := hq
  refine mm_ev.run mm_y203 1 rfl ?_
  refine mm_ev.pos rfl ?_
  exact K _ _ hC2 hM2 (ok_spin ho _)
set_option maxRecDepth 100000 in
theorem law_6 (hi : i + 6 ≤ L) (hL : L < 2 ^ 31) (hC : rC A μ) (hM : rM A μ) (ho : okA A) (K : lw_K L xs i Φ) : mm_ev (la_F L xs) 60 203 174 [some (.ref 0), some (.ref 14), some (.ref 110), some (.int (nI i))] [] μ Φ := by
  refine mm_ev.run mm_y203 1 rfl ?_
  refine mm_ev.call mm_y203 rfl rfl rfl rfl rfl (la_liftC (C96 (d := 49) hC ho) hM) (fun v1 μ1 hq => ?_)
  obtain ⟨rfl, hC1, hM1⟩ := hq
  refine mm_ev.run mm_y203 1 rfl ?_
  refine mm_ev.call mm_y203 rfl rfl rfl rfl rfl (la_liftM (C151 (d := 49) hM1 ho) hC1) (fun v1 μ1 hq => ?_)
  obtain ⟨rfl, hM2, hC2⟩ := hq
  refine mm_ev.run mm_y203 1 rfl ?_
  refine mm_ev.pos rfl ?_
  exact K _ _ hC2 hM2 (ok_bell ho)
set_option maxRecDepth 100000 in
theorem law_7 (hi : i + 6 ≤ L) (hL : L < 2 ^ 31) (hC : rC A μ) (hM : rM A μ) (ho : okA A) (K : lw_K L xs i Φ) : mm_ev (la_F L xs) 60 203 181 [some (.ref 0), some (.ref 14), some (.ref 110), some (.int (nI i))] [] μ Φ := by
  refine mm_ev.run mm_y203 5 rfl ?_
  refine mm_ev.ild mm_y203 rfl rfl rfl rfl (nI_add i 1) (by omega) hL rfl ?_
  refine mm_ev.run mm_y203 4 rfl ?_
  refine mm_ev.ild mm_y203 rfl rfl rfl rfl (nI_add i 2) (by omega) hL rfl ?_
  refine mm_ev.run mm_y203 4 rfl ?_
  refine mm_ev.ild mm_y203 rfl rfl rfl rfl (nI_add i 3) (by omega) hL rfl ?_
  refine mm_ev.call mm_y203 rfl rfl rfl rfl rfl (la_liftC (C97 (d := 49) hC ho (xs (i + 1)) (xs (i + 2)) (xs (i + 3))) hM) (fun v1 μ1 hq => ?_)
  obtain ⟨rfl, hC1, hM1⟩ := hq
  refine mm_ev.run mm_y203 5 rfl ?_
  refine mm_ev.ild mm_y203 rfl rfl rfl rfl (nI_add i 1) (by omega) hL rfl ?_
  refine mm_ev.run mm_y203 4 rfl ?_
  refine mm_ev.ild mm_y203 rfl rfl rfl rfl (nI_add i 2) (by omega) hL rfl ?_
  refine mm_ev.run mm_y203 4 rfl ?_
  refine mm_ev.ild mm_y203 rfl rfl rfl rfl (nI_add i 3) (by omega) hL rfl ?_
  refine mm_ev.call mm_y203 rfl rfl rfl rfl rfl (la_liftM (C152 (d := 49) hM1 ho (xs (i + 1)) (xs (i + 2)) (xs (i + 3))) hC1) (fun v1 μ1 hq => ?_)
  obtain ⟨rfl, hM2, hC2⟩ := hq
  refine mm_ev.run mm_y203 1 rfl ?_
  refine mm_ev.pos rfl ?_
  exact K _ _ hC2 hM2 (ok_row ho _ _ _)
set_option maxRecDepth 100000 in
theorem law_8 (hi : i + 6 ≤ L) (hL : L < 2 ^ 31) (hC : rC A μ) (hM : rM A μ) (ho : okA A) (K : lw_K L xs i Φ) : mm_ev (la_F L xs) 60 203 218 [some (.ref 0), some (.ref 14), some (.ref 110), some (.int (nI i))] [] μ Φ := by
  refine mm_ev.run mm_y203 5 rfl ?_
  refine mm_ev.ild mm_y203 rfl rfl rfl rfl (nI_add i 1) (by omega) hL rfl ?_
  refine mm_ev.call mm_y203 rfl rfl rfl rfl rfl (la_liftC (C98 (d := 49) hC ho (xs (i + 1))) hM) (fun v1 μ1 hq => ?_)
  obtain ⟨rfl, hC1, hM1⟩ := hq
  refine mm_ev.run mm_y203 5 rfl ?_
  refine mm_ev.ild mm_y203 rfl rfl rfl rfl (nI_add i 1) (by omega) hL rfl ?_
  refine mm_ev.call mm_y203 rfl rfl rfl rfl rfl (la_liftM (C153 (d := 49) hM1 ho (xs (i + 1))) hC1) (fun v1 μ1 hq => ?_)
  obtain ⟨rfl, hM2, hC2⟩ := hq
  refine mm_ev.run mm_y203 1 rfl ?_
  refine mm_ev.pos rfl ?_
  exact K _ _ hC2 hM2 (ok_feed ho _)
set_option maxRecDepth 100000 in
theorem law_9 (hi : i + 6 ≤ L) (hL : L < 2 ^ 31) (hC : rC A μ) (hM : rM A μ) (ho : okA A) (K : lw_K L xs i Φ) : mm_ev (la_F L xs) 60 203 235 [some (.ref 0), some (.ref 14), some (.ref 110), some (.int (nI i))] [] μ Φ := by
  refine mm_ev.run mm_y203 1 rfl ?_
  refine mm_ev.call mm_y203 rfl rfl rfl rfl rfl (la_liftC (C99 (d := 36) hC ho) hM) (fun v1 μ1 hq => ?_)
  obtain ⟨rfl, hC1, hM1⟩ := hq
  refine mm_ev.run mm_y203 1 rfl ?_
  refine mm_ev.call mm_y203 rfl rfl rfl rfl rfl (la_liftM (C154 (d := 38) hM1 ho) hC1) (fun v1 μ1 hq => ?_)
  obtain ⟨rfl, hM2, hC2⟩ := hq
  refine mm_ev.run mm_y203 1 rfl ?_
  refine mm_ev.pos rfl ?_
  exact K _ _ hC2 hM2 (ok_school ho)
set_option maxRecDepth 100000 in
theorem law_10 (hi : i + 6 ≤ L) (hL : L < 2 ^ 31) (hC : rC A μ) (hM : rM A μ) (ho : okA A) (K : lw_K L xs i Φ) : mm_ev (la_F L xs) 60 203 242 [some (.ref 0), some (.ref 14), some (.ref 110), some (.int (nI i))] [] μ Φ := by
  refine mm_ev.run mm_y203 5 rfl ?_
  refine mm_ev.ild mm_y203 rfl rfl rfl rfl (nI_add i 1) (by omega) hL rfl ?_
  refine mm_ev.call mm_y203 rfl rfl rfl rfl rfl (la_liftC (C100 (d := 49) hC ho (xs (i + 1))) hM) (fun v1 μ1 hq => ?_)
  obtain ⟨rfl, hC1, hM1⟩ := hq
  refine mm_ev.run mm_y203 5 rfl ?_
  refine mm_ev.ild mm_y203 rfl rfl rfl rfl (nI_add i 1) (by omega) hL rfl ?_
  refine mm_ev.call mm_y203 rfl rfl rfl rfl rfl (la_liftM (C166 (d := 49) hM1 ho (xs (i + 1))) hC1) (fun v1 μ1 hq => ?_)
  obtain ⟨rfl, hM2, hC2⟩ := hq
  refine mm_ev.run mm_y203 1 rfl ?_
  refine mm_ev.pos rfl ?_
  exact K _ _ hC2 hM2 ho
set_option maxRecDepth 100000 in
theorem law_11 (hi : i + 6 ≤ L) (hL : L < 2 ^ 31) (hC : rC A μ) (hM : rM A μ) (ho : okA A) (K : lw_K L xs i Φ) : mm_ev (la_F L xs) 60 203 259 [some (.ref 0), some (.ref 14), some (.ref 110), some (.int (nI i))] [] μ Φ := by
  refine mm_ev.run mm_y203 5 rfl ?_
  refine mm_ev.ild mm_y203 rfl rfl rfl rfl (nI_add i 1) (by omega) hL rfl ?_
  refine mm_ev.call mm_y203 rfl rfl rfl rfl rfl (la_liftC (C101 (d := 49) hC ho (xs (i + 1))) hM) (fun v1 μ1 hq => ?_)
  obtain ⟨rfl, hC1, hM1⟩ := hq
  refine mm_ev.run mm_y203 5 rfl ?_
  refine mm_ev.ild mm_y203 rfl rfl rfl rfl (nI_add i 1) (by omega) hL rfl ?_
  refine mm_ev.call mm_y203 rfl rfl rfl rfl rfl (la_liftM (C171 (d := 49) hM1 ho (xs (i + 1))) hC1) (fun v1 μ1 hq => ?_)
  obtain ⟨rfl, hM2, hC2⟩ := hq
  refine mm_ev.run mm_y203 1 rfl ?_
  refine mm_ev.pos rfl ?_
  exact K _ _ hC2 hM2 (ok_pass ho _)
set_option maxRecDepth 100000 in
theorem law_12 (hi : i + 6 ≤ L) (hL : L < 2 ^ 31) (hC : rC A μ) (hM : rM A μ) (ho : okA A) (K : lw_K L xs i Φ) : mm_ev (la_F L xs) 60 203 276 [some (.ref 0), some (.ref 14), some (.ref 110), some (.int (nI i))] [] μ Φ := by
  refine mm_ev.run mm_y203 5 rfl ?_
  refine mm_ev.ild mm_y203 rfl rfl rfl rfl (nI_add i 1) (by omega) hL rfl ?_
  refine mm_ev.run mm_y203 4 rfl ?_
  refine mm_ev.ild mm_y203 rfl rfl rfl rfl (nI_add i 2) (by omega) hL rfl ?_
  refine mm_ev.call mm_y203 rfl rfl rfl rfl rfl (la_liftC (C102 (d := 49) hC ho (xs (i + 1)) (xs (i + 2))) hM) (fun v1 μ1 hq => ?_)
  obtain ⟨rfl, hC1, hM1⟩ := hq
  refine mm_ev.run mm_y203 5 rfl ?_
  refine mm_ev.ild mm_y203 rfl rfl rfl rfl (nI_add i 1) (by omega) hL rfl ?_
  refine mm_ev.run mm_y203 4 rfl ?_
  refine mm_ev.ild mm_y203 rfl rfl rfl rfl (nI_add i 2) (by omega) hL rfl ?_
  refine mm_ev.call mm_y203 rfl rfl rfl rfl rfl (la_liftM (C172 (d := 49) hM1 ho (xs (i + 1)) (xs (i + 2))) hC1) (fun v1 μ1 hq => ?_)
  obtain ⟨rfl, hM2, hC2⟩ := hq
  refine mm_ev.run mm_y203 1 rfl ?_
  refine mm_ev.pos rfl ?_
  exact K _ _ hC2 hM2 ho
set_option maxRecDepth 100000 in
theorem law_13 (hi : i + 6 ≤ L) (hL : L < 2 ^ 31) (hC : rC A μ) (hM : rM A μ) (ho : okA A) (K : lw_K L xs i Φ) : mm_ev (la_F L xs) 60 203 303 [some (.ref 0), some (.ref 14), some (.ref 110), some (.int (nI i))] [] μ Φ := by
  refine mm_ev.run mm_y203 5 rfl ?_
  refine mm_ev.ild mm_y203 rfl rfl rfl rfl (nI_add i 1) (by omega) hL rfl ?_
  refine mm_ev.run mm_y203 4 rfl ?_
  refine mm_ev.ild mm_y203 rfl rfl rfl rfl (nI_add i 2) (by omega) hL rfl ?_
  refine mm_ev.call mm_y203 rfl rfl rfl rfl rfl (la_liftC (C103 (d := 49) hC ho (xs (i + 1)) (xs (i + 2))) hM) (fun v1 μ1 hq => ?_)
  obtain ⟨rfl, hC1, hM1⟩ := hq
  refine mm_ev.run mm_y203 5 rfl ?_
  refine mm_ev.ild mm_y203 rfl rfl rfl rfl (nI_add i 1) (by omega) hL rfl ?_
  refine mm_ev.run mm_y203 4 rfl ?_
  refine mm_ev.ild mm_y203 rfl rfl rfl rfl (nI_add i 2) (by omega) hL rfl ?_
  refine mm_ev.call mm_y203 rfl rfl rfl rfl rfl (la_liftM (C173 (d := 49) hM1 ho (xs (i + 1)) (xs (i + 2))) hC1) (fun v1 μ1 hq => ?_)
  obtain ⟨rfl, hM2, hC2⟩ := hq
  refine mm_ev.run mm_y203 1 rfl ?_
  refine mm_ev.pos rfl ?_
  exact K _ _ hC2 hM2 ho
set_option maxRecDepth 100000 in
theorem law_14 (hi : i + 6 ≤ L) (hL : L < 2 ^ 31) (hC : rC A μ) (hM : rM A μ) (ho : okA A) (K : lw_K L xs i Φ) : mm_ev (la_F L xs) 60 203 330 [some (.ref 0), some (.ref 14), some (.ref 110), some (.int (nI i))] [] μ Φ := by
  refine mm_ev.run mm_y203 5 rfl ?_
  refine mm_ev.ild mm_y203 rfl rfl rfl rfl (nI_add i 1) (by omega) hL rfl ?_
  refine mm_ev.call mm_y203 rfl rfl rfl rfl rfl (la_liftC (C104 (d := 49) hC ho (xs (i + 1))) hM) (fun v1 μ1 hq => ?_)
  obtain ⟨rfl, hC1, hM1⟩ := hq
  refine mm_ev.run mm_y203 5 rfl ?_
  refine mm_ev.ild mm_y203 rfl rfl rfl rfl (nI_add i 1) (by omega) hL rfl ?_
  refine mm_ev.call mm_y203 rfl rfl rfl rfl rfl (la_liftM (C174 (d := 49) hM1 ho (xs (i + 1))) hC1) (fun v1 μ1 hq => ?_)
  obtain ⟨rfl, hM2, hC2⟩ := hq
  refine mm_ev.run mm_y203 1 rfl ?_
  refine mm_ev.pos rfl ?_
  exact K _ _ hC2 hM2 ho
set_option maxRecDepth 100000 in
theorem law_15 (hi : i + 6 ≤ L) (hL : L < 2 ^ 31) (hC : rC A μ) (hM : rM A μ) (ho : okA A) (K : lw_K L xs i Φ) : mm_ev (la_F L xs) 60 203 347 [some (.ref 0), some (.ref 14), some (.ref 110), some (.int (nI i))] [] μ Φ := by
  refine mm_ev.run mm_y203 5 rfl ?_
  refine mm_ev.ild mm_y203 rfl rfl rfl rfl (nI_add i 1) (by omega) hL rfl ?_
  refine mm_ev.run mm_y203 4 rfl ?_
  refine mm_ev.ild mm_y203 rfl rfl rfl rfl (nI_add i 2) (by omega) hL rfl ?_
  refine mm_ev.run mm_y203 4 rfl ?_
  refine mm_ev.ild mm_y203 rfl rfl rfl rfl (nI_add i 3) (by omega) hL rfl ?_
  refine mm_ev.call mm_y203 rfl rfl rfl rfl rfl (la_liftC (C105 (d := 49) hC ho (xs (i + 1)) (xs (i + 2)) (xs (i + 3))) hM) (fun v1 μ1 hq => ?_)
  obtain ⟨rfl, hC1, hM1⟩ := hq
  refine mm_ev.run mm_y203 5 rfl ?_
  refine mm_ev.ild mm_y203 rfl rfl rfl rfl (nI_add i 1) (by omega) hL rfl ?_
  refine mm_ev.run mm_y203 4 rfl ?_
  refine mm_ev.ild mm_y203 rfl rfl rfl rfl (nI_add i 2) (by omega) hL rfl ?_
  refine mm_ev.run mm_y203 4 rfl ?_
  refine mm_ev.ild mm_y203 rfl rfl rfl rfl (nI_add i 3) (by omega) hL rfl ?_
  refine mm_ev.call mm_y203 rfl rfl rfl rfl rfl (la_liftM (C175 (d := 49) hM1 ho (xs (i + 1)) (xs (i + 2)) (xs (i + 3))) hC1) (fun v1 μ1 hq => ?_)
  obtain ⟨rfl, hM2, hC2⟩ := hq
  refine mm_ev.run mm_y203 1 rfl ?_
  refine mm_ev.pos rfl ?_
  exact K _ _ hC2 hM2 (ok_see ho _ _ _)
set_option maxRecDepth 100000 in
theorem law_16 (hi : i + 6 ≤ L) (hL : L < 2 ^ 31) (hC : rC A μ) (hM : rM A μ) (ho : okA A) (K : lw_K L xs i Φ) : mm_ev (la_F L xs) 60 203 384 [some (.ref 0), some (.ref 14), some (.ref 110), some (.int (nI i))] [] μ Φ := by
  refine mm_ev.run mm_y203 5 rfl ?_
  refine mm_ev.ild mm_y203 rfl rfl rfl rfl (nI_add i 1) (by omega) hL rfl ?_
  refine mm_ev.run mm_y203 4 rfl ?_
  refine mm_ev.ild mm_y203 rfl rfl rfl rfl (nI_add i 2) (by omega) hL rfl ?_
  refine mm_ev.call mm_y203 rfl rfl rfl rfl rfl (la_liftC (C106 (d := 49) hC ho (xs (i + 1)) (xs (i + 2))) hM) (fun v1 μ1 hq => ?_)
  obtain ⟨rfl, hC1, hM1⟩ := hq
  refine mm_ev.run mm_y203 5 rfl ?_
  refine mm_ev.ild mm_y203 rfl rfl rfl rfl (nI_add i 1) (by omega) hL rfl ?_
  refine mm_ev.run mm_y203 4 rfl ?_
  refine mm_ev.ild mm_y203 rfl rfl rfl rfl (nI_add i 2) (by omega) hL rfl ?_
  refine mm_ev.call mm_y203 rfl rfl rfl rfl rfl (la_liftM (C176 (d := 49) hM1 ho (xs (i + 1)) (xs (i + 2))) hC1) (fun v1 μ1 hq => ?_)
  obtain ⟨rfl, hM2, hC2⟩ := hq
  refine mm_ev.run mm_y203 1 rfl ?_
  refine mm_ev.pos rfl ?_
  exact K _ _ hC2 hM2 ho
set_option maxRecDepth 100000 in
theorem law_17 (hi : i + 6 ≤ L) (hL : L < 2 ^ 31) (hC : rC A μ) (hM : rM A μ) (ho : okA A) (K : lw_K L xs i Φ) : mm_ev (la_F L xs) 60 203 411 [some (.ref 0), some (.ref 14), some (.ref 110), some (.int (nI i))] [] μ Φ := by
  refine mm_ev.run mm_y203 5 rfl ?_
  refine mm_ev.ild mm_y203 rfl rfl rfl rfl (nI_add i 1) (by omega) hL rfl ?_
  refine mm_ev.run mm_y203 4 rfl ?_
  refine mm_ev.ild mm_y203 rfl rfl rfl rfl (nI_add i 2) (by omega) hL rfl ?_
  refine mm_ev.run mm_y203 4 rfl ?_
  refine mm_ev.ild mm_y203 rfl rfl rfl rfl (nI_add i 3) (by omega) hL rfl ?_
  refine mm_ev.run mm_y203 4 rfl ?_
  refine mm_ev.ild mm_y203 rfl rfl rfl rfl (nI_add i 4) (by omega) hL rfl ?_
  refine mm_ev.call mm_y203 rfl rfl rfl rfl rfl (la_liftC (C107 (d := 49) hC ho (xs (i + 1)) (xs (i + 2)) (xs (i + 3)) (xs (i + 4))) hM) (fun v1 μ1 hq => ?_)
  obtain ⟨rfl, hC1, hM1⟩ := hq
  refine mm_ev.run mm_y203 5 rfl ?_
  refine mm_ev.ild mm_y203 rfl rfl rfl rfl (nI_add i 1) (by omega) hL rfl ?_
  refine mm_ev.run mm_y203 4 rfl ?_
  refine mm_ev.ild mm_y203 rfl rfl rfl rfl (nI_add i 2) (by omega) hL rfl ?_
  refine mm_ev.run mm_y203 4 rfl ?_
  refine mm_ev.ild mm_y203 rfl rfl rfl rfl (nI_add i 3) (by omega) hL rfl ?_
  refine mm_ev.run mm_y203 4 rfl ?_
  refine mm_ev.ild mm_y203 rfl rfl rfl rfl (nI_add i 4) (by omega) hL rfl ?_
  refine mm_ev.call mm_y203 rfl rfl rfl rfl rfl (la_liftM (C177 (d := 49) hM1 ho (xs (i + 1)) (xs (i + 2)) (xs (i + 3)) (xs (i + 4))) hC1) (fun v1 μ1 hq => ?_)
  obtain ⟨rfl, hM2, hC2⟩ := hq
  refine mm_ev.run mm_y203 2 rfl ?_
  refine mm_ev.pos ((lg_cmp_eq _ _).mpr rfl) ?_
  exact K _ _ hC2 hM2 ho
set_option maxRecDepth 100000 in
theorem law_18 (hi : i + 6 ≤ L) (hL : L < 2 ^ 31) (hC : rC A μ) (hM : rM A μ) (ho : okA A) (K : lw_K L xs i Φ) : mm_ev (la_F L xs) 60 203 459 [some (.ref 0), some (.ref 14), some (.ref 110), some (.int (nI i))] [] μ Φ := by
  refine mm_ev.run mm_y203 5 rfl ?_
  refine mm_ev.ild mm_y203 rfl rfl rfl rfl (nI_add i 1) (by omega) hL rfl ?_
  refine mm_ev.run mm_y203 4 rfl ?_
  refine mm_ev.ild mm_y203 rfl rfl rfl rfl (nI_add i 2) (by omega) hL rfl ?_
  refine mm_ev.call mm_y203 rfl rfl rfl rfl rfl (la_liftC (C109 (d := 49) hC ho (xs (i + 1)) (xs (i + 2))) hM) (fun v1 μ1 hq => ?_)
  obtain ⟨rfl, hC1, hM1⟩ := hq
  refine mm_ev.run mm_y203 5 rfl ?_
  refine mm_ev.ild mm_y203 rfl rfl rfl rfl (nI_add i 1) (by omega) hL rfl ?_
  refine mm_ev.run mm_y203 4 rfl ?_
  refine mm_ev.ild mm_y203 rfl rfl rfl rfl (nI_add i 2) (by omega) hL rfl ?_
  refine mm_ev.call mm_y203 rfl rfl rfl rfl rfl (la_liftM (C179 (d := 48) hM1 ho (xs (i + 1)) (xs (i + 2))) hC1) (fun v1 μ1 hq => ?_)
  obtain ⟨rfl, hM2, hC2⟩ := hq
  refine mm_ev.run mm_y203 2 rfl ?_
  refine mm_ev.pos ((lg_cmp_eq _ _).mpr rfl) ?_
  exact K _ _ hC2 hM2 ho
set_option maxRecDepth 100000 in
theorem law_19 (hi : i + 6 ≤ L) (hL : L < 2 ^ 31) (hC : rC A μ) (hM : rM A μ) (ho : okA A) (K : lw_K L xs i Φ) : mm_ev (la_F L xs) 60 203 487 [some (.ref 0), some (.ref 14), some (.ref 110), some (.int (nI i))] [] μ Φ := by
  refine mm_ev.run mm_y203 5 rfl ?_
  refine mm_ev.ild mm_y203 rfl rfl rfl rfl (nI_add i 1) (by omega) hL rfl ?_
  refine mm_ev.run mm_y203 4 rfl ?_
  refine mm_ev.ild mm_y203 rfl rfl rfl rfl (nI_add i 2) (by omega) hL rfl ?_
  refine mm_ev.call mm_y203 rfl rfl rfl rfl rfl (la_liftC (C110 (d := 49) hC ho (xs (i + 1)) (xs (i + 2))) hM) (fun v1 μ1 hq => ?_)
  obtain ⟨rfl, hC1, hM1⟩ := hq
  refine mm_ev.run mm_y203 5 rfl ?_
  refine mm_ev.ild mm_y203 rfl rfl rfl rfl (nI_add i 1) (by omega) hL rfl ?_
  refine mm_ev.run mm_y203 4 rfl ?_
  refine mm_ev.ild mm_y203 rfl rfl rfl rfl (nI_add i 2) (by omega) hL rfl ?_
  refine mm_ev.call mm_y203 rfl rfl rfl rfl rfl (la_liftM (C180 (d := 49) hM1 ho (xs (i + 1)) (xs (i + 2))) hC1) (fun v1 μ1 hq => ?_)
  obtain ⟨rfl, hM2, hC2⟩ := hq
  refine mm_ev.run mm_y203 1 rfl ?_
  refine mm_ev.pos rfl ?_
  exact K _ _ hC2 hM2 (ok_plan ho _ _)
set_option maxRecDepth 100000 in
theorem law_20 (hi : i + 6 ≤ L) (hL : L < 2 ^ 31) (hC : rC A μ) (hM : rM A μ) (ho : okA A) (K : lw_K L xs i Φ) : mm_ev (la_F L xs) 60 203 514 [some (.ref 0), some (.ref 14), some (.ref 110), some (.int (nI i))] [] μ Φ := by
  refine mm_ev.run mm_y203 5 rfl ?_
  refine mm_ev.ild mm_y203 rfl rfl rfl rfl (nI_add i 1) (by omega) hL rfl ?_
  refine mm_ev.call mm_y203 rfl rfl rfl rfl rfl (la_liftC (C111 (d := 49) hC ho (xs (i + 1))) hM) (fun v1 μ1 hq => ?_)
  obtain ⟨rfl, hC1, hM1⟩ := hq
  refine mm_ev.run mm_y203 5 rfl ?_
  refine mm_ev.ild mm_y203 rfl rfl rfl rfl (nI_add i 1) (by omega) hL rfl ?_
  refine mm_ev.call mm_y203 rfl rfl rfl rfl rfl (la_liftM (C181 (d := 49) hM1 ho (xs (i + 1))) hC1) (fun v1 μ1 hq => ?_)
  obtain ⟨rfl, hM2, hC2⟩ := hq
  refine mm_ev.run mm_y203 1 rfl ?_
  refine mm_ev.pos rfl ?_
  exact K _ _ hC2 hM2 ho
set_option maxRecDepth 100000 in
theorem law_21 (hi : i + 6 ≤ L) (hL : L < 2 ^ 31) (hC : rC A μ) (hM : rM A μ) (ho : okA A) (K : lw_K L xs i Φ) : mm_ev (la_F L xs) 60 203 531 [some (.ref 0), some (.ref 14), some (.ref 110), some (.int (nI i))] [] μ Φ := by
  refine mm_ev.run mm_y203 5 rfl ?_
  refine mm_ev.ild mm_y203 rfl rfl rfl rfl (nI_add i 1) (by omega) hL rfl ?_
  refine mm_ev.run mm_y203 4 rfl ?_
  refine mm_ev.ild mm_y203 rfl rfl rfl rfl (nI_add i 2) (by omega) hL rfl ?_
  refine mm_ev.call mm_y203 rfl rfl rfl rfl rfl (la_liftC (C112 (d := 49) hC ho (xs (i + 1)) (xs (i + 2))) hM) (fun v1 μ1 hq => ?_)
  obtain ⟨rfl, hC1, hM1⟩ := hq
  refine mm_ev.run mm_y203 5 rfl ?_
  refine mm_ev.ild mm_y203 rfl rfl rfl rfl (nI_add i 1) (by omega) hL rfl ?_
  refine mm_ev.run mm_y203 4 rfl ?_
  refine mm_ev.ild mm_y203 rfl rfl rfl rfl (nI_add i 2) (by omega) hL rfl ?_
  refine mm_ev.call mm_y203 rfl rfl rfl rfl rfl (la_liftM (C183 (d := 49) hM1 ho (xs (i + 1)) (xs (i + 2))) hC1) (fun v1 μ1 hq => ?_)
  obtain ⟨rfl, hM2, hC2⟩ := hq
  refine mm_ev.run mm_y203 1 rfl ?_
  refine mm_ev.pos rfl ?_
  exact K _ _ hC2 hM2 (ok_book ho _ _)
set_option maxRecDepth 100000 in
theorem law_22 (hi : i + 6 ≤ L) (hL : L < 2 ^ 31) (hC : rC A μ) (hM : rM A μ) (ho : okA A) (K : lw_K L xs i Φ) : mm_ev (la_F L xs) 60 203 558 [some (.ref 0), some (.ref 14), some (.ref 110), some (.int (nI i))] [] μ Φ := by
  refine mm_ev.run mm_y203 1 rfl ?_
  refine mm_ev.call mm_y203 rfl rfl rfl rfl rfl (la_liftC (C113 (d := 49) hC ho) hM) (fun v1 μ1 hq => ?_)
  obtain ⟨rfl, hC1, hM1⟩ := hq
  refine mm_ev.run mm_y203 1 rfl ?_
  refine mm_ev.call mm_y203 rfl rfl rfl rfl rfl (la_liftM (C184 (d := 49) hM1 ho) hC1) (fun v1 μ1 hq => ?_)
  obtain ⟨rfl, hM2, hC2⟩ := hq
  refine mm_ev.run mm_y203 1 rfl ?_
  refine mm_ev.pos rfl ?_
  exact K _ _ hC2 hM2 ho
set_option maxRecDepth 100000 in
theorem law_23 (hi : i + 6 ≤ L) (hL : L < 2 ^ 31) (hC : rC A μ) (hM : rM A μ) (ho : okA A) (K : lw_K L xs i Φ) : mm_ev (la_F L xs) 60 203 565 [some (.ref 0), some (.ref 14), some (.ref 110), some (.int (nI i))] [] μ Φ := by
  refine mm_ev.run mm_y203 5 rfl ?_
  refine mm_ev.ild mm_y203 rfl rfl rfl rfl (nI_add i 1) (by omega) hL rfl ?_
  refine mm_ev.run mm_y203 4 rfl ?_
  refine mm_ev.ild mm_y203 rfl rfl rfl rfl (nI_add i 2) (by omega) hL rfl ?_
  refine mm_ev.call mm_y203 rfl rfl rfl rfl rfl (la_liftC (C114 (d := 49) hC ho (xs (i + 1)) (xs (i + 2))) hM) (fun v1 μ1 hq => ?_)
  obtain ⟨rfl, hC1, hM1⟩ := hq
  refine mm_ev.run mm_y203 5 rfl ?_
  refine mm_ev.ild mm_y203 rfl rfl rfl rfl (nI_add i 1) (by omega) hL rfl ?_
  refine mm_ev.run mm_y203 4 rfl ?_
  refine mm_ev.ild mm_y203 rfl rfl rfl rfl (nI_add i 2) (by omega) hL rfl ?_
  refine mm_ev.call mm_y203 rfl rfl rfl rfl rfl (la_liftM (C185 (d := 49) hM1 ho (xs (i + 1)) (xs (i + 2))) hC1) (fun v1 μ1 hq => ?_)
  obtain ⟨rfl, hM2, hC2⟩ := hq
  refine mm_ev.run mm_y203 1 rfl ?_
  refine mm_ev.pos rfl ?_
  exact K _ _ hC2 hM2 ho
set_option maxRecDepth 100000 in
theorem law_24 (hi : i + 6 ≤ L) (hL : L < 2 ^ 31) (hC : rC A μ) (hM : rM A μ) (ho : okA A) (K : lw_K L xs i Φ) : mm_ev (la_F L xs) 60 203 592 [some (.ref 0), some (.ref 14), some (.ref 110), some (.int (nI i))] [] μ Φ := by
  refine mm_ev.run mm_y203 1 rfl ?_
  refine mm_ev.call mm_y203 rfl rfl rfl rfl rfl (la_liftC (C116 (d := 49) hC ho) hM) (fun v1 μ1 hq => ?_)
  obtain ⟨rfl, hC1, hM1⟩ := hq
  refine mm_ev.run mm_y203 1 rfl ?_
  refine mm_ev.call mm_y203 rfl rfl rfl rfl rfl (la_liftM (C186 (d := 49) hM1 ho) hC1) (fun v1 μ1 hq => ?_)
  obtain ⟨rfl, hM2, hC2⟩ := hq
  refine mm_ev.run mm_y203 1 rfl ?_
  refine mm_ev.pos rfl ?_
  exact K _ _ hC2 hM2 (ok_image ho)
set_option maxRecDepth 100000 in
theorem law_25 (hi : i + 6 ≤ L) (hL : L < 2 ^ 31) (hC : rC A μ) (hM : rM A μ) (ho : okA A) (K : lw_K L xs i Φ) : mm_ev (la_F L xs) 60 203 599 [some (.ref 0), some (.ref 14), some (.ref 110), some (.int (nI i))] [] μ Φ := by
  refine mm_ev.run mm_y203 1 rfl ?_
  refine mm_ev.call mm_y203 rfl rfl rfl rfl rfl (la_liftC (C117 (d := 49) hC ho) hM) (fun v1 μ1 hq => ?_)
  obtain ⟨rfl, hC1, hM1⟩ := hq
  refine mm_ev.run mm_y203 1 rfl ?_
  refine mm_ev.call mm_y203 rfl rfl rfl rfl rfl (la_liftM (C187 (d := 49) hM1 ho) hC1) (fun v1 μ1 hq => ?_)
  obtain ⟨rfl, hM2, hC2⟩ := hq
  refine mm_ev.run mm_y203 1 rfl ?_
  refine mm_ev.pos rfl ?_
  exact K _ _ hC2 hM2 (ok_undo ho)
set_option maxRecDepth 100000 in
theorem law_26 (hi : i + 6 ≤ L) (hL : L < 2 ^ 31) (hC : rC A μ) (hM : rM A μ) (ho : okA A) (K : lw_K L xs i Φ) : mm_ev (la_F L xs) 60 203 606 [some (.ref 0), some (.ref 14), some (.ref 110), some (.int (nI i))] [] μ Φ := by
  refine mm_ev.run mm_y203 5 rfl ?_
  refine mm_ev.ild mm_y203 rfl rfl rfl rfl (nI_add i 1) (by omega) hL rfl ?_
  refine mm_ev.run mm_y203 4 rfl ?_
  refine mm_ev.ild mm_y203 rfl rfl rfl rfl (nI_add i 2) (by omega) hL rfl ?_
  refine mm_ev.run mm_y203 4 rfl ?_
  refine mm_ev.ild mm_y203 rfl rfl rfl rfl (nI_add i 3) (by omega) hL rfl ?_
  refine mm_ev.call mm_y203 rfl rfl rfl rfl rfl (la_liftC (C118 (d := 43) hC ho (xs (i + 1)) (xs (i + 2)) (xs (i + 3))) hM) (fun v1 μ1 hq => ?_)
  obtain ⟨rfl, hC1, hM1⟩ := hq
  refine mm_ev.run mm_y203 5 rfl ?_
  refine mm_ev.ild mm_y203 rfl rfl rfl rfl (nI_add i 1) (by omega) hL rfl ?_
  refine mm_ev.run mm_y203 4 rfl ?_
  refine mm_ev.ild mm_y203 rfl rfl rfl rfl (nI_add i 2) (by omega) hL rfl ?_
  refine mm_ev.run mm_y203 4 rfl ?_
  refine mm_ev.ild mm_y203 rfl rfl rfl rfl (nI_add i 3) (by omega) hL rfl ?_
  refine mm_ev.call mm_y203 rfl rfl rfl rfl rfl (la_liftM (C188 (d := 49) hM1 ho (xs (i + 1)) (xs (i + 2)) (xs (i + 3))) hC1) (fun v1 μ1 hq => ?_)
  obtain ⟨rfl, hM2, hC2⟩ := hq
  refine mm_ev.run mm_y203 1 rfl ?_
  refine mm_ev.pos rfl ?_
  exact K _ _ hC2 hM2 (ok_act ho _ _ _)
set_option maxRecDepth 100000 in
theorem law_27 (hi : i + 6 ≤ L) (hL : L < 2 ^ 31) (hC : rC A μ) (hM : rM A μ) (ho : okA A) (K : lw_K L xs i Φ) : mm_ev (la_F L xs) 60 203 643 [some (.ref 0), some (.ref 14), some (.ref 110), some (.int (nI i))] [] μ Φ := by
  refine mm_ev.run mm_y203 5 rfl ?_
  refine mm_ev.ild mm_y203 rfl rfl rfl rfl (nI_add i 1) (by omega) hL rfl ?_
  refine mm_ev.call mm_y203 rfl rfl rfl rfl rfl (la_liftC (C119 (d := 49) hC ho (xs (i + 1))) hM) (fun v1 μ1 hq => ?_)
  obtain ⟨rfl, hC1, hM1⟩ := hq
  refine mm_ev.run mm_y203 5 rfl ?_
  refine mm_ev.ild mm_y203 rfl rfl rfl rfl (nI_add i 1) (by omega) hL rfl ?_
  refine mm_ev.call mm_y203 rfl rfl rfl rfl rfl (la_liftM (C194 (d := 49) hM1 ho (xs (i + 1))) hC1) (fun v1 μ1 hq => ?_)
  obtain ⟨rfl, hM2, hC2⟩ := hq
  refine mm_ev.run mm_y203 1 rfl ?_
  refine mm_ev.pos rfl ?_
  exact K _ _ hC2 hM2 ho
set_option maxRecDepth 100000 in
theorem law_28 (hi : i + 6 ≤ L) (hL : L < 2 ^ 31) (hC : rC A μ) (hM : rM A μ) (ho : okA A) (K : lw_K L xs i Φ) : mm_ev (la_F L xs) 60 203 660 [some (.ref 0), some (.ref 14), some (.ref 110), some (.int (nI i))] [] μ Φ := by
  refine mm_ev.run mm_y203 5 rfl ?_
  refine mm_ev.ild mm_y203 rfl rfl rfl rfl (nI_add i 1) (by omega) hL rfl ?_
  refine mm_ev.run mm_y203 4 rfl ?_
  refine mm_ev.ild mm_y203 rfl rfl rfl rfl (nI_add i 2) (by omega) hL rfl ?_
  refine mm_ev.call mm_y203 rfl rfl rfl rfl rfl (la_liftC (C120 (d := 49) hC ho (xs (i + 1)) (xs (i + 2))) hM) (fun v1 μ1 hq => ?_)
  obtain ⟨rfl, hC1, hM1⟩ := hq
  refine mm_ev.run mm_y203 5 rfl ?_
  refine mm_ev.ild mm_y203 rfl rfl rfl rfl (nI_add i 1) (by omega) hL rfl ?_
  refine mm_ev.run mm_y203 4 rfl ?_
  refine mm_ev.ild mm_y203 rfl rfl rfl rfl (nI_add i 2) (by omega) hL rfl ?_
  refine mm_ev.call mm_y203 rfl rfl rfl rfl rfl (la_liftM (C195 (d := 49) hM1 ho (xs (i + 1)) (xs (i + 2))) hC1) (fun v1 μ1 hq => ?_)
  obtain ⟨rfl, hM2, hC2⟩ := hq
  refine mm_ev.run mm_y203 1 rfl ?_
  refine mm_ev.pos rfl ?_
  exact K _ _ hC2 hM2 ho
set_option maxRecDepth 100000 in
theorem law_29 (hi : i + 6 ≤ L) (hL : L < 2 ^ 31) (hC : rC A μ) (hM : rM A μ) (ho : okA A) (K : lw_K L xs i Φ) : mm_ev (la_F L xs) 60 203 687 [some (.ref 0), some (.ref 14), some (.ref 110), some (.int (nI i))] [] μ Φ := by
  refine mm_ev.run mm_y203 5 rfl ?_
  refine mm_ev.ild mm_y203 rfl rfl rfl rfl (nI_add i 1) (by omega) hL rfl ?_
  refine mm_ev.call mm_y203 rfl rfl rfl rfl rfl (la_liftC (C121 (d := 49) hC ho (xs (i + 1))) hM) (fun v1 μ1 hq => ?_)
  obtain ⟨rfl, hC1, hM1⟩ := hq
  refine mm_ev.run mm_y203 5 rfl ?_
  refine mm_ev.ild mm_y203 rfl rfl rfl rfl (nI_add i 1) (by omega) hL rfl ?_
  refine mm_ev.call mm_y203 rfl rfl rfl rfl rfl (la_liftM (C196 (d := 49) hM1 ho (xs (i + 1))) hC1) (fun v1 μ1 hq => ?_)
  obtain ⟨rfl, hM2, hC2⟩ := hq
  refine mm_ev.run mm_y203 1 rfl ?_
  refine mm_ev.pos rfl ?_
  exact K _ _ hC2 hM2 ho
set_option maxRecDepth 100000 in
theorem law_30 (hi : i + 6 ≤ L) (hL : L < 2 ^ 31) (hC : rC A μ) (hM : rM A μ) (ho : okA A) (K : lw_K L xs i Φ) : mm_ev (la_F L xs) 60 203 704 [some (.ref 0), some (.ref 14), some (.ref 110), some (.int (nI i))] [] μ Φ := by
  refine mm_ev.run mm_y203 5 rfl ?_
  refine mm_ev.ild mm_y203 rfl rfl rfl rfl (nI_add i 1) (by omega) hL rfl ?_
  refine mm_ev.run mm_y203 4 rfl ?_
  refine mm_ev.ild mm_y203 rfl rfl rfl rfl (nI_add i 2) (by omega) hL rfl ?_
  refine mm_ev.run mm_y203 4 rfl ?_
  refine mm_ev.ild mm_y203 rfl rfl rfl rfl (nI_add i 3) (by omega) hL rfl ?_
  refine mm_ev.call mm_y203 rfl rfl rfl rfl rfl (la_liftC (C122 (d := 49) hC ho (xs (i + 1)) (xs (i + 2)) (xs (i + 3))) hM) (fun v1 μ1 hq => ?_)
  obtain ⟨rfl, hC1, hM1⟩ := hq
  refine mm_ev.run mm_y203 5 rfl ?_
  refine mm_ev.ild mm_y203 rfl rfl rfl rfl (nI_add i 1) (by omega) hL rfl ?_
  refine mm_ev.run mm_y203 4 rfl ?_
  refine mm_ev.ild mm_y203 rfl rfl rfl rfl (nI_add i 2) (by omega) hL rfl ?_
  refine mm_ev.run mm_y203 4 rfl ?_
  refine mm_ev.ild mm_y203 rfl rfl rfl rfl (nI_add i 3) (by omega) hL rfl ?_
  refine mm_ev.call mm_y203 rfl rfl rfl rfl rfl (la_liftM (C197 (d := 49) hM1 ho (xs (i + 1)) (xs (i + 2)) (xs (i + 3))) hC1) (fun v1 μ1 hq => ?_)
  obtain ⟨rfl, hM2, hC2⟩ := hq
  refine mm_ev.run mm_y203 1 rfl ?_
  refine mm_ev.pos rfl ?_
  exact K _ _ hC2 hM2 (ok_tape ho _ _ _)
set_option maxRecDepth 100000 in
theorem law_31 (hi : i + 6 ≤ L) (hL : L < 2 ^ 31) (hC : rC A μ) (hM : rM A μ) (ho : okA A) (K : lw_K L xs i Φ) : mm_ev (la_F L xs) 60 203 741 [some (.ref 0), some (.ref 14), some (.ref 110), some (.int (nI i))] [] μ Φ := by
  refine mm_ev.run mm_y203 5 rfl ?_
  refine mm_ev.ild mm_y203 rfl rfl rfl rfl (nI_add i 1) (by omega) hL rfl ?_
  refine mm_ev.run mm_y203 4 rfl ?_
  refine mm_ev.ild mm_y203 rfl rfl rfl rfl (nI_add i 2) (by omega) hL rfl ?_
  refine mm_ev.run mm_y203 4 rfl ?_
  refine mm_ev.ild mm_y203 rfl rfl rfl rfl (nI_add i 3) (by omega) hL rfl ?_
  refine mm_ev.run mm_y203 7 rfl ?_
  refine mm_ev.ild mm_y203 rfl rfl rfl rfl (nI_add i 4) (by omega) hL rfl ?_
  refine mm_ev.run mm_y203 4 rfl ?_
  refine mm_ev.call mm_y203 rfl rfl rfl rfl rfl (la_liftC (C123 (d := 49) hC ho (xs (i + 1)) (xs (i + 2)) _) hM) (fun v1 μ1 hq => ?_)
  obtain ⟨rfl, hC1, hM1⟩ := hq
  refine mm_ev.run mm_y203 5 rfl ?_
  refine mm_ev.ild mm_y203 rfl rfl rfl rfl (nI_add i 1) (by omega) hL rfl ?_
  refine mm_ev.run mm_y203 4 rfl ?_
  refine mm_ev.ild mm_y203 rfl rfl rfl rfl (nI_add i 2) (by omega) hL rfl ?_
  refine mm_ev.run mm_y203 4 rfl ?_
  refine mm_ev.ild mm_y203 rfl rfl rfl rfl (nI_add i 3) (by omega) hL rfl ?_
  refine mm_ev.run mm_y203 7 rfl ?_
  refine mm_ev.ild mm_y203 rfl rfl rfl rfl (nI_add i 4) (by omega) hL rfl ?_
  refine mm_ev.run mm_y203 4 rfl ?_
  refine mm_ev.call mm_y203 rfl rfl rfl rfl rfl (la_liftM (C199 (d := 49) hM1 ho (xs (i + 1)) (xs (i + 2)) _) hC1) (fun v1 μ1 hq => ?_)
  obtain ⟨rfl, hM2, hC2⟩ := hq
  refine mm_ev.run mm_y203 1 rfl ?_
  refine mm_ev.pos rfl ?_
  exact K _ _ hC2 hM2 (ok_item ho _ _ _)
set_option maxRecDepth 100000 in
theorem law_32 (hi : i + 6 ≤ L) (hL : L < 2 ^ 31) (hC : rC A μ) (hM : rM A μ) (ho : okA A) (K : lw_K L xs i Φ) : mm_ev (la_F L xs) 60 203 802 [some (.ref 0), some (.ref 14), some (.ref 110), some (.int (nI i))] [] μ Φ := by
  refine mm_ev.run mm_y203 5 rfl ?_
  refine mm_ev.ild mm_y203 rfl rfl rfl rfl (nI_add i 1) (by omega) hL rfl ?_
  refine mm_ev.run mm_y203 4 rfl ?_
  refine mm_ev.ild mm_y203 rfl rfl rfl rfl (nI_add i 2) (by omega) hL rfl ?_
  refine mm_ev.call mm_y203 rfl rfl rfl rfl rfl (la_liftC (C124 (d := 49) hC ho (xs (i + 1)) (xs (i + 2))) hM) (fun v1 μ1 hq => ?_)
  obtain ⟨rfl, hC1, hM1⟩ := hq
  refine mm_ev.run mm_y203 5 rfl ?_
  refine mm_ev.ild mm_y203 rfl rfl rfl rfl (nI_add i 1) (by omega) hL rfl ?_
  refine mm_ev.run mm_y203 4 rfl ?_
  refine mm_ev.ild mm_y203 rfl rfl rfl rfl (nI_add i 2) (by omega) hL rfl ?_
  refine mm_ev.call mm_y203 rfl rfl rfl rfl rfl (la_liftM (C201 (d := 49) hM1 ho (xs (i + 1)) (xs (i + 2))) hC1) (fun v1 μ1 hq => ?_)
  obtain ⟨rfl, hM2, hC2⟩ := hq
  refine mm_ev.run mm_y203 2 rfl ?_
  refine mm_ev.pos ((lg_cmp_eq _ _).mpr rfl) ?_
  exact K _ _ hC2 hM2 ho
set_option maxRecDepth 100000 in
theorem law_33 (hi : i + 6 ≤ L) (hL : L < 2 ^ 31) (hC : rC A μ) (hM : rM A μ) (ho : okA A) (K : lw_K L xs i Φ) : mm_ev (la_F L xs) 60 203 830 [some (.ref 0), some (.ref 14), some (.ref 110), some (.int (nI i))] [] μ Φ := by
  refine mm_ev.run mm_y203 5 rfl ?_
  refine mm_ev.ild mm_y203 rfl rfl rfl rfl (nI_add i 1) (by omega) hL rfl ?_
  refine mm_ev.run mm_y203 4 rfl ?_
  refine mm_ev.ild mm_y203 rfl rfl rfl rfl (nI_add i 2) (by omega) hL rfl ?_
  refine mm_ev.run mm_y203 4 rfl ?_
  refine mm_ev.ild mm_y203 rfl rfl rfl rfl (nI_add i 3) (by omega) hL rfl ?_
  refine mm_ev.run mm_y203 4 rfl ?_
  refine mm_ev.ild mm_y203 rfl rfl rfl rfl (nI_add i 4) (by omega) hL rfl ?_
  refine mm_ev.run mm_y203 4 rfl ?_
  refine mm_ev.ild mm_y203 rfl rfl rfl rfl (nI_add i 5) (by omega) hL rfl ?_
  refine mm_ev.call mm_y203 rfl rfl rfl rfl rfl (la_liftC (C125 (d := 49) hC ho (xs (i + 1)) (xs (i + 2)) (xs (i + 3)) (xs (i + 4)) (xs (i + 5))) hM) (fun v1 μ1 hq => ?_)
  obtain ⟨rfl, hC1, hM1⟩ := hq
  refine mm_ev.run mm_y203 5 rfl ?_
  refine mm_ev.ild mm_y203 rfl rfl rfl rfl (nI_add i 1) (by omega) hL rfl ?_
  refine mm_ev.run mm_y203 4 rfl ?_
  refine mm_ev.ild mm_y203 rfl rfl rfl rfl (nI_add i 2) (by omega) hL rfl ?_
  refine mm_ev.run mm_y203 4 rfl ?_
  refine mm_ev.ild mm_y203 rfl rfl rfl rfl (nI_add i 3) (by omega) hL rfl ?_
  refine mm_ev.run mm_y203 4 rfl ?_
  refine mm_ev.ild mm_y203 rfl rfl rfl rfl (nI_add i 4) (by omega) hL rfl ?_
  refine mm_ev.run mm_y203 4 rfl ?_
  refine mm_ev.ild mm_y203 rfl rfl rfl rfl (nI_add i 5) (by omega) hL rfl ?_
  refine mm_ev.call mm_y203 rfl rfl rfl rfl rfl (la_liftM (C202 (d := 49) hM1 ho (xs (i + 1)) (xs (i + 2)) (xs (i + 3)) (xs (i + 4)) (xs (i + 5))) hC1) (fun v1 μ1 hq => ?_)
  obtain ⟨rfl, hM2, hC2⟩ := hq
  refine mm_ev.run mm_y203 1 rfl ?_
  refine mm_ev.pos rfl ?_
  exact K _ _ hC2 hM2 (ok_shift ho _ _ _ _ _)
set_option maxRecDepth 100000 in
theorem law_l (hL3 : L ≤ 3072) : ∀ m i A μ, L < i + 6 * m → i ≤ L → rC A μ → rM A μ → okA A → mm_ev (la_F L xs) 60 203 10 [some (.ref 0), some (.ref 14), some (.ref 110), some (.int (nI i))] [] μ (fun v _ => v = some (.int 1)) := by
  have hL : L < 2 ^ 31 := by omega
  intro m
  induction m with
  | zero =>
    intro i A μ hm hi hC hM ho
    refine mm_ev.run mm_y203 3 rfl ?_
    refine mm_ev.val (show _ = nI L from rfl) ?_
    refine mm_ev.run mm_y203 3 rfl ?_
    refine mm_ev.pos (lw_out (by omega) (by omega)) ?_
    refine mm_ev.run mm_y203 1 rfl ?_
    exact mm_ev.ret mm_y203 rfl rfl rfl rfl
  | succ m ih =>
    intro i A μ hm hi hC hM ho
    refine mm_ev.run mm_y203 3 rfl ?_
    refine mm_ev.val (show _ = nI L from rfl) ?_
    refine mm_ev.run mm_y203 3 rfl ?_
    refine mm_ev.ite (fun h => ?_) (fun h => ?_)
    · refine mm_ev.run mm_y203 1 rfl ?_
      exact mm_ev.ret mm_y203 rfl rfl rfl rfl
    · have hi2 : i + 6 ≤ L := by
        by_cases z : i + 6 ≤ L
        · exact z
        · exact absurd (lw_out (by omega) (by omega)) h
      have K : lw_K L xs i (fun v _ => v = some (.int 1)) := by
        intro A μ hC hM ho
        have ih := ih (i + 6) A μ (by omega) (by omega) hC hM ho
        rw [← nI_add] at ih
        refine mm_ev.run mm_y203 2 rfl ?_
        exact ih
      refine mm_ev.run mm_y203 2 rfl ?_
      refine mm_ev.ild mm_y203 rfl rfl rfl rfl (rfl : nI i = nI i) (by omega) hL rfl ?_
      refine mm_ev.run mm_y203 3 rfl ?_
      refine mm_ev.swc (fun h => ?_) (fun n0 => mm_ev.swc (fun h => ?_) (fun n1 => mm_ev.swc (fun h => ?_) (fun n2 => mm_ev.swc (fun h => ?_) (fun n3 => mm_ev.swc (fun h => ?_) (fun n4 => mm_ev.swc (fun h => ?_) (fun n5 => mm_ev.swc (fun h => ?_) (fun n6 => mm_ev.swc (fun h => ?_) (fun n7 => mm_ev.swc (fun h => ?_) (fun n8 => mm_ev.swc (fun h => ?_) (fun n9 => mm_ev.swc (fun h => ?_) (fun n10 => mm_ev.swc (fun h => ?_) (fun n11 => mm_ev.swc (fun h => ?_) (fun n12 => mm_ev.swc (fun h => ?_) (fun n13 => mm_ev.swc (fun h => ?_) (fun n14 => mm_ev.swc (fun h => ?_) (fun n15 => mm_ev.swc (fun h => ?_) (fun n16 => mm_ev.swc (fun h => ?_) (fun n17 => mm_ev.swc (fun h => ?_) (fun n18 => mm_ev.swc (fun h => ?_) (fun n19 => mm_ev.swc (fun h => ?_) (fun n20 => mm_ev.swc (fun h => ?_) (fun n21 => mm_ev.swc (fun h => ?_) (fun n22 => mm_ev.swc (fun h => ?_) (fun n23 => mm_ev.swc (fun h => ?_) (fun n24 => mm_ev.swc (fun h => ?_) (fun n25 => mm_ev.swc (fun h => ?_) (fun n26 => mm_ev.swc (fun h => ?_) (fun n27 => mm_ev.swc (fun h => ?_) (fun n28 => mm_ev.swc (fun h => ?_) (fun n29 => mm_ev.swc (fun h => ?_) (fun n30 => mm_ev.swc (fun h => ?_) (fun n31 => mm_ev.swc (fun h => ?_) (fun n32 => mm_ev.swc (fun h => ?_) (fun n33 => mm_ev.sw0 ?_))))))))))))))))))))))))))))))))))
      · exact law_0 hi2 hL hC hM ho K
      · exact law_1 hi2 hL hC hM ho K
      · exact law_2 hi2 hL hC hM ho K
      · exact law_3 hi2 hL hC hM ho K
      · exact law_4 hi2 hL hC hM ho K
      · exact law_5 hi2 hL hC hM ho K
      · exact law_6 hi2 hL hC hM ho K
      · exact law_7 hi2 hL hC hM ho K
      · exact law_8 hi2 hL hC hM ho K
      · exact law_9 hi2 hL hC hM ho K
      · exact law_10 hi2 hL hC hM ho K
      · exact law_11 hi2 hL hC hM ho K
      · exact law_12 hi2 hL hC hM ho K
      · exact law_13 hi2 hL hC hM ho K
      · exact law_14 hi2 hL hC hM ho K
      · exact law_15 hi2 hL hC hM ho K
      · exact law_16 hi2 hL hC hM ho K
      · exact law_17 hi2 hL hC hM ho K
      · exact law_18 hi2 hL hC hM ho K
      · exact law_19 hi2 hL hC hM ho K
      · exact law_20 hi2 hL hC hM ho K
      · exact law_21 hi2 hL hC hM ho K
      · exact law_22 hi2 hL hC hM ho K
      · exact law_23 hi2 hL hC hM ho K
      · exact law_24 hi2 hL hC hM ho K
      · exact law_25 hi2 hL hC hM ho K
      · exact law_26 hi2 hL hC hM ho K
      · exact law_27 hi2 hL hC hM ho K
      · exact law_28 hi2 hL hC hM ho K
      · exact law_29 hi2 hL hC hM ho K
      · exact law_30 hi2 hL hC hM ho K
      · exact law_31 hi2 hL hC hM ho K
      · exact law_32 hi2 hL hC hM ho K
      · exact law_33 hi2 hL hC hM ho K
      · exact K A μ hC hM ho
end
