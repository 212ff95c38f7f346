/-! BOTH ARE MADE, AND THE LAW BEGINS -/
def mm_ex (d y i : Nat) (L : mm_L) (st : List Value) (w : mm_W) (Λ : List mm_D) (Φ : Option Value → mm_M → Prop) : Prop := ∃ (f : Nat) (v : Option Value) (μ' : mm_M), mm_exec f d y i L st w = some (v, Λ, μ') ∧ Φ v μ'
section
variable {Λ : List mm_D} {d y i : Nat} {L : mm_L} {st : List Value} {Φ : Option Value → mm_M → Prop}
theorem mm_ex.run {R : List (List mm_R)} (hy : mm_rows y = R) : ∀ (k i : Nat) (L : mm_L) (st : List Value) (w : mm_W) {i' : Nat} {L' : mm_L} {st' : List Value} {w' : mm_W}, mm_run R k i L st w = some (i', L', st', w') → mm_ex d y i' L' st' w' Λ Φ → mm_ex d y i L st w Λ Φ := by
  intro k
  induction k with
  | zero =>
    intro i L st w i' L' st' w' h h2
    rw [mm_run] at h
    cases h
    exact h2
  | succ k ih =>
    intro i L st w i' L' st' w' h h2
    rw [mm_run] at h
    cases hs : mm_1 R i L st w with
    | none => rw [hs] at h; cases h
    | some c' =>
      obtain ⟨i1, L1, st1, w1⟩ := c'
      rw [hs] at h
      obtain ⟨f, v, μ1, h3, h4⟩ := ih i1 L1 st1 w1 h h2
      refine ⟨f + 1, v, μ1, ?_, h4⟩
      rw [mm_exec, hy]
      unfold mm_1 at hs
      cases hr : mm_rw R i with
      | none => rw [hr] at hs; cases hs
      | some r =>
        rw [hr] at hs
        dsimp only at hs ⊢
        rw [hs]
        exact h3
theorem mm_ex.call {R : List (List mm_R)} (hy : mm_rows y = R) {r : mm_R} {y' : Nat} {as rest : List Value} {w w1 : mm_W} {v1 : Option Value} {f1 ml : Nat} {R' : List (List mm_R)} (hr : mm_rw R i = some r) (hs : mm_stp r i L st w = none) (hv : mm_ret r st = none) (hc : mm_cl r st = some (y', as, rest)) (hrc : mm_rc r y' as w = true) (ht : mm_T y' = some (ml, R')) (e1 : mm_exec f1 d y' 0 (mm_ent ml as) [] w = some (v1, w1)) (k : mm_ex (d + 1) y (i + 1) L (v1.toList ++ rest) w1 Λ Φ) : mm_ex (d + 1) y i L st w Λ Φ := by
  obtain ⟨f2, v2, μ2, e2, p2⟩ := k
  refine ⟨(f1 + f2) + 1, v2, μ2, ?_, p2⟩
  rw [mm_exec, hy, hr]
  dsimp only
  rw [hs]
  dsimp only
  rw [hv]
  dsimp only
  rw [hc]
  dsimp only
  rw [hrc]
  dsimp only
  rw [ht]
  dsimp only
  rw [mm_more _ _ _ _ _ _ _ _ e1 (f1 + f2) d (by omega) (Nat.le_refl _)]
  exact mm_more _ _ _ _ _ _ _ _ e2 (f1 + f2) (d + 1) (by omega) (Nat.le_refl _)
end
/-! what holds nothing long -/
def la_z0 (r : Option (Option Value × mm_W)) (l : List (Nat × Nat)) : Bool := match r with
  | some (_, w) => l.all (fun t => decide (w.2.2.1 t.1 t.2 = 0))
  | none => false
def la_l1 : List (Nat × Nat) := (List.range 6).flatMap (fun t => (List.range 60).map (fun i => (98 + 2 * t + 1, i)))
def la_l2 : List (Nat × Nat) := (List.range 6).flatMap (fun t => (List.range 60).map (fun i => (141, 60 * t + i)))
set_option maxRecDepth 100000 in
theorem la_i1L : la_z0 la_r1 la_l1 = true := by decide +kernel
set_option maxRecDepth 100000 in
theorem la_i2L : la_z0 la_r2 la_l2 = true := by decide +kernel
theorem la_z0_of {r : Option (Option Value × mm_W)} {l : List (Nat × Nat)} {v : Option Value} {w : mm_W} (h : la_z0 r l = true) (hr : r = some (v, w)) : ∀ t ∈ l, w.2.2.1 t.1 t.2 = 0 := by
  subst hr
  intro t ht
  have := List.all_eq_true.mp (show l.all (fun t => decide (w.2.2.1 t.1 t.2 = 0)) = true from h) t ht
  simpa using this
theorem la_l1m {t i : Nat} (ht : t < 6) (hi : i < 60) : (98 + 2 * t + 1, i) ∈ la_l1 := List.mem_flatMap.mpr ⟨t, List.mem_range.mpr ht, List.mem_map.mpr ⟨i, List.mem_range.mpr hi, rfl⟩⟩
theorem la_l2m {t i : Nat} (ht : t < 6) (hi : i < 60) : (141, 60 * t + i) ∈ la_l2 := List.mem_flatMap.mpr ⟨t, List.mem_range.mpr ht, List.mem_map.mpr ⟨i, List.mem_range.mpr hi, rfl⟩⟩
/-! the first of all -/
def sA0 : sA := (((0, 0, none, fun k _ => if k = 0 then 20 else 0), (0, fun _ _ => 0), (0, fun _ _ => 0), (0, fun _ _ => 0)), none, [], (0, fun _ => 0), (0, fun _ => 0), fun _ => (-1, 0, fun _ => 0))
theorem ok_0 : okA sA0 := by
  refine ⟨⟨⟨by decide, fun j hj => (by cases hj), fun p hp => ⟨20, by decide, rfl⟩, fun c hc => absurd hc (Nat.not_lt_zero _), fun c hc => absurd hc (Nat.not_lt_zero _), 0, by decide, rfl, fun c hc => absurd hc (Nat.not_lt_zero _)⟩, ⟨by decide, fun i hi => absurd hi (Nat.not_lt_zero _)⟩, ⟨by decide, fun i hi => absurd hi (Nat.not_lt_zero _)⟩, ⟨by decide, fun i hi => absurd hi (Nat.not_lt_zero _)⟩⟩, fun K hK => (by cases hK), by decide, fun s hs => absurd hs (by simp [sA0]), ⟨by decide, fun i hi => absurd hi (Nat.not_lt_zero _)⟩, by decide, fun t ht => ⟨Nat.zero_le _, Or.inl ⟨rfl, rfl⟩⟩⟩
theorem k1_need : ∀ i, i < 12 → (17, i, (20 : Int32)) ∈ la_k1 := by decide +kernel
theorem k1_tape : ∀ t, t < 6 → (98 + 2 * t, 0, (-1 : Int32)) ∈ la_k1 ∧ (98 + 2 * t, 1, (0 : Int32)) ∈ la_k1 := by decide +kernel
theorem k2_need : ∀ i, i < 12 → (111, i, (20 : Int32)) ∈ la_k2 := by decide +kernel
theorem k2_tape : ∀ t, t < 6 → (139, t, (-1 : Int32)) ∈ la_k2 ∧ (140, t, (0 : Int32)) ∈ la_k2 := by decide +kernel
theorem sp_z0 {k i : Nat} (hk : k < 6) (hi : i < sp_z 0 k) : k = 0 ∧ i < 12 := by
  rcases (show k = 0 ∨ k = 1 ∨ k = 2 ∨ k = 3 ∨ k = 4 ∨ k = 5 by omega) with rfl | rfl | rfl | rfl | rfl | rfl
  · exact ⟨rfl, hi⟩
  all_goals exact absurd hi (Nat.not_lt_zero _)
theorem rC_0 {μ : mm_M} (h : ∀ t ∈ la_k1, μ.1 t.1 t.2.1 = t.2.2) (hs : μ.2.2 16 2 = none) (hl : ∀ t ∈ la_l1, μ.2.1 t.1 t.2 = 0) : rC sA0 μ := by
  refine ⟨⟨⟨h (16, 1, 0) (by decide), h (16, 0, 0) (by decide), hs, fun k i hk hi => ?_⟩, ⟨h (24, 3, 0) (by decide), fun k i hk hi => absurd hi (Nat.not_lt_zero _)⟩, ⟨h (28, 3, 0) (by decide), fun k i hk hi => absurd hi (Nat.not_lt_zero _)⟩, ⟨h (32, 3, 0) (by decide), fun k i hk hi => absurd hi (Nat.not_lt_zero _)⟩⟩, h (14, 2, 0) (by decide), fun K hK => (by cases hK), ⟨h (14, 5, 0) (by decide), by decide, fun j hj => absurd hj (Nat.not_lt_zero _)⟩, ⟨h (66, 1, 0) (by decide), fun i hi => absurd hi (Nat.not_lt_zero _)⟩, ⟨h (71, 1, 0) (by decide), fun i hi => absurd hi (Nat.not_lt_zero _)⟩, fun t ht => ⟨h (98 + 2 * t, 0, -1) (k1_tape t ht).1, h (98 + 2 * t, 1, 0) (k1_tape t ht).2, fun i hi => hl (98 + 2 * t + 1, i) (la_l1m ht hi)⟩⟩
  obtain ⟨rfl, hi⟩ := sp_z0 hk hi
  exact h (17, i, 20) (k1_need i hi)
theorem rM_0 {μ : mm_M} (h : ∀ t ∈ la_k2, μ.1 t.1 t.2.1 = t.2.2) (hl : ∀ t ∈ la_l2, μ.2.1 t.1 t.2 = 0) : rM sA0 μ := by
  refine ⟨⟨⟨h (110, 1, 0) (by decide), h (110, 7, 0) (by decide), h (110, 15, -1) (by decide), fun k i hk hi => ?_⟩, ⟨⟨h (110, 24, 0) (by decide), fun i hi => absurd hi (Nat.not_lt_zero _)⟩, fun i hi => absurd hi (Nat.not_lt_zero _)⟩, ⟨h (110, 28, 0) (by decide), fun i hi => absurd hi (Nat.not_lt_zero _)⟩, ⟨h (110, 31, 0) (by decide), fun i hi => absurd hi (Nat.not_lt_zero _)⟩⟩, h (110, 36, 0) (by decide), fun K hK => (by cases hK), ⟨h (110, 14, 0) (by decide), 0, h (110, 22, 0) (by decide), Nat.zero_le _, fun j hj => absurd hj (Nat.not_lt_zero _)⟩, ⟨h (110, 8, 0) (by decide), fun i hi => absurd hi (Nat.not_lt_zero _)⟩, ⟨h (110, 34, 0) (by decide), fun i hi => absurd hi (Nat.not_lt_zero _)⟩, fun t ht => ⟨h (139, t, -1) (k2_tape t ht).1, h (140, t, 0) (k2_tape t ht).2, fun i hi => hl (141, 60 * t + i) (la_l2m ht hi)⟩⟩
  obtain ⟨rfl, hi⟩ := sp_z0 hk hi
  exact h (111, i, 20) (k2_need i hi)
/-! cells -/
section
variable {L : Nat} {xs : Nat → Int32}
def la_F1 (L : Nat) (xs : Nat → Int32) : List mm_D := (7, L, xs, []) :: (la_z ++ la_c)
abbrev la_E (L : Nat) (xs : Nat → Int32) : Nat → mm_D := fun q => (la_F L xs).getD q (12, 0, (fun _ => 0), [])
theorem mm_sub.cons {E : Nat → mm_D} {X Y : mm_D} {T : List mm_D} (hX : X.1 = 12) (hE : E 0 = Y) (hT : T.all (fun D => Nat.blt D.1 12) = true) : mm_sub E (X :: T) (Y :: T) := by
  refine ⟨rfl, fun q => ?_⟩
  cases q with
  | zero =>
    show some Y = some (if X.1 = 12 then E 0 else X)
    rw [if_pos hX, hE]
  | succ q =>
    show T[q]? = (T[q]?).map (fun D => if D.1 = 12 then E (q + 1) else D)
    cases h : T[q]? with
    | none => rfl
    | some D =>
      have := List.all_eq_true.mp hT D (List.mem_of_getElem? h)
      have := Nat.le_of_ble_eq_true this
      show some D = some (if D.1 = 12 then E (q + 1) else D)
      rw [if_neg (by omega)]
theorem mm_sub.left {E : Nat → mm_D} {a b m n : List mm_D} (h : mm_sub E (a ++ m) (b ++ n)) (hl : a.length = b.length) : mm_sub E a b := by
  refine ⟨hl, fun q => ?_⟩
  by_cases hq : q < a.length
  · have := h.2 q
    rw [List.getElem?_append_left (by omega), List.getElem?_append_left hq] at this
    exact this
  · rw [List.getElem?_eq_none (by omega), List.getElem?_eq_none (by omega)]
    rfl
theorem la_2M : la_2 = la_M := rfl
theorem la_s1 : mm_sub (la_E L xs) la_0 (sm_O L xs) := mm_sub.cons (X := (12, 0, (fun _ => 0), [])) (Y := (7, L, xs, [])) (T := la_z) rfl rfl rfl
theorem la_s1' : mm_sub (la_E L xs) la_1 (la_F1 L xs) := mm_sub.cons (X := (12, 0, (fun _ => 0), [])) (Y := (7, L, xs, [])) (T := la_z ++ la_c) rfl rfl rfl
theorem la_s2 : mm_sub (la_E L xs) la_h (la_F1 L xs) := by
  have h := la_subM L xs
  rw [← la_2M] at h
  exact mm_sub.left (m := la_m) (n := la_m) h rfl
theorem la_h0 {a b : List mm_D} (hb : b.all (fun D => Nat.blt D.1 7) = true) : ∀ (q : Nat) (D : mm_D), (a ++ b)[q]? = some D → 7 ≤ D.1 → ∃ E, a[q]? = some E ∧ 7 ≤ E.1 := by
  intro q D hD h7
  by_cases hq : q < a.length
  · rw [List.getElem?_append_left hq] at hD
    exact ⟨D, hD, h7⟩
  · rw [List.getElem?_append_right (by omega)] at hD
    have := List.all_eq_true.mp hb D (List.mem_of_getElem? hD)
    have := Nat.le_of_ble_eq_true this
    omega
theorem la_kp {a b : List mm_D} : mm_keep a (a ++ b) := fun c D hD _ => by
  rw [List.getElem?_append_left (List.getElem?_eq_some_iff.mp hD).1]
  exact hD
/-- the class is made -/
theorem la_m1 : ∃ μ1, mm_exec 4000 50 84 0 (mm_ent 2 [.ref 14]) [] (mm_new (sm_O L xs, st_m0) (0, 8, (fun _ => 0), List.replicate 10 none)) = some (none, la_F1 L xs, μ1) ∧ rC sA0 μ1 ∧ μ1 = la_μ1 := by
  obtain ⟨w1, hr, he, hk⟩ := la_chk_of la_i1
  have hz := mm_exec_zf _ _ _ _ _ _ _ _ ((la_zf0 (l := la_0) rfl).push) hr
  obtain ⟨⟨Λ2, k1, k2⟩, k3, k4⟩ := mm_exec_sub 4000 50 84 0 _ _ _ (sm_O L xs ++ [(0, 8, (fun _ => 0), List.replicate 10 none)]) _ _ _ ((la_s1 (L := L) (xs := xs)).push (by decide)) hr
  have e1 : w1.1 = la_1 := la_same (Λ0 := la_0) he hz la_zfc (mm_keep.push.trans k4) la_kp (la_h0 rfl)
  rw [e1] at k2
  rw [k2.eq la_s1'] at k1
  refine ⟨w1.2, k1, rC_0 hk ?_ (la_z0_of la_i1L hr), ?_⟩
  · have := la_i1s
    unfold la_1s at this
    rw [hr] at this
    exact this
  · unfold la_μ1
    rw [hr]
theorem la_new (μ : mm_M) (c : Nat) (hc : c ≠ 110) : (la_w2 μ).2.1 c = μ.1 c ∧ (la_w2 μ).2.2.1 c = μ.2.1 c ∧ (la_w2 μ).2.2.2 c = μ.2.2 c := ⟨if_neg hc, if_neg hc, if_neg hc⟩
/-- the reference is made -/
theorem la_m2 (hC : rC sA0 la_μ1) : ∃ μ2, mm_exec 4000 50 126 0 (mm_ent 2 [.ref 110]) [] (mm_new (la_F1 L xs, la_μ1) (0, 9, (fun _ => 0), List.replicate 47 none)) = some (none, la_F L xs, μ2) ∧ rC sA0 μ2 ∧ rM sA0 μ2 := by
  obtain ⟨w2, hr, he, hk⟩ := la_chk_of la_i2
  have hz := mm_exec_zf _ _ _ _ _ _ _ _ ((la_zf0 (l := la_h) rfl).push) hr
  obtain ⟨⟨Λ2, k1, k2⟩, k3, k4⟩ := mm_exec_sub 4000 50 126 0 _ _ _ (la_F1 L xs ++ [(0, 9, (fun _ => 0), List.replicate 47 none)]) _ _ _ ((la_s2 (L := L) (xs := xs)).push (by decide)) hr
  have e1 : w2.1 = la_2 := la_same (Λ0 := la_h) he hz la_zfm (mm_keep.push.trans k4) la_kp (la_h0 rfl)
  rw [e1, la_2M] at k2
  rw [k2.eq (la_subM L xs)] at k1
  refine ⟨w2.2, k1, hC.lo (fun c hc => ?_), rM_0 hk (la_z0_of la_i2L hr)⟩
  have hc : c < 110 := by omega
  have hl := la_loM c hc
  rw [← la_2M] at hl
  have e2 : la_2[c]? = (la_h ++ [(0, 9, (fun _ => 0), List.replicate 47 none)])[c]? := by
    rw [List.getElem?_append_left (show c < la_h.length from hc)]
    exact List.getElem?_append_left (show c < la_h.length from hc)
  rw [e2] at hl
  split at hl
  · rename_i D hD
    have g := k3 c D hD (Nat.le_of_ble_eq_true hl)
    have g2 := la_new la_μ1 c (by omega)
    exact ⟨g.1.trans g2.1, g.2.1.trans g2.2.1, g.2.2.trans g2.2.2⟩
  · cases hl
end
