/-! A RUN THAT KEEPS OFF SOME CELLS: cells of tag 12 are nobody's; what runs without them runs with them, and leaves them as they are -/
def mm_sub (E : Nat → mm_D) (Λ Λ2 : List mm_D) : Prop := Λ.length = Λ2.length ∧ ∀ q : Nat, Λ2[q]? = (Λ[q]?).map (fun D => if D.1 = 12 then E q else D)
/-- the cells that nothing here writes are as they were -/
def mm_loc (Λ : List mm_D) (μ μ' : mm_M) : Prop := ∀ (c : Nat) (D : mm_D), Λ[c]? = some D → 7 ≤ D.1 → μ'.1 c = μ.1 c ∧ μ'.2.1 c = μ.2.1 c ∧ μ'.2.2 c = μ.2.2 c
def mm_keep (Λ Λ' : List mm_D) : Prop := ∀ (c : Nat) (D : mm_D), Λ[c]? = some D → 7 ≤ D.1 → Λ'[c]? = some D
theorem mm_loc.rf {Λ : List mm_D} {μ : mm_M} : mm_loc Λ μ μ := fun _ _ _ _ => ⟨rfl, rfl, rfl⟩
theorem mm_keep.rf {Λ : List mm_D} : mm_keep Λ Λ := fun _ _ h _ => h
theorem mm_loc.at {Λ : List mm_D} {μ μ' : mm_M} {q : Nat} {D : mm_D} (hq : Λ[q]? = some D) (h6 : D.1 < 7) (h : ∀ c, c ≠ q → μ'.1 c = μ.1 c ∧ μ'.2.1 c = μ.2.1 c ∧ μ'.2.2 c = μ.2.2 c) : mm_loc Λ μ μ' := fun c E hE h7 => by
  refine h c (fun z => ?_)
  subst z
  rw [hq] at hE
  cases hE
  omega
theorem mm_sub.get {E : Nat → mm_D} {Λ Λ2 : List mm_D} (h : mm_sub E Λ Λ2) {q t n : Nat} {f : Nat → Int32} {rs : List (Option Nat)} (hq : Λ[q]? = some (t, n, f, rs)) (h12 : t ≠ 12) : Λ2[q]? = some (t, n, f, rs) := by
  rw [h.2 q, hq]
  simp [h12]
theorem mm_sub.set {E : Nat → mm_D} {Λ Λ2 : List mm_D} (h : mm_sub E Λ Λ2) {q : Nat} {D : mm_D} (h6 : D.1 ≠ 12) : mm_sub E (Λ.set q D) (Λ2.set q D) := by
  refine ⟨by rw [List.length_set, List.length_set]; exact h.1, fun c => ?_⟩
  rw [List.getElem?_set, List.getElem?_set]
  by_cases hc : q = c
  · subst hc
    simp only [if_true]
    by_cases hl : q < Λ.length
    · rw [if_pos hl, if_pos (by rw [← h.1]; exact hl)]
      simp [h6]
    · rw [if_neg hl, if_neg (by rw [← h.1]; exact hl)]
      rfl
  · rw [if_neg hc, if_neg hc]
    exact h.2 c
theorem mm_sub.push {E : Nat → mm_D} {Λ Λ2 : List mm_D} (h : mm_sub E Λ Λ2) {D : mm_D} (h6 : D.1 ≠ 12) : mm_sub E (Λ ++ [D]) (Λ2 ++ [D]) := by
  refine ⟨by rw [List.length_append, List.length_append, h.1], fun c => ?_⟩
  by_cases hc : c < Λ.length
  · rw [List.getElem?_append_left hc, List.getElem?_append_left (by rw [← h.1]; exact hc)]
    exact h.2 c
  · have e1 := h.1
    rw [List.getElem?_append_right (l₁ := Λ2) (by omega), List.getElem?_append_right (l₁ := Λ) (by omega), ← h.1]
    by_cases hz : c - Λ.length = 0
    · rw [hz]
      simp [h6]
    · rw [List.getElem?_eq_none (by simp; omega)]
      rfl
theorem mm_sub.eq {E : Nat → mm_D} {Λ Λ2 Λ3 : List mm_D} (h : mm_sub E Λ Λ2) (h3 : mm_sub E Λ Λ3) : Λ2 = Λ3 := by
  apply List.ext_getElem?
  intro q
  rw [h.2 q, h3.2 q]
theorem mm_keep.set {Λ : List mm_D} {q : Nat} {D D' : mm_D} (hq : Λ[q]? = some D) (h6 : D.1 < 7) : mm_keep Λ (Λ.set q D') := fun c E hE h7 => by
  rw [List.getElem?_set_ne (fun z => by subst z; rw [hq] at hE; cases hE; omega)]
  exact hE
theorem mm_keep.push {Λ : List mm_D} {D : mm_D} : mm_keep Λ (Λ ++ [D]) := fun c E hE _ => by
  rw [List.getElem?_append_left (List.getElem?_eq_some_iff.mp hE).1]
  exact hE
section
variable {E : Nat → mm_D} {Λ Λ2 : List mm_D} {μ : mm_M} {w' : mm_W} {q a b c0 x : Nat} {j y : Int32} {z : Int64} {v : Value}
theorem mm_ial_sub (hs : mm_sub E Λ Λ2) (h : mm_ial (Λ, μ) q j = some y) : mm_ial (Λ2, μ) q j = some y := by
  unfold mm_ial at h ⊢
  dsimp only at h ⊢
  cases hq : Λ[q]? with
  | none => rw [hq] at h; cases h
  | some D =>
    obtain ⟨t, n, f, rs⟩ := D
    rw [hq] at h
    dsimp only at h
    by_cases hin : j < 0 ∨ n ≤ j.toNatClampNeg
    · rw [if_pos hin] at h; cases h
    · rw [if_neg hin] at h
      split at h
      · rename_i h0
        have g1 := hs.get hq (by simp only [beq_iff_eq] at h0; omega)
        rw [g1]
        dsimp only
        rw [if_neg hin, h0]
        exact h
      · rename_i h0 h1
        have h7 : t = 7 := by simpa using h0
        have g1 := hs.get hq (by omega)
        rw [g1]
        dsimp only
        rw [if_neg hin, h0]
        subst h7
        exact h
      · cases h
theorem mm_bal_sub (hs : mm_sub E Λ Λ2) (h : mm_bal (Λ, μ) q j = some y) : mm_bal (Λ2, μ) q j = some y := by
  unfold mm_bal at h ⊢
  dsimp only at h ⊢
  cases hq : Λ[q]? with
  | none => rw [hq] at h; cases h
  | some D =>
    obtain ⟨t, n, f, rs⟩ := D
    rw [hq] at h
    dsimp only at h
    by_cases hin : j < 0 ∨ n ≤ j.toNatClampNeg
    · rw [if_pos hin] at h; cases h
    · rw [if_neg hin] at h
      split at h
      · rename_i h0
        have g1 := hs.get hq (by simp only [Bool.or_eq_true, beq_iff_eq] at h0; omega)
        rw [g1]
        dsimp only
        rw [if_neg hin, h0]
        exact h
      · rename_i h0 h1
        have h7 : t = 8 := by simpa using h0
        have g1 := hs.get hq (by omega)
        rw [g1]
        dsimp only
        rw [if_neg hin, h0]
        subst h7
        exact h
      · cases h
theorem mm_lal_sub (hs : mm_sub E Λ Λ2) (h : mm_lal (Λ, μ) q j = some z) : mm_lal (Λ2, μ) q j = some z := by
  unfold mm_lal at h ⊢
  dsimp only at h ⊢
  cases hq : Λ[q]? with
  | none => rw [hq] at h; cases h
  | some D =>
    obtain ⟨t, n, f, rs⟩ := D
    rw [hq] at h
    dsimp only at h
    by_cases hin : j < 0 ∨ n ≤ j.toNatClampNeg
    · rw [if_pos hin] at h; cases h
    · rw [if_neg hin] at h
      split at h
      · rename_i h0
        have g1 := hs.get hq (by simp only [beq_iff_eq] at h0; omega)
        rw [g1]
        dsimp only
        rw [if_neg hin, h0]
        exact h
      · cases h
theorem mm_aal_sub (hs : mm_sub E Λ Λ2) (h : mm_aal (Λ, μ) q j = some v) : mm_aal (Λ2, μ) q j = some v := by
  unfold mm_aal at h ⊢
  dsimp only at h ⊢
  cases hq : Λ[q]? with
  | none => rw [hq] at h; cases h
  | some D =>
    obtain ⟨t, n, f, rs⟩ := D
    rw [hq] at h
    dsimp only at h
    by_cases hin : j < 0 ∨ n ≤ j.toNatClampNeg
    · rw [if_pos hin] at h; cases h
    · rw [if_neg hin] at h
      split at h
      · rename_i h0
        have g1 := hs.get hq (by simp only [Bool.or_eq_true, beq_iff_eq] at h0; omega)
        rw [g1]
        dsimp only
        rw [if_neg hin, h0]
        exact h
      · cases h
theorem mm_len_sub (hs : mm_sub E Λ Λ2) (h : mm_len (Λ, μ) q = some y) : mm_len (Λ2, μ) q = some y := by
  unfold mm_len at h ⊢
  dsimp only at h ⊢
  cases hq : Λ[q]? with
  | none => rw [hq] at h; cases h
  | some D =>
    obtain ⟨t, n, f, rs⟩ := D
    rw [hq] at h
    dsimp only at h
    split at h
    · rename_i h0
      have g1 := hs.get hq (by
        simp only [Bool.and_eq_true] at h0
        have : t < 9 := mm_blt h0.2
        omega)
      rw [g1]
      dsimp only
      rw [h0]
      exact h
    · cases h
theorem mm_gf_sub (hs : mm_sub E Λ Λ2) (h : mm_gf (Λ, μ) q a b c0 = some v) : mm_gf (Λ2, μ) q a b c0 = some v := by
  unfold mm_gf at h ⊢
  dsimp only at h ⊢
  cases hq : Λ[q]? with
  | none => rw [hq] at h; cases h
  | some D =>
    obtain ⟨t, n, f, rs⟩ := D
    rw [hq] at h
    dsimp only at h
    have h12 : t ≠ 12 := by
      intro e
      subst e
      simp at h
    have g1 := hs.get hq h12
    rw [g1]
    exact h
theorem mm_pf_sub (hs : mm_sub E Λ Λ2) (h : mm_pf (Λ, μ) q a b c0 v = some w') : (∃ Λ2', mm_pf (Λ2, μ) q a b c0 v = some (Λ2', w'.2) ∧ mm_sub E w'.1 Λ2') ∧ mm_loc Λ μ w'.2 ∧ mm_keep Λ w'.1 := by
  unfold mm_pf at h ⊢
  dsimp only at h ⊢
  cases hq : Λ[q]? with
  | none => rw [hq] at h; cases h
  | some D =>
    obtain ⟨t, n, f, rs⟩ := D
    rw [hq] at h
    dsimp only at h
    have ht : (t == 0 && n == a) = true := by
      cases hz : (t == 0 && n == a) with
      | true => rfl
      | false => rw [hz] at h; cases h
    have h0 : t = 0 := by simp only [Bool.and_eq_true, beq_iff_eq] at ht; exact ht.1
    have g1 := hs.get hq (by omega)
    rw [g1]
    dsimp only
    rw [ht] at h ⊢
    split at h
    · cases h; exact ⟨⟨Λ2, rfl, hs⟩, mm_loc.at hq (by show t < 7; omega) sm_sI_o, mm_keep.rf⟩
    · split at h
      · rename_i h01; cases h; exact ⟨⟨Λ2, by dsimp only; rw [if_pos h01], hs⟩, mm_loc.at hq (by show t < 7; omega) sm_sI_o, mm_keep.rf⟩
      · cases h
    · cases h; exact ⟨⟨Λ2, rfl, hs⟩, mm_loc.at hq (by show t < 7; omega) sm_sR_o, mm_keep.rf⟩
    · cases h; exact ⟨⟨Λ2, rfl, hs⟩, mm_loc.at hq (by show t < 7; omega) sm_sR_o, mm_keep.rf⟩
    · split at h
      · rename_i hbl; cases h; exact ⟨⟨_, (by dsimp only; try rw [hbl]), hs.set (by show t ≠ 12; omega)⟩, mm_loc.rf, mm_keep.set hq (by show t < 7; omega)⟩
      · cases h
    · cases h
theorem mm_ias_sub (hs : mm_sub E Λ Λ2) (h : mm_ias (Λ, μ) q j y = some w') : (∃ Λ2', mm_ias (Λ2, μ) q j y = some (Λ2', w'.2) ∧ mm_sub E w'.1 Λ2') ∧ mm_loc Λ μ w'.2 ∧ mm_keep Λ w'.1 := by
  unfold mm_ias at h ⊢
  dsimp only at h ⊢
  cases hq : Λ[q]? with
  | none => rw [hq] at h; cases h
  | some D =>
    obtain ⟨t, n, f, rs⟩ := D
    rw [hq] at h
    dsimp only at h
    by_cases hin : j < 0 ∨ n ≤ j.toNatClampNeg
    · rw [if_pos hin] at h; cases h
    · rw [if_neg hin] at h
      split at h
      · rename_i h0
        have ht : t = 1 := by simpa using h0
        have g1 := hs.get hq (by omega)
        rw [g1]
        dsimp only
        rw [if_neg hin, h0]
        cases h
        exact ⟨⟨Λ2, rfl, hs⟩, mm_loc.at hq (by show t < 7; omega) sm_sI_o, mm_keep.rf⟩
      · cases h
theorem mm_bas_sub (hs : mm_sub E Λ Λ2) (h : mm_bas (Λ, μ) q j y = some w') : (∃ Λ2', mm_bas (Λ2, μ) q j y = some (Λ2', w'.2) ∧ mm_sub E w'.1 Λ2') ∧ mm_loc Λ μ w'.2 ∧ mm_keep Λ w'.1 := by
  unfold mm_bas at h ⊢
  dsimp only at h ⊢
  cases hq : Λ[q]? with
  | none => rw [hq] at h; cases h
  | some D =>
    obtain ⟨t, n, f, rs⟩ := D
    rw [hq] at h
    dsimp only at h
    by_cases hin : j < 0 ∨ n ≤ j.toNatClampNeg
    · rw [if_pos hin] at h; cases h
    · rw [if_neg hin] at h
      split at h
      · rename_i h0
        have ht : t = 2 := by simpa using h0
        have g1 := hs.get hq (by omega)
        rw [g1]
        dsimp only
        rw [if_neg hin, h0]
        cases h
        exact ⟨⟨Λ2, rfl, hs⟩, mm_loc.at hq (by show t < 7; omega) sm_sI_o, mm_keep.rf⟩
      · rename_i h0 h1
        have ht : t = 3 := by simpa using h0
        have g1 := hs.get hq (by omega)
        rw [g1]
        dsimp only
        rw [if_neg hin, h0]
        subst ht
        cases h
        exact ⟨⟨Λ2, rfl, hs⟩, mm_loc.at hq (by show 3 < 7; omega) sm_sI_o, mm_keep.rf⟩
      · cases h
theorem mm_las_sub (hs : mm_sub E Λ Λ2) (h : mm_las (Λ, μ) q j z = some w') : (∃ Λ2', mm_las (Λ2, μ) q j z = some (Λ2', w'.2) ∧ mm_sub E w'.1 Λ2') ∧ mm_loc Λ μ w'.2 ∧ mm_keep Λ w'.1 := by
  unfold mm_las at h ⊢
  dsimp only at h ⊢
  cases hq : Λ[q]? with
  | none => rw [hq] at h; cases h
  | some D =>
    obtain ⟨t, n, f, rs⟩ := D
    rw [hq] at h
    dsimp only at h
    by_cases hin : j < 0 ∨ n ≤ j.toNatClampNeg
    · rw [if_pos hin] at h; cases h
    · rw [if_neg hin] at h
      split at h
      · rename_i h0
        have ht : t = 4 := by simpa using h0
        have g1 := hs.get hq (by omega)
        rw [g1]
        dsimp only
        rw [if_neg hin, h0]
        cases h
        exact ⟨⟨Λ2, rfl, hs⟩, mm_loc.at hq (by show t < 7; omega) sm_sJ_o, mm_keep.rf⟩
      · cases h
theorem mm_aas_sub (hs : mm_sub E Λ Λ2) (h : mm_aas (Λ, μ) q j x = some w') : (∃ Λ2', mm_aas (Λ2, μ) q j x = some (Λ2', w'.2) ∧ mm_sub E w'.1 Λ2') ∧ mm_loc Λ μ w'.2 ∧ mm_keep Λ w'.1 := by
  unfold mm_aas at h ⊢
  dsimp only at h ⊢
  cases hq : Λ[q]? with
  | none => rw [hq] at h; cases h
  | some D =>
    cases hx : Λ[x]? with
    | none => rw [hq, hx] at h; cases h
    | some E =>
      obtain ⟨t, n, f, rs⟩ := D
      obtain ⟨tx, nx, fx, rx⟩ := E
      rw [hq, hx] at h
      dsimp only at h
      by_cases hin : j < 0 ∨ n ≤ j.toNatClampNeg ∨ rs.length ≤ j.toNatClampNeg
      · rw [if_pos hin] at h; cases h
      · rw [if_neg hin] at h
        split at h
        · rename_i h0
          have h1 := h0
          simp only [Bool.or_eq_true, Bool.and_eq_true, beq_iff_eq] at h1
          have g1 := hs.get hq (by omega)
          have g3 := hs.get hx (by omega)
          rw [g1, g3]
          dsimp only
          rw [if_neg hin, h0]
          cases h
          exact ⟨⟨_, rfl, hs.set (by show t ≠ 12; omega)⟩, mm_loc.rf, mm_keep.set hq (by show t < 7; omega)⟩
        · cases h
theorem mm_cp_sub {st st' : List Value} (hs : mm_sub E Λ Λ2) (h : mm_cp st (Λ, μ) = some (st', w')) : (∃ Λ2', mm_cp st (Λ2, μ) = some (st', (Λ2', w'.2)) ∧ mm_sub E w'.1 Λ2') ∧ mm_loc Λ μ w'.2 ∧ mm_keep Λ w'.1 := by
  unfold mm_cp at h ⊢
  dsimp only at h ⊢
  split at h
  · rename_i n dp bb sp aa s1
    cases hq : Λ[aa]? with
    | none => rw [hq] at h; cases h
    | some D =>
      cases hx : Λ[bb]? with
      | none => rw [hq, hx] at h; cases h
      | some E =>
        obtain ⟨ta, na, fa, ra⟩ := D
        obtain ⟨tb, nb, fb, rb⟩ := E
        rw [hq, hx] at h
        dsimp only at h
        split at h
        · cases h
        · rename_i hc
          split at h
          · rename_i h0
            have h1 := h0
            simp only [Bool.and_eq_true, beq_iff_eq] at h1
            have g1 := hs.get hq (by omega)
            have g3 := hs.get hx (by omega)
            try dsimp only
            rw [g1, g3]
            dsimp only
            rw [if_neg hc, h0]
            cases h
            exact ⟨⟨_, rfl, hs⟩, mm_loc.at hx (by show tb < 7; omega) sm_sI_o, mm_keep.rf⟩
          · rename_i h0 h2
            have h1 := h0
            simp only [Bool.and_eq_true, beq_iff_eq] at h1
            have g1 := hs.get hq (by omega)
            have g3 := hs.get hx (by omega)
            try dsimp only
            rw [g1, g3]
            dsimp only
            rw [if_neg hc, h0]
            obtain ⟨rfl, rfl⟩ := h1
            cases h
            exact ⟨⟨_, rfl, hs⟩, mm_loc.at hx (by show 4 < 7; omega) sm_sJ_o, mm_keep.rf⟩
          · cases h
  · cases h
end
