/-! WHAT FITS STAYS SO -/
section
variable {A : sA} {g : sG} {s : Nat}
theorem okP.mono {n m : Nat} {r : sR} (h : okP n r) (hm : n ≤ m) : okP m r := ⟨h.1, fun i hi => ⟨⟨(h.2 i hi).1.1, fun z => by
  obtain ⟨c, hc, e⟩ := (h.2 i hi).1.2.1 z
  exact ⟨c, by omega, e⟩, (h.2 i hi).1.2.2⟩, (h.2 i hi).2⟩⟩
theorem okA.G (ho : okA A) (hg : okG A.2.2.1.length g) (hn : A.1.1.1 ≤ g.1) : okA (sA_G A g) := ⟨⟨hg, ho.1.2.1, ho.1.2.2.1.mono hn, ho.1.2.2.2⟩, ho.2⟩
theorem okA.R {S P B : sR} (ho : okA A) (hS : okS S) (hP : okP A.1.1.1 P) (hB : okB B) : okA (sA_R A S P B) := ⟨⟨ho.1.1, hS, hP, hB⟩, ho.2⟩
theorem okA.T {t : Nat} {T : sT} (ho : okA A) (hT : T.2.1 ≤ 60 ∧ (T.1 = -1 ∧ T.2.1 = 0 ∨ ∃ s, s < 5 ∧ T.1 = nI s)) : okA (sA_t A t T) := ⟨ho.1, ho.2.1, ho.2.2.1, ho.2.2.2.1, ho.2.2.2.2.1, ho.2.2.2.2.2.1, fun u hu => by
  show (if u = t then T else A.2.2.2.2.2 u).2.1 ≤ 60 ∧ ((if u = t then T else A.2.2.2.2.2 u).1 = -1 ∧ (if u = t then T else A.2.2.2.2.2 u).2.1 = 0 ∨ ∃ s, s < 5 ∧ (if u = t then T else A.2.2.2.2.2 u).1 = nI s)
  by_cases e : u = t
  · rw [if_pos e]
    exact hT
  · rw [if_neg e]
    exact ho.2.2.2.2.2.2 u hu⟩
theorem okA.X {n : Nat} {tx : Nat → Int32} (ho : okA A) (hX : n ≤ 100 ∧ ∀ i, i < n → ∃ c, c < 128 ∧ tx i = nI c) : okA (sA_x A n tx) := ⟨ho.1, ho.2.1, ho.2.2.1, ho.2.2.2.1, hX, ho.2.2.2.2.2⟩
theorem okA.Ac {n : Nat} {f : Nat → Int32} (ho : okA A) (hn : n ≤ 20) : okA (sA_a A n f) := ⟨ho.1, ho.2.1, ho.2.2.1, ho.2.2.2.1, ho.2.2.2.2.1, hn, ho.2.2.2.2.2.2⟩
theorem okG.u {k : Nat} {f : Nat → Int32} (ho : okG s g) (h0 : k = 0 → ∀ p, p < 12 → ∃ x, x ≤ 99 ∧ f p = nI x) (h1 : k ≠ 1) (h3 : k = 3 → ∀ c, c < g.1 → f c = -5 ∨ ∃ x, x < 12 ∧ f c = nI x) (h4 : k ≠ 4) : okG s (sG_u g k f) := by
  obtain ⟨o1, o2, o3, o4, o5, h, o6, o7, o8⟩ := ho
  refine ⟨o1, o2, fun p hp => ?_, fun c hc => ?_, fun c hc => ?_, h, o6, o7, fun c hc => ?_⟩
  · show ∃ x, x ≤ 99 ∧ (if 0 = k then f else g.2.2.2 0) p = nI x
    by_cases e : 0 = k
    · rw [if_pos e]
      exact h0 e.symm p hp
    · rw [if_neg e]
      exact o3 p hp
  · show ∃ x, x < 7 ∧ (if 1 = k then f else g.2.2.2 1) c = nI x
    rw [if_neg (fun z => h1 z.symm)]
    exact o4 c hc
  · show (if 3 = k then f else g.2.2.2 3) c = -5 ∨ ∃ x, x < 12 ∧ (if 3 = k then f else g.2.2.2 3) c = nI x
    by_cases e : 3 = k
    · rw [if_pos e]
      exact h3 e.symm c hc
    · rw [if_neg e]
      exact o5 c hc
  · show ∃ s, s ≤ h ∧ (if 4 = k then f else g.2.2.2 4) c = nI s
    rw [if_neg (fun z => h4 z.symm)]
    exact o8 c hc
theorem upd_all {f : Nat → Int32} {k n : Nat} {x : Int32} {P : Int32 → Prop} (h : ∀ i, i < n → P (f i)) (hx : P x) : ∀ i, i < n → P (upd f k x i) := fun i hi => by
  unfold upd
  by_cases e : i = k
  · rw [if_pos e]
    exact hx
  · rw [if_neg e]
    exact h i hi
theorem upd_al1 {f : Nat → Int32} {n : Nat} {x : Int32} {P : Int32 → Prop} (h : ∀ i, i < n → P (f i)) (hx : P x) : ∀ i, i < n + 1 → P (upd f n x i) := fun i hi => by
  unfold upd
  by_cases e : i = n
  · rw [if_pos e]
    exact hx
  · rw [if_neg e]
    exact h i (by omega)
theorem p_7 {p : Int32} (h : 0 ≤ p ∧ p ≤ 6) : ∃ j, j < 7 ∧ p = nI j := by
  obtain ⟨j, hj, rfl⟩ := nI_of2 (n := 6) (M := 6) (by decide) (Int32.not_lt.mpr h.1) h.2
  exact ⟨j, by omega, rfl⟩
theorem p_13 {p : Int32} (h : 0 ≤ p ∧ p ≤ 12) : ∃ j, j < 13 ∧ p = nI j := by
  obtain ⟨j, hj, rfl⟩ := nI_of2 (n := 12) (M := 12) (by decide) (Int32.not_lt.mpr h.1) h.2
  exact ⟨j, by omega, rfl⟩
theorem p_99 {p : Int32} (h : 0 ≤ p ∧ p ≤ 99) : ∃ j, j ≤ 99 ∧ p = nI j := nI_of2 (n := 99) (M := 99) (by decide) (Int32.not_lt.mpr h.1) h.2
theorem sp_spn_12 : ∀ x, x < 12 → ∀ s, s < 12 → ∃ y, y < 12 ∧ sp_spn (nI s) (nI x) = nI y := by decide +kernel
theorem ok_child (ho : okA A) (k v : Int32) : okA (q_child A k v).2 := by
  unfold q_child
  by_cases h1 : 0 ≤ k ∧ k ≤ 6
  · rw [if_pos h1]
    by_cases h2 : 0 ≤ v ∧ v ≤ 9
    · rw [if_pos h2]
      by_cases h3 : A.1.1.1 = 6
      · rw [if_pos h3]
        exact ho
      · rw [if_neg h3]
        have h6 := ho.n
        obtain ⟨o1, o2, o3, o4, o5, h, o6, o7, o8⟩ := ho.1.1
        refine ho.G ⟨by show A.1.1.1 + 1 ≤ 6; omega, o2, o3, fun c hc => ?_, fun c hc => ?_, h, o6, o7, fun c hc => ?_⟩ (Nat.le_succ _)
        · exact upd_al1 (P := fun y => ∃ k, k < 7 ∧ y = nI k) o4 (p_7 h1) c hc
        · exact upd_al1 (P := fun y => y = -5 ∨ ∃ x, x < 12 ∧ y = nI x) o5 (Or.inl rfl) c hc
        · exact upd_al1 (P := fun y => ∃ s, s ≤ h ∧ y = nI s) o8 ⟨0, Nat.zero_le _, rfl⟩ c hc
    · rw [if_neg h2]
      exact ho
  · rw [if_neg h1]
    exact ho
theorem ok_point (ho : okA A) (c p : Int32) : okA (q_point A c p).2 := by
  unfold q_point
  by_cases h1 : isC A c
  · rw [if_pos h1]
    by_cases h2 : p = -1 ∨ (0 ≤ p ∧ p ≤ 11)
    · rw [if_pos h2]
      refine ho.G (ho.1.1.u (fun z => absurd z (by decide)) (by decide) (fun _ => upd_all (P := fun y => y = -5 ∨ ∃ x, x < 12 ∧ y = nI x) ho.1.1.2.2.2.2.1 ?_) (by decide)) (Nat.le_refl _)
      by_cases e : p = -1
      · rw [if_pos e]
        exact Or.inl rfl
      · rw [if_neg e]
        exact Or.inr (p_12 (h2.resolve_left e))
    · rw [if_neg h2]
      exact ho
  · rw [if_neg h1]
    exact ho
theorem ok_need (ho : okA A) (p n : Int32) : okA (q_need A p n).2 := by
  unfold q_need
  by_cases h1 : 0 ≤ p ∧ p ≤ 11
  · rw [if_pos h1]
    by_cases h2 : 0 ≤ n ∧ n ≤ 99
    · rw [if_pos h2]
      exact ho.G (ho.1.1.u (fun _ => upd_all (P := fun y => ∃ x, x ≤ 99 ∧ y = nI x) ho.1.1.2.2.1 (p_99 h2)) (by decide) (fun z => absurd z (by decide)) (by decide)) (Nat.le_refl _)
    · rw [if_neg h2]
      exact ho
  · rw [if_neg h1]
    exact ho
theorem ok_spin (ho : okA A) (x : Int32) : okA (q_spin A x).2 := by
  unfold q_spin
  by_cases h1 : 0 ≤ x ∧ x ≤ 11
  · rw [if_pos h1]
    obtain ⟨j, hj, rfl⟩ := p_12 h1
    refine ho.G (ho.1.1.u (fun z => absurd z (by decide)) (by decide) (fun _ c hc => ?_) (by decide)) (Nat.le_refl _)
    rcases ho.1.1.2.2.2.2.1 c hc with e | ⟨y, hy, e⟩
    · rw [e, sp_spn_5]
      exact Or.inl rfl
    · rw [e]
      exact Or.inr (sp_spn_12 y hy j hj)
  · rw [if_neg h1]
    exact ho
theorem ok_bell (ho : okA A) : okA (q_bell A).2 := ho.G (ho.1.1.u (fun z => absurd z (by decide)) (by decide) (fun _ c hc => Or.inl rfl) (by decide)) (Nat.le_refl _)
theorem ok_row (ho : okA A) (c p n : Int32) : okA (q_row A c p n).2 := by
  unfold q_row
  by_cases h1 : isC A c ∧ (0 ≤ p ∧ p ≤ 3)
  · rw [if_pos h1]
    by_cases h2 : 0 ≤ n ∧ n ≤ 9
    · rw [if_pos h2]
      by_cases h3 : A.1.1.2.2.2 1 c.toNatClampNeg = 6
      · rw [if_pos h3]
        exact ho.G (ho.1.1.u (fun z => absurd z (by decide)) (by decide) (fun z => absurd z (by decide)) (by decide)) (Nat.le_refl _)
      · rw [if_neg h3]
        exact ho
    · rw [if_neg h2]
      exact ho
  · rw [if_neg h1]
    exact ho
theorem ok_feed (ho : okA A) (x : Int32) : okA (q_feed A x).2 := by
  unfold q_feed
  by_cases h1 : 0 ≤ x ∧ x ≤ 127
  · rw [if_pos h1]
    by_cases h2 : A.2.2.2.1.1 < 100
    · rw [if_pos h2]
      exact ho.X ⟨by omega, upd_al1 (P := fun y => ∃ c, c < 128 ∧ y = nI c) ho.2.2.2.2.1.2 (p_128 h1)⟩
    · rw [if_neg h2]
      exact ho
  · rw [if_neg h1]
    exact ho
theorem okN.mono {m : Nat} {K : sK} (h : okN s K) (hm : s ≤ m) : okN m K := ⟨⟨h.1.1, fun j hj => Nat.lt_of_lt_of_le (h.1.2.1 j hj) hm, h.1.2.2⟩, h.2⟩
theorem ok_school (ho : okA A) : okA (q_school A).2 := by
  unfold q_school
  by_cases h1 : A.2.2.1.length = 6
  · rw [if_pos h1]
    exact ho
  · rw [if_neg h1]
    by_cases h2 : (pA A.2.2.2.1.1 A.2.2.2.1.2).1 = true ∧ (pA A.2.2.2.1.1 A.2.2.2.1.2).2.1 = A.2.2.2.1.1
    · rw [if_pos h2]
      obtain ⟨o1, o2, o3, o4, o5, o6, o7⟩ := ho
      have hC := (pA_G (n := A.2.2.2.1.1) (tx := A.2.2.2.1.2)).2
      have hl : (A.2.2.1 ++ [(pA A.2.2.2.1.1 A.2.2.2.1.2).2.2]).length = A.2.2.1.length + 1 := by rw [List.length_append]; rfl
      refine ⟨⟨⟨o1.1.1, fun j hj => ?_, o1.1.2.2⟩, o1.2⟩, fun K hK => ?_, ?_, fun x hx => ?_, ⟨Nat.zero_le _, fun i hi => absurd hi (by simp)⟩, o6, o7⟩
      · have hj : some A.2.2.1.length = some j := hj
        cases hj
        show _ < (A.2.2.1 ++ [(pA A.2.2.2.1.1 A.2.2.2.1.2).2.2]).length
        omega
      · show okN (A.2.2.1 ++ [(pA A.2.2.2.1.1 A.2.2.2.1.2).2.2]).length K
        exact (o2 K hK).mono (by omega)
      · show (A.2.2.1 ++ [(pA A.2.2.2.1.1 A.2.2.2.1.2).2.2]).length ≤ 6
        omega
      · have hx : x ∈ A.2.2.1 ++ [(pA A.2.2.2.1.1 A.2.2.2.1.2).2.2] := hx
        rcases List.mem_append.mp hx with hx | hx
        · exact o4 x hx
        · rw [List.mem_singleton.mp hx]
          exact hC
    · rw [if_neg h2]
      exact ho.X ⟨Nat.zero_le _, fun i hi => absurd hi (by simp)⟩
theorem ok_pass (ho : okA A) (n : Int32) : okA (q_pass A n).2 := by
  unfold q_pass
  by_cases h1 : 0 ≤ n ∧ n ≤ 60
  · rw [if_pos h1]
    by_cases h2 : A.1.1.2.1 + n ≤ 9999
    · rw [if_pos h2]
      obtain ⟨k, hk, rfl⟩ := p_60 h1
      obtain ⟨h, o6, o7, o8⟩ := ho.1.1.2.2.2.2.2
      rw [o7, nI_add] at h2
      have h3 := (nI_leI (b := 9999) (by omega) (by decide)).mp h2
      rw [nI_clamp (by omega)]
      exact ho.G (ho.1.1.hours o7 k h3) (by rw [sp_hours_n]; exact Nat.le_refl _)
    · rw [if_neg h2]
      exact ho
  · rw [if_neg h1]
    exact ho
theorem ok_see (ho : okA A) (p n x : Int32) : okA (q_see A p n x).2 := by
  unfold q_see
  obtain ⟨hS1, hS2⟩ := ho.1.2.1
  by_cases h0 : p = -1
  · rw [if_pos h0]
    exact ho.R ⟨Nat.zero_le _, fun i hi => absurd hi (by simp)⟩ ho.1.2.2.1 ho.1.2.2.2
  · rw [if_neg h0]
    by_cases h1 : 0 ≤ p ∧ p ≤ 11
    · rw [if_pos h1]
      by_cases h2 : (0 ≤ n ∧ n ≤ 12) ∧ (0 ≤ x ∧ x ≤ 99)
      · rw [if_pos h2]
        by_cases h3 : A.1.2.1.1 = 5
        · rw [if_pos h3]
          exact ho
        · rw [if_neg h3]
          exact ho.R ⟨by show A.1.2.1.1 + 1 ≤ 5; omega, fun i hi => ⟨upd_al1 (P := fun y => ∃ p, p < 12 ∧ y = nI p) (fun i hi => (hS2 i hi).1) (p_12 h1) i hi, upd_al1 (P := fun y => ∃ t, t < 13 ∧ y = nI t) (fun i hi => (hS2 i hi).2) (p_13 h2.1) i hi⟩⟩ ho.1.2.2.1 ho.1.2.2.2
      · rw [if_neg h2]
        exact ho
    · rw [if_neg h1]
      exact ho
theorem ok_addP (ho : okA A) {w n : Int32} (hf : sp_fit A.1.1.1 w n) (h2 : w = 2 → ∃ s, s < 12 ∧ n = nI s) : okA (q_addP A w n).2 := by
  unfold q_addP
  obtain ⟨hP1, hP2⟩ := ho.1.2.2.1
  by_cases h3 : A.1.2.2.1.1 = 10
  · rw [if_pos h3]
    exact ho
  · rw [if_neg h3]
    refine ho.R ho.1.2.1 ⟨by show A.1.2.2.1.1 + 1 ≤ 10; omega, fun i hi => ?_⟩ ho.1.2.2.2
    have hi : i < A.1.2.2.1.1 + 1 := hi
    show sp_fit A.1.1.1 (upd (A.1.2.2.1.2 0) A.1.2.2.1.1 w i) (upd (A.1.2.2.1.2 1) A.1.2.2.1.1 n i) ∧ (upd (A.1.2.2.1.2 0) A.1.2.2.1.1 w i = 2 → ∃ s, s < 12 ∧ upd (A.1.2.2.1.2 1) A.1.2.2.1.1 n i = nI s)
    by_cases e : i = A.1.2.2.1.1
    · subst e
      rw [upd_eq, upd_eq]
      exact ⟨hf, h2⟩
    · rw [upd_ne e, upd_ne e]
      exact hP2 i (by omega)
theorem ok_plan (ho : okA A) (w n : Int32) : okA (q_plan A w n).2 := by
  unfold q_plan
  by_cases h0 : w = -1
  · rw [if_pos h0]
    exact ho.R ho.1.2.1 ⟨Nat.zero_le _, fun i hi => absurd hi (by simp)⟩ ho.1.2.2.2
  · rw [if_neg h0]
    by_cases h1 : w = 0
    · subst h1
      rw [if_pos rfl]
      exact ok_addP ho ⟨Or.inl rfl, fun z => absurd z (by decide), fun z => absurd z (by decide)⟩ (fun z => absurd z (by decide))
    · rw [if_neg h1]
      by_cases h2 : w = 1
      · subst h2
        rw [if_pos rfl]
        by_cases h3 : isC A n
        · rw [if_pos h3]
          have h6 := ho.n
          exact ok_addP ho ⟨Or.inr (Or.inl rfl), fun _ => nI_cap (by omega) h3, fun z => absurd z (by decide)⟩ (fun z => absurd z (by decide))
        · rw [if_neg h3]
          exact ho
      · rw [if_neg h2]
        by_cases h3 : w = 2
        · subst h3
          rw [if_pos rfl]
          by_cases h4 : 0 ≤ n ∧ n ≤ 11
          · rw [if_pos h4]
            exact ok_addP ho ⟨Or.inr (Or.inr (Or.inl rfl)), fun z => absurd z (by decide), fun z => absurd z (by decide)⟩ (fun _ => p_12 h4)
          · rw [if_neg h4]
            exact ho
        · rw [if_neg h3]
          by_cases h4 : w = 3
          · subst h4
            rw [if_pos rfl]
            by_cases h5 : 0 ≤ n ∧ n ≤ 11
            · rw [if_pos h5]
              exact ok_addP ho ⟨Or.inr (Or.inr (Or.inr rfl)), fun z => absurd z (by decide), fun _ => p_12 h5⟩ (fun z => absurd z (by decide))
            · rw [if_neg h5]
              exact ho
          · rw [if_neg h4]
            exact ho
theorem ok_book (ho : okA A) (p x : Int32) : okA (q_book A p x).2 := by
  unfold q_book
  obtain ⟨hB1, hB2⟩ := ho.1.2.2.2
  by_cases h0 : p = -1
  · rw [if_pos h0]
    exact ho.R ho.1.2.1 ho.1.2.2.1 ⟨Nat.zero_le _, fun i hi => absurd hi (by simp)⟩
  · rw [if_neg h0]
    by_cases h1 : 0 ≤ p ∧ p ≤ 11
    · rw [if_pos h1]
      by_cases h2 : 0 ≤ x ∧ x ≤ 99
      · rw [if_pos h2]
        by_cases h3 : A.1.2.2.2.1 = 8
        · rw [if_pos h3]
          exact ho
        · rw [if_neg h3]
          exact ho.R ho.1.2.1 ho.1.2.2.1 ⟨by show A.1.2.2.2.1 + 1 ≤ 8; omega, fun i hi => upd_al1 (P := fun y => ∃ p, p < 12 ∧ y = nI p) hB2 (p_12 h1) i hi⟩
      · rw [if_neg h2]
        exact ho
    · rw [if_neg h1]
      exact ho
theorem ok_image (ho : okA A) : okA (q_image A).2 := ⟨ho.1, fun K hK => by
  have hK : some A.1 = some K := hK
  cases hK
  exact ho.1, ho.2.2⟩
theorem ok_undo (ho : okA A) : okA (q_undo A).2 := by
  unfold q_undo
  cases e : A.2.1 with
  | none => exact ho
  | some K => exact ⟨ho.2.1 K e, ho.2⟩
theorem ok_act (ho : okA A) (c a x : Int32) : okA (q_act A c a x).2 := by
  unfold q_act
  by_cases h1 : isC A c ∧ (0 ≤ a ∧ a ≤ 2)
  · rw [if_pos h1]
    refine ho.Ac ?_
    unfold ac_z
    by_cases h2 : a = 0
    · rw [if_pos h2]
      exact Nat.le_trans (ac_P_l _ _ _ _) (by decide)
    · rw [if_neg h2]
      by_cases h3 : a = 1
      · rw [if_pos h3]
        exact Nat.le_trans (ac_S_l _ _ _ _ _) (by decide)
      · rw [if_neg h3]
        exact Nat.le_trans (ac_T_l _ _ _ _ _) (by decide)
  · rw [if_neg h1]
    exact ho.Ac (by decide)
theorem ok_tape (ho : okA A) (t x n : Int32) : okA (q_tape A t x n).2 := by
  unfold q_tape
  by_cases h1 : 0 ≤ t ∧ t ≤ 5
  · rw [if_pos h1]
    by_cases h2 : -1 ≤ x ∧ x ≤ 4
    · rw [if_pos h2]
      by_cases h3 : x = -1
      · rw [if_pos h3]
        exact ho.T ⟨by decide, Or.inl ⟨rfl, rfl⟩⟩
      · rw [if_neg h3]
        by_cases h4 : 60 < n
        · rw [if_pos h4]
          exact ho
        · rw [if_neg h4]
          by_cases h5 : n < 0
          · rw [if_pos h5]
            exact ho
          · rw [if_neg h5]
            obtain ⟨k, hk, rfl⟩ := p_60 ⟨Int32.not_lt.mp h5, Int32.not_lt.mp h4⟩
            obtain ⟨y, hy, rfl⟩ := nI_of2 (n := 4) (M := 4) (x := x) (by decide) (Int32.not_lt.mpr (p_m14 h2 h3)) h2.2
            refine ho.T ⟨?_, Or.inr ⟨y, by omega, rfl⟩⟩
            show (nI k).toNatClampNeg ≤ 60
            rw [nI_clamp (by omega)]
            exact hk
    · rw [if_neg h2]
      exact ho
  · rw [if_neg h1]
    exact ho
theorem ok_item (ho : okA A) (t i : Int32) (v : Int64) : okA (q_item A t i v).2 := by
  unfold q_item
  by_cases h1 : 0 ≤ t ∧ t ≤ 5
  · rw [if_pos h1]
    obtain ⟨j, hj, rfl⟩ := p_6 h1
    rw [nI_clamp (by omega)]
    by_cases h2 : (A.2.2.2.2.2 j).1 = -1
    · rw [if_pos h2]
      exact ho
    · rw [if_neg h2]
      by_cases h3 : 0 ≤ i ∧ i ≤ nI (A.2.2.2.2.2 j).2.1 - 1
      · rw [if_pos h3]
        exact ho.T (ho.2.2.2.2.2.2 j hj)
      · rw [if_neg h3]
        exact ho
  · rw [if_neg h1]
    exact ho
theorem ok_shift (ho : okA A) (t i u j n : Int32) : okA (q_shift A t i u j n).2 := by
  unfold q_shift
  by_cases h1 : (0 ≤ t ∧ t ≤ 5) ∧ (0 ≤ u ∧ u ≤ 5)
  · rw [if_pos h1]
    obtain ⟨k, hk, rfl⟩ := p_6 h1.2
    rw [nI_clamp (show k < 2 ^ 31 by omega)]
    by_cases h2 : (A.2.2.2.2.2 t.toNatClampNeg).1 = -1 ∨ (A.2.2.2.2.2 k).1 = -1
    · rw [if_pos h2]
      exact ho
    · rw [if_neg h2]
      by_cases h3 : (A.2.2.2.2.2 t.toNatClampNeg).1 = (A.2.2.2.2.2 k).1
      · rw [if_pos h3]
        by_cases h4 : sp_hr (A.2.2.2.2.2 t.toNatClampNeg) i n ∧ sp_hr (A.2.2.2.2.2 k) j n
        · rw [if_pos h4]
          exact ho.T (ho.2.2.2.2.2.2 k hk)
        · rw [if_neg h4]
          exact ho
      · rw [if_neg h3]
        exact ho
  · rw [if_neg h1]
    exact ho
end
