/-! THE SMALL MACHINE'S CELLS AS THEY REALLY ARE -/
def sm_A (bs : Nat) : Nat → Prop := fun q => bs ≤ q
/-- a value of the small machine's, as it really is -/
def sm_v (ad : Nat → Nat) (fm : Value) (v : Value) : Value := match v with
  | .ref i => if i = 13 then fm else .ref (ad i)
  | v => v
def sm_fs (ad : Nat → Nat) (fm : Value) (μ : mm_M) (q n : Nat) (rs : List (Option Nat)) : List Value := (List.range (mm_N.getD n 0)).map (fun k => match mm_fc n k with
  | 0 => .int (μ.1 q k)
  | 1 => sm_v ad fm (va_rf (μ.2.2 q k))
  | _ => sm_v ad fm (va_rf (rs.getD k none)))
def sm_e (cy : Nat → ClassId) (ad : Nat → Nat) (fm : Value) (μ : mm_M) (q : Nat) (D : mm_D) : va_E := match D.1 with
  | 0 => .inr (D.2.1, sm_fs ad fm μ q D.2.1 D.2.2.2)
  | 4 => .inl (cy 4, D.2.1, .inr (.inl (μ.2.1 q)))
  | 5 => .inl (cy 5, D.2.1, .inr (.inr (.inr (.inr (fun j => (D.2.2.2.getD j none).map ad)))))
  | 6 => .inl (cy 6, D.2.1, .inr (.inr (.inr (.inr (fun j => (D.2.2.2.getD j none).map ad)))))
  | t => .inl (cy t, D.2.1, .inl (μ.1 q))
def sm_w (bs : Nat) (cy : Nat → ClassId) (ad : Nat → Nat) (fm : Value) (w : mm_W) : va_W := (List.range (w.1.length - 14)).map (fun j => (bs + j, sm_e cy ad fm w.2 (14 + j) (w.1.getD (14 + j) (0, 0, (fun _ => 0), []))))
def sm_t (cy : Nat → ClassId) : List (ClassId × FieldType) := [(cy 1, .int), (cy 2, .byte), (cy 3, .boolean), (cy 4, .long), (cy 5, .object RX6), (cy 6, .object RX7)]
def sm_by (l : List Int32) : Nat → Int32 := fun j => l.getD j 0
/-- the cells that were there before: the script, two static rows, five texts and their bytes, what is only carried -/
def sm_O (L : Nat) (xs : Nat → Int32) : List mm_D := [(7, L, xs, []), (7, 7, sm_by [-1, 0, 0, 0, 1, 2, 3], []), (7, 21, sm_by [10, 11, 12, 0, 20, 0, 30, 0, 0, 0, 0, 40, 50, 51, 0, 0, 0, 60, 71, 70, 0], []),
  (9, 8, (fun _ => 0), []), (9, 9, (fun _ => 0), []), (9, 10, (fun _ => 0), []), (9, 11, (fun _ => 0), []), (9, 12, (fun _ => 0), []),
  (8, 5, sm_by [109, 111, 114, 101, 32], []), (8, 5, sm_by [108, 101, 115, 115, 32], []), (8, 5, sm_by [103, 114, 111, 119, 32], []), (8, 6, sm_by [112, 107, 118, 120, 110, 104], []), (8, 3, sm_by [60, 61, 62], []), (11, 0, (fun _ => 0), [])]
def sm_dk (D : mm_D) : Prop := D.1 ≤ 6 ∧ ((D.1 = 5 ∨ D.1 = 6) → ∀ (j x : Nat), D.2.2.2.getD j none = some x → x ≠ 13)
def sm_wf (L : Nat) (xs : Nat → Int32) (Λ : List mm_D) : Prop := Λ.take 14 = sm_O L xs ∧ ∀ (q : Nat) (D : mm_D), 14 ≤ q → Λ[q]? = some D → sm_dk D
theorem sm_wf.len {L : Nat} {xs : Nat → Int32} {Λ : List mm_D} (h : sm_wf L xs Λ) : 14 ≤ Λ.length := by
  have h1 := congrArg List.length h.1
  rw [List.length_take] at h1
  have h2 : (sm_O L xs).length = 14 := rfl
  omega
theorem sm_wf.old {L : Nat} {xs : Nat → Int32} {Λ : List mm_D} (h : sm_wf L xs Λ) {q : Nat} {D : mm_D} (hq : Λ[q]? = some D) (h14 : q < 14) : (sm_O L xs)[q]? = some D := by
  rw [← h.1, List.getElem?_take, if_pos h14]
  exact hq
theorem sm_O7 {L : Nat} {xs : Nat → Int32} : ∀ (q : Nat) (D : mm_D), (sm_O L xs)[q]? = some D → 7 ≤ D.1 := by
  intro q D h
  have hl : q < 14 := (List.getElem?_eq_some_iff.mp h).1
  match q, hl with
  | 0, _ => cases h; exact Nat.le_refl 7
  | 1, _ => cases h; decide
  | 2, _ => cases h; decide
  | 3, _ => cases h; decide
  | 4, _ => cases h; decide
  | 5, _ => cases h; decide
  | 6, _ => cases h; decide
  | 7, _ => cases h; decide
  | 8, _ => cases h; decide
  | 9, _ => cases h; decide
  | 10, _ => cases h; decide
  | 11, _ => cases h; decide
  | 12, _ => cases h; decide
  | 13, _ => cases h; decide
/-- a cell that can be written is a new one -/
theorem sm_wf.new {L : Nat} {xs : Nat → Int32} {Λ : List mm_D} (h : sm_wf L xs Λ) {q : Nat} {D : mm_D} (hq : Λ[q]? = some D) (h6 : D.1 ≤ 6) : 14 ≤ q := by
  rcases Nat.lt_or_ge q 14 with h1 | h1
  · have := sm_O7 q D (h.old hq h1)
    omega
  · exact h1
theorem sm_wf.set {L : Nat} {xs : Nat → Int32} {Λ : List mm_D} (h : sm_wf L xs Λ) {q : Nat} {D : mm_D} (hq : 14 ≤ q) (h6 : sm_dk D) : sm_wf L xs (Λ.set q D) := by
  refine ⟨?_, fun c E hc hE => ?_⟩
  · rw [← h.1]
    apply List.ext_getElem?
    intro j
    rw [List.getElem?_take, List.getElem?_take]
    split
    · rw [List.getElem?_set_ne (by omega)]
    · rfl
  · by_cases hcq : q = c
    · subst hcq
      rw [List.getElem?_set] at hE
      simp only [if_true] at hE
      split at hE
      · cases hE; exact h6
      · cases hE
    · rw [List.getElem?_set_ne hcq] at hE
      exact h.2 c E hc hE
theorem sm_wf.push {L : Nat} {xs : Nat → Int32} {Λ : List mm_D} (h : sm_wf L xs Λ) {D : mm_D} (h6 : sm_dk D) : sm_wf L xs (Λ ++ [D]) := by
  have hl := h.len
  refine ⟨?_, fun c E hc hE => ?_⟩
  · rw [List.take_append_of_le_length hl]
    exact h.1
  · by_cases hcq : c < Λ.length
    · rw [List.getElem?_append_left hcq] at hE
      exact h.2 c E hc hE
    · rw [List.getElem?_append_right (by omega)] at hE
      have hz : c - Λ.length < 1 := (List.getElem?_eq_some_iff.mp hE).1
      rw [show c - Λ.length = 0 by omega] at hE
      cases hE
      exact h6
section
variable {bs : Nat} {cy : Nat → ClassId} {ad : Nat → Nat} {fm : Value} {w : mm_W} {Λ : List mm_D} {μ μ' : mm_M} {q : Nat} {D D' : mm_D}
theorem sm_get (h : w.1[q]? = some D) (hq : 14 ≤ q) : (sm_w bs cy ad fm w)[q - 14]? = some (bs + (q - 14), sm_e cy ad fm w.2 q D) := by
  have hl := (List.getElem?_eq_some_iff.mp h).1
  unfold sm_w
  rw [List.getElem?_map, List.getElem?_range (by omega)]
  have e : 14 + (q - 14) = q := by omega
  have e2 : w.1.getD q (0, 0, (fun _ => 0), []) = D := by rw [List.getD_eq_getElem?_getD, h]; rfl
  show some (bs + (q - 14), sm_e cy ad fm w.2 (14 + (q - 14)) (w.1.getD (14 + (q - 14)) (0, 0, (fun _ => 0), []))) = _
  rw [e, e2]
theorem sm_len : (sm_w bs cy ad fm w).length = w.1.length - 14 := by simp [sm_w]
theorem sm_e_eq (hμ : μ'.1 q = μ.1 q ∧ μ'.2.1 q = μ.2.1 q ∧ μ'.2.2 q = μ.2.2 q) : sm_e cy ad fm μ' q D = sm_e cy ad fm μ q D := by
  obtain ⟨h1, h2, h3⟩ := hμ
  unfold sm_e sm_fs
  rw [h1, h2, h3]
/-- one cell is otherwise -/
theorem sm_set (hq : Λ[q]? = some D) (h14 : 14 ≤ q) (hμ : ∀ c, c ≠ q → μ'.1 c = μ.1 c ∧ μ'.2.1 c = μ.2.1 c ∧ μ'.2.2 c = μ.2.2 c) : (sm_w bs cy ad fm (Λ, μ)).set (q - 14) (bs + (q - 14), sm_e cy ad fm μ' q D') = sm_w bs cy ad fm (Λ.set q D', μ') := by
  have hl := (List.getElem?_eq_some_iff.mp hq).1
  apply List.ext_getElem?
  intro j
  by_cases hj : j = q - 14
  · subst hj
    rw [List.getElem?_set_self (by rw [sm_len]; show q - 14 < Λ.length - 14; omega)]
    rw [sm_get (D := D') (by show (Λ.set q D')[q]? = _; rw [List.getElem?_set_self hl]) h14]
  · rw [List.getElem?_set_ne (Ne.symm hj)]
    by_cases hjl : j < Λ.length - 14
    · have h1 : ∃ E, Λ[14 + j]? = some E := ⟨_, List.getElem?_eq_getElem (by omega)⟩
      obtain ⟨E, hE⟩ := h1
      have a := sm_get (bs := bs) (cy := cy) (ad := ad) (fm := fm) (w := (Λ, μ)) (q := 14 + j) (D := E) hE (by omega)
      have b := sm_get (bs := bs) (cy := cy) (ad := ad) (fm := fm) (w := (Λ.set q D', μ')) (q := 14 + j) (D := E) (by show (Λ.set q D')[14 + j]? = _; rw [List.getElem?_set_ne (by omega)]; exact hE) (by omega)
      rw [show 14 + j - 14 = j by omega] at a b
      rw [a, b, sm_e_eq (hμ _ (by omega))]
    · rw [List.getElem?_eq_none (by rw [sm_len]; show Λ.length - 14 ≤ j; omega), List.getElem?_eq_none (by rw [sm_len]; show (Λ.set q D').length - 14 ≤ j; rw [List.length_set]; omega)]
/-- one cell more -/
theorem sm_push (h14 : 14 ≤ Λ.length) (hμ : ∀ c, c ≠ Λ.length → μ'.1 c = μ.1 c ∧ μ'.2.1 c = μ.2.1 c ∧ μ'.2.2 c = μ.2.2 c) : sm_w bs cy ad fm (Λ, μ) ++ [(bs + (Λ.length - 14), sm_e cy ad fm μ' Λ.length D)] = sm_w bs cy ad fm (Λ ++ [D], μ') := by
  apply List.ext_getElem?
  intro j
  by_cases hj : j < Λ.length - 14
  · rw [List.getElem?_append_left (by rw [sm_len]; exact hj)]
    have h1 : ∃ E, Λ[14 + j]? = some E := ⟨_, List.getElem?_eq_getElem (by omega)⟩
    obtain ⟨E, hE⟩ := h1
    have a := sm_get (bs := bs) (cy := cy) (ad := ad) (fm := fm) (w := (Λ, μ)) (q := 14 + j) (D := E) hE (by omega)
    have b := sm_get (bs := bs) (cy := cy) (ad := ad) (fm := fm) (w := (Λ ++ [D], μ')) (q := 14 + j) (D := E) (by show (Λ ++ [D])[14 + j]? = _; rw [List.getElem?_append_left (by omega)]; exact hE) (by omega)
    rw [show 14 + j - 14 = j by omega] at a b
    rw [a, b, sm_e_eq (hμ _ (by omega))]
  · rw [List.getElem?_append_right (by rw [sm_len]; show Λ.length - 14 ≤ j; omega), sm_len]
    show [(bs + (Λ.length - 14), sm_e cy ad fm μ' Λ.length D)][j - (Λ.length - 14)]? = _
    by_cases hj2 : j = Λ.length - 14
    · subst hj2
      rw [Nat.sub_self]
      have b := sm_get (bs := bs) (cy := cy) (ad := ad) (fm := fm) (w := (Λ ++ [D], μ')) (q := Λ.length) (D := D) (by show (Λ ++ [D])[Λ.length]? = _; simp) h14
      rw [b]
      rfl
    · rw [List.getElem?_eq_none (by simp; omega), List.getElem?_eq_none (by rw [sm_len]; show (Λ ++ [D]).length - 14 ≤ j; simp; omega)]
theorem sm_D : va_D (sm_A bs) (sm_w bs cy ad fm w) := by
  have key : ∀ (k : Nat) (x : Nat × va_E), (sm_w bs cy ad fm w)[k]? = some x → x.1 = bs + k := by
    intro k x hx
    unfold sm_w at hx
    rw [List.getElem?_map] at hx
    have hk : k < w.1.length - 14 := by
      rcases Nat.lt_or_ge k (w.1.length - 14) with h | h
      · exact h
      · rw [List.getElem?_eq_none (by simp; omega)] at hx; cases hx
    rw [List.getElem?_range hk] at hx
    cases hx
    rfl
  refine ⟨fun i j x y hi hj h => ?_, fun k x hx => ?_⟩
  · rw [key i x hi, key j y hj] at h
    omega
  · rw [key k x hx]
    exact Nat.le_add_right _ _
/-- the newest cell lies where the heap ended -/
theorem sm_last {Dg : va_G} {H : Heap} (hP : va_P Dg vwCl (sm_w bs cy ad fm w) H) (h : 14 < w.1.length) : bs + (w.1.length - 14) ≤ H.size := by
  have h1 : ∃ E, w.1[w.1.length - 1]? = some E := ⟨_, List.getElem?_eq_getElem (by omega)⟩
  obtain ⟨E, hE⟩ := h1
  have a := sm_get (bs := bs) (cy := cy) (ad := ad) (fm := fm) hE (by omega)
  have := (hP _ _ a).lt
  have e : bs + (w.1.length - 1 - 14) < H.size := this
  omega
end
/-- the places of a method -/
def sm_l (ad : Nat → Nat) (fm : Value) (ls : Array Slot) (L : mm_L) : Prop := ls.size = L.length ∧ lv_wf ls ∧ ∀ (i : Nat) (v : Value), mm_ld L i = some v → ls[i]? = some (.val (sm_v ad fm v))
def sm_as (ad : Nat → Nat) (fm : Value) (L : mm_L) : List (Nat × Value) := (List.range L.length).filterMap (fun i => (mm_ld L i).map (fun v => (i, sm_v ad fm v)))
theorem sm_ld_lt {L : mm_L} {i : Nat} {v : Value} (h : mm_ld L i = some v) : i < L.length := by
  unfold mm_ld at h
  split at h
  · rename_i o ho
    exact (List.getElem?_eq_some_iff.mp ho).1
  · cases h
theorem sm_l.has {ad : Nat → Nat} {fm : Value} {ls : Array Slot} {L : mm_L} (h : sm_l ad fm ls L) : lv_has ls L.length (sm_as ad fm L) := by
  refine ⟨h.1, h.2.1, fun q hq => ?_⟩
  obtain ⟨i, -, hi⟩ := List.mem_filterMap.mp hq
  cases hv : mm_ld L i with
  | none => rw [hv] at hi; cases hi
  | some v =>
    rw [hv] at hi
    cases hi
    exact h.2.2 i v hv
theorem sm_as_mem {ad : Nat → Nat} {fm : Value} {L : mm_L} {i : Nat} {v : Value} (h : mm_ld L i = some v) : (i, sm_v ad fm v) ∈ sm_as ad fm L :=
  List.mem_filterMap.mpr ⟨i, List.mem_range.mpr (sm_ld_lt h), by rw [h]; rfl⟩
theorem sm_ld_set {L : mm_L} {k j : Nat} {o : Option Value} : mm_ld (L.set k o) j = if k = j ∧ k < L.length then o else mm_ld L j := by
  unfold mm_ld
  rw [List.getElem?_set]
  by_cases h : k = j
  · subst h
    by_cases h2 : k < L.length
    · simp [h2]
    · simp [h2]
  · simp [h]
theorem sm_v_cat {ad : Nat → Nat} {fm : Value} (hfm : fm.category = 1) (v : Value) : (sm_v ad fm v).category = v.category := by
  cases v <;> simp only [sm_v]
  rename_i i
  split
  · rw [hfm]; rfl
  · rfl
theorem sm_lg {L : mm_L} {k j : Nat} {v : Value} (h : mm_lg L k = false) (hv : mm_ld L j = some v) (hj : j + 1 = k) : v.category = 1 := by
  subst hj
  unfold mm_ld at hv
  unfold mm_lg at h
  dsimp only at h
  cases hL : L[j]? with
  | none => rw [hL] at hv; cases hv
  | some o =>
    rw [hL] at hv h
    dsimp only at hv
    subst hv
    cases v <;> first | rfl | (simp at h)
