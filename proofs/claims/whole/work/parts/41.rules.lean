/-! RULES once more, with the place and the value as one wants them -/
def mm_iv (t : Nat) (f m : Nat → Int32) : Option (Nat → Int32) := match t with
  | 1 => some m
  | 7 => some f
  | _ => none
def mm_bv (t : Nat) (f m : Nat → Int32) : Option (Nat → Int32) := match t with
  | 2 => some m
  | 3 => some m
  | 8 => some f
  | _ => none
def mm_bt (t : Nat) : Option FieldType := match t with
  | 2 => some .byte
  | 3 => some .boolean
  | _ => none
section
variable {Λ : List mm_D} {d y i i1 i2 : Nat} {L : mm_L} {st s : List Value} {μ : mm_M} {Φ Ψ : Option Value → mm_M → Prop} {R : List (List mm_R)} {r : mm_R} {q t n k : Nat} {f F : Nat → Int32} {rs : List (Option Nat)} {j z z0 : Int32} {zz zz0 : Int64}
theorem mm_ev.pos {c : Prop} [Decidable c] (h : c) (g : mm_ev Λ d y i1 L st μ Φ) : mm_ev Λ d y (if c then i1 else i2) L st μ Φ := by rw [if_pos h]; exact g
theorem mm_ev.neg {c : Prop} [Decidable c] (h : ¬ c) (g : mm_ev Λ d y i2 L st μ Φ) : mm_ev Λ d y (if c then i1 else i2) L st μ Φ := by rw [if_neg h]; exact g
theorem mm_ev.val (h : z0 = z) (g : mm_ev Λ d y i L (.int z :: s) μ Φ) : mm_ev Λ d y i L (.int z0 :: s) μ Φ := by rw [h]; exact g
theorem mm_ev.vall (h : zz0 = zz) (g : mm_ev Λ d y i L (.long zz :: s) μ Φ) : mm_ev Λ d y i L (.long zz0 :: s) μ Φ := by rw [h]; exact g
theorem mm_ev.val1 {b : Value} (h : z0 = z) (g : mm_ev Λ d y i L (b :: .int z :: s) μ Φ) : mm_ev Λ d y i L (b :: .int z0 :: s) μ Φ := by rw [h]; exact g
theorem mm_ev.swc {v x : Int32} {t d0 : Nat} {l : List (Int32 × Nat)} (h1 : x = v → mm_ev Λ d y t L st μ Φ) (h2 : ¬ x = v → mm_ev Λ d y (mm_sw l d0 x) L st μ Φ) : mm_ev Λ d y (mm_sw ((v, t) :: l) d0 x) L st μ Φ := mm_ev.ite h1 h2
theorem mm_ev.sw0 {x : Int32} {d0 : Nat} (h : mm_ev Λ d y d0 L st μ Φ) : mm_ev Λ d y (mm_sw [] d0 x) L st μ Φ := h
theorem mm_ev.eq {μ2 : mm_M} (h : μ = μ2) (g : mm_ev Λ d y i L st μ2 Φ) : mm_ev Λ d y i L st μ Φ := by rw [h]; exact g
theorem mm_ev.ild (hy : mm_rows y = R) (hr : mm_rw R i = some r) (hi : r.1 = .iaload) (hq : Λ[q]? = some (t, n, f, rs)) (ht : mm_iv t f (μ.1 q) = some F) (hj : j = nI k) (hk : k < n) (hn : n < 2 ^ 31) (hv : F k = z) (g : mm_ev Λ d y (i + 1) L (.int z :: s) μ Φ) : mm_ev Λ d y i L (.int j :: .ref q :: s) μ Φ := by
  subst hj
  subst hv
  unfold mm_iv at ht
  split at ht
  · cases ht
    exact mm_ev.iald hy hr hi hq hk hn g
  · cases ht
    exact mm_ev.iald7 hy hr hi hq hk hn g
  · cases ht
theorem mm_ev.bld (hy : mm_rows y = R) (hr : mm_rw R i = some r) (hi : r.1 = .baload) (hq : Λ[q]? = some (t, n, f, rs)) (ht : mm_bv t f (μ.1 q) = some F) (hj : j = nI k) (hk : k < n) (hn : n < 2 ^ 31) (hv : F k = z) (g : mm_ev Λ d y (i + 1) L (.int z :: s) μ Φ) : mm_ev Λ d y i L (.int j :: .ref q :: s) μ Φ := by
  subst hj
  subst hv
  unfold mm_bv at ht
  split at ht
  · cases ht
    exact mm_ev.bald2 hy hr hi hq hk hn g
  · cases ht
    exact mm_ev.bald3 hy hr hi hq hk hn g
  · cases ht
    exact mm_ev.bald8 hy hr hi hq hk hn g
  · cases ht
theorem mm_ev.lld (hy : mm_rows y = R) (hr : mm_rw R i = some r) (hi : r.1 = .laload) (hq : Λ[q]? = some (t, n, f, rs)) (ht : t = 4) (hj : j = nI k) (hk : k < n) (hn : n < 2 ^ 31) (hv : μ.2.1 q k = zz) (g : mm_ev Λ d y (i + 1) L (.long zz :: s) μ Φ) : mm_ev Λ d y i L (.int j :: .ref q :: s) μ Φ := by
  subst hj
  subst hv
  subst ht
  exact mm_ev.lald hy hr hi hq hk hn g
theorem mm_ev.ald {v : Value} (hy : mm_rows y = R) (hr : mm_rw R i = some r) (hi : r.1 = .aaload) (hq : Λ[q]? = some (t, n, f, rs)) (ht : (t == 5 || t == 6) = true) (hj : j = nI k) (hk : k < n) (hn : n < 2 ^ 31) (hv : va_rf (rs.getD k none) = v) (g : mm_ev Λ d y (i + 1) L (v :: s) μ Φ) : mm_ev Λ d y i L (.int j :: .ref q :: s) μ Φ := by
  subst hj
  exact mm_ev.aald hy hr hi hq ht hk hn hv g
theorem mm_ev.ist (hy : mm_rows y = R) (hr : mm_rw R i = some r) (hi : r.1 = .iastore) (hq : Λ[q]? = some (t, n, f, rs)) (ht : t = 1) (hj : j = nI k) (hk : k < n) (hn : n < 2 ^ 31) (g : mm_ev Λ d y (i + 1) L s (mm_sI μ q (upd (μ.1 q) k z)) Φ) : mm_ev Λ d y i L (.int z :: .int j :: .ref q :: s) μ Φ := by
  subst hj
  subst ht
  exact mm_ev.iast hy hr hi hq hk hn g
theorem mm_ev.bst {ty : FieldType} (hy : mm_rows y = R) (hr : mm_rw R i = some r) (hi : r.1 = .bastore) (hq : Λ[q]? = some (t, n, f, rs)) (ht : mm_bt t = some ty) (hj : j = nI k) (hk : k < n) (hn : n < 2 ^ 31) (g : mm_ev Λ d y (i + 1) L s (mm_sI μ q (upd (μ.1 q) k (vp_nar ty z))) Φ) : mm_ev Λ d y i L (.int z :: .int j :: .ref q :: s) μ Φ := by
  subst hj
  unfold mm_bt at ht
  split at ht
  · cases ht
    exact mm_ev.bast2 hy hr hi hq hk hn g
  · cases ht
    exact mm_ev.bast3 hy hr hi hq hk hn g
  · cases ht
theorem mm_ev.lst (hy : mm_rows y = R) (hr : mm_rw R i = some r) (hi : r.1 = .lastore) (hq : Λ[q]? = some (t, n, f, rs)) (ht : t = 4) (hj : j = nI k) (hk : k < n) (hn : n < 2 ^ 31) (g : mm_ev Λ d y (i + 1) L s (mm_sJ μ q (vp_updL (μ.2.1 q) k zz)) Φ) : mm_ev Λ d y i L (.long zz :: .int j :: .ref q :: s) μ Φ := by
  subst hj
  subst ht
  exact mm_ev.last hy hr hi hq hk hn g
end
/-- numbers -/
theorem nI_cap {a : Int32} {n : Nat} (hn : n < 2 ^ 31) (h : 0 ≤ a ∧ a ≤ nI n - 1) : ∃ c, c < n ∧ a = nI c := by
  obtain ⟨c, hc, rfl⟩ := nI_of (Int32.not_lt.mpr h.1)
  cases n with
  | zero =>
    exact absurd h.2 (Int32.not_le.mpr (by
      have : (nI 0 - 1 : Int32) < 0 := by decide
      exact Int32.lt_of_lt_of_le this (nI_pos' hc)))
  | succ m =>
    rw [nI_pred] at h
    exact ⟨c, by have := (nI_leI hc (by omega)).mp h.2; omega, rfl⟩
theorem nI_mul (a b : Nat) : nI a * nI b = nI (a * b) := (Int32.ofNat_mul a b).symm
theorem nI_inc {a : Nat} : nI a + 1 = nI (a + 1) := nI_1 a
