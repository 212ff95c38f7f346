/-! RULES for one instruction whose outcome hangs on what isn't known: items by an open index, quotients -/
def bI (p : Prop) [Decidable p] : Int32 := if p then 1 else 0
theorem bI_1 {p : Prop} [Decidable p] (h : p) : bI p = 1 := if_pos h
theorem bI_0 {p : Prop} [Decidable p] (h : ¬ p) : bI p = 0 := if_neg h
theorem bI_eq0 {p : Prop} [Decidable p] : bI p = 0 ↔ ¬ p := by
  unfold bI
  by_cases h : p
  · simp [h]
  · simp [h]
theorem bI_eq1 {p : Prop} [Decidable p] : bI p = 1 ↔ p := by
  unfold bI
  by_cases h : p
  · simp [h]
  · simp [h]
theorem bI_01 {p : Prop} [Decidable p] : bI p = 0 ∨ bI p = 1 := by
  unfold bI
  by_cases h : p
  · simp [h]
  · simp [h]
section
variable {Λ : List mm_D} {d y i i1 i2 : Nat} {L : mm_L} {st s : List Value} {μ : mm_M} {Φ Ψ : Option Value → mm_M → Prop} {R : List (List mm_R)} {r : mm_R} {q q2 n n2 k : Nat} {f f2 : Nat → Int32} {rs rs2 : List (Option Nat)} {j z : Int32} {zz : Int64}
theorem mm_ev.ifb {p : Prop} [Decidable p] (h1 : ¬ p → mm_ev Λ d y i1 L st μ Φ) (h2 : p → mm_ev Λ d y i2 L st μ Φ) : mm_ev Λ d y (if bI p = 0 then i1 else i2) L st μ Φ := mm_ev.ite (fun h => h1 (bI_eq0.mp h)) (fun h => h2 (Decidable.not_not.mp (fun z => h (bI_eq0.mpr z))))
theorem mm_ev.stp1 {i' : Nat} {L' : mm_L} {st' : List Value} {μ' : mm_M} (hy : mm_rows y = R) (hr : mm_rw R i = some r) (h : mm_stp r i L st (Λ, μ) = some (i', L', st', (Λ, μ'))) (h2 : mm_ev Λ d y i' L' st' μ' Φ) : mm_ev Λ d y i L st μ Φ :=
  mm_ev.run hy 1 (by
    show mm_k (mm_1 R i L st (Λ, μ)) _ = _
    unfold mm_1
    rw [hr]
    dsimp only
    rw [h]
    rfl) h2
theorem mm_he_stp {st' : List Value} {w w' : mm_W} (h : mm_he r st w = some (st', w')) : mm_stp r i L st w = some (i + 1, L, st', w') := by
  obtain ⟨h1, h2, h3⟩ := mm_op_he (L := L) (i := i) h
  unfold mm_stp
  rw [h1]
  dsimp only
  rw [h2]
  dsimp only
  rw [h3]
  dsimp only
  rw [h]
theorem nI_vp {k n : Nat} (h : k < n) (hn : n < 2 ^ 31) : ¬ (nI k < 0 ∨ n ≤ (nI k).toNatClampNeg) := nI_in h hn
/-- ints, at a number's place -/
theorem mm_ev.iald (hy : mm_rows y = R) (hr : mm_rw R i = some r) (hi : r.1 = .iaload) (hq : Λ[q]? = some (1, n, f, rs)) (hk : k < n) (hn : n < 2 ^ 31) (g : mm_ev Λ d y (i + 1) L (.int (μ.1 q k) :: s) μ Φ) : mm_ev Λ d y i L (.int (nI k) :: .ref q :: s) μ Φ := by
  refine mm_ev.stp1 hy hr (mm_he_stp ?_) g
  obtain ⟨ins, pl, abc, zw, ts⟩ := r
  dsimp only at hi
  subst hi
  unfold mm_he mm_ial
  dsimp only
  rw [hq]
  dsimp only
  rw [if_neg (nI_vp hk hn), nI_clamp (by omega)]
  rfl
theorem mm_ev.iald7 (hy : mm_rows y = R) (hr : mm_rw R i = some r) (hi : r.1 = .iaload) (hq : Λ[q]? = some (7, n, f, rs)) (hk : k < n) (hn : n < 2 ^ 31) (g : mm_ev Λ d y (i + 1) L (.int (f k) :: s) μ Φ) : mm_ev Λ d y i L (.int (nI k) :: .ref q :: s) μ Φ := by
  refine mm_ev.stp1 hy hr (mm_he_stp ?_) g
  obtain ⟨ins, pl, abc, zw, ts⟩ := r
  dsimp only at hi
  subst hi
  unfold mm_he mm_ial
  dsimp only
  rw [hq]
  dsimp only
  rw [if_neg (nI_vp hk hn), nI_clamp (by omega)]
  rfl
theorem mm_ev.bald2 (hy : mm_rows y = R) (hr : mm_rw R i = some r) (hi : r.1 = .baload) (hq : Λ[q]? = some (2, n, f, rs)) (hk : k < n) (hn : n < 2 ^ 31) (g : mm_ev Λ d y (i + 1) L (.int (μ.1 q k) :: s) μ Φ) : mm_ev Λ d y i L (.int (nI k) :: .ref q :: s) μ Φ := by
  refine mm_ev.stp1 hy hr (mm_he_stp ?_) g
  obtain ⟨ins, pl, abc, zw, ts⟩ := r
  dsimp only at hi
  subst hi
  unfold mm_he mm_bal
  dsimp only
  rw [hq]
  dsimp only
  rw [if_neg (nI_vp hk hn), nI_clamp (by omega)]
  rfl
theorem mm_ev.bald3 (hy : mm_rows y = R) (hr : mm_rw R i = some r) (hi : r.1 = .baload) (hq : Λ[q]? = some (3, n, f, rs)) (hk : k < n) (hn : n < 2 ^ 31) (g : mm_ev Λ d y (i + 1) L (.int (μ.1 q k) :: s) μ Φ) : mm_ev Λ d y i L (.int (nI k) :: .ref q :: s) μ Φ := by
  refine mm_ev.stp1 hy hr (mm_he_stp ?_) g
  obtain ⟨ins, pl, abc, zw, ts⟩ := r
  dsimp only at hi
  subst hi
  unfold mm_he mm_bal
  dsimp only
  rw [hq]
  dsimp only
  rw [if_neg (nI_vp hk hn), nI_clamp (by omega)]
  rfl
theorem mm_ev.bald8 (hy : mm_rows y = R) (hr : mm_rw R i = some r) (hi : r.1 = .baload) (hq : Λ[q]? = some (8, n, f, rs)) (hk : k < n) (hn : n < 2 ^ 31) (g : mm_ev Λ d y (i + 1) L (.int (f k) :: s) μ Φ) : mm_ev Λ d y i L (.int (nI k) :: .ref q :: s) μ Φ := by
  refine mm_ev.stp1 hy hr (mm_he_stp ?_) g
  obtain ⟨ins, pl, abc, zw, ts⟩ := r
  dsimp only at hi
  subst hi
  unfold mm_he mm_bal
  dsimp only
  rw [hq]
  dsimp only
  rw [if_neg (nI_vp hk hn), nI_clamp (by omega)]
  rfl
theorem mm_ev.lald (hy : mm_rows y = R) (hr : mm_rw R i = some r) (hi : r.1 = .laload) (hq : Λ[q]? = some (4, n, f, rs)) (hk : k < n) (hn : n < 2 ^ 31) (g : mm_ev Λ d y (i + 1) L (.long (μ.2.1 q k) :: s) μ Φ) : mm_ev Λ d y i L (.int (nI k) :: .ref q :: s) μ Φ := by
  refine mm_ev.stp1 hy hr (mm_he_stp ?_) g
  obtain ⟨ins, pl, abc, zw, ts⟩ := r
  dsimp only at hi
  subst hi
  unfold mm_he mm_lal
  dsimp only
  rw [hq]
  dsimp only
  rw [if_neg (nI_vp hk hn), nI_clamp (by omega)]
  rfl
theorem mm_ev.aald {t : Nat} {v : Value} (hy : mm_rows y = R) (hr : mm_rw R i = some r) (hi : r.1 = .aaload) (hq : Λ[q]? = some (t, n, f, rs)) (ht : (t == 5 || t == 6) = true) (hk : k < n) (hn : n < 2 ^ 31) (hv : va_rf (rs.getD k none) = v) (g : mm_ev Λ d y (i + 1) L (v :: s) μ Φ) : mm_ev Λ d y i L (.int (nI k) :: .ref q :: s) μ Φ := by
  refine mm_ev.stp1 hy hr (mm_he_stp ?_) g
  obtain ⟨ins, pl, abc, zw, ts⟩ := r
  dsimp only at hi
  subst hi
  unfold mm_he mm_aal
  dsimp only
  rw [hq]
  dsimp only
  rw [if_neg (nI_vp hk hn), nI_clamp (by omega), ht]
  dsimp only
  rw [hv]
theorem mm_ev.iast (hy : mm_rows y = R) (hr : mm_rw R i = some r) (hi : r.1 = .iastore) (hq : Λ[q]? = some (1, n, f, rs)) (hk : k < n) (hn : n < 2 ^ 31) (g : mm_ev Λ d y (i + 1) L s (mm_sI μ q (upd (μ.1 q) k z)) Φ) : mm_ev Λ d y i L (.int z :: .int (nI k) :: .ref q :: s) μ Φ := by
  refine mm_ev.stp1 hy hr (mm_he_stp ?_) g
  obtain ⟨ins, pl, abc, zw, ts⟩ := r
  dsimp only at hi
  subst hi
  unfold mm_he mm_ias
  dsimp only
  rw [hq]
  dsimp only
  rw [if_neg (nI_vp hk hn), nI_clamp (by omega)]
  rfl
theorem mm_ev.bast2 (hy : mm_rows y = R) (hr : mm_rw R i = some r) (hi : r.1 = .bastore) (hq : Λ[q]? = some (2, n, f, rs)) (hk : k < n) (hn : n < 2 ^ 31) (g : mm_ev Λ d y (i + 1) L s (mm_sI μ q (upd (μ.1 q) k (vp_nar .byte z))) Φ) : mm_ev Λ d y i L (.int z :: .int (nI k) :: .ref q :: s) μ Φ := by
  refine mm_ev.stp1 hy hr (mm_he_stp ?_) g
  obtain ⟨ins, pl, abc, zw, ts⟩ := r
  dsimp only at hi
  subst hi
  unfold mm_he mm_bas
  dsimp only
  rw [hq]
  dsimp only
  rw [if_neg (nI_vp hk hn), nI_clamp (by omega)]
  rfl
theorem mm_ev.bast3 (hy : mm_rows y = R) (hr : mm_rw R i = some r) (hi : r.1 = .bastore) (hq : Λ[q]? = some (3, n, f, rs)) (hk : k < n) (hn : n < 2 ^ 31) (g : mm_ev Λ d y (i + 1) L s (mm_sI μ q (upd (μ.1 q) k (vp_nar .boolean z))) Φ) : mm_ev Λ d y i L (.int z :: .int (nI k) :: .ref q :: s) μ Φ := by
  refine mm_ev.stp1 hy hr (mm_he_stp ?_) g
  obtain ⟨ins, pl, abc, zw, ts⟩ := r
  dsimp only at hi
  subst hi
  unfold mm_he mm_bas
  dsimp only
  rw [hq]
  dsimp only
  rw [if_neg (nI_vp hk hn), nI_clamp (by omega)]
  rfl
theorem mm_ev.last (hy : mm_rows y = R) (hr : mm_rw R i = some r) (hi : r.1 = .lastore) (hq : Λ[q]? = some (4, n, f, rs)) (hk : k < n) (hn : n < 2 ^ 31) (g : mm_ev Λ d y (i + 1) L s (mm_sJ μ q (vp_updL (μ.2.1 q) k zz)) Φ) : mm_ev Λ d y i L (.long zz :: .int (nI k) :: .ref q :: s) μ Φ := by
  refine mm_ev.stp1 hy hr (mm_he_stp ?_) g
  obtain ⟨ins, pl, abc, zw, ts⟩ := r
  dsimp only at hi
  subst hi
  unfold mm_he mm_las
  dsimp only
  rw [hq]
  dsimp only
  rw [if_neg (nI_vp hk hn), nI_clamp (by omega)]
  rfl
end
