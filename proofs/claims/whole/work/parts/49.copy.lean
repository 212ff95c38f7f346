/-! THE CLASS'S GLOBE: a copy, a step, one more child -/
theorem va_cpy0 {α : Type} {f g : Nat → α} {n i : Nat} (h : i < n) : va_cpy f g 0 0 n i = f i := by
  unfold va_cpy
  rw [if_pos ⟨Nat.zero_le _, by omega⟩]
  congr 1
  omega
section
variable {d : Nat} {μ : mm_M} {b b1 b2 : Nat} {σ : List sS} {g : sG} {c p : Nat}
set_option maxRecDepth 100000 in
theorem C36 (hb : (b1 = 57 ∧ b2 = 16) ∨ (b1 = 16 ∧ b2 = 37) ∨ (b1 = 37 ∧ b2 = 16)) (hg : sG_c b2 g μ) (h6 : g.1 ≤ 6) : mm_call la_C d 36 [.ref b1, .ref b2] μ (fun v μ' => v = none ∧ sG_c b1 g μ' ∧ mf (fun c => b1 ≤ c ∧ c ≤ b1 + 6) μ μ') := by
  have hsch := hg.sch
  have hr : va_rf (μ.2.2 b2 2) = .null ∨ ∃ q, va_rf (μ.2.2 b2 2) = .ref q := by
    cases hx : μ.2.2 b2 2 with
    | none => exact Or.inl rfl
    | some q => exact Or.inr ⟨q, rfl⟩
  have hn := hg.n
  have hh := hg.hour
  have ha := hg.2.2.2
  have fin : ∀ (o : Option Nat) (μ' : mm_M), va_rf (μ.2.2 b2 2) = va_rf o → μ' = mm_sI (mm_sI (mm_sI (mm_sI (mm_sI (mm_sI (mm_sR (mm_sI (mm_sI μ b1 (upd (μ.1 b1) 0 (μ.1 b2 0))) b1 (upd (upd (μ.1 b1) 0 (μ.1 b2 0)) 1 (μ.1 b2 1))) b1 (va_up (μ.2.2 b1) 2 o)) (b1 + 1) (va_cpy (μ.1 (b2 + 1)) (μ.1 (b1 + 1)) 0 0 12)) (b1 + 2) (va_cpy (μ.1 (b2 + 2)) (μ.1 (b1 + 2)) 0 0 6)) (b1 + 3) (va_cpy (μ.1 (b2 + 3)) (μ.1 (b1 + 3)) 0 0 6)) (b1 + 4) (va_cpy (μ.1 (b2 + 4)) (μ.1 (b1 + 4)) 0 0 6)) (b1 + 5) (va_cpy (μ.1 (b2 + 5)) (μ.1 (b1 + 5)) 0 0 6)) (b1 + 6) (va_cpy (μ.1 (b2 + 6)) (μ.1 (b1 + 6)) 0 0 24) → sG_c b1 g μ' ∧ mf (fun c => b1 ≤ c ∧ c ≤ b1 + 6) μ μ' := by
    intro o μ' ho hμ
    have hoo : μ.2.2 b2 2 = o := by
      cases o with
      | none =>
        cases hx : μ.2.2 b2 2 with
        | none => rfl
        | some q => rw [hx] at ho; cases ho
      | some q =>
        cases hx : μ.2.2 b2 2 with
        | none => rw [hx] at ho; cases ho
        | some q2 => rw [hx] at ho; cases ho; rfl
    subst hμ
    refine ⟨⟨?_, ?_, ?_, ?_⟩, ?_⟩
    · rw [sI_ne (by omega), sI_ne (by omega), sI_ne (by omega), sI_ne (by omega), sI_ne (by omega), sI_ne (by omega)]
      show (mm_sI _ b1 _).1 b1 1 = _
      rw [sI_eq]
      exact hn
    · rw [sI_ne (by omega), sI_ne (by omega), sI_ne (by omega), sI_ne (by omega), sI_ne (by omega), sI_ne (by omega)]
      show (mm_sI _ b1 _).1 b1 0 = _
      rw [sI_eq]
      exact hh
    · show (if b1 = b1 then va_up (μ.2.2 b1) 2 o else μ.2.2 b1) 2 = _
      rw [if_pos rfl, ← hsch, hoo]
      rfl
    · intro k i hk hi
      have e := ha k i hk hi
      rcases (show k = 0 ∨ k = 1 ∨ k = 2 ∨ k = 3 ∨ k = 4 ∨ k = 5 by omega) with rfl | rfl | rfl | rfl | rfl | rfl
      · rw [sI_ne (by omega), sI_ne (by omega), sI_ne (by omega), sI_ne (by omega), sI_ne (by omega)]
        show (mm_sI _ (b1 + 1) _).1 (b1 + 1) i = _
        rw [sI_eq, va_cpy0 (show i < 12 from hi)]
        exact e
      · rw [sI_ne (by omega), sI_ne (by omega), sI_ne (by omega), sI_ne (by omega)]
        show (mm_sI _ (b1 + 2) _).1 (b1 + 2) i = _
        rw [sI_eq, va_cpy0 (Nat.lt_of_lt_of_le (show i < g.1 from hi) h6)]
        exact e
      · rw [sI_ne (by omega), sI_ne (by omega), sI_ne (by omega)]
        show (mm_sI _ (b1 + 3) _).1 (b1 + 3) i = _
        rw [sI_eq, va_cpy0 (Nat.lt_of_lt_of_le (show i < g.1 from hi) h6)]
        exact e
      · rw [sI_ne (by omega), sI_ne (by omega)]
        show (mm_sI _ (b1 + 4) _).1 (b1 + 4) i = _
        rw [sI_eq, va_cpy0 (Nat.lt_of_lt_of_le (show i < g.1 from hi) h6)]
        exact e
      · rw [sI_ne (by omega)]
        show (mm_sI _ (b1 + 5) _).1 (b1 + 5) i = _
        rw [sI_eq, va_cpy0 (Nat.lt_of_lt_of_le (show i < g.1 from hi) h6)]
        exact e
      · show (mm_sI _ (b1 + 6) _).1 (b1 + 6) i = _
        rw [sI_eq, va_cpy0 (show i < 24 from Nat.lt_of_lt_of_le (show i < 4 * g.1 from hi) (by omega))]
        exact e
    · exact ((((((((mf.rf.sI ⟨by omega, by omega⟩).sI ⟨by omega, by omega⟩).sR ⟨by omega, by omega⟩).sI ⟨by omega, by omega⟩).sI ⟨by omega, by omega⟩).sI ⟨by omega, by omega⟩).sI ⟨by omega, by omega⟩).sI ⟨by omega, by omega⟩).sI ⟨by omega, by omega⟩
  rcases hr with hr | ⟨q, hr⟩
  · rcases hb with ⟨rfl, rfl⟩ | ⟨rfl, rfl⟩ | ⟨rfl, rfl⟩
    all_goals
      refine mm_call.of mm_t36 ?_
      refine mm_ev.run mm_y36 11 rfl ?_
      refine mm_ev.vav hr ?_
      refine mm_ev.run mm_y36 49 rfl ?_
      exact mm_ev.ret mm_y36 rfl rfl rfl ⟨rfl, fin none _ hr rfl⟩
  · rcases hb with ⟨rfl, rfl⟩ | ⟨rfl, rfl⟩ | ⟨rfl, rfl⟩
    all_goals
      refine mm_call.of mm_t36 ?_
      refine mm_ev.run mm_y36 11 rfl ?_
      refine mm_ev.vav hr ?_
      refine mm_ev.run mm_y36 49 rfl ?_
      exact mm_ev.ret mm_y36 rfl rfl rfl ⟨rfl, fin (some q) _ hr rfl⟩
end
