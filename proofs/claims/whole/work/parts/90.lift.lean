/-! BOTH SIDE BY SIDE -/
theorem la_loC : ∀ c, c < 142 → 110 ≤ c → (match la_C[c]? with
  | some D => Nat.ble 7 D.1
  | none => false) = true := by decide +kernel
theorem la_loM : ∀ c, c < 110 → (match la_M[c]? with
  | some D => Nat.ble 7 D.1
  | none => false) = true := by decide +kernel
section
variable {d y L : Nat} {xs : Nat → Int32} {A B : sA} {μ μ' : mm_M} {V : Value} {as : List Value}
theorem lo_C (h : mm_loc la_C μ μ') : ∀ c, 110 ≤ c → c < 142 → μ'.1 c = μ.1 c ∧ μ'.2.1 c = μ.2.1 c ∧ μ'.2.2 c = μ.2.2 c := by
  intro c h1 h2
  have := la_loC c h2 h1
  split at this
  · rename_i D hD
    exact h c D hD (Nat.le_of_ble_eq_true this)
  · cases this
theorem lo_M (h : mm_loc la_M μ μ') : ∀ c, c < 110 → μ'.1 c = μ.1 c ∧ μ'.2.1 c = μ.2.1 c ∧ μ'.2.2 c = μ.2.2 c := by
  intro c h2
  have := la_loM c h2
  split at this
  · rename_i D hD
    exact h c D hD (Nat.le_of_ble_eq_true this)
  · cases this
theorem rC.lo (h : rC A μ) (hf : mf (fun c => 110 ≤ c) μ μ') : rC A μ' := by
  obtain ⟨h1, h2, h3, h4, h5, h6, h7⟩ := h
  have e : ∀ c, c < 110 → μ'.1 c = μ.1 c := fun c hc => (hf c (by omega)).1
  exact ⟨h1.fr hf (fun c hc => by omega), by rw [e 14 (by omega)]; exact h2, fun K hK => (h3 K hK).fr hf (fun c hc => by omega), h4.fr' hf (fun c hc => by omega), ⟨by rw [e 66 (by omega)]; exact h5.1, fun i hi => by rw [e 67 (by omega)]; exact h5.2 i hi⟩, ⟨by rw [e 71 (by omega)]; exact h6.1, fun i hi => by rw [e 72 (by omega)]; exact h6.2 i hi⟩, fun t ht => (h7 t ht).fr hf (fun c hc => by omega)⟩
theorem rM.lo (h : rM A μ) (hf : mh (fun c _ => ¬ (110 ≤ c ∧ c < 142)) μ μ') : rM A μ' := by
  obtain ⟨k1, k2, k3, k4, k5, k6, k7⟩ := h
  have e : ∀ c j, 110 ≤ c → c < 142 → μ'.1 c j = μ.1 c j := fun c j h1 h2 => hf.1 c j (fun z => z ⟨h1, h2⟩)
  exact ⟨k1.fr hf (fun c j hc => by omega), by rw [e 110 36 (by omega) (by omega)]; exact k2, fun K hK => (k3 K hK).fr (fun j _ => e 133 j (by omega) (by omega)), k4.fr hf (fun c j hc => by omega), ⟨by rw [e 110 8 (by omega) (by omega)]; exact k5.1, fun i hi => by rw [e 117 i (by omega) (by omega)]; exact k5.2 i hi⟩, ⟨by rw [e 110 34 (by omega) (by omega)]; exact k6.1, fun i hi => by rw [e 132 i (by omega) (by omega)]; exact k6.2 i hi⟩, fun t ht => (k7 t ht).fr hf (fun c j hc => by omega)⟩
theorem la_liftC (h : mm_call la_C d y as μ (fun v μ' => v = some V ∧ rC B μ')) (hM : rM A μ) : mm_call (la_F L xs) d y as μ (fun v μ' => v = some V ∧ rC B μ' ∧ rM A μ') := (h.lift (la_subC L xs)).imp (fun v μ' z => ⟨z.1.1, z.1.2, hM.lo ⟨fun c j hc => by
  have hc := Decidable.not_not.mp hc
  rw [(lo_C z.2 c hc.1 hc.2).1], fun c j hc => by
  have hc := Decidable.not_not.mp hc
  rw [(lo_C z.2 c hc.1 hc.2).2.1]⟩⟩)
theorem la_liftM (h : mm_call la_M d y as μ (fun v μ' => v = some V ∧ rM B μ')) (hC : rC A μ) : mm_call (la_F L xs) d y as μ (fun v μ' => v = some V ∧ rM B μ' ∧ rC A μ') := (h.lift (la_subM L xs)).imp (fun v μ' z => ⟨z.1.1, z.1.2, hC.lo (fun c hc => lo_M z.2 c (by omega))⟩)
theorem lw_neg : ∀ L, L < 6 → nI L - 6 < 0 := by decide +kernel
theorem lw_out {i : Nat} (h : L < i + 6) (hi : i < 2 ^ 31) : nI L - 6 < nI i := by
  by_cases z : L < 6
  · exact Int32.lt_of_lt_of_le (lw_neg L z) (nI_pos' hi)
  · rw [show (6 : Int32) = nI 6 from rfl, pk_sub (by omega)]
    exact nI_lt (by omega) hi
end
