/-! SETS OF PLACES as bits -/
theorem po_1 : ∀ x, x < 12 → (1 : Int32) <<< (nI x &&& 31) = nI (2 ^ x) := by decide +kernel
theorem po_or (u v : Nat) : nI u ||| nI v = nI (u ||| v) := by
  apply Int32.toBitVec_inj.mp
  rw [Int32.toBitVec_or]
  apply BitVec.eq_of_getLsbD_eq
  intro i hi
  rw [BitVec.getLsbD_or]
  show ((BitVec.ofNat 32 u).getLsbD i || (BitVec.ofNat 32 v).getLsbD i) = (BitVec.ofNat 32 (u ||| v)).getLsbD i
  rw [BitVec.getLsbD_ofNat, BitVec.getLsbD_ofNat, BitVec.getLsbD_ofNat, Nat.testBit_or]
  simp [hi]
theorem po_sh : ∀ x, x < 12 → ∀ a : Int32, (a >>> (nI x &&& 31)).toBitVec = a.toBitVec.sshiftRight x := by
  intro x hx a
  rcases (show x = 0 ∨ x = 1 ∨ x = 2 ∨ x = 3 ∨ x = 4 ∨ x = 5 ∨ x = 6 ∨ x = 7 ∨ x = 8 ∨ x = 9 ∨ x = 10 ∨ x = 11 by omega) with rfl | rfl | rfl | rfl | rfl | rfl | rfl | rfl | rfl | rfl | rfl | rfl <;> rfl
theorem i_one : (1 : Int32).toBitVec = 1#32 := rfl
theorem b1_32 (i : Nat) : (1#32).getLsbD i = decide (i = 0) := by
  rw [BitVec.getLsbD_one]
  by_cases h : i = 0 <;> simp [h]
theorem po_bit (u x : Nat) (hx : x < 12) : (nI u >>> (nI x &&& 31)) &&& 1 = nI (u.testBit x).toNat := by
  apply Int32.toBitVec_inj.mp
  rw [Int32.toBitVec_and, po_sh x hx, i_one]
  apply BitVec.eq_of_getLsbD_eq
  intro i hi
  rw [BitVec.getLsbD_and, b1_32]
  show _ = (BitVec.ofNat 32 (u.testBit x).toNat).getLsbD i
  rw [BitVec.getLsbD_ofNat]
  by_cases h0 : i = 0
  · subst h0
    have e : ((nI u).toBitVec.sshiftRight x).getLsbD 0 = u.testBit x := by
      rw [BitVec.getLsbD_sshiftRight]
      have e2 : (nI u).toBitVec.getLsbD (x + 0) = u.testBit x := by
        show (BitVec.ofNat 32 u).getLsbD (x + 0) = u.testBit x
        rw [BitVec.getLsbD_ofNat]
        simp [show x < 32 by omega]
      rw [e2]
      simp [show x < 32 by omega]
    rw [e]
    cases u.testBit x <;> simp
  · have : (u.testBit x).toNat.testBit i = false := by
      cases u.testBit x
      · simp
      · simp only [Bool.toNat_true]
        cases h : Nat.testBit 1 i with
        | false => rfl
        | true => exact absurd (Nat.testBit_one_eq_true_iff_self_eq_zero.mp h) h0
    simp [h0, this]
/-- how many places the set has -/
def po_c (u : Nat) : Nat → Nat
  | 0 => 0
  | k + 1 => po_c u k + (u.testBit k).toNat
theorem po_c_le (u : Nat) : ∀ k, po_c u k ≤ k := by
  intro k
  induction k with
  | zero => exact Nat.le_refl _
  | succ k ih =>
    show po_c u k + _ ≤ _
    have := Bool.toNat_le (u.testBit k)
    omega
theorem po_c_or {u x : Nat} (h : u.testBit x = false) : ∀ k, po_c (u ||| 2 ^ x) k = po_c u k + if x < k then 1 else 0 := by
  intro k
  induction k with
  | zero => rfl
  | succ k ih =>
    show po_c (u ||| 2 ^ x) k + ((u ||| 2 ^ x).testBit k).toNat = po_c u k + (u.testBit k).toNat + _
    rw [ih, Nat.testBit_or, Nat.testBit_two_pow]
    by_cases e : x = k
    · subst e
      rw [h]
      simp
    · by_cases e2 : x < k
      · simp [e, e2, show x < k + 1 by omega]; omega
      · simp [e, e2, show ¬ x < k + 1 by omega]
/-- there is a free place while not all are taken -/
theorem po_free (u : Nat) : ∀ k, po_c u k < k → ∃ x, x < k ∧ u.testBit x = false := by
  intro k
  induction k with
  | zero => intro h; exact absurd h (by simp)
  | succ k ih =>
    intro h
    cases hb : u.testBit k with
    | false => exact ⟨k, by omega, hb⟩
    | true =>
      have h' : po_c u k + (u.testBit k).toNat < k + 1 := h
      rw [hb] at h'
      obtain ⟨x, h1, h2⟩ := ih (by simpa using h')
      exact ⟨x, by omega, h2⟩
theorem po_lt {u x : Nat} (hu : u < 4096) (hx : x < 12) : u ||| 2 ^ x < 4096 := Nat.or_lt_two_pow (n := 12) hu (Nat.pow_lt_pow_right (by decide) hx)
theorem po_gt {u x : Nat} (h : u.testBit x = false) : u < u ||| 2 ^ x := by
  have h1 : u ≤ u ||| 2 ^ x := Nat.left_le_or
  have h2 : u ≠ u ||| 2 ^ x := by
    intro e
    have := congrArg (fun z => z.testBit x) e
    simp [h, Nat.testBit_or, Nat.testBit_two_pow] at this
  omega
/-- Integer.bitCount -/
def bc (x : Int32) : Int32 :=
  let ush := fun (a b : Int32) => (a.toUInt32 >>> (b.toUInt32 &&& Int32.toUInt32 31)).toInt32
  let a := x - (ush x 1 &&& 1431655765)
  let b := (a &&& 858993459) + (ush a 2 &&& 858993459)
  let c := (b + ush b 4) &&& 252645135
  let d := c + ush c 8
  let e := d + ush d 16
  e &&& 63
theorem bc_64 : ∀ a, a < 64 → ∀ b, b < 64 → bc (nI (64 * a + b)) = nI (po_c (64 * a + b) 12) := by decide +kernel
theorem bc_4096 (u : Nat) (h : u < 4096) : bc (nI u) = nI (po_c u 12) := by
  have := bc_64 (u / 64) (by omega) (u % 64) (by omega)
  rw [show 64 * (u / 64) + u % 64 = u by omega] at this
  exact this
section
variable {Λ : List mm_D} {d : Nat} {μ : mm_M}
set_option maxRecDepth 100000 in
theorem C5 (x : Int32) : mm_call Λ d 5 [.int x] μ (fun v μ' => v = some (.int (bc x)) ∧ μ' = μ) := by
  refine mm_call.of mm_t5 ?_
  refine mm_ev.run mm_y5 41 rfl ?_
  exact mm_ev.ret mm_y5 rfl rfl rfl ⟨rfl, rfl⟩
end
