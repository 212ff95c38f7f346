/-! WHOM TO PUT WHERE: what both compute -/
def po_fm (f : Nat → Nat) (P : Nat → Bool) : Nat → Nat
  | 0 => 0
  | k + 1 => if P k = true then max (po_fm f P k) (f k) else po_fm f P k
/-- the most that the children from c on can have, m of them, the places of u being taken -/
def po_mx (w : Nat → Nat → Nat) : Nat → Nat → Nat → Nat
  | 0, _, _ => 0
  | m + 1, c, u => po_fm (fun x => w c x + po_mx w m (c + 1) (u ||| 2 ^ x)) (fun x => !u.testBit x) 12
def po_ff (P : Nat → Bool) : Nat → Nat → Nat
  | 0, k => k
  | m + 1, k => if P k = true then k else po_ff P m (k + 1)
def po_ok (w : Nat → Nat → Nat) (n c u x : Nat) : Bool := !u.testBit x && (w c x + po_mx w (n - (c + 1)) (c + 1) (u ||| 2 ^ x) == po_mx w (n - c) c u)
def po_fb (w : Nat → Nat → Nat) (n c u : Nat) : Nat := po_ff (po_ok w n c u) 12 0
def po_gv (w : Nat → Nat → Nat) (n : Nat) : Nat → Nat
  | 0 => 0
  | c + 1 => po_gv w n c ||| 2 ^ po_fb w n c (po_gv w n c)
theorem po_fm_le {f : Nat → Nat} {P : Nat → Bool} {B : Nat} (h : ∀ x, f x ≤ B) : ∀ k, po_fm f P k ≤ B := by
  intro k
  induction k with
  | zero => exact Nat.zero_le _
  | succ k ih =>
    show (if P k = true then max (po_fm f P k) (f k) else po_fm f P k) ≤ B
    split
    · exact Nat.max_le.mpr ⟨ih, h k⟩
    · exact ih
theorem po_fm_co {f f2 : Nat → Nat} {P : Nat → Bool} : ∀ k, (∀ x, x < k → P x = true → f x = f2 x) → po_fm f P k = po_fm f2 P k := by
  intro k
  induction k with
  | zero => intro _; rfl
  | succ k ih =>
    intro h
    show (if P k = true then max (po_fm f P k) (f k) else po_fm f P k) = (if P k = true then max (po_fm f2 P k) (f2 k) else po_fm f2 P k)
    rw [ih (fun x hx => h x (by omega))]
    by_cases e : P k = true
    · rw [if_pos e, if_pos e, h k (by omega) e]
    · rw [if_neg e, if_neg e]
theorem po_fm_at {f : Nat → Nat} {P : Nat → Bool} : ∀ k, (∃ x, x < k ∧ P x = true) → ∃ x, x < k ∧ P x = true ∧ f x = po_fm f P k := by
  intro k
  induction k with
  | zero => intro ⟨x, h, _⟩; exact absurd h (by simp)
  | succ k ih =>
    intro ⟨x, hx, hP⟩
    show ∃ x, x < k + 1 ∧ P x = true ∧ f x = (if P k = true then max (po_fm f P k) (f k) else po_fm f P k)
    by_cases e : P k = true
    · rw [if_pos e]
      by_cases h2 : po_fm f P k ≤ f k
      · exact ⟨k, by omega, e, by rw [Nat.max_eq_right h2]⟩
      · by_cases h3 : ∃ x, x < k ∧ P x = true
        · obtain ⟨y, h4, h5, h6⟩ := ih h3
          exact ⟨y, by omega, h5, by rw [Nat.max_eq_left (by omega), h6]⟩
        · have : po_fm f P k = 0 := by
            clear ih e hx hP h2
            induction k with
            | zero => rfl
            | succ k ih2 =>
              show (if P k = true then max (po_fm f P k) (f k) else po_fm f P k) = 0
              rw [if_neg (fun z => h3 ⟨k, by omega, z⟩)]
              exact ih2 (fun ⟨y, hy, hz⟩ => h3 ⟨y, by omega, hz⟩)
          omega
    · rw [if_neg e]
      have hxk : x ≠ k := fun z => e (z ▸ hP)
      obtain ⟨y, h4, h5, h6⟩ := ih ⟨x, by omega, hP⟩
      exact ⟨y, by omega, h5, h6⟩
theorem po_mx_le {w : Nat → Nat → Nat} (h : ∀ c x, w c x ≤ 99) : ∀ m c u, po_mx w m c u ≤ 99 * m := by
  intro m
  induction m with
  | zero => intro c u; exact Nat.le_refl _
  | succ m ih =>
    intro c u
    show po_fm _ _ 12 ≤ _
    refine po_fm_le (fun x => ?_) 12
    have h1 := h c x
    have h2 := ih (c + 1) (u ||| 2 ^ x)
    show w c x + po_mx w m (c + 1) (u ||| 2 ^ x) ≤ 99 * (m + 1)
    omega
theorem po_ff_lt {P : Nat → Bool} : ∀ m k, (∃ x, k ≤ x ∧ x < k + m ∧ P x = true) → po_ff P m k < k + m ∧ P (po_ff P m k) = true := by
  intro m
  induction m with
  | zero => intro k ⟨x, h1, h2, _⟩; omega
  | succ m ih =>
    intro k ⟨x, h1, h2, h3⟩
    show (if P k = true then k else po_ff P m (k + 1)) < _ ∧ P (if P k = true then k else po_ff P m (k + 1)) = true
    by_cases e : P k = true
    · rw [if_pos e]
      exact ⟨by omega, e⟩
    · rw [if_neg e]
      have hxk : x ≠ k := fun z => e (z ▸ h3)
      obtain ⟨h4, h5⟩ := ih (k + 1) ⟨x, by omega, by omega, h3⟩
      exact ⟨by omega, h5⟩
theorem po_fb_lt {w : Nat → Nat → Nat} {n c u : Nat} (hc : c < n) (hn : n ≤ 6) (hu : po_c u 12 = c) : po_fb w n c u < 12 ∧ po_ok w n c u (po_fb w n c u) = true := by
  have h := po_ff_lt (P := po_ok w n c u) 12 0 ?_
  · simpa [po_fb] using h
  · obtain ⟨x0, hx0, hb0⟩ := po_free u 12 (by omega)
    obtain ⟨x, h1, h2, h3⟩ := po_fm_at (f := fun x => w c x + po_mx w (n - (c + 1)) (c + 1) (u ||| 2 ^ x)) (P := fun x => !u.testBit x) 12 ⟨x0, hx0, by simp [hb0]⟩
    refine ⟨x, by omega, by omega, ?_⟩
    unfold po_ok
    have e : n - c = (n - (c + 1)) + 1 := by omega
    rw [e]
    show (!u.testBit x && (_ == po_fm _ _ 12)) = true
    rw [← h3]
    simp at h2
    simp [h2]
theorem po_gv_ok {w : Nat → Nat → Nat} {n : Nat} (hn : n ≤ 6) : ∀ c, c ≤ n → po_gv w n c < 4096 ∧ po_c (po_gv w n c) 12 = c := by
  intro c
  induction c with
  | zero => intro _; exact ⟨show 0 < 4096 by decide, show po_c 0 12 = 0 by decide⟩
  | succ c ih =>
    intro h
    obtain ⟨h1, h2⟩ := ih (by omega)
    obtain ⟨h3, h4⟩ := po_fb_lt (w := w) (show c < n by omega) hn h2
    have hb : (po_gv w n c).testBit (po_fb w n c (po_gv w n c)) = false := by
      unfold po_ok at h4
      simp at h4
      exact h4.1
    refine ⟨po_lt h1 h3, ?_⟩
    show po_c (po_gv w n c ||| 2 ^ _) 12 = _
    rw [po_c_or hb, h2, if_pos h3]
theorem nI_max {a b : Nat} (ha : a < 2 ^ 31) (hb : b < 2 ^ 31) : sp_max (nI a) (nI b) = nI (max a b) := by
  unfold sp_max
  by_cases h : a < b
  · rw [if_pos (nI_lt h hb), Nat.max_eq_right (by omega)]
  · rw [if_neg (nI_nlt (by omega) ha), Nat.max_eq_left (by omega)]
theorem sp_clp_n (z : Int32) : ∃ m, m ≤ 99 ∧ sp_clp z = nI m := by
  unfold sp_clp sp_max sp_min
  by_cases h : z < 99
  · rw [if_pos h]
    by_cases h2 : 0 < z
    · rw [if_pos h2]
      obtain ⟨j, hj, e⟩ := nI_of2 (n := 99) (M := 99) (by decide) (fun h3 => Int32.lt_irrefl (Int32.lt_trans h3 h2)) (Int32.le_of_lt h)
      exact ⟨j, hj, e⟩
    · rw [if_neg h2]
      exact ⟨0, by omega, rfl⟩
  · rw [if_neg h]
    exact ⟨99, by omega, by rfl⟩
/-- how much each sees to where, alone -/
def po_w (σ : List sS) (g : sG) (c x : Nat) : Nat := (sp_clp (sp_care σ g c x (g.2.2.2 0 x) 0 0)).toNatClampNeg
theorem po_w_n (σ : List sS) (g : sG) (c x : Nat) : sp_clp (sp_care σ g c x (g.2.2.2 0 x) 0 0) = nI (po_w σ g c x) ∧ po_w σ g c x ≤ 99 := by
  unfold po_w
  obtain ⟨m, hm, e⟩ := sp_clp_n (sp_care σ g c x (g.2.2.2 0 x) 0 0)
  rw [e, nI_clamp (by omega)]
  exact ⟨rfl, hm⟩
