/-! HOW A SCHOOL IS READ: what both do -/
abbrev pZ : Type := Bool × Nat × List Nat
section
variable (n : Nat) (tx : Nat → Int32)
def pN (a : Nat) : Int32 := if a < n then tx a else -1
abbrev pD (a : Nat) : Prop := a < n ∧ 48 ≤ tx a ∧ tx a ≤ 57
def p_g (a : Nat) : Nat := (tx a).toNatClampNeg - 48
/-- one digit, or two -/
def pM (a : Nat) : Bool × Nat × Nat := if pD n tx a then (if pD n tx (a + 1) then (true, a + 2, 10 * p_g tx a + p_g tx (a + 1)) else (true, a + 1, p_g tx a)) else (false, a, 0)
def pLt (x : Int32) : Nat := if x = 112 then 0 else if x = 107 then 1 else if x = 118 then 2 else if x = 120 then 3 else if x = 110 then 4 else if x = 104 then 5 else 6
def pWy (x : Int32) : Nat := if x = 60 then 0 else if x = 61 then 1 else if x = 62 then 2 else 3
def pTs (a : Nat) : pZ := if pLt (pN n tx a) < 6 then (if pWy (pN n tx (a + 1)) < 3 then (if (pM n tx (a + 2)).1 = true then (true, (pM n tx (a + 2)).2.1, [3 + 300 * pLt (pN n tx a) + 100 * pWy (pN n tx (a + 1)) + (pM n tx (a + 2)).2.2]) else (false, (pM n tx (a + 2)).2.1, [])) else (false, a + 1, [])) else (false, a, [])
def pLp (f : Nat → pZ) (s : Int32) (op : Nat) : Nat → Nat → pZ
  | 0, a => (true, a, [])
  | m + 1, a => if pN n tx a = s then (if (f (a + 1)).1 = true then ((pLp f s op m (f (a + 1)).2.1).1, (pLp f s op m (f (a + 1)).2.1).2.1, (f (a + 1)).2.2 ++ (op :: (pLp f s op m (f (a + 1)).2.1).2.2)) else (false, (f (a + 1)).2.1, (f (a + 1)).2.2)) else (true, a, [])
def pJ (f : Nat → pZ) (s : Int32) (op : Nat) (a : Nat) : pZ := if (f a).1 = true then ((pLp n tx f s op 100 (f a).2.1).1, (pLp n tx f s op 100 (f a).2.1).2.1, (f a).2.2 ++ (pLp n tx f s op 100 (f a).2.1).2.2) else (false, (f a).2.1, (f a).2.2)
def pE (f : Nat → pZ) (a : Nat) : pZ := pJ n tx (pJ n tx f 38 1) 124 2 a
def pF : Nat → Nat → pZ
  | 0, a => pTs n tx a
  | r + 1, a => if pN n tx a = 33 then (if (pF r (a + 1)).1 = true then (true, (pF r (a + 1)).2.1, (pF r (a + 1)).2.2 ++ [0]) else (false, (pF r (a + 1)).2.1, (pF r (a + 1)).2.2)) else if pN n tx a = 40 then (if (pE n tx (pF r) (a + 1)).1 = true then (if pN n tx (pE n tx (pF r) (a + 1)).2.1 = 41 then (true, (pE n tx (pF r) (a + 1)).2.1 + 1, (pE n tx (pF r) (a + 1)).2.2) else (false, (pE n tx (pF r) (a + 1)).2.1, (pE n tx (pF r) (a + 1)).2.2)) else (false, (pE n tx (pF r) (a + 1)).2.1, (pE n tx (pF r) (a + 1)).2.2)) else pTs n tx a
def pW : List Int32 → Nat → Bool × Nat
  | [], a => (true, a)
  | s :: l, a => if pN n tx a = s then pW l (a + 1) else (false, a)
def pwd (w : Nat) : List Int32 := if w = 0 then [109, 111, 114, 101, 32] else if w = 1 then [108, 101, 115, 115, 32] else [103, 114, 111, 119, 32]
/-- which word, by its first sign -/
def pw (a : Nat) : Nat := if pN n tx a = 103 then 2 else if pN n tx a = 109 then 0 else 1
/-- a clause -/
def pC (a : Nat) : Bool × Nat × (Nat × Int32 × List Nat) :=
  if (pW n tx (pwd (pw n tx a)) a).1 = true then
    (if (pM n tx (pW n tx (pwd (pw n tx a)) a).2).1 = true then
      (if pw n tx a = 2 then (true, (pM n tx (pW n tx (pwd (pw n tx a)) a).2).2.1, (2, nI (pM n tx (pW n tx (pwd (pw n tx a)) a).2).2.2, []))
       else if pN n tx (pM n tx (pW n tx (pwd (pw n tx a)) a).2).2.1 = 32 then
        ((pE n tx (pF n tx 4) ((pM n tx (pW n tx (pwd (pw n tx a)) a).2).2.1 + 1)).1, (pE n tx (pF n tx 4) ((pM n tx (pW n tx (pwd (pw n tx a)) a).2).2.1 + 1)).2.1, (pw n tx a, nI (pM n tx (pW n tx (pwd (pw n tx a)) a).2).2.2, (pE n tx (pF n tx 4) ((pM n tx (pW n tx (pwd (pw n tx a)) a).2).2.1 + 1)).2.2))
       else (false, (pM n tx (pW n tx (pwd (pw n tx a)) a).2).2.1, (3, 0, [])))
     else (false, (pM n tx (pW n tx (pwd (pw n tx a)) a).2).2.1, (3, 0, [])))
  else (false, (pW n tx (pwd (pw n tx a)) a).2, (3, 0, []))
def pS : Nat → Nat → Bool × Nat × sS
  | 0, a => (true, a, [])
  | m + 1, a => if a < n then (if pN n tx a = 59 then (if (pC n tx (a + 1)).1 = true then ((pS m (pC n tx (a + 1)).2.1).1, (pS m (pC n tx (a + 1)).2.1).2.1, (pC n tx (a + 1)).2.2 :: (pS m (pC n tx (a + 1)).2.1).2.2) else (false, (pC n tx (a + 1)).2.1, [])) else (false, a, [])) else (true, a, [])
def pA : Bool × Nat × sS := if (pC n tx 0).1 = true then ((pS n tx 9 (pC n tx 0).2.1).1, (pS n tx 9 (pC n tx 0).2.1).2.1, (pC n tx 0).2.2 :: (pS n tx 9 (pC n tx 0).2.1).2.2) else (false, (pC n tx 0).2.1, [])
end
section
variable {n : Nat} {tx : Nat → Int32} {a : Nat}
theorem pN_lt {s : Int32} (h : pN n tx a = s) (hs : s ≠ -1) : a < n := by
  unfold pN at h
  by_cases z : a < n
  · exact z
  · rw [if_neg z] at h
    exact absurd h.symm hs
theorem pWy_lt (h : pWy (pN n tx a) < 3) : a < n := by
  by_cases z : a < n
  · exact z
  · rw [show pN n tx a = -1 from if_neg z] at h
    exact absurd h (by decide)
theorem pLt_lt (h : pLt (pN n tx a) < 6) : a < n := by
  by_cases z : a < n
  · exact z
  · rw [show pN n tx a = -1 from if_neg z] at h
    exact absurd h (by decide)
theorem p_g_lt (h : pD n tx a) : p_g tx a < 10 := by
  obtain ⟨j, hj, e⟩ := nI_of2 (n := 57) (M := 57) (by decide) (fun z => Int32.lt_irrefl (Int32.lt_of_lt_of_le z (Int32.le_trans (by decide) h.2.1))) h.2.2
  unfold p_g
  rw [e, nI_clamp (by omega)]
  omega
theorem pM_le (ha : a ≤ n) : a ≤ (pM n tx a).2.1 ∧ (pM n tx a).2.1 ≤ n ∧ (pM n tx a).2.2 < 100 ∧ ((pM n tx a).1 = true → a < (pM n tx a).2.1) := by
  unfold pM
  by_cases h : pD n tx a
  · rw [if_pos h]
    have := p_g_lt h
    have := h.1
    by_cases h2 : pD n tx (a + 1)
    · rw [if_pos h2]
      have := p_g_lt h2
      have := h2.1
      exact ⟨by dsimp only; omega, by dsimp only; omega, by dsimp only; omega, fun _ => by dsimp only; omega⟩
    · rw [if_neg h2]
      exact ⟨by dsimp only; omega, by dsimp only; omega, by dsimp only; omega, fun _ => by dsimp only; omega⟩
  · rw [if_neg h]
    exact ⟨Nat.le_refl _, ha, (show 0 < 100 by decide), fun z => by cases z⟩
theorem pW_le : ∀ (l : List Int32) (a : Nat), a ≤ n → (∀ s ∈ l, s ≠ -1) → a ≤ (pW n tx l a).2 ∧ (pW n tx l a).2 ≤ n := by
  intro l
  induction l with
  | nil => intro a ha _; exact ⟨Nat.le_refl _, ha⟩
  | cons s l ih =>
    intro a ha hs
    show a ≤ (if pN n tx a = s then pW n tx l (a + 1) else (false, a)).2 ∧ (if pN n tx a = s then pW n tx l (a + 1) else (false, a)).2 ≤ n
    by_cases h : pN n tx a = s
    · rw [if_pos h]
      have := pN_lt h (hs s (by simp))
      have := ih (a + 1) (by omega) (fun s h => hs s (by simp [h]))
      omega
    · rw [if_neg h]
      exact ⟨Nat.le_refl _, ha⟩
theorem pwd_ok (w : Nat) : ∀ s ∈ pwd w, s ≠ -1 := by
  unfold pwd
  split
  · decide
  · split
    · decide
    · decide
/-- where a reading ends, how many steps it tells, which fit -/
def pG (n : Nat) (h : Nat) (f : Nat → pZ) : Prop := ∀ a, a ≤ n → a ≤ (f a).2.1 ∧ (f a).2.1 ≤ n ∧ (f a).2.2.length + a ≤ (f a).2.1 ∧ ((f a).1 = true → ∀ dd r, dd + h ≤ 50 → sp_dep ((f a).2.2 ++ r) dd = sp_dep r (dd + 1))
theorem pTs_G : pG n 1 (pTs n tx) := by
  intro a ha
  unfold pTs
  by_cases h1 : pLt (pN n tx a) < 6
  · have := pLt_lt h1
    rw [if_pos h1]
    by_cases h2 : pWy (pN n tx (a + 1)) < 3
    · have := pWy_lt h2
      rw [if_pos h2]
      obtain ⟨m1, m2, m3, m4⟩ := pM_le (n := n) (tx := tx) (a := a + 2) (by omega)
      by_cases h3 : (pM n tx (a + 2)).1 = true
      · rw [if_pos h3]
        refine ⟨by dsimp only; omega, m2, by simp only [List.length_singleton]; omega, fun _ dd r hd => ?_⟩
        show (if 3 ≤ _ then (if _ ∧ _ then _ else _) else _) = _
        rw [if_pos (by omega), if_pos ⟨by omega, by omega⟩]
        rfl
      · rw [if_neg h3]
        exact ⟨by dsimp only; omega, m2, by simp only [List.length_nil]; omega, fun z => by cases z⟩
    · rw [if_neg h2]
      exact ⟨by dsimp only; omega, by dsimp only; omega, by simp only [List.length_nil]; omega, fun z => by cases z⟩
  · rw [if_neg h1]
    exact ⟨Nat.le_refl _, ha, by simp only [List.length_nil]; omega, fun z => by cases z⟩
theorem sp_dep_op {op dd : Nat} {r : List Nat} (h : op = 1 ∨ op = 2) : sp_dep (op :: r) (dd + 2) = sp_dep r (dd + 1) := by
  rcases h with rfl | rfl <;> rfl
theorem pLp_G {f : Nat → pZ} {h : Nat} (hf : pG n h f) {s : Int32} (hs : s ≠ -1) {op : Nat} (ho : op = 1 ∨ op = 2) : ∀ m a, a ≤ n → a ≤ (pLp n tx f s op m a).2.1 ∧ (pLp n tx f s op m a).2.1 ≤ n ∧ (pLp n tx f s op m a).2.2.length + a ≤ (pLp n tx f s op m a).2.1 ∧ ((pLp n tx f s op m a).1 = true → ∀ dd r, dd + h + 1 ≤ 50 → sp_dep ((pLp n tx f s op m a).2.2 ++ r) (dd + 1) = sp_dep r (dd + 1)) := by
  intro m
  induction m with
  | zero => intro a ha; exact ⟨Nat.le_refl _, ha, by show 0 + a ≤ a; omega, fun _ dd r _ => rfl⟩
  | succ m ih =>
    intro a ha
    unfold pLp
    by_cases h1 : pN n tx a = s
    · have := pN_lt h1 hs
      rw [if_pos h1]
      obtain ⟨g1, g2, g3, g4⟩ := hf (a + 1) (by omega)
      by_cases h2 : (f (a + 1)).1 = true
      · rw [if_pos h2]
        obtain ⟨k1, k2, k3, k4⟩ := ih (f (a + 1)).2.1 g2
        refine ⟨by dsimp only; omega, k2, by simp only [List.length_append, List.length_cons]; omega, fun z dd r hd => ?_⟩
        dsimp only
        rw [List.append_assoc, g4 h2 (dd + 1) _ (by omega), List.cons_append, sp_dep_op ho]
        exact k4 z dd r hd
      · rw [if_neg h2]
        exact ⟨by dsimp only; omega, g2, by dsimp only; omega, fun z => by cases z⟩
    · rw [if_neg h1]
      exact ⟨Nat.le_refl _, ha, by show 0 + a ≤ a; omega, fun _ dd r _ => rfl⟩
theorem pJ_G {f : Nat → pZ} {h : Nat} (hf : pG n h f) {s : Int32} (hs : s ≠ -1) {op : Nat} (ho : op = 1 ∨ op = 2) : pG n (h + 1) (pJ n tx f s op) := by
  intro a ha
  unfold pJ
  obtain ⟨g1, g2, g3, g4⟩ := hf a ha
  by_cases h2 : (f a).1 = true
  · rw [if_pos h2]
    obtain ⟨k1, k2, k3, k4⟩ := pLp_G (tx := tx) hf hs ho 100 (f a).2.1 g2
    refine ⟨by dsimp only; omega, k2, by simp only [List.length_append]; omega, fun z dd r hd => ?_⟩
    dsimp only
    rw [List.append_assoc, g4 h2 dd _ (by omega)]
    exact k4 z dd r (by omega)
  · rw [if_neg h2]
    exact ⟨g1, g2, g3, fun z => by cases z⟩
theorem pE_G {f : Nat → pZ} {h : Nat} (hf : pG n h f) : pG n (h + 2) (pE n tx f) := pJ_G (pJ_G hf (by decide) (Or.inl rfl)) (by decide) (Or.inr rfl)
theorem sp_dep_0 {dd : Nat} {r : List Nat} : sp_dep (0 :: r) (dd + 1) = sp_dep r (dd + 1) := rfl
theorem pF_G : ∀ r, pG n (1 + 2 * r) (pF n tx r) := by
  intro r
  induction r with
  | zero => exact pTs_G
  | succ r ih =>
    intro a ha
    unfold pF
    by_cases h1 : pN n tx a = 33
    · have := pN_lt h1 (by decide)
      rw [if_pos h1]
      obtain ⟨g1, g2, g3, g4⟩ := ih (a + 1) (by omega)
      by_cases h2 : (pF n tx r (a + 1)).1 = true
      · rw [if_pos h2]
        refine ⟨by dsimp only; omega, g2, by simp only [List.length_append, List.length_singleton]; omega, fun z dd rr hd => ?_⟩
        dsimp only
        rw [List.append_assoc, g4 h2 dd _ (by omega)]
        exact sp_dep_0
      · rw [if_neg h2]
        exact ⟨by dsimp only; omega, g2, by dsimp only; omega, fun z => by cases z⟩
    · rw [if_neg h1]
      by_cases h2 : pN n tx a = 40
      · have := pN_lt h2 (by decide)
        rw [if_pos h2]
        obtain ⟨g1, g2, g3, g4⟩ := pE_G (tx := tx) ih (a + 1) (by omega)
        by_cases h3 : (pE n tx (pF n tx r) (a + 1)).1 = true
        · rw [if_pos h3]
          by_cases h4 : pN n tx (pE n tx (pF n tx r) (a + 1)).2.1 = 41
          · have := pN_lt h4 (by decide)
            rw [if_pos h4]
            exact ⟨by dsimp only; omega, by dsimp only; omega, by dsimp only; omega, fun z dd rr hd => g4 h3 dd rr (by omega)⟩
          · rw [if_neg h4]
            exact ⟨by dsimp only; omega, g2, by dsimp only; omega, fun z => by cases z⟩
        · rw [if_neg h3]
          exact ⟨by dsimp only; omega, g2, by dsimp only; omega, fun z => by cases z⟩
      · rw [if_neg h2]
        obtain ⟨g1, g2, g3, g4⟩ := pTs_G (tx := tx) a ha
        exact ⟨g1, g2, g3, fun z dd rr hd => g4 z dd rr (by omega)⟩
/-- a clause: where it ends; it fits -/
theorem pC_G (ha : a ≤ n) : a ≤ (pC n tx a).2.1 ∧ (pC n tx a).2.1 ≤ n ∧ (pC n tx a).2.2.2.2.length + a ≤ (pC n tx a).2.1 ∧ ((pC n tx a).1 = true → a < (pC n tx a).2.1 ∧ (pC n tx a).2.2.1 ≤ 2 ∧ ((pC n tx a).2.2.1 < 2 → sp_dep (pC n tx a).2.2.2.2 0 = some 1)) := by
  unfold pC
  obtain ⟨w1, w2⟩ := pW_le (n := n) (tx := tx) (pwd (pw n tx a)) a ha (pwd_ok _)
  have hw2 : pw n tx a ≤ 2 := by
    unfold pw
    split
    · omega
    · split <;> omega
  by_cases h1 : (pW n tx (pwd (pw n tx a)) a).1 = true
  · rw [if_pos h1]
    obtain ⟨m1, m2, m3, m4⟩ := pM_le (tx := tx) w2
    by_cases h2 : (pM n tx (pW n tx (pwd (pw n tx a)) a).2).1 = true
    · have m4 := m4 h2
      rw [if_pos h2]
      by_cases h3 : pw n tx a = 2
      · rw [if_pos h3]
        exact ⟨by dsimp only; omega, m2, by simp only [List.length_nil]; omega, fun _ => ⟨by dsimp only; omega, Nat.le_refl 2, fun z => absurd (show 2 < 2 from z) (by omega)⟩⟩
      · rw [if_neg h3]
        by_cases h4 : pN n tx (pM n tx (pW n tx (pwd (pw n tx a)) a).2).2.1 = 32
        · have := pN_lt h4 (by decide)
          rw [if_pos h4]
          obtain ⟨g1, g2, g3, g4⟩ := pE_G (n := n) (tx := tx) (pF_G (n := n) (tx := tx) 4) ((pM n tx (pW n tx (pwd (pw n tx a)) a).2).2.1 + 1) (by omega)
          refine ⟨by dsimp only; omega, g2, by dsimp only; omega, fun z => ⟨by dsimp only; omega, hw2, fun _ => ?_⟩⟩
          have := g4 z 0 [] (by omega)
          rw [List.append_nil] at this
          exact this
        · rw [if_neg h4]
          exact ⟨by dsimp only; omega, m2, by simp only [List.length_nil]; omega, fun z => by cases z⟩
    · rw [if_neg h2]
      exact ⟨by dsimp only; omega, m2, by simp only [List.length_nil]; omega, fun z => by cases z⟩
  · rw [if_neg h1]
    exact ⟨w1, w2, by simp only [List.length_nil]; omega, fun z => by cases z⟩
theorem pS_G : ∀ m a, a ≤ n → (pS n tx m a).2.1 ≤ n ∧ (pS n tx m a).2.2.length ≤ m ∧ ∀ x ∈ (pS n tx m a).2.2, x.1 ≤ 2 ∧ (x.1 < 2 → sp_dep x.2.2 0 = some 1) := by
  intro m
  induction m with
  | zero => intro a ha; exact ⟨ha, Nat.le_refl _, fun x hx => absurd hx (by unfold pS; simp)⟩
  | succ m ih =>
    intro a ha
    unfold pS
    by_cases h1 : a < n
    · rw [if_pos h1]
      by_cases h2 : pN n tx a = 59
      · rw [if_pos h2]
        obtain ⟨c1, c2, c3, c4⟩ := pC_G (tx := tx) (show a + 1 ≤ n by omega)
        by_cases h3 : (pC n tx (a + 1)).1 = true
        · rw [if_pos h3]
          obtain ⟨k1, k2, k3⟩ := ih _ c2
          refine ⟨k1, by simp only [List.length_cons]; omega, fun x hx => ?_⟩
          rcases List.mem_cons.mp hx with rfl | hx
          · exact (c4 h3).2
          · exact k3 x hx
        · rw [if_neg h3]
          exact ⟨c2, Nat.zero_le _, fun x hx => absurd hx (by simp)⟩
      · rw [if_neg h2]
        exact ⟨ha, Nat.zero_le _, fun x hx => absurd hx (by simp)⟩
    · rw [if_neg h1]
      exact ⟨ha, Nat.zero_le _, fun x hx => absurd hx (by simp)⟩
theorem pA_G : (pA n tx).2.1 ≤ n ∧ okC (pA n tx).2.2 := by
  unfold pA okC
  obtain ⟨c1, c2, c3, c4⟩ := pC_G (n := n) (tx := tx) (a := 0) (Nat.zero_le _)
  by_cases h3 : (pC n tx 0).1 = true
  · rw [if_pos h3]
    obtain ⟨k1, k2, k3⟩ := pS_G (tx := tx) 9 _ c2
    refine ⟨k1, by simp only [List.length_cons]; omega, fun x hx => ?_⟩
    rcases List.mem_cons.mp hx with rfl | hx
    · exact (c4 h3).2
    · exact k3 x hx
  · rw [if_neg h3]
    exact ⟨c2, Nat.zero_le _, fun x hx => absurd hx (by simp)⟩
end
def q_school (A : sA) : Int32 × sA := if A.2.2.1.length = 6 then (-4, A) else if (pA A.2.2.2.1.1 A.2.2.2.1.2).1 = true ∧ (pA A.2.2.2.1.1 A.2.2.2.1.2).2.1 = A.2.2.2.1.1 then (nI A.2.2.1.length, (((A.1.1.1, A.1.1.2.1, some A.2.2.1.length, A.1.1.2.2.2), A.1.2), A.2.1, A.2.2.1 ++ [(pA A.2.2.2.1.1 A.2.2.2.1.2).2.2], (0, A.2.2.2.1.2), A.2.2.2.2)) else (-10 - nI (pA A.2.2.2.1.1 A.2.2.2.1.2).2.1, sA_x A 0 A.2.2.2.1.2)
