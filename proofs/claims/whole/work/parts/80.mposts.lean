/-! THE REFERENCE'S POSTS -/
def po_u (t : Nat → Nat) (c x : Nat) : Nat → Nat := fun i => if i = c then x else t i
/-- the first best row from a child on -/
def po_ex (w : Nat → Nat → Nat) (n : Nat) : Nat → Nat → Nat → (Nat → Nat) → Nat → Nat
  | 0, _, _, t => t
  | m + 1, c, u, t => po_ex w n m (c + 1) (u ||| 2 ^ po_fb w n c u) (po_u t c (po_fb w n c u))
section
variable {w : Nat → Nat → Nat} {n : Nat}
theorem po_fm_ge {f : Nat → Nat} {P : Nat → Bool} : ∀ k x, x < k → P x = true → f x ≤ po_fm f P k := by
  intro k
  induction k with
  | zero => intro x h; omega
  | succ k ih =>
    intro x hx hP
    show f x ≤ (if P k = true then max (po_fm f P k) (f k) else po_fm f P k)
    by_cases e : x = k
    · subst e
      rw [if_pos hP]
      exact Nat.le_max_right _ _
    · have := ih x (by omega) hP
      split
      · exact Nat.le_trans this (Nat.le_max_left _ _)
      · exact this
theorem po_ff_eq {P : Nat → Bool} {y : Nat} : ∀ m k, k ≤ y → y < k + m → P y = true → (∀ x, k ≤ x → x < y → ¬ P x = true) → po_ff P m k = y := by
  intro m
  induction m with
  | zero => intro k h1 h2; omega
  | succ m ih =>
    intro k h1 h2 h3 h4
    show (if P k = true then k else po_ff P m (k + 1)) = y
    by_cases e : k = y
    · subst e
      rw [if_pos h3]
    · rw [if_neg (h4 k (Nat.le_refl _) (by omega))]
      exact ih (k + 1) (by omega) (by omega) h3 (fun x a1 a2 => h4 x (by omega) a2)
theorem po_ex_lt : ∀ m c u t i, i < c → po_ex w n m c u t i = t i := by
  intro m
  induction m with
  | zero => intro c u t i _; rfl
  | succ m ih =>
    intro c u t i hi
    show po_ex w n m (c + 1) _ (po_u t c _) i = t i
    rw [ih (c + 1) _ _ i (by omega)]
    exact if_neg (by omega)
theorem po_ex_gv : ∀ m c t i, c + m = n → c ≤ i → i < n → po_ex w n m c (po_gv w n c) t i = po_fb w n i (po_gv w n i) := by
  intro m
  induction m with
  | zero => intro c t i h1 h2 h3; omega
  | succ m ih =>
    intro c t i h1 h2 h3
    show po_ex w n m (c + 1) (po_gv w n c ||| 2 ^ po_fb w n c (po_gv w n c)) (po_u t c (po_fb w n c (po_gv w n c))) i = _
    by_cases e : i = c
    · subst e
      rw [po_ex_lt _ _ _ _ _ (by omega)]
      exact if_pos rfl
    · exact ih (c + 1) _ i (by omega) (by omega) h3
theorem po_mx_s (m c u : Nat) : po_mx w (m + 1) c u = po_fm (fun x => w c x + po_mx w m (c + 1) (u ||| 2 ^ x)) (fun x => !u.testBit x) 12 := rfl
theorem le_m1 {s k : Nat} (hs : s < 2 ^ 31) (hk : k < 2 ^ 31) : nI k - 1 < nI s ↔ k ≤ s := by
  cases k with
  | zero =>
    constructor
    · intro _; omega
    · intro _
      exact Int32.lt_of_lt_of_le (show (nI 0 - 1 : Int32) < 0 by decide) (nI_pos' hs)
  | succ k =>
    rw [nI_pred, nI_ltI (by omega) hs]
    omega
end
def tS (n : Nat) (w : Nat → Nat → Nat) (c : Nat) (t : Nat → Nat) (k : Nat) (b : Nat → Nat) (μ : mm_M) : Prop := μ.1 110 1 = nI n ∧ (∀ c x, c < n → x < 12 → μ.1 136 (12 * c + x) = nI (w c x)) ∧ (∀ i, i < c → μ.1 137 i = nI (t i)) ∧ μ.1 110 43 = nI k - 1 ∧ ∀ i, i < n → 0 < k → μ.1 138 i = nI (b i)
abbrev pT (c j : Nat) : Prop := c = 137 ∨ c = 138 ∨ (c = 110 ∧ j = 43)
section
variable {d : Nat} {μ : mm_M} {w : Nat → Nat → Nat} {n : Nat}
set_option maxRecDepth 100000 in
theorem C168_c {Φ : Option Value → mm_M → Prop} {a b c : Int32} (K : ∀ μ1, (∀ i, i < 6 → μ1.1 138 i = μ.1 137 i) → mh (fun c _ => c = 138) μ μ1 → Φ none μ1) : ∀ m k F, k + m = 6 → (∀ i, i < k → F i = μ.1 137 i) → mm_ev la_M d 168 14 [some (.ref 110), some (.int a), some (.int b), some (.int c), some (.int (nI k))] [] (mm_sI μ 138 F) Φ := by
  intro m
  induction m with
  | zero =>
    intro k F hk hF
    have hk : k = 6 := by omega
    subst hk
    refine mm_ev.run mm_y168 3 rfl ?_
    refine mm_ev.pos (by decide) ?_
    exact mm_ev.ret mm_y168 rfl rfl rfl (K _ (fun i hi => by rw [sI_eq]; exact hF i hi) (mh.rf.sI (fun _ => rfl)))
  | succ m ih =>
    intro k F hk hF
    have ih := fun F => ih (k + 1) F (by omega)
    rw [nI_succ] at ih
    refine mm_ev.run mm_y168 3 rfl ?_
    refine mm_ev.neg (nI_ge (b := 6) (by omega) (by decide)) ?_
    refine mm_ev.run mm_y168 6 rfl ?_
    refine mm_ev.ild mm_y168 rfl rfl rfl rfl rfl (by omega) (by decide) (show _ = μ.1 137 k from rfl) ?_
    refine mm_ev.ist mm_y168 rfl rfl rfl rfl rfl (by omega) (by decide) ?_
    refine mm_ev.run mm_y168 2 rfl ?_
    refine mm_ev.eq mm_sI_sI (ih _ (fun i hi => ?_))
    by_cases e : i = k
    · subst e
      exact upd_eq
    · rw [upd_ne e]
      exact hF i (by omega)
/-- how far the places below x have been tried -/
def tJ (w : Nat → Nat → Nat) (n m c u s : Nat) (t : Nat → Nat) (k : Nat) (b : Nat → Nat) (x k1 : Nat) (b1 : Nat → Nat) : Prop :=
  (k1 = k ∧ b1 = b ∧ ∀ y, y < x → u.testBit y = false → s + (w c y + po_mx w m (c + 1) (u ||| 2 ^ y)) < k) ∨
  (∃ y0, y0 < x ∧ u.testBit y0 = false ∧ k ≤ s + (w c y0 + po_mx w m (c + 1) (u ||| 2 ^ y0)) ∧ k1 = s + (w c y0 + po_mx w m (c + 1) (u ||| 2 ^ y0)) + 1 ∧ b1 = po_ex w n m (c + 1) (u ||| 2 ^ y0) (po_u t c y0) ∧ (∀ y, y < x → u.testBit y = false → w c y + po_mx w m (c + 1) (u ||| 2 ^ y) ≤ w c y0 + po_mx w m (c + 1) (u ||| 2 ^ y0)) ∧ ∀ y, y < y0 → u.testBit y = false → w c y + po_mx w m (c + 1) (u ||| 2 ^ y) < w c y0 + po_mx w m (c + 1) (u ||| 2 ^ y0))
theorem tJ.skip {m c u s x k k1 : Nat} {t b b1 : Nat → Nat} (h : tJ w n m c u s t k b x k1 b1) (hx : u.testBit x = true) : tJ w n m c u s t k b (x + 1) k1 b1 := by
  have nx : ∀ y, y < x + 1 → u.testBit y = false → y < x := fun y hy hb => by
    by_cases e : y = x
    · subst e
      rw [hx] at hb
      cases hb
    · omega
  rcases h with ⟨h1, h2, h3⟩ | ⟨y0, h1, h2, h3, h4, h5, h6, h7⟩
  · exact Or.inl ⟨h1, h2, fun y hy hb => h3 y (nx y hy hb) hb⟩
  · exact Or.inr ⟨y0, by omega, h2, h3, h4, h5, fun y hy hb => h6 y (nx y hy hb) hb, h7⟩
theorem tJ.step {m c u s x k k1 : Nat} {t b b1 : Nat → Nat} (h : tJ w n m c u s t k b x k1 b1) (hx : u.testBit x = false) : tJ w n m c u s t k b (x + 1) (if k1 ≤ s + w c x + po_mx w m (c + 1) (u ||| 2 ^ x) then s + w c x + po_mx w m (c + 1) (u ||| 2 ^ x) + 1 else k1) (if k1 ≤ s + w c x + po_mx w m (c + 1) (u ||| 2 ^ x) then po_ex w n m (c + 1) (u ||| 2 ^ x) (po_u t c x) else b1) := by
  rcases h with ⟨h1, h2, h3⟩ | ⟨y0, h1, h2, h3, h4, h5, h6, h7⟩
  · subst h1
    by_cases e : k1 ≤ s + w c x + po_mx w m (c + 1) (u ||| 2 ^ x)
    · rw [if_pos e, if_pos e]
      refine Or.inr ⟨x, by omega, hx, by omega, by omega, rfl, fun y hy hb => ?_, fun y hy hb => ?_⟩
      · by_cases z : y = x
        · subst z; exact Nat.le_refl _
        · have := h3 y (by omega) hb
          omega
      · have := h3 y hy hb
        omega
    · rw [if_neg e, if_neg e]
      refine Or.inl ⟨rfl, h2, fun y hy hb => ?_⟩
      by_cases z : y = x
      · subst z; omega
      · exact h3 y (by omega) hb
  · by_cases e : k1 ≤ s + w c x + po_mx w m (c + 1) (u ||| 2 ^ x)
    · rw [if_pos e, if_pos e]
      refine Or.inr ⟨x, by omega, hx, by omega, by omega, rfl, fun y hy hb => ?_, fun y hy hb => ?_⟩
      · by_cases z : y = x
        · subst z; exact Nat.le_refl _
        · have := h6 y (by omega) hb
          omega
      · have := h6 y hy hb
        omega
    · rw [if_neg e, if_neg e]
      refine Or.inr ⟨y0, by omega, h2, h3, h4, h5, fun y hy hb => ?_, h7⟩
      by_cases z : y = x
      · subst z; omega
      · exact h6 y (by omega) hb
theorem tJ.fin {m c u s k k1 : Nat} {t b b1 : Nat → Nat} (hn : c + (m + 1) = n) (hn6 : n ≤ 6) (hu : po_c u 12 = c) (h : tJ w n m c u s t k b 12 k1 b1) : k1 = (if k ≤ s + po_mx w (m + 1) c u then s + po_mx w (m + 1) c u + 1 else k) ∧ b1 = (if k ≤ s + po_mx w (m + 1) c u then po_ex w n (m + 1) c u t else b) := by
  obtain ⟨x0, hx0, hb0⟩ := po_free u 12 (by omega)
  obtain ⟨y, y1, y2, y3⟩ := po_fm_at (f := fun x => w c x + po_mx w m (c + 1) (u ||| 2 ^ x)) (P := fun x => !u.testBit x) 12 ⟨x0, hx0, by simp [hb0]⟩
  have y2 : u.testBit y = false := by simpa using y2
  rw [← po_mx_s] at y3
  have y3 : w c y + po_mx w m (c + 1) (u ||| 2 ^ y) = po_mx w (m + 1) c u := y3
  rcases h with ⟨h1, h2, h3⟩ | ⟨y0, h1, h2, h3, h4, h5, h6, h7⟩
  · have := h3 y y1 y2
    rw [if_neg (by omega), if_neg (by omega)]
    exact ⟨h1, h2⟩
  · have a1 := h6 y y1 y2
    have a2 := po_fm_ge (f := fun x => w c x + po_mx w m (c + 1) (u ||| 2 ^ x)) (P := fun x => !u.testBit x) 12 y0 h1 (by simp [h2])
    rw [← po_mx_s] at a2
    have a2 : w c y0 + po_mx w m (c + 1) (u ||| 2 ^ y0) ≤ po_mx w (m + 1) c u := a2
    have ev : w c y0 + po_mx w m (c + 1) (u ||| 2 ^ y0) = po_mx w (m + 1) c u := by omega
    have e1 : n - (c + 1) = m := by omega
    have e2 : n - c = m + 1 := by omega
    have efb : po_fb w n c u = y0 := by
      refine po_ff_eq 12 0 (by omega) (by omega) ?_ (fun x _ hx hP => ?_)
      · unfold po_ok
        rw [e1, e2, h2, ev]
        simp
      · unfold po_ok at hP
        rw [e1, e2] at hP
        simp at hP
        have := h7 x hx hP.1
        omega
    rw [if_pos (by omega), if_pos (by omega)]
    refine ⟨by omega, ?_⟩
    show b1 = po_ex w n m (c + 1) (u ||| 2 ^ po_fb w n c u) (po_u t c (po_fb w n c u))
    rw [efb, h5]
set_option maxRecDepth 100000 in
theorem C168 (hn6 : n ≤ 6) (hw : ∀ c x, w c x ≤ 99) : ∀ m c u s t k b μ, c + m = n → u < 4096 → po_c u 12 = c → s ≤ 99 * c → k ≤ 1000 → tS n w c t k b μ → mm_call la_M (d + 1 + m) 168 [.ref 110, .int (nI c), .int (nI u), .int (nI s)] μ (fun v μ' => v = none ∧ tS n w c t (if k ≤ s + po_mx w m c u then s + po_mx w m c u + 1 else k) (if k ≤ s + po_mx w m c u then po_ex w n m c u t else b) μ' ∧ mh pT μ μ') := by
  intro m
  induction m with
  | zero =>
    intro c u s t k b μ hc hu hp hs hk h
    have hc : c = n := by omega
    subst hc
    obtain ⟨t1, t2, t3, t4, t5⟩ := h
    have em : po_mx w 0 c u = 0 := rfl
    rw [em, Nat.add_zero s]
    show mm_call la_M (d + 1) 168 _ _ _
    refine mm_call.of mm_t168 ?_
    refine mm_ev.run mm_y168 3 rfl ?_
    refine mm_ev.val t1 ?_
    refine mm_ev.run mm_y168 1 rfl ?_
    refine mm_ev.pos rfl ?_
    refine mm_ev.run mm_y168 3 rfl ?_
    refine mm_ev.val t4 ?_
    refine mm_ev.run mm_y168 1 rfl ?_
    refine mm_ev.ite (fun h1 => ?_) (fun h1 => ?_)
    · have hks := (le_m1 (s := s) (k := k) (by omega) (by omega)).mp h1
      rw [if_pos hks, if_pos hks]
      have hm0 : mh pT μ (mm_sI μ 110 (upd (μ.1 110) 43 (nI s))) := mh.rf.sU (Or.inr (Or.inr ⟨rfl, rfl⟩)) rfl
      have K := C168_c (d := d + 1) (μ := mm_sI μ 110 (upd (μ.1 110) 43 (nI s))) (a := nI c) (b := nI u) (c := nI s) (Φ := fun v μ' => v = none ∧ tS c w c t (s + 1) (po_ex w c 0 c u t) μ' ∧ mh pT μ μ') (fun μ1 e1 e2 => ⟨rfl, ⟨?_, ?_, ?_, ?_, ?_⟩, hm0.tr (e2.mono (fun c j hc => by omega))⟩) 6 0 (μ.1 138) (by omega) (fun i hi => absurd hi (by omega))
      · refine mm_ev.run mm_y168 5 rfl ?_
        exact mm_ev.eq (mm_sI_self (μ := mm_sI μ 110 (upd (μ.1 110) 43 (nI s))) (q := 138)).symm K
      · rw [e2.1 110 1 (by omega), hm0.1 110 1 (by omega)]
        exact t1
      · intro c' x hc' hx
        rw [e2.1 136 _ (by omega), hm0.1 136 _ (by omega)]
        exact t2 c' x hc' hx
      · intro i hi
        rw [e2.1 137 i (by omega)]
        exact t3 i hi
      · rw [e2.1 110 43 (by omega), nI_pred, sI_eq]
        exact upd_eq
      · intro i hi _
        rw [e1 i (by omega)]
        exact t3 i hi
    · have hks : ¬ k ≤ s := fun z => h1 ((le_m1 (by omega) (by omega)).mpr z)
      rw [if_neg hks, if_neg hks]
      exact mm_ev.ret mm_y168 rfl rfl rfl ⟨rfl, ⟨t1, t2, t3, t4, t5⟩, mh.rf⟩
  | succ m ih =>
    intro c u s t k b μ hc hu hp hs hk h
    have hmxb := po_mx_le hw
    have L : ∀ r x k1 b1 μ1, x + r = 12 → k1 ≤ 1000 → tJ w n m c u s t k b x k1 b1 → tS n w c t k1 b1 μ1 → mh pT μ μ1 → mm_ev la_M (d + 1 + m + 1) 168 30 [some (.ref 110), some (.int (nI c)), some (.int (nI u)), some (.int (nI s)), some (.int (nI x))] [] μ1 (fun v μ' => v = none ∧ tS n w c t (if k ≤ s + po_mx w (m + 1) c u then s + po_mx w (m + 1) c u + 1 else k) (if k ≤ s + po_mx w (m + 1) c u then po_ex w n (m + 1) c u t else b) μ' ∧ mh pT μ μ') := by
      intro r
      induction r with
      | zero =>
        intro x k1 b1 μ1 hx hk1 hJ hT hm
        have hx : x = 12 := by omega
        subst hx
        obtain ⟨f1, f2⟩ := hJ.fin hc hn6 hp
        rw [← f1, ← f2]
        refine mm_ev.run mm_y168 3 rfl ?_
        refine mm_ev.pos (by decide) ?_
        exact mm_ev.ret mm_y168 rfl rfl rfl ⟨rfl, hT, hm⟩
      | succ r ihr =>
        intro x k1 b1 μ1 hx hk1 hJ hT hm
        have ihr := fun k1 b1 μ1 => ihr (x + 1) k1 b1 μ1 (by omega)
        rw [nI_succ] at ihr
        have hbit := po_bit u x (show x < 12 by omega)
        cases hb : u.testBit x with
        | true =>
          rw [hb] at hbit
          refine mm_ev.run mm_y168 3 rfl ?_
          refine mm_ev.neg (nI_ge (b := 12) (by omega) (by decide)) ?_
          refine mm_ev.run mm_y168 7 rfl ?_
          refine mm_ev.pos (show (nI u >>> (nI x &&& 31)) &&& 1 = 1 from hbit) ?_
          refine mm_ev.run mm_y168 3 rfl ?_
          exact ihr _ _ _ hk1 (hJ.skip hb) hT hm
        | false =>
          rw [hb] at hbit
          have hbn : ¬ (nI u >>> (nI x &&& 31)) &&& 1 = 1 := by rw [hbit]; decide
          obtain ⟨t1, t2, t3, t4, t5⟩ := hT
          have hT2 : tS n w (c + 1) (po_u t c x) k1 b1 (mm_sI μ1 137 (upd (μ1.1 137) c (nI x))) := by
            refine ⟨t1, t2, fun i hi => ?_, t4, t5⟩
            rw [sI_eq]
            by_cases e : i = c
            · subst e
              rw [upd_eq]
              unfold po_u
              rw [if_pos rfl]
            · rw [upd_ne e, t3 i (by omega)]
              unfold po_u
              rw [if_neg e]
          have hpc : po_c (u ||| 2 ^ x) 12 = c + 1 := by rw [po_c_or hb 12, if_pos (by omega), hp]
          have hwx := hw c x
          have IH := ih (c + 1) (u ||| 2 ^ x) (s + w c x) (po_u t c x) k1 b1 _ (by omega) (po_lt hu (by omega)) hpc (by omega) hk1 hT2
          have hb1 := hmxb m (c + 1) (u ||| 2 ^ x)
          have wv := t2 c x (by omega) (by omega)
          refine mm_ev.run mm_y168 3 rfl ?_
          refine mm_ev.neg (nI_ge (b := 12) (by omega) (by decide)) ?_
          refine mm_ev.run mm_y168 7 rfl ?_
          refine mm_ev.neg hbn ?_
          refine mm_ev.run mm_y168 4 rfl ?_
          refine mm_ev.ist mm_y168 rfl rfl rfl rfl rfl (by omega) (by decide) ?_
          refine mm_ev.run mm_y168 4 rfl ?_
          refine mm_ev.val (nI_1 c) ?_
          refine mm_ev.run mm_y168 5 rfl ?_
          refine mm_ev.val (show nI u ||| ((1 : Int32) <<< (nI x &&& 31)) = nI (u ||| 2 ^ x) from by rw [po_1 x (by omega), po_or]) ?_
          refine mm_ev.run mm_y168 8 rfl ?_
          refine mm_ev.ild mm_y168 rfl rfl rfl rfl (show (12 : Int32) * nI c + nI x = nI (12 * c + x) from by rw [show (12 : Int32) = nI 12 from rfl, nI_mul, nI_add]) (by omega) (by decide) wv ?_
          refine mm_ev.run mm_y168 1 rfl ?_
          refine mm_ev.val (nI_add s (w c x)) ?_
          refine mm_ev.call mm_y168 rfl rfl rfl rfl rfl IH (fun v1 μ1 hq => ?_)
          obtain ⟨rfl, e1, e2⟩ := hq
          obtain ⟨s1, s2, s3, s4, s5⟩ := e1
          refine mm_ev.run mm_y168 2 rfl ?_
          refine ihr _ _ _ ?_ (hJ.step hb) ⟨s1, s2, fun i hi => ?_, s4, s5⟩ ((hm.sI (fun _ => Or.inl rfl)).tr e2)
          · split
            · omega
            · exact hk1
          · rw [s3 i (by omega)]
            unfold po_u
            rw [if_neg (by omega)]
    show mm_call la_M (d + 1 + m + 1) 168 _ _ _
    refine mm_call.of mm_t168 ?_
    refine mm_ev.run mm_y168 3 rfl ?_
    refine mm_ev.val h.1 ?_
    refine mm_ev.run mm_y168 1 rfl ?_
    refine mm_ev.neg (fun z => absurd ((nI_eq (by omega) (by omega)).mp z) (by omega)) ?_
    refine mm_ev.run mm_y168 2 rfl ?_
    exact L 12 0 k b μ (by omega) hk (Or.inl ⟨rfl, rfl, fun y hy => absurd hy (by omega)⟩) h mh.rf
end
