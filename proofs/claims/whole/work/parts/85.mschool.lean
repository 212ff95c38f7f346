/-! THE REFERENCE'S READER: clauses, schools -/
section
variable {d n c0 a o : Nat} {tx : Nat → Int32} {cs : List Nat} {μ : mm_M}
set_option maxRecDepth 100000 in
theorem C156_l (ht : okT n tx) {w : Nat} (hw : w = 0 ∨ w = 1 ∨ w = 2) : ∀ m i a μ1, i + m = 5 → a ≤ n → rPm n tx c0 a o cs μ1 → mh (rdm c0) μ μ1 → mm_ev la_M (d + 4) 156 2 [some (.ref 110), some (.ref (3 + w)), some (.int (nI i))] [] μ1 (fun v μ' => v = some (.int (bI ((pW n tx ((pwd w).drop i) a).1 = true))) ∧ rPm n tx c0 (pW n tx ((pwd w).drop i) a).2 o cs μ' ∧ mh (rdm c0) μ μ') := by
  intro m
  have S6 := fun μ => S6M (d := d + 2) (μ := μ) (w := 3 + w) (l := 5) (by omega)
  have S8 := fun i μ => S8M (d := d) (μ := μ) (w := w) (i := i) hw
  induction m with
  | zero =>
    intro i a μ1 hi ha h hf
    have hi : i = 5 := by omega
    subst hi
    rw [pwd_5, show pW n tx [] a = (true, a) from rfl, bI_1 (p := (true, a).1 = true) rfl]
    rcases hw with rfl | rfl | rfl
    all_goals
      refine mm_ev.run mm_y156 2 rfl ?_
      refine mm_ev.call mm_y156 rfl rfl rfl rfl rfl (S6 _) (fun v1 μ1 hq => ?_)
      obtain ⟨rfl, hμ⟩ := hq
      obtain rfl := hμ.symm
      refine mm_ev.run mm_y156 1 rfl ?_
      refine mm_ev.pos (by decide) ?_
      refine mm_ev.run mm_y156 1 rfl ?_
      exact mm_ev.ret mm_y156 rfl rfl rfl ⟨rfl, h, hf⟩
  | succ m ih =>
    intro i a μ1 hi ha h hf
    have ih := fun a μ1 => ih (i + 1) a μ1 (by omega)
    rw [nI_succ] at ih
    have hs := pwd_s (w := w) (i := i) (by omega)
    rw [pwd_drop (by omega), show pW n tx ((pwd w).getD i 0 :: (pwd w).drop (i + 1)) a = if pN n tx a = (pwd w).getD i 0 then pW n tx ((pwd w).drop (i + 1)) (a + 1) else (false, a) from rfl]
    have K := C157 (d := d + 3) h ht ha (s := (pwd w).getD i 0) hs
    by_cases e : pN n tx a = (pwd w).getD i 0
    · have hlt := pN_lt e hs
      rw [if_pos e, bI_1 (p := pN n tx a = (pwd w).getD i 0) e] at K
      rw [if_pos e]
      rcases hw with rfl | rfl | rfl
      all_goals
        refine mm_ev.run mm_y156 2 rfl ?_
        refine mm_ev.call mm_y156 rfl rfl rfl rfl rfl (S6 _) (fun v1 μ1 hq => ?_)
        obtain ⟨rfl, hμ⟩ := hq
        obtain rfl := hμ.symm
        refine mm_ev.run mm_y156 1 rfl ?_
        refine mm_ev.neg (nI_ge (b := 5) (by omega) (by decide)) ?_
        refine mm_ev.run mm_y156 3 rfl ?_
        refine mm_ev.call mm_y156 rfl rfl rfl rfl rfl (S8 i _ (by omega)) (fun v1 μ1 hq => ?_)
        obtain ⟨rfl, hμ⟩ := hq
        obtain rfl := hμ.symm
        refine mm_ev.call mm_y156 rfl rfl rfl rfl rfl K (fun v1 μ1 hq => ?_)
        obtain ⟨rfl, e1, e2⟩ := hq
        refine mm_ev.run mm_y156 1 rfl ?_
        refine mm_ev.neg (by decide) ?_
        refine mm_ev.run mm_y156 2 rfl ?_
        exact ih _ _ (by omega) e1 (hf.tr e2)
    · rw [if_neg e, bI_0 (p := pN n tx a = (pwd w).getD i 0) e] at K
      rw [if_neg e, bI_0 (p := (false, a).1 = true) (by simp)]
      rcases hw with rfl | rfl | rfl
      all_goals
        refine mm_ev.run mm_y156 2 rfl ?_
        refine mm_ev.call mm_y156 rfl rfl rfl rfl rfl (S6 _) (fun v1 μ1 hq => ?_)
        obtain ⟨rfl, hμ⟩ := hq
        obtain rfl := hμ.symm
        refine mm_ev.run mm_y156 1 rfl ?_
        refine mm_ev.neg (nI_ge (b := 5) (by omega) (by decide)) ?_
        refine mm_ev.run mm_y156 3 rfl ?_
        refine mm_ev.call mm_y156 rfl rfl rfl rfl rfl (S8 i _ (by omega)) (fun v1 μ1 hq => ?_)
        obtain ⟨rfl, hμ⟩ := hq
        obtain rfl := hμ.symm
        refine mm_ev.call mm_y156 rfl rfl rfl rfl rfl K (fun v1 μ1 hq => ?_)
        obtain ⟨rfl, e1, e2⟩ := hq
        refine mm_ev.run mm_y156 1 rfl ?_
        refine mm_ev.pos rfl ?_
        refine mm_ev.run mm_y156 1 rfl ?_
        exact mm_ev.ret mm_y156 rfl rfl rfl ⟨rfl, e1, hf.tr e2⟩
set_option maxRecDepth 100000 in
theorem C156 (h : rPm n tx c0 a o cs μ) (ht : okT n tx) (ha : a ≤ n) {w : Nat} (hw : w = 0 ∨ w = 1 ∨ w = 2) : mm_call la_M (d + 4) 156 [.ref 110, .ref (3 + w)] μ (fun v μ' => v = some (.int (bI ((pW n tx (pwd w) a).1 = true))) ∧ rPm n tx c0 (pW n tx (pwd w) a).2 o cs μ' ∧ mh (rdm c0) μ μ') := by
  refine mm_call.of mm_t156 ?_
  refine mm_ev.run mm_y156 2 rfl ?_
  exact C156_l (d := d) ht hw 5 0 a μ (by omega) ha h mh.rf
/-- which word, told by a first sign -/
def pwI (x : Int32) : Int32 := if x = 109 then 0 else if x = 108 then 1 else if x = 103 then 2 else -1
set_option maxRecDepth 100000 in
theorem C155_a {i : Int32} (ht : okT n tx) (ha : a ≤ n) (h : rPm n tx c0 a o cs μ) {Φ : Option Value → mm_M → Prop} (K : mm_ev la_M d 155 36 [some (.ref 110), some (.int i), some (.int (pwI (pN n tx a))), none] [] μ Φ) : mm_ev la_M d 155 0 [some (.ref 110), some (.int i), none, none] [] μ Φ := by
  have h100 := ht.1
  refine mm_ev.run mm_y155 4 rfl ?_
  refine mm_ev.val h.1.2.1 ?_
  refine mm_ev.run mm_y155 2 rfl ?_
  refine mm_ev.val h.1.1 ?_
  refine mm_ev.run mm_y155 1 rfl ?_
  refine mm_ev.ite (fun h1 => ?_) (fun h1 => ?_)
  · have e := (nI_leI (by omega) (by omega)).mp h1
    rw [pN_end (show ¬ a < n by omega), show pwI (-1) = -1 from rfl] at K
    exact K
  · have e : a < n := by
      by_cases z : a < n
      · exact z
      · exact absurd (nI_le (show n ≤ a by omega) (by omega)) h1
    have et := h.1.2.2 a e
    rw [show pN n tx a = tx a from if_pos e, pwI] at K
    refine mm_ev.run mm_y155 4 rfl ?_
    refine mm_ev.val h.1.2.1 ?_
    refine mm_ev.ild mm_y155 rfl rfl rfl rfl rfl (by omega) (by decide) et ?_
    refine mm_ev.run mm_y155 2 rfl ?_
    refine mm_ev.ite (fun h2 => ?_) (fun h2 => ?_)
    · rw [if_pos h2] at K
      refine mm_ev.run mm_y155 3 rfl ?_
      exact K
    · rw [if_neg h2] at K
      refine mm_ev.run mm_y155 4 rfl ?_
      refine mm_ev.val h.1.2.1 ?_
      refine mm_ev.ild mm_y155 rfl rfl rfl rfl rfl (by omega) (by decide) et ?_
      refine mm_ev.run mm_y155 2 rfl ?_
      refine mm_ev.ite (fun h3 => ?_) (fun h3 => ?_)
      · rw [if_pos h3] at K
        refine mm_ev.run mm_y155 3 rfl ?_
        exact K
      · rw [if_neg h3] at K
        refine mm_ev.run mm_y155 4 rfl ?_
        refine mm_ev.val h.1.2.1 ?_
        refine mm_ev.ild mm_y155 rfl rfl rfl rfl rfl (by omega) (by decide) et ?_
        refine mm_ev.run mm_y155 2 rfl ?_
        refine mm_ev.ite (fun h4 => ?_) (fun h4 => ?_)
        · rw [if_pos h4] at K
          refine mm_ev.run mm_y155 3 rfl ?_
          exact K
        · rw [if_neg h4] at K
          refine mm_ev.run mm_y155 2 rfl ?_
          exact K
theorem pw_I : (pwI (pN n tx a) = nI (pw n tx a) ∧ (pw n tx a = 0 ∨ pw n tx a = 1 ∨ pw n tx a = 2)) ∨ (pwI (pN n tx a) = -1 ∧ pw n tx a = 1 ∧ pW n tx (pwd 1) a = (false, a)) := by
  unfold pw pwI
  by_cases h1 : pN n tx a = 109
  · rw [h1, if_pos rfl, if_neg (by decide), if_pos rfl]
    exact Or.inl ⟨rfl, Or.inl rfl⟩
  · rw [if_neg h1]
    by_cases h2 : pN n tx a = 108
    · rw [h2, if_pos rfl, if_neg (by decide), if_neg (by decide)]
      exact Or.inl ⟨rfl, Or.inr (Or.inl rfl)⟩
    · rw [if_neg h2]
      by_cases h3 : pN n tx a = 103
      · rw [if_pos h3, if_pos h3]
        exact Or.inl ⟨rfl, Or.inr (Or.inr rfl)⟩
      · rw [if_neg h3, if_neg h3, if_neg h1]
        refine Or.inr ⟨rfl, rfl, ?_⟩
        show (if pN n tx a = 108 then _ else _) = _
        rw [if_neg h2]
set_option maxRecDepth 100000 in
theorem C155_b {i : Int32} (ht : okT n tx) (ha : a ≤ n) (h : rPm n tx c0 a o cs μ) {Φ : Option Value → mm_M → Prop} (h1 : (pW n tx (pwd (pw n tx a)) a).1 = true → ∀ μ1, rPm n tx c0 (pW n tx (pwd (pw n tx a)) a).2 o cs μ1 → mh (rdm c0) μ μ1 → mm_ev la_M (d + 5) 155 62 [some (.ref 110), some (.int i), some (.int (nI (pw n tx a))), some (.int 1)] [] μ1 Φ) (h2 : ¬ (pW n tx (pwd (pw n tx a)) a).1 = true → ∀ μ1, rPm n tx c0 (pW n tx (pwd (pw n tx a)) a).2 o cs μ1 → mh (rdm c0) μ μ1 → Φ (some (.int 0)) μ1) : mm_ev la_M (d + 5) 155 36 [some (.ref 110), some (.int i), some (.int (pwI (pN n tx a))), none] [] μ Φ := by
  have K := C156 (d := d) h ht ha (w := pw n tx a)
  rcases pw_I (n := n) (tx := tx) (a := a) with ⟨e1, e2⟩ | ⟨e1, e2, e3⟩
  · rw [e1]
    have K := K e2
    have fin : ∀ μ1, rPm n tx c0 (pW n tx (pwd (pw n tx a)) a).2 o cs μ1 → mh (rdm c0) μ μ1 → mm_ev la_M (d + 5) 155 59 [some (.ref 110), some (.int i), some (.int (nI (pw n tx a))), none] [.int (bI ((pW n tx (pwd (pw n tx a)) a).1 = true))] μ1 Φ := by
      intro μ1 k1 k2
      refine mm_ev.run mm_y155 3 rfl ?_
      refine mm_ev.ifb (fun z => ?_) (fun z => ?_)
      · refine mm_ev.run mm_y155 1 rfl ?_
        exact mm_ev.ret mm_y155 rfl rfl rfl (h2 z μ1 k1 k2)
      · rw [bI_1 (p := (pW n tx (pwd (pw n tx a)) a).1 = true) z]
        exact h1 z μ1 k1 k2
    rcases e2 with e2 | e2 | e2
    all_goals rw [e2] at K fin ⊢
    ·
      refine mm_ev.run mm_y155 2 rfl ?_
      refine mm_ev.pos rfl ?_
      refine mm_ev.run mm_y155 2 rfl ?_
      refine mm_ev.call mm_y155 rfl rfl rfl rfl rfl K (fun v1 μ1 hq => ?_)
      obtain ⟨rfl, k1, k2⟩ := hq
      refine mm_ev.run mm_y155 1 rfl ?_
      exact fin _ k1 k2
    ·
      refine mm_ev.run mm_y155 2 rfl ?_
      refine mm_ev.neg (by decide) ?_
      refine mm_ev.run mm_y155 3 rfl ?_
      refine mm_ev.pos rfl ?_
      refine mm_ev.run mm_y155 2 rfl ?_
      refine mm_ev.call mm_y155 rfl rfl rfl rfl rfl K (fun v1 μ1 hq => ?_)
      obtain ⟨rfl, k1, k2⟩ := hq
      refine mm_ev.run mm_y155 1 rfl ?_
      exact fin _ k1 k2
    ·
      refine mm_ev.run mm_y155 2 rfl ?_
      refine mm_ev.neg (by decide) ?_
      refine mm_ev.run mm_y155 3 rfl ?_
      refine mm_ev.neg (by decide) ?_
      refine mm_ev.run mm_y155 3 rfl ?_
      refine mm_ev.pos rfl ?_
      refine mm_ev.run mm_y155 2 rfl ?_
      refine mm_ev.call mm_y155 rfl rfl rfl rfl rfl K (fun v1 μ1 hq => ?_)
      obtain ⟨rfl, k1, k2⟩ := hq
      have fin := fin _ k1 k2
      refine mm_ev.run mm_y155 1 rfl ?_
      refine mm_ev.ifb (fun z => ?_) (fun z => ?_)
      · rw [bI_0 (p := (pW n tx (pwd 2) a).1 = true) z] at fin
        refine mm_ev.run mm_y155 1 rfl ?_
        exact fin
      · rw [bI_1 (p := (pW n tx (pwd 2) a).1 = true) z] at fin
        refine mm_ev.run mm_y155 2 rfl ?_
        exact fin
  · rw [e2, e3] at h2
    rw [e1]
    refine mm_ev.run mm_y155 2 rfl ?_
    refine mm_ev.neg (by decide) ?_
    refine mm_ev.run mm_y155 3 rfl ?_
    refine mm_ev.neg (by decide) ?_
    refine mm_ev.run mm_y155 3 rfl ?_
    refine mm_ev.neg (by decide) ?_
    refine mm_ev.run mm_y155 4 rfl ?_
    refine mm_ev.pos rfl ?_
    refine mm_ev.run mm_y155 1 rfl ?_
    exact mm_ev.ret mm_y155 rfl rfl rfl (h2 (by simp) μ h mh.rf)
end
