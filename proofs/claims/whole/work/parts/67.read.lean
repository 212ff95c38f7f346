/-! THE CLASS'S READER -/
def rP (q n : Nat) (tx : Nat → Int32) (g : Int32) (kk : Nat) (FA FB : Nat → Int32) (a : Nat) (cs : List Nat) (μ : mm_M) : Prop :=
  (μ.1 66 1 = nI n ∧ μ.1 66 2 = nI a ∧ μ.2.2 66 4 = some q ∧ ∀ i, i < n → μ.1 67 i = tx i) ∧ (μ.1 q 0 = g ∧ μ.1 q 1 = nI kk ∧ μ.1 q 5 = nI cs.length) ∧ μ.1 (q + 1) = FA ∧ μ.1 (q + 2) = FB ∧ sp_seg (μ.1 (q + 3)) sp_cc 0 cs
abbrev rd (q c : Nat) : Prop := c = 66 ∨ (q ≤ c ∧ c ≤ q + 3)
def okT (n : Nat) (tx : Nat → Int32) : Prop := n ≤ 100 ∧ ∀ i, i < n → ∃ c, c < 128 ∧ tx i = nI c
abbrev q6 (q : Nat) : Prop := q = 74 ∨ q = 78 ∨ q = 82 ∨ q = 86 ∨ q = 90 ∨ q = 94
theorem sp_seg_app {cv : Nat → Int32} {o : Nat} : ∀ (l : List Nat) (f : Nat → Int32) (i : Nat), sp_seg f cv i l → sp_seg (upd f (i + l.length) (cv o)) cv i (l ++ [o]) := by
  intro l
  induction l with
  | nil => intro f i _; exact ⟨upd_eq, trivial⟩
  | cons x l ih =>
    intro f i h
    refine ⟨?_, ?_⟩
    · rw [upd_ne (by simp only [List.length_cons]; omega)]
      exact h.1
    · have := ih f (i + 1) h.2
      rw [show i + 1 + l.length = i + (x :: l).length by simp only [List.length_cons]; omega] at this
      exact this
section
variable {d q n kk a : Nat} {tx : Nat → Int32} {g : Int32} {FA FB : Nat → Int32} {cs : List Nat} {μ : mm_M}
theorem q6.r (h : q6 q) : 74 ≤ q ∧ q ≤ 94 := by unfold q6 at h; omega
theorem rP.s2 (h : rP q n tx g kk FA FB a cs μ) (hq : q6 q) {a' : Nat} : rP q n tx g kk FA FB a' cs (mm_sI μ 66 (upd (μ.1 66) 2 (nI a'))) := by
  have := hq.r
  obtain ⟨⟨h1, h2, h3, h4⟩, ⟨h5, h6, h7⟩, h8, h9, h10⟩ := h
  refine ⟨⟨h1, by rw [sI_eq, upd_eq], h3, h4⟩, ⟨by rw [sI_ne (by omega)]; exact h5, by rw [sI_ne (by omega)]; exact h6, by rw [sI_ne (by omega)]; exact h7⟩, by rw [sI_ne (by omega)]; exact h8, by rw [sI_ne (by omega)]; exact h9, by rw [sI_ne (by omega)]; exact h10⟩
theorem rP.s3 (h : rP q n tx g kk FA FB a cs μ) (hq : q6 q) (x : Int32) : rP q n tx g kk FA FB a cs (mm_sI μ 66 (upd (μ.1 66) 3 x)) := by
  have := hq.r
  obtain ⟨⟨h1, h2, h3, h4⟩, ⟨h5, h6, h7⟩, h8, h9, h10⟩ := h
  refine ⟨⟨h1, h2, h3, h4⟩, ⟨by rw [sI_ne (by omega)]; exact h5, by rw [sI_ne (by omega)]; exact h6, by rw [sI_ne (by omega)]; exact h7⟩, by rw [sI_ne (by omega)]; exact h8, by rw [sI_ne (by omega)]; exact h9, by rw [sI_ne (by omega)]; exact h10⟩
theorem rP.into (h : rP q n tx g kk FA FB a cs μ) : va_rf (μ.2.2 66 4) = .ref q := by rw [h.1.2.2.1]; rfl
set_option maxRecDepth 100000 in
theorem C59 (h : rP q n tx g kk FA FB a cs μ) (ht : okT n tx) (ha : a ≤ n) : mm_call la_C d 59 [.ref 66] μ (fun v μ' => v = some (.int (pN n tx a)) ∧ μ' = μ) := by
  have h100 := ht.1
  unfold pN
  refine mm_call.of mm_t59 ?_
  refine mm_ev.run mm_y59 2 rfl ?_
  refine mm_ev.val h.1.2.1 ?_
  refine mm_ev.run mm_y59 1 rfl ?_
  refine mm_ev.neg (nI_pos (by omega)) ?_
  refine mm_ev.run mm_y59 2 rfl ?_
  refine mm_ev.val h.1.2.1 ?_
  refine mm_ev.run mm_y59 2 rfl ?_
  refine mm_ev.val h.1.1 ?_
  refine mm_ev.run mm_y59 1 rfl ?_
  refine mm_ev.ite (fun h1 => ?_) (fun h1 => ?_)
  · rw [if_neg (by have := (nI_leI (by omega) (by omega)).mp h1; omega)]
    refine mm_ev.run mm_y59 1 rfl ?_
    exact mm_ev.ret mm_y59 rfl rfl rfl ⟨rfl, rfl⟩
  · have h2 : a < n := by
      by_cases z : a < n
      · exact z
      · exact absurd (nI_le (show n ≤ a by omega) (by omega)) h1
    rw [if_pos h2]
    refine mm_ev.run mm_y59 4 rfl ?_
    refine mm_ev.val h.1.2.1 ?_
    refine mm_ev.bld mm_y59 rfl rfl rfl rfl rfl (by omega) (by decide) (h.1.2.2.2 a h2) ?_
    refine mm_ev.run mm_y59 1 rfl ?_
    exact mm_ev.ret mm_y59 rfl rfl rfl ⟨rfl, rfl⟩
set_option maxRecDepth 100000 in
theorem C62 (hq : q6 q) (h : rP q n tx g kk FA FB a cs μ) (ht : okT n tx) (ha : a ≤ n) (s : Int32) : mm_call la_C (d + 1) 62 [.ref 66, .int s] μ (fun v μ' => v = some (.int (bI (pN n tx a = s))) ∧ rP q n tx g kk FA FB (if pN n tx a = s then a + 1 else a) cs μ' ∧ mf (rd q) μ μ') := by
  refine mm_call.of mm_t62 ?_
  refine mm_ev.run mm_y62 1 rfl ?_
  refine mm_ev.call mm_y62 rfl rfl rfl rfl rfl (C59 h ht ha) (fun v1 μ1 hq => ?_)
  obtain ⟨rfl, hμ⟩ := hq
  obtain rfl := hμ.symm
  refine mm_ev.run mm_y62 2 rfl ?_
  refine mm_ev.ite (fun h1 => ?_) (fun h1 => ?_)
  · rw [bI_1 (p := pN n tx a = s) h1, if_pos h1]
    refine mm_ev.run mm_y62 3 rfl ?_
    refine mm_ev.val h.1.2.1 ?_
    refine mm_ev.run mm_y62 2 rfl ?_
    refine mm_ev.val (nI_1 a) ?_
    refine mm_ev.run mm_y62 2 rfl ?_
    exact mm_ev.ret mm_y62 rfl rfl rfl ⟨rfl, h.s2 hq, mf.rf.sI (Or.inl rfl)⟩
  · rw [bI_0 (p := pN n tx a = s) h1, if_neg h1]
    refine mm_ev.run mm_y62 1 rfl ?_
    exact mm_ev.ret mm_y62 rfl rfl rfl ⟨rfl, h, mf.rf⟩
theorem pwd_drop {w i : Nat} (hi : i < 5) : (pwd w).drop i = (pwd w).getD i 0 :: (pwd w).drop (i + 1) := by
  unfold pwd
  rcases (show i = 0 ∨ i = 1 ∨ i = 2 ∨ i = 3 ∨ i = 4 by omega) with rfl | rfl | rfl | rfl | rfl
  all_goals
    split
    · rfl
    · split <;> rfl
theorem pwd_5 (w : Nat) : (pwd w).drop 5 = [] := by
  unfold pwd
  split
  · rfl
  · split <;> rfl
theorem pwd_s {w i : Nat} (hi : i < 5) : (pwd w).getD i 0 ≠ -1 := by
  unfold pwd
  rcases (show i = 0 ∨ i = 1 ∨ i = 2 ∨ i = 3 ∨ i = 4 by omega) with rfl | rfl | rfl | rfl | rfl
  all_goals
    split
    · decide
    · split <;> decide
set_option maxRecDepth 100000 in
theorem C61_l (hq : q6 q) (ht : okT n tx) {w : Nat} (hw : w = 0 ∨ w = 1 ∨ w = 2) : ∀ m i a μ1, i + m = 5 → a ≤ n → rP q n tx g kk FA FB a cs μ1 → mf (rd q) μ μ1 → mm_ev la_C (d + 4) 61 2 [some (.ref 66), some (.ref (3 + w)), some (.int (nI i))] [] μ1 (fun v μ' => v = some (.int (bI ((pW n tx ((pwd w).drop i) a).1 = true))) ∧ rP q n tx g kk FA FB (pW n tx ((pwd w).drop i) a).2 cs μ' ∧ mf (rd q) μ μ') := by
  intro m
  have S6 := fun μ => S6C (d := d + 2) (μ := μ) (w := 3 + w) (l := 5) (by omega)
  have S8 := fun i μ => S8C (d := d) (μ := μ) (w := w) (i := i) hw
  induction m with
  | zero =>
    intro i a μ1 hi ha h hf
    have hi : i = 5 := by omega
    subst hi
    rw [pwd_5, show pW n tx [] a = (true, a) from rfl, bI_1 (p := (true, a).1 = true) rfl]
    rcases hw with rfl | rfl | rfl
    all_goals
      refine mm_ev.run mm_y61 2 rfl ?_
      refine mm_ev.call mm_y61 rfl rfl rfl rfl rfl (S6 _) (fun v1 μ1 hq => ?_)
      obtain ⟨rfl, hμ⟩ := hq
      obtain rfl := hμ.symm
      refine mm_ev.run mm_y61 1 rfl ?_
      refine mm_ev.pos (by decide) ?_
      refine mm_ev.run mm_y61 1 rfl ?_
      exact mm_ev.ret mm_y61 rfl rfl rfl ⟨rfl, h, hf⟩
  | succ m ih =>
    intro i a μ1 hi ha h hf
    have ih := fun a μ1 => ih (i + 1) a μ1 (by omega)
    rw [nI_succ] at ih
    have hs := pwd_s (w := w) (i := i) (by omega)
    rw [pwd_drop (by omega), show pW n tx ((pwd w).getD i 0 :: (pwd w).drop (i + 1)) a = if pN n tx a = (pwd w).getD i 0 then pW n tx ((pwd w).drop (i + 1)) (a + 1) else (false, a) from rfl]
    have K := C62 (d := d + 2) hq h ht ha ((pwd w).getD i 0)
    by_cases e : pN n tx a = (pwd w).getD i 0
    · have hlt := pN_lt e hs
      rw [if_pos e, bI_1 (p := pN n tx a = (pwd w).getD i 0) e] at K
      rw [if_pos e]
      rcases hw with rfl | rfl | rfl
      all_goals
        refine mm_ev.run mm_y61 2 rfl ?_
        refine mm_ev.call mm_y61 rfl rfl rfl rfl rfl (S6 _) (fun v1 μ1 hq => ?_)
        obtain ⟨rfl, hμ⟩ := hq
        obtain rfl := hμ.symm
        refine mm_ev.run mm_y61 1 rfl ?_
        refine mm_ev.neg (nI_ge (b := 5) (by omega) (by decide)) ?_
        refine mm_ev.run mm_y61 3 rfl ?_
        refine mm_ev.call mm_y61 rfl rfl rfl rfl rfl (S8 i _ (by omega)) (fun v1 μ1 hq => ?_)
        obtain ⟨rfl, hμ⟩ := hq
        obtain rfl := hμ.symm
        refine mm_ev.call mm_y61 rfl rfl rfl rfl rfl K (fun v1 μ1 hq => ?_)
        obtain ⟨rfl, e1, e2⟩ := hq
        refine mm_ev.run mm_y61 1 rfl ?_
        refine mm_ev.neg (by decide) ?_
        refine mm_ev.run mm_y61 2 rfl ?_
        exact ih _ _ (by omega) e1 (hf.tr e2)
    · rw [if_neg e, bI_0 (p := pN n tx a = (pwd w).getD i 0) e] at K
      rw [if_neg e, bI_0 (p := (false, a).1 = true) (by simp)]
      rcases hw with rfl | rfl | rfl
      all_goals
        refine mm_ev.run mm_y61 2 rfl ?_
        refine mm_ev.call mm_y61 rfl rfl rfl rfl rfl (S6 _) (fun v1 μ1 hq => ?_)
        obtain ⟨rfl, hμ⟩ := hq
        obtain rfl := hμ.symm
        refine mm_ev.run mm_y61 1 rfl ?_
        refine mm_ev.neg (nI_ge (b := 5) (by omega) (by decide)) ?_
        refine mm_ev.run mm_y61 3 rfl ?_
        refine mm_ev.call mm_y61 rfl rfl rfl rfl rfl (S8 i _ (by omega)) (fun v1 μ1 hq => ?_)
        obtain ⟨rfl, hμ⟩ := hq
        obtain rfl := hμ.symm
        refine mm_ev.call mm_y61 rfl rfl rfl rfl rfl K (fun v1 μ1 hq => ?_)
        obtain ⟨rfl, e1, e2⟩ := hq
        refine mm_ev.run mm_y61 1 rfl ?_
        refine mm_ev.pos rfl ?_
        refine mm_ev.run mm_y61 1 rfl ?_
        exact mm_ev.ret mm_y61 rfl rfl rfl ⟨rfl, e1, hf.tr e2⟩
set_option maxRecDepth 100000 in
theorem C61 (hq : q6 q) (h : rP q n tx g kk FA FB a cs μ) (ht : okT n tx) (ha : a ≤ n) {w : Nat} (hw : w = 0 ∨ w = 1 ∨ w = 2) : mm_call la_C (d + 4) 61 [.ref 66, .ref (3 + w)] μ (fun v μ' => v = some (.int (bI ((pW n tx (pwd w) a).1 = true))) ∧ rP q n tx g kk FA FB (pW n tx (pwd w) a).2 cs μ' ∧ mf (rd q) μ μ') := by
  refine mm_call.of mm_t61 ?_
  refine mm_ev.run mm_y61 2 rfl ?_
  exact C61_l (d := d) hq ht hw 5 0 a μ (by omega) ha h mf.rf
theorem p_g_n (ht : okT n tx) (h : pD n tx a) : tx a = nI (48 + p_g tx a) := by
  obtain ⟨c, hc, e⟩ := ht.2 a h.1
  have h2 := h.2.1
  rw [e] at h2
  have h48 := (nI_leI (a := 48) (by decide) (by omega)).mp h2
  unfold p_g
  rw [e, nI_clamp (by omega)]
  congr 1
  omega
set_option maxRecDepth 100000 in
theorem C63_s (hq : q6 q) (ht : okT n tx) (ha : a ≤ n) {k x : Nat} (hk : k < 2) (h : rP q n tx g kk FA FB a cs μ) (hx : μ.1 66 3 = nI x) {Φ : Option Value → mm_M → Prop} (h1 : pD n tx a → ∀ μ1, rP q n tx g kk FA FB (a + 1) cs μ1 → μ1.1 66 3 = nI (10 * x + p_g tx a) → mf (rd q) μ μ1 → mm_ev la_C d 63 5 [some (.ref 66), some (.int (nI (k + 1)))] [] μ1 Φ) (h2 : ¬ pD n tx a → mm_ev la_C d 63 49 [some (.ref 66), some (.int (nI k))] [] μ Φ) : mm_ev la_C d 63 5 [some (.ref 66), some (.int (nI k))] [] μ Φ := by
  have h100 := ht.1
  rw [nI_succ] at h1
  refine mm_ev.run mm_y63 3 rfl ?_
  refine mm_ev.neg (nI_ge (b := 2) hk (by decide)) ?_
  refine mm_ev.run mm_y63 2 rfl ?_
  refine mm_ev.val h.1.2.1 ?_
  refine mm_ev.run mm_y63 2 rfl ?_
  refine mm_ev.val h.1.1 ?_
  refine mm_ev.run mm_y63 1 rfl ?_
  refine mm_ev.ite (fun e1 => ?_) (fun e1 => ?_)
  · exact h2 (fun z => by
      have := (nI_leI (by omega) (by omega)).mp e1
      have := z.1
      omega)
  · have e2 : a < n := by
      by_cases z : a < n
      · exact z
      · exact absurd (nI_le (show n ≤ a by omega) (by omega)) e1
    refine mm_ev.run mm_y63 4 rfl ?_
    refine mm_ev.val h.1.2.1 ?_
    refine mm_ev.bld mm_y63 rfl rfl rfl rfl rfl (by omega) (by decide) (h.1.2.2.2 a e2) ?_
    refine mm_ev.run mm_y63 2 rfl ?_
    refine mm_ev.ite (fun e3 => ?_) (fun e3 => ?_)
    · exact h2 (fun z => Int32.not_lt.mpr z.2.1 e3)
    · refine mm_ev.run mm_y63 4 rfl ?_
      refine mm_ev.val h.1.2.1 ?_
      refine mm_ev.bld mm_y63 rfl rfl rfl rfl rfl (by omega) (by decide) (h.1.2.2.2 a e2) ?_
      refine mm_ev.run mm_y63 2 rfl ?_
      refine mm_ev.ite (fun e4 => ?_) (fun e4 => ?_)
      · exact h2 (fun z => Int32.not_lt.mpr z.2.2 e4)
      · have hd : pD n tx a := ⟨e2, Int32.not_lt.mp e3, Int32.not_lt.mp e4⟩
        have h1 := h1 hd
        have ev : nI x * 10 + tx a - 48 = nI (10 * x + p_g tx a) := by
          rw [p_g_n ht hd, show (10 : Int32) = nI 10 from rfl, nI_mul, nI_add, show (48 : Int32) = nI 48 from rfl, pk_sub (by omega)]
          congr 1
          omega
        refine mm_ev.run mm_y63 3 rfl ?_
        refine mm_ev.val hx ?_
        refine mm_ev.run mm_y63 2 rfl ?_
        refine mm_ev.run mm_y63 4 rfl ?_
        refine mm_ev.val h.1.2.1 ?_
        refine mm_ev.bld mm_y63 rfl rfl rfl rfl rfl (by omega) (by decide) (h.1.2.2.2 a e2) ?_
        refine mm_ev.run mm_y63 3 rfl ?_
        refine mm_ev.val ev ?_
        refine mm_ev.run mm_y63 1 rfl ?_
        refine mm_ev.run mm_y63 3 rfl ?_
        refine mm_ev.val h.1.2.1 ?_
        refine mm_ev.run mm_y63 2 rfl ?_
        refine mm_ev.val (nI_1 a) ?_
        refine mm_ev.run mm_y63 3 rfl ?_
        exact h1 _ ((h.s3 hq _).s2 hq) rfl ((mf.rf.sI (Or.inl rfl)).sI (Or.inl rfl))
set_option maxRecDepth 100000 in
theorem C63 (hq : q6 q) (h : rP q n tx g kk FA FB a cs μ) (ht : okT n tx) (ha : a ≤ n) : mm_call la_C d 63 [.ref 66] μ (fun v μ' => v = some (.int (bI ((pM n tx a).1 = true))) ∧ rP q n tx g kk FA FB (pM n tx a).2.1 cs μ' ∧ μ'.1 66 3 = nI (pM n tx a).2.2 ∧ mf (rd q) μ μ') := by
  have h0 := h.s3 hq 0
  unfold pM
  refine mm_call.of mm_t63 ?_
  refine mm_ev.run mm_y63 5 rfl ?_
  refine C63_s (k := 0) (x := 0) hq ht ha (by decide) h0 rfl (fun hd μ1 e1 e2 e3 => ?_) (fun hd => ?_)
  · rw [if_pos hd]
    have ha1 : a + 1 ≤ n := hd.1
    refine C63_s (k := 1) hq ht ha1 (by decide) e1 e2 (fun hd2 μ2 k1 k2 k3 => ?_) (fun hd2 => ?_)
    · rw [if_pos hd2, bI_1 (p := (true, a + 2, 10 * p_g tx a + p_g tx (a + 1)).1 = true) rfl]
      refine mm_ev.run mm_y63 3 rfl ?_
      refine mm_ev.pos (by decide) ?_
      refine mm_ev.run mm_y63 2 rfl ?_
      refine mm_ev.neg (by decide) ?_
      refine mm_ev.run mm_y63 2 rfl ?_
      exact mm_ev.ret mm_y63 rfl rfl rfl ⟨rfl, k1, by rw [k2]; congr 1; dsimp only; omega, ((mf.rf.sI (Or.inl rfl)).tr e3).tr k3⟩
    · rw [if_neg hd2, bI_1 (p := (true, a + 1, p_g tx a).1 = true) rfl]
      refine mm_ev.run mm_y63 2 rfl ?_
      refine mm_ev.neg (by decide) ?_
      refine mm_ev.run mm_y63 2 rfl ?_
      exact mm_ev.ret mm_y63 rfl rfl rfl ⟨rfl, e1, by rw [e2]; congr 1; dsimp only; omega, (mf.rf.sI (Or.inl rfl)).tr e3⟩
  · rw [if_neg hd, bI_0 (p := (false, a, 0).1 = true) (by simp)]
    refine mm_ev.run mm_y63 2 rfl ?_
    refine mm_ev.pos (by decide) ?_
    refine mm_ev.run mm_y63 1 rfl ?_
    exact mm_ev.ret mm_y63 rfl rfl rfl ⟨rfl, h0, rfl, mf.rf.sI (Or.inl rfl)⟩
theorem t_cc : ∀ l, l < 6 → ∀ w, w < 3 → ∀ v, v < 100 → (nI l <<< ((9 : Int32) &&& 31)) ||| (nI w <<< ((7 : Int32) &&& 31)) ||| nI v = nI (l * 512 + w * 128 + v) := by decide +kernel
set_option maxRecDepth 100000 in
theorem C77 {Λ : List mm_D} {l w v : Nat} (hl : l < 6) (hw : w < 3) (hv : v < 100) : mm_call Λ d 77 [.int (nI l), .int (nI w), .int (nI v)] μ (fun u μ' => u = some (.int (sp_cc (3 + 300 * l + 100 * w + v))) ∧ μ' = μ) := by
  have e : sp_cc (3 + 300 * l + 100 * w + v) = nI (l * 512 + w * 128 + v) := by
    unfold sp_cc
    rw [if_neg (by omega), if_neg (by omega), if_neg (by omega), show (3 + 300 * l + 100 * w + v - 3) / 300 = l by omega, show (3 + 300 * l + 100 * w + v - 3) / 100 % 3 = w by omega, show (3 + 300 * l + 100 * w + v - 3) % 100 = v by omega]
  rw [e]
  refine mm_call.of mm_t77 ?_
  refine mm_ev.run mm_y77 9 rfl ?_
  refine mm_ev.val (t_cc l hl w hw v hv) ?_
  exact mm_ev.ret mm_y77 rfl rfl rfl ⟨rfl, rfl⟩
set_option maxRecDepth 100000 in
theorem C78 (hq : q6 q) (h : rP q n tx g kk FA FB a cs μ) (hc : cs.length < 100) (o : Nat) {z : Int32} (hz : z = sp_cc o) : mm_call la_C d 78 [.ref q, .int z] μ (fun v μ' => v = none ∧ rP q n tx g kk FA FB a (cs ++ [o]) μ' ∧ mf (rd q) μ μ') := by
  subst hz
  have hr := hq.r
  have key : rP q n tx g kk FA FB a (cs ++ [o]) (mm_sI (mm_sI μ (q + 3) (upd (μ.1 (q + 3)) cs.length (sp_cc o))) q (upd (μ.1 q) 5 (nI (cs.length + 1)))) := by
    obtain ⟨⟨h1, h2, h3, h4⟩, ⟨h5, h6, h7⟩, h8, h9, h10⟩ := h
    have e : ∀ c, c ≠ q → c ≠ q + 3 → (mm_sI (mm_sI μ (q + 3) (upd (μ.1 (q + 3)) cs.length (sp_cc o))) q (upd (μ.1 q) 5 (nI (cs.length + 1)))).1 c = μ.1 c := fun c c1 c2 => by rw [sI_ne c1, sI_ne c2]
    refine ⟨⟨by rw [e 66 (by omega) (by omega)]; exact h1, by rw [e 66 (by omega) (by omega)]; exact h2, h3, fun i hi => by rw [e 67 (by omega) (by omega)]; exact h4 i hi⟩, ⟨by rw [sI_eq]; exact h5, by rw [sI_eq]; exact h6, by rw [sI_eq, upd_eq, List.length_append]; rfl⟩, by rw [e _ (by omega) (by omega)]; exact h8, by rw [e _ (by omega) (by omega)]; exact h9, ?_⟩
    rw [sI_ne (by omega), sI_eq]
    have := sp_seg_app (o := o) cs _ 0 h10
    rw [Nat.zero_add] at this
    exact this
  have hm : mf (rd q) μ (mm_sI (mm_sI μ (q + 3) (upd (μ.1 (q + 3)) cs.length (sp_cc o))) q (upd (μ.1 q) 5 (nI (cs.length + 1)))) := (mf.rf.sI (Or.inr ⟨by omega, by omega⟩)).sI (Or.inr ⟨by omega, by omega⟩)
  have f5 := h.2.1.2.2
  rcases hq with rfl | rfl | rfl | rfl | rfl | rfl
  all_goals
    refine mm_call.of mm_t78 ?_
    refine mm_ev.run mm_y78 2 rfl ?_
    refine mm_ev.val f5 ?_
    refine mm_ev.run mm_y78 3 rfl ?_
    refine mm_ev.run mm_y78 1 rfl ?_
    refine mm_ev.pos (nI_lt (b := 100) hc (by decide)) ?_
    refine mm_ev.run mm_y78 4 rfl ?_
    refine mm_ev.val f5 ?_
    refine mm_ev.run mm_y78 1 rfl ?_
    refine mm_ev.ist mm_y78 rfl rfl rfl rfl rfl (by omega) (by decide) ?_
    refine mm_ev.run mm_y78 3 rfl ?_
    refine mm_ev.val f5 ?_
    refine mm_ev.run mm_y78 2 rfl ?_
    refine mm_ev.val (nI_1 _) ?_
    refine mm_ev.run mm_y78 1 rfl ?_
    exact mm_ev.ret mm_y78 rfl rfl rfl ⟨rfl, key, hm⟩
set_option maxRecDepth 100000 in
theorem C68 (x : Int32) {Λ : List mm_D} : mm_call Λ d 68 [.int x] μ (fun v μ' => v = some (.int (if pWy x < 3 then nI (pWy x) else -1)) ∧ μ' = μ) := by
  refine mm_call.of mm_t68 ?_
  refine mm_ev.run mm_y68 2 rfl ?_
  refine mm_ev.swc (fun h => ?_) (fun n60 => mm_ev.swc (fun h => ?_) (fun n61 => mm_ev.swc (fun h => ?_) (fun n62 => mm_ev.sw0 ?_)))
  · have e : pWy x = 0 := by unfold pWy; rw [if_pos h]
    rw [e, if_pos (by decide)]
    refine mm_ev.run mm_y68 1 rfl ?_
    exact mm_ev.ret mm_y68 rfl rfl rfl ⟨rfl, rfl⟩
  · have e : pWy x = 1 := by unfold pWy; rw [if_neg n60, if_pos h]
    rw [e, if_pos (by decide)]
    refine mm_ev.run mm_y68 1 rfl ?_
    exact mm_ev.ret mm_y68 rfl rfl rfl ⟨rfl, rfl⟩
  · have e : pWy x = 2 := by unfold pWy; rw [if_neg n60, if_neg n61, if_pos h]
    rw [e, if_pos (by decide)]
    refine mm_ev.run mm_y68 1 rfl ?_
    exact mm_ev.ret mm_y68 rfl rfl rfl ⟨rfl, rfl⟩
  · have e : pWy x = 3 := by unfold pWy; rw [if_neg n60, if_neg n61, if_neg n62]
    rw [e, if_neg (by decide)]
    refine mm_ev.run mm_y68 1 rfl ?_
    exact mm_ev.ret mm_y68 rfl rfl rfl ⟨rfl, rfl⟩
end
