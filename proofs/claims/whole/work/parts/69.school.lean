/-! THE CLASS'S READER: clauses, schools -/
def sp_cq (FA FB : Nat → Int32) (K : Nat) : sS → Nat → Nat → Prop
  | [], k, _ => k = K ∧ k ≤ 10
  | (w, x, ops) :: r, k, i => if w = 2 then sp_cq FA FB K r k i else (w < 2 ∧ k < 10 ∧ FA k = (if w = 0 then x else - x) ∧ i + ops.length ≤ 100 ∧ FB k = nI (i + ops.length) ∧ sp_dep ops 0 = some 1 ∧ sp_cq FA FB K r (k + 1) (i + ops.length))
/-- the steps of all conditions -/
def sp_fl : sS → List Nat
  | [] => []
  | (w, _, ops) :: r => if w = 2 then sp_fl r else ops ++ sp_fl r
theorem sp_fl_app : ∀ (s t : sS), sp_fl (s ++ t) = sp_fl s ++ sp_fl t := by
  intro s t
  induction s with
  | nil => rfl
  | cons x s ih =>
    obtain ⟨w, x, ops⟩ := x
    show (if w = 2 then sp_fl (s ++ t) else ops ++ sp_fl (s ++ t)) = (if w = 2 then sp_fl s else ops ++ sp_fl s) ++ sp_fl t
    by_cases h : w = 2
    · rw [if_pos h, if_pos h, ih]
    · rw [if_neg h, if_neg h, ih, List.append_assoc]
theorem sp_gr_app {c : Nat × Int32 × List Nat} : ∀ (s : sS) (a : Int32), sp_gr (s ++ [c]) a = if c.1 = 2 then c.2.1 else sp_gr s a := by
  intro s
  induction s with
  | nil => intro a; rfl
  | cons x s ih =>
    intro a
    obtain ⟨w, x, ops⟩ := x
    exact ih (if w = 2 then x else a)
section
variable {FA FB : Nat → Int32} {K : Nat}
theorem sp_cq_le : ∀ (s : sS) (k i : Nat), sp_cq FA FB K s k i → k ≤ K ∧ K ≤ k + s.length := by
  intro s
  induction s with
  | nil => intro k i h; have := h.1; simp only [List.length_nil]; omega
  | cons x s ih =>
    intro k i h
    obtain ⟨w, x, ops⟩ := x
    have h : (if w = 2 then sp_cq FA FB K s k i else (w < 2 ∧ k < 10 ∧ FA k = (if w = 0 then x else - x) ∧ i + ops.length ≤ 100 ∧ FB k = nI (i + ops.length) ∧ sp_dep ops 0 = some 1 ∧ sp_cq FA FB K s (k + 1) (i + ops.length))) := h
    simp only [List.length_cons]
    by_cases hw : w = 2
    · rw [if_pos hw] at h
      have := ih _ _ h
      omega
    · rw [if_neg hw] at h
      have := ih _ _ h.2.2.2.2.2.2
      omega
theorem sp_cq_g {y : Int32} {ops0 : List Nat} : ∀ (s : sS) (k i : Nat), sp_cq FA FB K s k i → sp_cq FA FB K (s ++ [(2, y, ops0)]) k i := by
  intro s
  induction s with
  | nil => intro k i h; exact h
  | cons x s ih =>
    intro k i h
    obtain ⟨w, x, ops⟩ := x
    show (if w = 2 then sp_cq FA FB K (s ++ [(2, y, ops0)]) k i else (w < 2 ∧ k < 10 ∧ FA k = (if w = 0 then x else - x) ∧ i + ops.length ≤ 100 ∧ FB k = nI (i + ops.length) ∧ sp_dep ops 0 = some 1 ∧ sp_cq FA FB K (s ++ [(2, y, ops0)]) (k + 1) (i + ops.length)))
    have h : (if w = 2 then sp_cq FA FB K s k i else (w < 2 ∧ k < 10 ∧ FA k = (if w = 0 then x else - x) ∧ i + ops.length ≤ 100 ∧ FB k = nI (i + ops.length) ∧ sp_dep ops 0 = some 1 ∧ sp_cq FA FB K s (k + 1) (i + ops.length))) := h
    by_cases hw : w = 2
    · rw [if_pos hw] at h ⊢
      exact ih _ _ h
    · rw [if_neg hw] at h ⊢
      exact ⟨h.1, h.2.1, h.2.2.1, h.2.2.2.1, h.2.2.2.2.1, h.2.2.2.2.2.1, ih _ _ h.2.2.2.2.2.2⟩
theorem sp_cq_c {w0 : Nat} {y u : Int32} {ops0 : List Nat} (hw0 : w0 < 2) (hK : K < 10) (hd : sp_dep ops0 0 = some 1) (hu : u = if w0 = 0 then y else - y) : ∀ (s : sS) (k i : Nat), i + (sp_fl s).length + ops0.length ≤ 100 → sp_cq FA FB K s k i → sp_cq (upd FA K u) (upd FB K (nI (i + (sp_fl s).length + ops0.length))) (K + 1) (s ++ [(w0, y, ops0)]) k i := by
  intro s
  induction s with
  | nil =>
    intro k i hl h
    show (if w0 = 2 then _ else _)
    rw [if_neg (by omega)]
    have hk := h.1
    subst hk
    exact ⟨hw0, hK, by rw [upd_eq, hu], hl, by rw [upd_eq]; rfl, hd, rfl, hK⟩
  | cons x s ih =>
    intro k i hl h
    obtain ⟨w, x, ops⟩ := x
    have h : (if w = 2 then sp_cq FA FB K s k i else (w < 2 ∧ k < 10 ∧ FA k = (if w = 0 then x else - x) ∧ i + ops.length ≤ 100 ∧ FB k = nI (i + ops.length) ∧ sp_dep ops 0 = some 1 ∧ sp_cq FA FB K s (k + 1) (i + ops.length))) := h
    have ef : sp_fl ((w, x, ops) :: s) = if w = 2 then sp_fl s else ops ++ sp_fl s := rfl
    rw [ef] at hl ⊢
    show (if w = 2 then _ else _)
    by_cases hw : w = 2
    · rw [if_pos hw] at h hl ⊢
      rw [if_pos hw]
      exact ih _ _ hl h
    · rw [if_neg hw] at h hl ⊢
      rw [if_neg hw]
      rw [List.length_append] at hl ⊢
      have hle := (sp_cq_le _ _ _ h.2.2.2.2.2.2).1
      have k2 := ih (k + 1) (i + ops.length) (by omega) h.2.2.2.2.2.2
      rw [show i + ops.length + (sp_fl s).length + ops0.length = i + (ops.length + (sp_fl s).length) + ops0.length by omega] at k2
      exact ⟨h.1, h.2.1, by rw [upd_ne (by omega)]; exact h.2.2.1, h.2.2.2.1, by rw [upd_ne (by omega)]; exact h.2.2.2.2.1, h.2.2.2.2.2.1, k2⟩
end
theorem sp_seg_split {cv : Nat → Int32} {f : Nat → Int32} : ∀ (l m : List Nat) (i : Nat), sp_seg f cv i (l ++ m) → sp_seg f cv i l ∧ sp_seg f cv (i + l.length) m := by
  intro l
  induction l with
  | nil => intro m i h; exact ⟨trivial, h⟩
  | cons x l ih =>
    intro m i h
    obtain ⟨h1, h2⟩ := ih m (i + 1) h.2
    refine ⟨⟨h.1, h1⟩, ?_⟩
    rw [show i + 1 + l.length = i + (x :: l).length by simp only [List.length_cons]; omega] at h2
    exact h2
theorem sp_cq_cl {q : Nat} {μ : mm_M} {K : Nat} (hK : μ.1 q 1 = nI K) : ∀ (s : sS) (k i : Nat), sp_seg (μ.1 (q + 3)) sp_cc i (sp_fl s) → sp_cq (μ.1 (q + 1)) (μ.1 (q + 2)) K s k i → sp_cl q μ s k i := by
  intro s
  induction s with
  | nil => intro k i _ h; exact ⟨by rw [h.1]; exact hK, h.2⟩
  | cons x s ih =>
    intro k i hs h
    obtain ⟨w, x, ops⟩ := x
    have h : (if w = 2 then sp_cq (μ.1 (q + 1)) (μ.1 (q + 2)) K s k i else (w < 2 ∧ k < 10 ∧ μ.1 (q + 1) k = (if w = 0 then x else - x) ∧ i + ops.length ≤ 100 ∧ μ.1 (q + 2) k = nI (i + ops.length) ∧ sp_dep ops 0 = some 1 ∧ sp_cq (μ.1 (q + 1)) (μ.1 (q + 2)) K s (k + 1) (i + ops.length))) := h
    have ef : sp_fl ((w, x, ops) :: s) = if w = 2 then sp_fl s else ops ++ sp_fl s := rfl
    rw [ef] at hs
    show (if w = 2 then _ else _)
    by_cases hw : w = 2
    · rw [if_pos hw] at h hs ⊢
      exact ih _ _ hs h
    · rw [if_neg hw] at h hs ⊢
      obtain ⟨s1, s2⟩ := sp_seg_split _ _ _ hs
      exact ⟨h.1, h.2.1, h.2.2.1, h.2.2.2.1, h.2.2.2.2.1, s1, h.2.2.2.2.2.1, ih _ _ s2 h.2.2.2.2.2.2⟩
section
variable {d q n kk a : Nat} {tx : Nat → Int32} {g : Int32} {FA FB : Nat → Int32} {cs : List Nat} {μ : mm_M}
set_option maxRecDepth 100000 in
theorem C79 (hq : q6 q) (h : rP q n tx g kk FA FB a cs μ) (hk : kk < 10) (x : Int32) : mm_call la_C d 79 [.ref q, .int x] μ (fun v μ' => v = none ∧ rP q n tx g (kk + 1) (upd FA kk x) (upd FB kk (nI cs.length)) a cs μ' ∧ mf (rd q) μ μ') := by
  have hr := hq.r
  have key : rP q n tx g (kk + 1) (upd FA kk x) (upd FB kk (nI cs.length)) a cs (mm_sI (mm_sI (mm_sI μ (q + 1) (upd (μ.1 (q + 1)) kk x)) (q + 2) (upd (μ.1 (q + 2)) kk (nI cs.length))) q (upd (μ.1 q) 1 (nI (kk + 1)))) := by
    obtain ⟨⟨h1, h2, h3, h4⟩, ⟨h5, h6, h7⟩, h8, h9, h10⟩ := h
    have e : ∀ c, c ≠ q → c ≠ q + 1 → c ≠ q + 2 → (mm_sI (mm_sI (mm_sI μ (q + 1) (upd (μ.1 (q + 1)) kk x)) (q + 2) (upd (μ.1 (q + 2)) kk (nI cs.length))) q (upd (μ.1 q) 1 (nI (kk + 1)))).1 c = μ.1 c := fun c c1 c2 c3 => by rw [sI_ne c1, sI_ne c3, sI_ne c2]
    refine ⟨⟨by rw [e 66 (by omega) (by omega) (by omega)]; exact h1, by rw [e 66 (by omega) (by omega) (by omega)]; exact h2, h3, fun i hi => by rw [e 67 (by omega) (by omega) (by omega)]; exact h4 i hi⟩, ⟨by rw [sI_eq]; exact h5, by rw [sI_eq, upd_eq], by rw [sI_eq]; exact h7⟩, by rw [sI_ne (by omega), sI_ne (by omega), sI_eq, h8], by rw [sI_ne (by omega), sI_eq, h9], by rw [e _ (by omega) (by omega) (by omega)]; exact h10⟩
  have hm : mf (rd q) μ (mm_sI (mm_sI (mm_sI μ (q + 1) (upd (μ.1 (q + 1)) kk x)) (q + 2) (upd (μ.1 (q + 2)) kk (nI cs.length))) q (upd (μ.1 q) 1 (nI (kk + 1)))) := ((mf.rf.sI (Or.inr ⟨by omega, by omega⟩)).sI (Or.inr ⟨by omega, by omega⟩)).sI (Or.inr ⟨by omega, by omega⟩)
  have f1 := h.2.1.2.1
  have f5 := h.2.1.2.2
  rcases hq with rfl | rfl | rfl | rfl | rfl | rfl
  all_goals
    refine mm_call.of mm_t79 ?_
    refine mm_ev.run mm_y79 2 rfl ?_
    refine mm_ev.val f1 ?_
    refine mm_ev.run mm_y79 2 rfl ?_
    refine mm_ev.pos (nI_lt (b := 10) hk (by decide)) ?_
    refine mm_ev.run mm_y79 4 rfl ?_
    refine mm_ev.val f1 ?_
    refine mm_ev.run mm_y79 1 rfl ?_
    refine mm_ev.ist mm_y79 rfl rfl rfl rfl rfl (by omega) (by decide) ?_
    refine mm_ev.run mm_y79 4 rfl ?_
    refine mm_ev.val f1 ?_
    refine mm_ev.run mm_y79 2 rfl ?_
    refine mm_ev.val f5 ?_
    refine mm_ev.ist mm_y79 rfl rfl rfl rfl rfl (by omega) (by decide) ?_
    refine mm_ev.run mm_y79 3 rfl ?_
    refine mm_ev.val f1 ?_
    refine mm_ev.run mm_y79 2 rfl ?_
    refine mm_ev.val (nI_1 _) ?_
    refine mm_ev.run mm_y79 1 rfl ?_
    exact mm_ev.ret mm_y79 rfl rfl rfl ⟨rfl, key, hm⟩
/-- what a clause leaves -/
def rL (q n : Nat) (tx : Nat → Int32) (g : Int32) (kk : Nat) (FA FB : Nat → Int32) (cs : List Nat) (z : Bool × Nat × (Nat × Int32 × List Nat)) (μ' : mm_M) : Prop :=
  if z.1 = true then (if z.2.2.1 = 2 then rP q n tx z.2.2.2.1 kk FA FB z.2.1 cs μ' else rP q n tx g (kk + 1) (upd FA kk (if z.2.2.1 = 0 then z.2.2.2.1 else - z.2.2.2.1)) (upd FB kk (nI (cs.length + z.2.2.2.2.length))) z.2.1 (cs ++ z.2.2.2.2) μ') else ∃ cs', rP q n tx g kk FA FB z.2.1 cs' μ'
theorem rL_f {c : Nat × Int32 × List Nat} (h : rP q n tx g kk FA FB a cs μ) {ds : List Nat} : rL q n tx g kk FA FB ds (false, a, c) μ := by
  unfold rL
  rw [if_neg (by simp)]
  exact ⟨cs, h⟩
theorem rP.gr (h : rP q n tx g kk FA FB a cs μ) (hq : q6 q) (x : Int32) : rP q n tx x kk FA FB a cs (mm_sI μ q (upd (μ.1 q) 0 x)) := by
  have := hq.r
  obtain ⟨⟨h1, h2, h3, h4⟩, ⟨h5, h6, h7⟩, h8, h9, h10⟩ := h
  refine ⟨⟨by rw [sI_ne (by omega)]; exact h1, by rw [sI_ne (by omega)]; exact h2, h3, fun i hi => by rw [sI_ne (by omega)]; exact h4 i hi⟩, ⟨by rw [sI_eq, upd_eq], by rw [sI_eq]; exact h6, by rw [sI_eq]; exact h7⟩, by rw [sI_ne (by omega)]; exact h8, by rw [sI_ne (by omega)]; exact h9, by rw [sI_ne (by omega)]; exact h10⟩
set_option maxRecDepth 100000 in
theorem C60 (hq6 : q6 q) (h : rP q n tx g kk FA FB a cs μ) (ht : okT n tx) (ha : a ≤ n) : mm_call la_C (d + 5) 60 [.ref 66] μ (fun v μ' => v = some (.int (bI ((pW n tx (pwd 2) a).1 = true ∧ (pM n tx (pW n tx (pwd 2) a).2).1 = true))) ∧ rP q n tx (if (pW n tx (pwd 2) a).1 = true ∧ (pM n tx (pW n tx (pwd 2) a).2).1 = true then nI (pM n tx (pW n tx (pwd 2) a).2).2.2 else g) kk FA FB (if (pW n tx (pwd 2) a).1 = true then (pM n tx (pW n tx (pwd 2) a).2).2.1 else (pW n tx (pwd 2) a).2) cs μ' ∧ mf (rd q) μ μ') := by
  obtain ⟨w1, w2⟩ := pW_le (n := n) (tx := tx) (pwd 2) a ha (pwd_ok _)
  have K := C61 (d := d) hq6 h ht ha (w := 2) (by decide)
  by_cases h1 : (pW n tx (pwd 2) a).1 = true
  · rw [if_pos h1]
    rw [bI_1 (p := (pW n tx (pwd 2) a).1 = true) h1] at K
    by_cases h2 : (pM n tx (pW n tx (pwd 2) a).2).1 = true
    · rw [if_pos (⟨h1, h2⟩ : _ ∧ _), bI_1 (p := _ ∧ _) ⟨h1, h2⟩]
      refine mm_call.of mm_t60 ?_
      refine mm_ev.run mm_y60 2 rfl ?_
      refine mm_ev.call mm_y60 rfl rfl rfl rfl rfl K (fun v1 μ1 hq => ?_)
      obtain ⟨rfl, e1, e2⟩ := hq
      refine mm_ev.run mm_y60 1 rfl ?_
      refine mm_ev.neg (by decide) ?_
      have K2 := C63 (d := d + 4) hq6 e1 ht w2
      rw [bI_1 (p := (pM n tx (pW n tx (pwd 2) a).2).1 = true) h2] at K2
      refine mm_ev.run mm_y60 1 rfl ?_
      refine mm_ev.call mm_y60 rfl rfl rfl rfl rfl K2 (fun v1 μ1 hq => ?_)
      obtain ⟨rfl, e3, e4, e5⟩ := hq
      refine mm_ev.run mm_y60 1 rfl ?_
      refine mm_ev.neg (by decide) ?_
      refine mm_ev.run mm_y60 2 rfl ?_
      refine mm_ev.vav e3.into ?_
      refine mm_ev.run mm_y60 2 rfl ?_
      refine mm_ev.val e4 ?_
      have fin := e3.gr hq6 (nI (pM n tx (pW n tx (pwd 2) a).2).2.2)
      have hm := ((e2.tr e5).sI (q := q) (f := upd (μ1.1 q) 0 (nI (pM n tx (pW n tx (pwd 2) a).2).2.2)) (Or.inr ⟨Nat.le_refl _, by omega⟩))
      rcases hq6 with rfl | rfl | rfl | rfl | rfl | rfl
      all_goals
        refine mm_ev.run mm_y60 2 rfl ?_
        exact mm_ev.ret mm_y60 rfl rfl rfl ⟨rfl, fin, hm⟩
    · rw [if_neg (fun z => h2 (And.right z)), bI_0 (p := _ ∧ _) (fun z => h2 z.2)]
      refine mm_call.of mm_t60 ?_
      refine mm_ev.run mm_y60 2 rfl ?_
      refine mm_ev.call mm_y60 rfl rfl rfl rfl rfl K (fun v1 μ1 hq => ?_)
      obtain ⟨rfl, e1, e2⟩ := hq
      refine mm_ev.run mm_y60 1 rfl ?_
      refine mm_ev.neg (by decide) ?_
      have K2 := C63 (d := d + 4) hq6 e1 ht w2
      rw [bI_0 (p := (pM n tx (pW n tx (pwd 2) a).2).1 = true) h2] at K2
      refine mm_ev.run mm_y60 1 rfl ?_
      refine mm_ev.call mm_y60 rfl rfl rfl rfl rfl K2 (fun v1 μ1 hq => ?_)
      obtain ⟨rfl, e3, e4, e5⟩ := hq
      refine mm_ev.run mm_y60 1 rfl ?_
      refine mm_ev.pos rfl ?_
      refine mm_ev.run mm_y60 1 rfl ?_
      exact mm_ev.ret mm_y60 rfl rfl rfl ⟨rfl, e3, e2.tr e5⟩
  · rw [if_neg h1, if_neg (fun z => h1 (And.left z)), bI_0 (p := _ ∧ _) (fun z => h1 z.1)]
    rw [bI_0 (p := (pW n tx (pwd 2) a).1 = true) h1] at K
    refine mm_call.of mm_t60 ?_
    refine mm_ev.run mm_y60 2 rfl ?_
    refine mm_ev.call mm_y60 rfl rfl rfl rfl rfl K (fun v1 μ1 hq => ?_)
    obtain ⟨rfl, e1, e2⟩ := hq
    refine mm_ev.run mm_y60 1 rfl ?_
    refine mm_ev.pos rfl ?_
    refine mm_ev.run mm_y60 1 rfl ?_
    exact mm_ev.ret mm_y60 rfl rfl rfl ⟨rfl, e1, e2⟩
set_option maxRecDepth 100000 in
theorem C58_r (hq6 : q6 q) (h : rP q n tx g kk FA FB a cs μ) (ht : okT n tx) (ha : a ≤ n) (hc : cs.length ≤ a) (hk : kk < 10) {w : Nat} (hw : w = 0 ∨ w = 1) (ew : pw n tx a = w) : mm_ev la_C (d + 21) 58 21 [some (.ref 66), some (.int (bI (w = 0))), none] [.ref (3 + w), .ref 66] μ (fun v μ' => v = some (.int (bI ((pC n tx a).1 = true))) ∧ rL q n tx g kk FA FB cs (pC n tx a) μ' ∧ mf (rd q) μ μ') := by
  obtain ⟨w1, w2⟩ := pW_le (n := n) (tx := tx) (pwd w) a ha (pwd_ok _)
  obtain ⟨m1, m2, m3, m4⟩ := pM_le (tx := tx) w2
  have K := C61 (d := d + 16) hq6 h ht ha (w := w) (by omega)
  have eneg : ∀ m : Nat, (if w = 0 then nI m else - nI m) = (if w = 0 then nI m else - nI m) := fun _ => rfl
  unfold pC
  rw [ew]
  by_cases h1 : (pW n tx (pwd w) a).1 = true
  · rw [if_pos h1]
    rw [bI_1 (p := (pW n tx (pwd w) a).1 = true) h1] at K
    by_cases h2 : (pM n tx (pW n tx (pwd w) a).2).1 = true
    · rw [if_pos h2, if_neg (show ¬ w = 2 by omega)]
      have step : ∀ (x : Int32) (μ1 : mm_M), x = (if w = 0 then nI (pM n tx (pW n tx (pwd w) a).2).2.2 else - nI (pM n tx (pW n tx (pwd w) a).2).2.2) → rP q n tx g kk FA FB (pM n tx (pW n tx (pwd w) a).2).2.1 cs μ1 → mf (rd q) μ μ1 → mm_ev la_C (d + 21) 58 36 [some (.ref 66), some (.int (bI (w = 0))), none] [.int x] μ1 (fun v μ' => v = some (.int (bI ((if pN n tx (pM n tx (pW n tx (pwd w) a).2).2.1 = 32 then ((pE n tx (pF n tx 4) ((pM n tx (pW n tx (pwd w) a).2).2.1 + 1)).1, (pE n tx (pF n tx 4) ((pM n tx (pW n tx (pwd w) a).2).2.1 + 1)).2.1, (w, nI (pM n tx (pW n tx (pwd w) a).2).2.2, (pE n tx (pF n tx 4) ((pM n tx (pW n tx (pwd w) a).2).2.1 + 1)).2.2)) else (false, (pM n tx (pW n tx (pwd w) a).2).2.1, (3, 0, []))).1 = true))) ∧ rL q n tx g kk FA FB cs (if pN n tx (pM n tx (pW n tx (pwd w) a).2).2.1 = 32 then ((pE n tx (pF n tx 4) ((pM n tx (pW n tx (pwd w) a).2).2.1 + 1)).1, (pE n tx (pF n tx 4) ((pM n tx (pW n tx (pwd w) a).2).2.1 + 1)).2.1, (w, nI (pM n tx (pW n tx (pwd w) a).2).2.2, (pE n tx (pF n tx 4) ((pM n tx (pW n tx (pwd w) a).2).2.1 + 1)).2.2)) else (false, (pM n tx (pW n tx (pwd w) a).2).2.1, (3, 0, []))) μ' ∧ mf (rd q) μ μ') := by
        intro x μ1 hx e1 hm
        have K3 := C62 (d := d + 19) hq6 e1 ht m2 32
        by_cases h4 : pN n tx (pM n tx (pW n tx (pwd w) a).2).2.1 = 32
        · have hlt := pN_lt h4 (by decide)
          rw [if_pos h4, bI_1 (p := _ = _) h4] at K3
          rw [if_pos h4]
          refine mm_ev.run mm_y58 3 rfl ?_
          refine mm_ev.call mm_y58 rfl rfl rfl rfl rfl K3 (fun v1 μ1 hq => ?_)
          obtain ⟨rfl, e3, e4⟩ := hq
          refine mm_ev.run mm_y58 1 rfl ?_
          refine mm_ev.neg (by decide) ?_
          have hG := pF_G (n := n) (tx := tx) 4
          have hF1 := fun a cs μ1 (ha : a ≤ n) (hc : cs.length ≤ a) (h : rP q n tx g kk FA FB a cs μ1) => C66 hq6 ht 4 d 0 a cs μ1 (by omega) ha hc h
          have hF := (C64 hq6 ht (pJ_G hG (by decide) (Or.inl rfl)) (C65 hq6 ht hG hF1) ((pM n tx (pW n tx (pwd w) a).2).2.1 + 1) cs _ hlt (by omega) e3)
          have eE : pJ n tx (pJ n tx (pF n tx 4) 38 1) 124 2 ((pM n tx (pW n tx (pwd w) a).2).2.1 + 1) = pE n tx (pF n tx 4) ((pM n tx (pW n tx (pwd w) a).2).2.1 + 1) := rfl
          rw [eE] at hF
          have hF := hF.deep (show d + 5 + 3 * 4 + 1 + 1 ≤ d + 20 by omega)
          unfold rQ at hF
          by_cases h5 : (pE n tx (pF n tx 4) ((pM n tx (pW n tx (pwd w) a).2).2.1 + 1)).1 = true
          · rw [bI_1 (p := (pE n tx (pF n tx 4) ((pM n tx (pW n tx (pwd w) a).2).2.1 + 1)).1 = true) h5] at hF ⊢
            refine mm_ev.run mm_y58 2 rfl ?_
            refine mm_ev.call mm_y58 rfl rfl rfl rfl rfl hF (fun v1 μ1 hq => ?_)
            obtain ⟨rfl, e5, e6⟩ := hq
            refine mm_ev.run mm_y58 1 rfl ?_
            refine mm_ev.neg (by decide) ?_
            refine mm_ev.run mm_y58 2 rfl ?_
            refine mm_ev.vav e5.into ?_
            refine mm_ev.run mm_y58 1 rfl ?_
            refine mm_ev.call mm_y58 rfl rfl rfl rfl (by rcases hq6 with rfl | rfl | rfl | rfl | rfl | rfl <;> rfl) (C79 hq6 e5 hk x) (fun v1 μ1 hq => ?_)
            obtain ⟨rfl, e7, e8⟩ := hq
            have fin : rL q n tx g kk FA FB cs ((pE n tx (pF n tx 4) ((pM n tx (pW n tx (pwd w) a).2).2.1 + 1)).1, (pE n tx (pF n tx 4) ((pM n tx (pW n tx (pwd w) a).2).2.1 + 1)).2.1, (w, nI (pM n tx (pW n tx (pwd w) a).2).2.2, (pE n tx (pF n tx 4) ((pM n tx (pW n tx (pwd w) a).2).2.1 + 1)).2.2)) μ1 := by
              unfold rL
              rw [if_pos h5, if_neg (show ¬ w = 2 by omega)]
              rw [hx, List.length_append] at e7
              exact e7
            refine mm_ev.run mm_y58 1 rfl ?_
            exact mm_ev.ret mm_y58 rfl rfl rfl ⟨rfl, fin, ((hm.tr e4).tr e6).tr e8⟩
          · rw [bI_0 (p := (pE n tx (pF n tx 4) ((pM n tx (pW n tx (pwd w) a).2).2.1 + 1)).1 = true) h5] at hF ⊢
            refine mm_ev.run mm_y58 2 rfl ?_
            refine mm_ev.call mm_y58 rfl rfl rfl rfl rfl hF (fun v1 μ1 hq => ?_)
            obtain ⟨rfl, e5, e6⟩ := hq
            refine mm_ev.run mm_y58 1 rfl ?_
            refine mm_ev.pos rfl ?_
            have fin : rL q n tx g kk FA FB cs ((pE n tx (pF n tx 4) ((pM n tx (pW n tx (pwd w) a).2).2.1 + 1)).1, (pE n tx (pF n tx 4) ((pM n tx (pW n tx (pwd w) a).2).2.1 + 1)).2.1, (w, nI (pM n tx (pW n tx (pwd w) a).2).2.2, (pE n tx (pF n tx 4) ((pM n tx (pW n tx (pwd w) a).2).2.1 + 1)).2.2)) μ1 := by
              unfold rL
              rw [if_neg h5]
              exact ⟨_, e5⟩
            refine mm_ev.run mm_y58 1 rfl ?_
            exact mm_ev.ret mm_y58 rfl rfl rfl ⟨rfl, fin, (hm.tr e4).tr e6⟩
        · rw [if_neg h4, bI_0 (p := _ = _) h4] at K3
          rw [if_neg h4]
          refine mm_ev.run mm_y58 3 rfl ?_
          refine mm_ev.call mm_y58 rfl rfl rfl rfl rfl K3 (fun v1 μ1 hq => ?_)
          obtain ⟨rfl, e3, e4⟩ := hq
          refine mm_ev.run mm_y58 1 rfl ?_
          refine mm_ev.pos rfl ?_
          refine mm_ev.run mm_y58 1 rfl ?_
          exact mm_ev.ret mm_y58 rfl rfl rfl ⟨rfl, rL_f e3, hm.tr e4⟩
      refine mm_ev.call mm_y58 rfl rfl rfl rfl rfl K (fun v1 μ1 hq => ?_)
      obtain ⟨rfl, e1, e2⟩ := hq
      refine mm_ev.run mm_y58 1 rfl ?_
      refine mm_ev.neg (by decide) ?_
      have K2 := C63 (d := d + 20) hq6 e1 ht w2
      rw [bI_1 (p := (pM n tx (pW n tx (pwd w) a).2).1 = true) h2] at K2
      refine mm_ev.run mm_y58 1 rfl ?_
      refine mm_ev.call mm_y58 rfl rfl rfl rfl rfl K2 (fun v1 μ1 hq => ?_)
      obtain ⟨rfl, e3, e4, e5⟩ := hq
      refine mm_ev.run mm_y58 1 rfl ?_
      refine mm_ev.neg (by decide) ?_
      refine mm_ev.run mm_y58 2 rfl ?_
      refine mm_ev.ifb (fun h6 => ?_) (fun h6 => ?_)
      · refine mm_ev.run mm_y58 2 rfl ?_
        refine mm_ev.val e4 ?_
        refine mm_ev.run mm_y58 1 rfl ?_
        exact step _ _ (by rw [if_neg h6]) e3 (e2.tr e5)
      · refine mm_ev.run mm_y58 2 rfl ?_
        refine mm_ev.val e4 ?_
        refine mm_ev.run mm_y58 1 rfl ?_
        exact step _ _ (by rw [if_pos h6]) e3 (e2.tr e5)
    · rw [if_neg h2, bI_0 (p := (false, (pM n tx (pW n tx (pwd w) a).2).2.1, ((3, 0, []) : Nat × Int32 × List Nat)).1 = true) (by simp)]
      refine mm_ev.call mm_y58 rfl rfl rfl rfl rfl K (fun v1 μ1 hq => ?_)
      obtain ⟨rfl, e1, e2⟩ := hq
      refine mm_ev.run mm_y58 1 rfl ?_
      refine mm_ev.neg (by decide) ?_
      have K2 := C63 (d := d + 20) hq6 e1 ht w2
      rw [bI_0 (p := (pM n tx (pW n tx (pwd w) a).2).1 = true) h2] at K2
      refine mm_ev.run mm_y58 1 rfl ?_
      refine mm_ev.call mm_y58 rfl rfl rfl rfl rfl K2 (fun v1 μ1 hq => ?_)
      obtain ⟨rfl, e3, e4, e5⟩ := hq
      refine mm_ev.run mm_y58 1 rfl ?_
      refine mm_ev.pos rfl ?_
      refine mm_ev.run mm_y58 1 rfl ?_
      exact mm_ev.ret mm_y58 rfl rfl rfl ⟨rfl, rL_f e3, e2.tr e5⟩
  · rw [if_neg h1, bI_0 (p := (false, (pW n tx (pwd w) a).2, ((3, 0, []) : Nat × Int32 × List Nat)).1 = true) (by simp)]
    rw [bI_0 (p := (pW n tx (pwd w) a).1 = true) h1] at K
    refine mm_ev.call mm_y58 rfl rfl rfl rfl rfl K (fun v1 μ1 hq => ?_)
    obtain ⟨rfl, e1, e2⟩ := hq
    refine mm_ev.run mm_y58 1 rfl ?_
    refine mm_ev.pos rfl ?_
    refine mm_ev.run mm_y58 1 rfl ?_
    exact mm_ev.ret mm_y58 rfl rfl rfl ⟨rfl, rL_f e1, e2⟩
set_option maxRecDepth 100000 in
theorem C58 (hq6 : q6 q) (h : rP q n tx g kk FA FB a cs μ) (ht : okT n tx) (ha : a ≤ n) (hc : cs.length ≤ a) (hk : kk < 10) : mm_call la_C (d + 21) 58 [.ref 66] μ (fun v μ' => v = some (.int (bI ((pC n tx a).1 = true))) ∧ rL q n tx g kk FA FB cs (pC n tx a) μ' ∧ mf (rd q) μ μ') := by
  have hN := C59 (d := d + 20) h ht ha
  refine mm_call.of mm_t58 ?_
  refine mm_ev.run mm_y58 1 rfl ?_
  refine mm_ev.call mm_y58 rfl rfl rfl rfl rfl hN (fun v1 μ1 hq => ?_)
  obtain ⟨rfl, hμ⟩ := hq
  obtain rfl := hμ.symm
  refine mm_ev.run mm_y58 2 rfl ?_
  refine mm_ev.ite (fun h1 => ?_) (fun h1 => ?_)
  · have ew : pw n tx a = 2 := by unfold pw; rw [if_pos h1]
    have K := C60 (d := d + 15) hq6 h ht ha
    unfold pC
    rw [ew]
    by_cases h2 : (pW n tx (pwd 2) a).1 = true
    · rw [if_pos h2] at K ⊢
      by_cases h3 : (pM n tx (pW n tx (pwd 2) a).2).1 = true
      · rw [if_pos (⟨h2, h3⟩ : _ ∧ _), bI_1 (p := _ ∧ _) ⟨h2, h3⟩] at K
        rw [if_pos h3, if_pos rfl]
        refine mm_ev.run mm_y58 1 rfl ?_
        refine mm_ev.call mm_y58 rfl rfl rfl rfl rfl K (fun v1 μ1 hq => ?_)
        obtain ⟨rfl, e1, e2⟩ := hq
        have fin : rL q n tx g kk FA FB cs (true, (pM n tx (pW n tx (pwd 2) a).2).2.1, (2, nI (pM n tx (pW n tx (pwd 2) a).2).2.2, [])) μ1 := by
          unfold rL
          rw [if_pos rfl, if_pos rfl]
          exact e1
        exact mm_ev.ret mm_y58 rfl rfl rfl ⟨rfl, fin, e2⟩
      · rw [if_neg (fun z => h3 (And.right z)), bI_0 (p := _ ∧ _) (fun z => h3 z.2)] at K
        rw [if_neg h3]
        refine mm_ev.run mm_y58 1 rfl ?_
        refine mm_ev.call mm_y58 rfl rfl rfl rfl rfl K (fun v1 μ1 hq => ?_)
        obtain ⟨rfl, e1, e2⟩ := hq
        exact mm_ev.ret mm_y58 rfl rfl rfl ⟨rfl, rL_f e1, e2⟩
    · rw [if_neg h2, if_neg (fun z => h2 (And.left z)), bI_0 (p := _ ∧ _) (fun z => h2 z.1)] at K
      rw [if_neg h2]
      refine mm_ev.run mm_y58 1 rfl ?_
      refine mm_ev.call mm_y58 rfl rfl rfl rfl rfl K (fun v1 μ1 hq => ?_)
      obtain ⟨rfl, e1, e2⟩ := hq
      exact mm_ev.ret mm_y58 rfl rfl rfl ⟨rfl, rL_f e1, e2⟩
  · refine mm_ev.run mm_y58 1 rfl ?_
    refine mm_ev.call mm_y58 rfl rfl rfl rfl rfl hN (fun v1 μ1 hq => ?_)
    obtain ⟨rfl, hμ⟩ := hq
    obtain rfl := hμ.symm
    refine mm_ev.run mm_y58 2 rfl ?_
    refine mm_ev.ite (fun h2 => ?_) (fun h2 => ?_)
    · have ew : pw n tx a = 0 := by unfold pw; rw [if_neg h1, if_pos h2]
      refine mm_ev.run mm_y58 6 rfl ?_
      refine mm_ev.neg (by decide) ?_
      refine mm_ev.run mm_y58 2 rfl ?_
      exact C58_r hq6 h ht ha hc hk (Or.inl rfl) ew
    · have ew : pw n tx a = 1 := by unfold pw; rw [if_neg h1, if_neg h2]
      refine mm_ev.run mm_y58 5 rfl ?_
      refine mm_ev.pos rfl ?_
      refine mm_ev.run mm_y58 1 rfl ?_
      exact C58_r hq6 h ht ha hc hk (Or.inr rfl) ew
end
