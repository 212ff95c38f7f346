/-! THE CLASS'S ROWS -/
/-- rows told by hand: how many, their numbers -/
abbrev sR : Type := Nat × (Nat → Nat → Int32)
/-- what the image holds: the globe, the rows seen, planned, booked -/
abbrev sK : Type := sG × sR × sR × sR
def rR (q : Nat) (r : sR) (μ : mm_M) : Prop := μ.1 q 3 = nI r.1 ∧ ∀ k i, k < 3 → i < r.1 → μ.1 (q + 1 + k) i = r.2 k i
def rK (b : Nat) (K : sK) (μ : mm_M) : Prop := sG_c b K.1 μ ∧ rR (b + 8) K.2.1 μ ∧ rR (b + 12) K.2.2.1 μ ∧ rR (b + 16) K.2.2.2 μ
def sp_add (r : sR) (x y z : Int32) : sR := (r.1 + 1, fun k => match k with
  | 0 => upd (r.2 0) r.1 x
  | 1 => upd (r.2 1) r.1 y
  | 2 => upd (r.2 2) r.1 z
  | k => r.2 k)
section
variable {q : Nat} {r : sR} {μ μ' : mm_M} {b : Nat} {K : sK}
theorem rR.n (h : rR q r μ) : μ.1 q 3 = nI r.1 := h.1
theorem rR.fa (h : rR q r μ) {i : Nat} (hi : i < r.1) : μ.1 (q + 1) i = r.2 0 i := h.2 0 i (by decide) hi
theorem rR.fb (h : rR q r μ) {i : Nat} (hi : i < r.1) : μ.1 (q + 2) i = r.2 1 i := h.2 1 i (by decide) hi
theorem rR.fc (h : rR q r μ) {i : Nat} (hi : i < r.1) : μ.1 (q + 3) i = r.2 2 i := h.2 2 i (by decide) hi
theorem rR.fr {P : Nat → Prop} (h : rR q r μ) (hf : mf P μ μ') (hP : ∀ c, P c → ¬ (q ≤ c ∧ c ≤ q + 3)) : rR q r μ' := by
  refine ⟨by rw [(hf q (fun z => hP q z ⟨Nat.le_refl _, by omega⟩)).1]; exact h.1, fun k i hk hi => ?_⟩
  rw [(hf _ (fun z => hP _ z ⟨by omega, by omega⟩)).1]
  exact h.2 k i hk hi
theorem sG_c.fr2 {P : Nat → Prop} {g : sG} (h : sG_c b g μ) (hf : mf P μ μ') (hP : ∀ c, P c → ¬ (b ≤ c ∧ c ≤ b + 6)) : sG_c b g μ' :=
  h.fr (fun c h1 h2 => (hf c (fun z => hP c z ⟨h1, h2⟩)).1) (hf b (fun z => hP b z ⟨Nat.le_refl _, by omega⟩)).2.2
theorem rK.fr {P : Nat → Prop} (h : rK b K μ) (hf : mf P μ μ') (hP : ∀ c, P c → ¬ (b ≤ c ∧ c ≤ b + 6) ∧ ¬ (b + 8 ≤ c ∧ c ≤ b + 19)) : rK b K μ' :=
  ⟨h.1.fr2 hf (fun c z => (hP c z).1), h.2.1.fr hf (fun c z => by have := hP c z; omega), h.2.2.1.fr hf (fun c z => by have := hP c z; omega), h.2.2.2.fr hf (fun c z => by have := hP c z; omega)⟩
end
section
variable {d : Nat} {μ : mm_M} {q q1 q2 : Nat} {r : sR}
theorem rR_0 : rR q (0, r.2) (mm_sI μ q (upd (μ.1 q) 3 0)) := ⟨by rw [sI_eq, upd_eq]; rfl, fun k i _ hi => absurd hi (by simp)⟩
set_option maxRecDepth 100000 in
theorem C70 (hq : q = 24 ∨ q = 28 ∨ q = 32) : mm_call la_C d 70 [.ref q] μ (fun v μ' => v = some (.int 0) ∧ μ' = mm_sI μ q (upd (μ.1 q) 3 0)) := by
  rcases hq with rfl | rfl | rfl
  all_goals
    refine mm_call.of mm_t70 ?_
    refine mm_ev.run mm_y70 4 rfl ?_
    exact mm_ev.ret mm_y70 rfl rfl rfl ⟨rfl, rfl⟩
theorem rR_add {x y z : Int32} {f1 f2 f3 f0 : Nat → Int32} (h : rR q r μ) (h1 : f1 = upd (μ.1 (q + 1)) r.1 x) (h2 : f2 = upd (μ.1 (q + 2)) r.1 y) (h3 : f3 = upd (μ.1 (q + 3)) r.1 z) (h0 : f0 = upd (μ.1 q) 3 (nI (r.1 + 1))) : rR q (sp_add r x y z) (mm_sI (mm_sI (mm_sI (mm_sI μ (q + 1) f1) (q + 2) f2) (q + 3) f3) q f0) ∧ mf (fun c => q ≤ c ∧ c ≤ q + 3) μ (mm_sI (mm_sI (mm_sI (mm_sI μ (q + 1) f1) (q + 2) f2) (q + 3) f3) q f0) := by
  subst h1 h2 h3 h0
  refine ⟨⟨by rw [sI_eq, upd_eq]; rfl, fun k i hk hi => ?_⟩, (((mf.rf.sI ⟨by omega, by omega⟩).sI ⟨by omega, by omega⟩).sI ⟨by omega, by omega⟩).sI ⟨by omega, by omega⟩⟩
  rcases (show k = 0 ∨ k = 1 ∨ k = 2 by omega) with rfl | rfl | rfl
  · rw [sI_ne (by omega), sI_ne (by omega), sI_ne (by omega)]
    show (mm_sI _ (q + 1) _).1 (q + 1) i = _
    rw [sI_eq]
    exact upd_co1 (fun i hi => h.fa hi) i hi
  · rw [sI_ne (by omega), sI_ne (by omega)]
    show (mm_sI _ (q + 2) _).1 (q + 2) i = _
    rw [sI_eq]
    exact upd_co1 (fun i hi => h.fb hi) i hi
  · rw [sI_ne (by omega)]
    show (mm_sI _ (q + 3) _).1 (q + 3) i = _
    rw [sI_eq]
    exact upd_co1 (fun i hi => h.fc hi) i hi
set_option maxRecDepth 100000 in
theorem C71 {l : Nat} (hq : (q = 24 ∧ l = 5) ∨ (q = 28 ∧ l = 10) ∨ (q = 32 ∧ l = 8)) (h : rR q r μ) (hl : r.1 ≤ l) (x y z : Int32) : mm_call la_C d 71 [.ref q, .int x, .int y, .int z] μ (fun v μ' => (r.1 = l ∧ v = some (.int (-4)) ∧ μ' = μ) ∨ (r.1 < l ∧ v = some (.int (nI (r.1 + 1))) ∧ rR q (sp_add r x y z) μ' ∧ mf (fun c => q ≤ c ∧ c ≤ q + 3) μ μ')) := by
  have hn := h.n
  have key := fun f0 e0 => rR_add (f0 := f0) (x := x) (y := y) (z := z) h rfl rfl rfl e0
  rcases hq with ⟨rfl, rfl⟩ | ⟨rfl, rfl⟩ | ⟨rfl, rfl⟩
  all_goals
    refine mm_call.of mm_t71 ?_
    refine mm_ev.run mm_y71 2 rfl ?_
    refine mm_ev.val hn ?_
    refine mm_ev.run mm_y71 3 rfl ?_
    refine mm_ev.run mm_y71 1 rfl ?_
    refine mm_ev.ite (fun h => ?_) (fun h => ?_)
    · have h7 := (nI_ltI (by omega) (by decide)).mp h
      refine mm_ev.run mm_y71 4 rfl ?_
      refine mm_ev.val hn ?_
      refine mm_ev.run mm_y71 1 rfl ?_
      refine mm_ev.ist mm_y71 rfl rfl rfl rfl rfl (by omega) (by decide) ?_
      refine mm_ev.run mm_y71 4 rfl ?_
      refine mm_ev.val hn ?_
      refine mm_ev.run mm_y71 1 rfl ?_
      refine mm_ev.ist mm_y71 rfl rfl rfl rfl rfl (by omega) (by decide) ?_
      refine mm_ev.run mm_y71 4 rfl ?_
      refine mm_ev.val hn ?_
      refine mm_ev.run mm_y71 1 rfl ?_
      refine mm_ev.ist mm_y71 rfl rfl rfl rfl rfl (by omega) (by decide) ?_
      refine mm_ev.run mm_y71 3 rfl ?_
      refine mm_ev.val hn ?_
      refine mm_ev.run mm_y71 3 rfl ?_
      refine mm_ev.run mm_y71 2 rfl ?_
      refine mm_ev.val (show nI r.1 + 1 = nI (r.1 + 1) from (nI_succ r.1).symm) ?_
      exact mm_ev.ret mm_y71 rfl rfl rfl (Or.inr ⟨h7, rfl, key _ (by rw [nI_succ]; rfl)⟩)
    · have h7 : ¬ r.1 < _ := fun hz => h (nI_lt hz (by decide))
      refine mm_ev.run mm_y71 1 rfl ?_
      exact mm_ev.ret mm_y71 rfl rfl rfl (Or.inl ⟨by omega, rfl, rfl⟩)
theorem rR_cp {l : Nat} {f1 f2 f3 f0 : Nat → Int32} (h : rR q2 r μ) (hl : r.1 ≤ l) (h1 : f1 = va_cpy (μ.1 (q2 + 1)) (μ.1 (q1 + 1)) 0 0 l) (h2 : f2 = va_cpy (μ.1 (q2 + 2)) (μ.1 (q1 + 2)) 0 0 l) (h3 : f3 = va_cpy (μ.1 (q2 + 3)) (μ.1 (q1 + 3)) 0 0 l) (h0 : f0 = upd (μ.1 q1) 3 (μ.1 q2 3)) : rR q1 r (mm_sI (mm_sI (mm_sI (mm_sI μ q1 f0) (q1 + 1) f1) (q1 + 2) f2) (q1 + 3) f3) ∧ mf (fun c => q1 ≤ c ∧ c ≤ q1 + 3) μ (mm_sI (mm_sI (mm_sI (mm_sI μ q1 f0) (q1 + 1) f1) (q1 + 2) f2) (q1 + 3) f3) := by
  subst h1 h2 h3 h0
  refine ⟨⟨by rw [sI_ne (by omega), sI_ne (by omega), sI_ne (by omega), sI_eq, upd_eq]; exact h.1, fun k i hk hi => ?_⟩, (((mf.rf.sI ⟨by omega, by omega⟩).sI ⟨by omega, by omega⟩).sI ⟨by omega, by omega⟩).sI ⟨by omega, by omega⟩⟩
  rcases (show k = 0 ∨ k = 1 ∨ k = 2 by omega) with rfl | rfl | rfl
  · rw [sI_ne (by omega), sI_ne (by omega)]
    show (mm_sI _ (q1 + 1) _).1 (q1 + 1) i = _
    rw [sI_eq, va_cpy0 (by omega)]
    exact h.fa hi
  · rw [sI_ne (by omega)]
    show (mm_sI _ (q1 + 2) _).1 (q1 + 2) i = _
    rw [sI_eq, va_cpy0 (by omega)]
    exact h.fb hi
  · show (mm_sI _ (q1 + 3) _).1 (q1 + 3) i = _
    rw [sI_eq, va_cpy0 (by omega)]
    exact h.fc hi
set_option maxRecDepth 100000 in
theorem C72 {l : Nat} (hq : (q1 = 24 ∧ q2 = 45 ∧ l = 5) ∨ (q1 = 28 ∧ q2 = 49 ∧ l = 10) ∨ (q1 = 32 ∧ q2 = 53 ∧ l = 8) ∨ (q1 = 45 ∧ q2 = 24 ∧ l = 5) ∨ (q1 = 49 ∧ q2 = 28 ∧ l = 10) ∨ (q1 = 53 ∧ q2 = 32 ∧ l = 8)) (h : rR q2 r μ) (hl : r.1 ≤ l) : mm_call la_C d 72 [.ref q1, .ref q2] μ (fun v μ' => v = none ∧ rR q1 r μ' ∧ mf (fun c => q1 ≤ c ∧ c ≤ q1 + 3) μ μ') := by
  have key := rR_cp (q1 := q1) h hl rfl rfl rfl rfl
  rcases hq with ⟨rfl, rfl, rfl⟩ | ⟨rfl, rfl, rfl⟩ | ⟨rfl, rfl, rfl⟩ | ⟨rfl, rfl, rfl⟩ | ⟨rfl, rfl, rfl⟩ | ⟨rfl, rfl, rfl⟩
  all_goals
    refine mm_call.of mm_t72 ?_
    refine mm_ev.run mm_y72 34 rfl ?_
    exact mm_ev.ret mm_y72 rfl rfl rfl ⟨rfl, key⟩
end
section
variable {d : Nat} {μ : mm_M} {K : sK} {b1 b2 : Nat}
/-- sizes that fit -/
def okK (K : sK) : Prop := K.1.1 ≤ 6 ∧ K.2.1.1 ≤ 5 ∧ K.2.2.1.1 ≤ 10 ∧ K.2.2.2.1 ≤ 8
set_option maxRecDepth 100000 in
theorem C25 (hb : (b1 = 16 ∧ b2 = 37) ∨ (b1 = 37 ∧ b2 = 16)) (h : rK b2 K μ) (ho : okK K) : mm_call la_C (d + 1) 25 [.ref (b1 - 1), .ref (b2 - 1)] μ (fun v μ' => v = none ∧ rK b1 K μ' ∧ mf (fun c => b1 ≤ c ∧ c ≤ b1 + 19) μ μ') := by
  obtain ⟨o1, o2, o3, o4⟩ := ho
  have k1 := C36 (d := d) (b1 := b1) (b2 := b2) (by omega) h.1 o1
  rcases hb with ⟨rfl, rfl⟩ | ⟨rfl, rfl⟩
  all_goals
    refine mm_call.of mm_t25 ?_
    refine mm_ev.run mm_y25 4 rfl ?_
    refine mm_ev.call mm_y25 rfl rfl rfl rfl rfl k1 (fun v1 μ1 hq => ?_)
    obtain ⟨rfl, e1, m1⟩ := hq
    have h1 := h.fr m1 (fun c hc => by omega)
    refine mm_ev.run mm_y25 4 rfl ?_
    refine mm_ev.call mm_y25 rfl rfl rfl rfl rfl (C72 (by decide) h1.2.1 o2) (fun v1 μ1 hq => ?_)
    obtain ⟨rfl, e2, m2⟩ := hq
    have h2 := h1.fr m2 (fun c hc => by omega)
    refine mm_ev.run mm_y25 4 rfl ?_
    refine mm_ev.call mm_y25 rfl rfl rfl rfl rfl (C72 (by decide) h2.2.2.1 o3) (fun v1 μ1 hq => ?_)
    obtain ⟨rfl, e3, m3⟩ := hq
    have h3 := h2.fr m3 (fun c hc => by omega)
    refine mm_ev.run mm_y25 4 rfl ?_
    refine mm_ev.call mm_y25 rfl rfl rfl rfl rfl (C72 (by decide) h3.2.2.2 o4) (fun v1 μ1 hq => ?_)
    obtain ⟨rfl, e4, m4⟩ := hq
    exact mm_ev.ret mm_y25 rfl rfl rfl ⟨rfl, ⟨((e1.fr2 m2 (fun c hc => by omega)).fr2 m3 (fun c hc => by omega)).fr2 m4 (fun c hc => by omega), (e2.fr m3 (fun c hc => by omega)).fr m4 (fun c hc => by omega), e3.fr m4 (fun c hc => by omega), e4⟩, (((m1.mono (fun c hc => by omega)).tr (m2.mono (fun c hc => by omega))).tr (m3.mono (fun c hc => by omega))).tr (m4.mono (fun c hc => by omega))⟩
end
