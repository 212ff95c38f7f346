/-! THE CLASS'S SUM -/
theorem sp_dep_c {o n n' : Nat} {r : List Nat} (h : sp_dep (o :: r) n = some n') : ∃ m, sp_dep [o] n = some m ∧ sp_dep r m = some n' := by
  rw [sp_dep] at h
  show ∃ m, (if 3 ≤ o then (if o < 1803 ∧ n < 50 then some (n + 1) else none) else if o = 0 then (if 1 ≤ n then some n else none) else if 2 ≤ n then some (n - 1) else none) = some m ∧ sp_dep r m = some n'
  by_cases h3 : 3 ≤ o
  · rw [if_pos h3] at h ⊢
    by_cases h4 : o < 1803 ∧ n < 50
    · rw [if_pos h4] at h ⊢
      exact ⟨_, rfl, h⟩
    · rw [if_neg h4] at h
      cases h
  · rw [if_neg h3] at h ⊢
    by_cases h0 : o = 0
    · rw [if_pos h0] at h ⊢
      by_cases h1 : 1 ≤ n
      · rw [if_pos h1] at h ⊢
        exact ⟨_, rfl, h⟩
      · rw [if_neg h1] at h
        cases h
    · rw [if_neg h0] at h ⊢
      by_cases h2 : 2 ≤ n
      · rw [if_pos h2] at h ⊢
        exact ⟨_, rfl, h⟩
      · rw [if_neg h2] at h
        cases h
theorem sp_rep_1 {A : Int64} {a : Bool} {s : List Bool} (h : sp_rep A (a :: s)) : lg_cmp (A &&& 1) 1 = 0 ↔ a = true := by
  rw [lg_cmp_eq]
  have h0 := h.2 0 (by simp)
  simp only [List.getElem_cons_zero] at h0
  rw [← h0]
  constructor
  · intro e
    have := congrArg (fun z : Int64 => z.toBitVec.getLsbD 0) e
    simp only [Int64.toBitVec_and, BitVec.getLsbD_and, l_one, b_one] at this
    simpa using this
  · intro e
    apply Int64.toBitVec_inj.mp
    rw [Int64.toBitVec_and, l_one]
    apply BitVec.eq_of_getLsbD_eq
    intro i hi
    rw [BitVec.getLsbD_and, b_one]
    by_cases hz : i = 0
    · subst hz; rw [e]; simp
    · simp [hz]
theorem sp_cl_n {q : Nat} {μ : mm_M} : ∀ (s : sS) (k i : Nat), sp_cl q μ s k i → ∃ m, μ.1 q 1 = nI m ∧ k ≤ m ∧ m ≤ 10 := by
  intro s
  induction s with
  | nil => intro k i h; exact ⟨k, h.1, Nat.le_refl _, h.2⟩
  | cons x s ih =>
    obtain ⟨w, n, ops⟩ := x
    intro k i h
    unfold sp_cl at h
    by_cases hw : w = 2
    · rw [if_pos hw] at h
      exact ih k i h
    · rw [if_neg hw] at h
      obtain ⟨m, h1, h2, h3⟩ := ih _ _ h.2.2.2.2.2.2.2
      exact ⟨m, h1, by omega, h3⟩
section
variable {d : Nat} {μ : mm_M}
set_option maxRecDepth 100000 in
theorem C74_in {q fq : Nat} (hq : q = 74 ∨ q = 78 ∨ q = 82 ∨ q = 86 ∨ q = 90 ∨ q = 94) (hb : fq = 23 ∨ fq = 64) {F : Nat → Int32} (hF : ∀ l, l < 6 → μ.1 fq l = F l) {a : Int32} {k e n' : Nat} (hk : k < 10) (he : μ.1 (q + 2) k = nI e) (he1 : e ≤ 100) {Φ : Option Value → mm_M → Prop} : ∀ (ops : List Nat) (i n : Nat) (A : Int64) (s : List Bool), sp_rep A s → s.length = n → sp_dep ops n = some n' → sp_seg (μ.1 (q + 3)) sp_cc i ops → i + ops.length = e → (∀ B, sp_rep B (sp_ev F ops s) → (sp_ev F ops s).length = n' → mm_ev la_C (d + 1) 74 28 [some (.ref q), some (.ref fq), some (.int a), some (.int (nI e)), some (.int (nI k)), some (.long B), none] [] μ Φ) → mm_ev la_C (d + 1) 74 12 [some (.ref q), some (.ref fq), some (.int a), some (.int (nI i)), some (.int (nI k)), some (.long A), none] [] μ Φ := by
  intro ops
  induction ops with
  | nil =>
    intro i n A s hA hn hd hs hi K
    have hie : i = e := hi
    subst hie
    have K := K A hA (by cases hd; exact hn)
    rcases hq with rfl | rfl | rfl | rfl | rfl | rfl
    all_goals
      refine mm_ev.run mm_y74 4 rfl ?_
      refine mm_ev.ild mm_y74 rfl rfl rfl rfl rfl hk (by decide) he ?_
      refine mm_ev.run mm_y74 1 rfl ?_
      refine mm_ev.pos (nI_le (Nat.le_refl _) (by omega)) ?_
      exact K
  | cons o r ih =>
    intro i n A s hA hn hd hs hi K
    simp only [List.length_cons] at hi
    obtain ⟨m, hd1, hd2⟩ := sp_dep_c hd
    obtain ⟨hs1, hs2⟩ := hs
    have K2 := fun B hB hl => ih (i + 1) m B (sp_ev1 F o s) hB hl hd2 hs2 (by omega) (fun B' h1 h2 => K B' h1 h2)
    rcases hq with rfl | rfl | rfl | rfl | rfl | rfl
    all_goals
      refine mm_ev.run mm_y74 4 rfl ?_
      refine mm_ev.ild mm_y74 rfl rfl rfl rfl rfl hk (by decide) he ?_
      refine mm_ev.run mm_y74 1 rfl ?_
      refine mm_ev.neg (nI_ge (by omega) (by omega)) ?_
      refine mm_ev.run mm_y74 4 rfl ?_
      refine mm_ev.ild mm_y74 rfl rfl rfl rfl rfl (by omega) (by decide) hs1 ?_
      refine mm_ev.run mm_y74 1 rfl ?_
      refine mm_ev.call mm_y74 rfl rfl rfl rfl rfl (C75 hb hA hn hd1 hF) (fun v1 μ1 hq => ?_)
      obtain ⟨B, rfl, hB, hl, rfl⟩ := hq
      refine mm_ev.run mm_y74 3 rfl ?_
      have K3 := K2 B hB hl
      rw [nI_succ] at K3
      exact K3
set_option maxRecDepth 100000 in
theorem C74_out {q fq : Nat} (hq : q = 74 ∨ q = 78 ∨ q = 82 ∨ q = 86 ∨ q = 90 ∨ q = 94) (hb : fq = 23 ∨ fq = 64) {F : Nat → Int32} (hF : ∀ l, l < 6 → μ.1 fq l = F l) : ∀ (s : sS) (k i : Nat) (a : Int32) (x5 : Option Value), sp_cl q μ s k i → mm_ev la_C (d + 1) 74 6 [some (.ref q), some (.ref fq), some (.int a), some (.int (nI i)), some (.int (nI k)), x5, none] [] μ (fun v μ' => v = some (.int (sp_sm F s a)) ∧ μ' = μ) := by
  intro s
  induction s with
  | nil =>
    intro k i a x5 h
    obtain ⟨h1, h2⟩ := h
    rcases hq with rfl | rfl | rfl | rfl | rfl | rfl
    all_goals
      refine mm_ev.run mm_y74 3 rfl ?_
      refine mm_ev.val h1 ?_
      refine mm_ev.run mm_y74 1 rfl ?_
      refine mm_ev.pos (nI_le (Nat.le_refl _) (by omega)) ?_
      refine mm_ev.run mm_y74 1 rfl ?_
      exact mm_ev.ret mm_y74 rfl rfl rfl ⟨rfl, rfl⟩
  | cons x s ih =>
    obtain ⟨w, n, ops⟩ := x
    intro k i a x5 h
    unfold sp_cl at h
    unfold sp_sm
    by_cases hw : w = 2
    · rw [if_pos hw] at h
      rw [if_neg (show ¬ (w < 2 ∧ sp_so F ops = true) from fun z => by omega)]
      exact ih k i a x5 h
    · rw [if_neg hw] at h
      obtain ⟨hwl, hk, ha, hl, he, hs, hd, hr⟩ := h
      obtain ⟨m, hm1, hm2, hm3⟩ := sp_cl_n _ _ _ hr
      have K : ∀ B, sp_rep B (sp_ev F ops []) → (sp_ev F ops []).length = 1 → mm_ev la_C (d + 1) 74 28 [some (.ref q), some (.ref fq), some (.int a), some (.int (nI (i + ops.length))), some (.int (nI k)), some (.long B), none] [] μ (fun v μ' => v = some (.int (sp_sm F s (if w < 2 ∧ sp_so F ops = true then a + (if w = 0 then n else - n) else a))) ∧ μ' = μ) := by
        intro B hB hBl
        have hw2 : ∀ (p : Prop), (w < 2 ∧ p) ↔ p := fun p => ⟨fun z => z.2, fun z => ⟨hwl, z⟩⟩
        obtain ⟨z, hz⟩ : ∃ z, sp_ev F ops [] = [z] := by
          match hx : sp_ev F ops [] with
          | [] => rw [hx] at hBl; simp at hBl
          | [z] => exact ⟨z, rfl⟩
          | _ :: _ :: _ => rw [hx] at hBl; simp at hBl
        have hso : sp_so F ops = z := by unfold sp_so; rw [hz]; rfl
        rw [hz] at hB
        have hc := sp_rep_1 hB
        rw [← hso] at hc
        rcases hq with rfl | rfl | rfl | rfl | rfl | rfl
        all_goals
          refine mm_ev.run mm_y74 6 rfl ?_
          refine mm_ev.ite (fun h => ?_) (fun h => ?_)
          · rw [if_pos ((hw2 _).mpr (hc.mp h))]
            refine mm_ev.run mm_y74 4 rfl ?_
            refine mm_ev.ild mm_y74 rfl rfl rfl rfl rfl hk (by decide) ha ?_
            refine mm_ev.run mm_y74 4 rfl ?_
            have g := ih (k + 1) (i + ops.length) (a + (if w = 0 then n else - n)) (some (.long B)) hr
            rw [nI_succ] at g
            exact g
          · rw [if_neg (fun z => h (hc.mpr ((hw2 _).mp z)))]
            refine mm_ev.run mm_y74 2 rfl ?_
            have g := ih (k + 1) (i + ops.length) a (some (.long B)) hr
            rw [nI_succ] at g
            exact g
      have K2 := C74_in (d := d) (a := a) hq hb hF hk he (by omega) ops i 0 0 [] sp_rep0 rfl hd hs rfl K
      rcases hq with rfl | rfl | rfl | rfl | rfl | rfl
      all_goals
        refine mm_ev.run mm_y74 3 rfl ?_
        refine mm_ev.val hm1 ?_
        refine mm_ev.run mm_y74 1 rfl ?_
        refine mm_ev.neg (nI_ge (by omega) (by omega)) ?_
        refine mm_ev.run mm_y74 2 rfl ?_
        exact K2
set_option maxRecDepth 100000 in
theorem C74 {q fq : Nat} (hq : q = 74 ∨ q = 78 ∨ q = 82 ∨ q = 86 ∨ q = 90 ∨ q = 94) (hb : fq = 23 ∨ fq = 64) {F : Nat → Int32} (hF : ∀ l, l < 6 → μ.1 fq l = F l) {s : sS} (hs : sS_c q s μ) : mm_call la_C (d + 1) 74 [.ref q, .ref fq] μ (fun v μ' => v = some (.int (sp_sm F s 4)) ∧ μ' = μ) := by
  refine mm_call.of mm_t74 ?_
  refine mm_ev.run mm_y74 6 rfl ?_
  exact C74_out hq hb hF s 0 0 4 none hs.2
end
