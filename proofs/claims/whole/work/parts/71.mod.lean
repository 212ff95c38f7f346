/-! THE REFERENCE: frames, what it holds -/
/-- all places but those of P hold what they held -/
def mh (P : Nat → Nat → Prop) (μ μ' : mm_M) : Prop := (∀ c j, ¬ P c j → μ'.1 c j = μ.1 c j) ∧ ∀ c j, ¬ P c j → μ'.2.1 c j = μ.2.1 c j
section
variable {P Q : Nat → Nat → Prop} {μ μ1 μ2 : mm_M}
theorem mh.rf : mh P μ μ := ⟨fun _ _ _ => rfl, fun _ _ _ => rfl⟩
theorem mh.tr (h : mh P μ μ1) (h2 : mh P μ1 μ2) : mh P μ μ2 := ⟨fun c j hc => (h2.1 c j hc).trans (h.1 c j hc), fun c j hc => (h2.2 c j hc).trans (h.2 c j hc)⟩
theorem mh.mono (h : mh P μ μ1) (hq : ∀ c j, P c j → Q c j) : mh Q μ μ1 := ⟨fun c j hc => h.1 c j (fun z => hc (hq c j z)), fun c j hc => h.2 c j (fun z => hc (hq c j z))⟩
theorem mh.sI {q : Nat} {f : Nat → Int32} (h : mh P μ μ1) (hq : ∀ j, P q j) : mh P μ (mm_sI μ1 q f) := ⟨fun c j hc => by
  rw [sI_ne (fun z => hc (by rw [z]; exact hq j))]
  exact h.1 c j hc, h.2⟩
theorem mh.sU {q k : Nat} {x : Int32} (h : mh P μ μ1) (hq : P q k) {f : Nat → Int32} (hf : f = upd (μ1.1 q) k x) : mh P μ (mm_sI μ1 q f) := ⟨fun c j hc => by
  subst hf
  by_cases e : c = q
  · subst e
    rw [sI_eq, upd_ne (fun z => hc (by rw [z]; exact hq))]
    exact h.1 c j hc
  · rw [sI_ne e]
    exact h.1 c j hc, h.2⟩
theorem mh.sJ {q k : Nat} {x : Int64} (h : mh P μ μ1) (hq : P q k) : mh P μ (mm_sJ μ1 q (vp_updL (μ1.2.1 q) k x)) := ⟨h.1, fun c j hc => by
  by_cases e : c = q
  · subst e
    rw [sJ_eq, pk_uLn (fun z => hc (by rw [z]; exact hq))]
    exact h.2 c j hc
  · rw [sJ_ne e]
    exact h.2 c j hc⟩
end
/-- clauses in the reference's rows, from number k on; their steps lie below cd -/
def sp_mcl (cd : Nat) (μ : mm_M) : sS → Nat → Prop
  | [], _ => True
  | (w, x, ops) :: r, k => (μ.1 119 k = nI w ∧ μ.1 120 k = x ∧ (w < 2 → ∃ b, μ.1 121 k = nI b ∧ μ.1 122 k = nI ops.length ∧ b + ops.length ≤ cd ∧ sp_seg (μ.1 123) nI b ops)) ∧ sp_mcl cd μ r (k + 1)
def sC_m (σ : List sS) (μ : mm_M) : Prop := μ.1 110 14 = nI σ.length ∧ ∃ cd, μ.1 110 22 = nI cd ∧ cd ≤ 100 * σ.length ∧ ∀ j, j < σ.length → μ.1 118 j = nI (σ.getD j []).length ∧ sp_mcl cd μ (σ.getD j []) (10 * j)
def okσ (σ : List sS) : Prop := σ.length ≤ 6 ∧ ∀ s ∈ σ, okC s
/-- the globe and the schools -/
def gM (σ : List sS) (g : sG) (μ : mm_M) : Prop := sG_m g μ ∧ sC_m σ μ ∧ g.1 ≤ 6 ∧ (∀ j, g.2.2.1 = some j → j < σ.length) ∧ okσ σ
section
variable {P : Nat → Nat → Prop} {μ μ' : mm_M} {σ : List sS} {g : sG}
/-- places of the globe; of the schools -/
abbrev pg (c j : Nat) : Prop := (111 ≤ c ∧ c ≤ 116) ∨ (c = 110 ∧ (j = 1 ∨ j = 7 ∨ j = 15))
abbrev ps (c j : Nat) : Prop := (118 ≤ c ∧ c ≤ 123) ∨ (c = 110 ∧ (j = 14 ∨ j = 22))
theorem sG_m.fr (h : sG_m g μ) (hf : mh P μ μ') (hP : ∀ c j, P c j → ¬ pg c j) : sG_m g μ' := by
  have e : ∀ c j, pg c j → μ'.1 c j = μ.1 c j := fun c j hc => hf.1 c j (fun z => hP c j z hc)
  exact ⟨by rw [e 110 1 (by omega)]; exact h.1, by rw [e 110 7 (by omega)]; exact h.2.1, by rw [e 110 15 (by omega)]; exact h.2.2.1, fun k i hk hi => by rw [e _ _ (by omega)]; exact h.2.2.2 k i hk hi⟩
theorem sp_seg_fr {f f' : Nat → Int32} {cv : Nat → Int32} : ∀ (l : List Nat) (i : Nat), (∀ k, i ≤ k → k < i + l.length → f' k = f k) → sp_seg f cv i l → sp_seg f' cv i l := by
  intro l
  induction l with
  | nil => intro i _ h; exact h
  | cons x l ih =>
    intro i e h
    have h : f i = cv x ∧ sp_seg f cv (i + 1) l := h
    refine ⟨by rw [e i (Nat.le_refl _) (by simp only [List.length_cons]; omega)]; exact h.1, ih (i + 1) (fun k h1 h2 => e k (by omega) (by simp only [List.length_cons]; omega)) h.2⟩
theorem sp_mcl_fr {cd : Nat} : ∀ (s : sS) (k : Nat), (∀ c j, (119 ≤ c ∧ c ≤ 122) ∧ k ≤ j ∧ j < k + s.length → μ'.1 c j = μ.1 c j) → (∀ j, j < cd → μ'.1 123 j = μ.1 123 j) → sp_mcl cd μ s k → sp_mcl cd μ' s k := by
  intro s
  induction s with
  | nil => intro k _ _ _; trivial
  | cons x s ih =>
    intro k e e2 h
    obtain ⟨w, x, ops⟩ := x
    simp only [List.length_cons] at e
    obtain ⟨⟨h1, h2, h3⟩, h4⟩ := h
    refine ⟨⟨by rw [e 119 k (by omega)]; exact h1, by rw [e 120 k (by omega)]; exact h2, fun hw => ?_⟩, ih (k + 1) (fun c j hc => e c j (by omega)) e2 h4⟩
    obtain ⟨b, b1, b2, b3, b4⟩ := h3 hw
    exact ⟨b, by rw [e 121 k (by omega)]; exact b1, by rw [e 122 k (by omega)]; exact b2, b3, sp_seg_fr ops b (fun j h1 h2 => e2 j (by omega)) b4⟩
theorem sC_m.fr (h : sC_m σ μ) (hf : mh P μ μ') (hP : ∀ c j, P c j → ¬ ps c j) : sC_m σ μ' := by
  have e : ∀ c j, ps c j → μ'.1 c j = μ.1 c j := fun c j hc => hf.1 c j (fun z => hP c j z hc)
  obtain ⟨h1, cd, h2, h3, h4⟩ := h
  exact ⟨by rw [e 110 14 (by omega)]; exact h1, cd, by rw [e 110 22 (by omega)]; exact h2, h3, fun j hj => ⟨by rw [e 118 j (by omega)]; exact (h4 j hj).1, sp_mcl_fr _ _ (fun c j hc => e c j (by omega)) (fun j _ => e 123 j (by omega)) (h4 j hj).2⟩⟩
theorem gM.fr (h : gM σ g μ) (hf : mh P μ μ') (hP : ∀ c j, P c j → ¬ pg c j ∧ ¬ ps c j) : gM σ g μ' := ⟨h.1.fr hf (fun c j z => (hP c j z).1), h.2.1.fr hf (fun c j z => (hP c j z).2), h.2.2⟩
theorem gM.st (h : gM σ g μ) (f : Nat → Int32) : gM σ g (mm_sI μ 124 f) := h.fr (mh.rf.sI (P := fun c _ => c = 124) (fun _ => rfl)) (fun c j hc => by omega)
end
/-- answers that lie in a row, the last one highest -/
def stp : List Bool → (Nat → Int32) → Prop
  | [], _ => True
  | a :: s, f => f s.length = bI (a = true) ∧ stp s f
theorem stp_upd {k : Nat} {x : Int32} {f : Nat → Int32} : ∀ (s : List Bool), s.length ≤ k → stp s f → stp s (upd f k x) := by
  intro s
  induction s with
  | nil => intro _ _; trivial
  | cons a s ih =>
    intro hk h
    simp only [List.length_cons] at hk
    exact ⟨by rw [upd_ne (by omega)]; exact h.1, ih (by omega) h.2⟩
section
variable {d : Nat} {μ : mm_M} {σ : List sS} {g : sG} {c p : Nat}
set_option maxRecDepth 100000 in
theorem C136 (hg : sG_m g μ) (h6 : g.1 ≤ 6) (hc : c < g.1) (hp : p < 12) {l : Nat} (hl : l < 6) : mm_call la_M d 136 [.ref 110, .int (nI c), .int (nI p), .int (nI l)] μ (fun v μ' => v = some (.int (sp_f g c p (g.2.2.2 0 p) 0 l)) ∧ μ' = μ) := by
  rcases t_6 hl with rfl | rfl | rfl | rfl | rfl | rfl
  ·
    refine mm_call.of mm_t136 ?_
    refine mm_ev.run mm_y136 2 rfl ?_
    refine mm_ev.run mm_y136 1 rfl ?_
    exact mm_ev.ret mm_y136 rfl rfl rfl ⟨rfl, rfl⟩
  ·
    refine mm_call.of mm_t136 ?_
    refine mm_ev.run mm_y136 2 rfl ?_
    refine mm_ev.run mm_y136 3 rfl ?_
    refine mm_ev.ild mm_y136 rfl rfl rfl rfl rfl (by omega) (by decide) (hg.kind hc) ?_
    exact mm_ev.ret mm_y136 rfl rfl rfl ⟨rfl, rfl⟩
  ·
    refine mm_call.of mm_t136 ?_
    refine mm_ev.run mm_y136 2 rfl ?_
    refine mm_ev.run mm_y136 3 rfl ?_
    refine mm_ev.ild mm_y136 rfl rfl rfl rfl rfl (by omega) (by decide) (hg.v hc) ?_
    exact mm_ev.ret mm_y136 rfl rfl rfl ⟨rfl, rfl⟩
  ·
    refine mm_call.of mm_t136 ?_
    refine mm_ev.run mm_y136 2 rfl ?_
    refine mm_ev.run mm_y136 1 rfl ?_
    exact mm_ev.ret mm_y136 rfl rfl rfl ⟨rfl, rfl⟩
  ·
    refine mm_call.of mm_t136 ?_
    refine mm_ev.run mm_y136 2 rfl ?_
    refine mm_ev.run mm_y136 3 rfl ?_
    refine mm_ev.ild mm_y136 rfl rfl rfl rfl rfl (by omega) (by decide) (hg.need hp) ?_
    refine mm_ev.run mm_y136 2 rfl ?_
    exact mm_ev.ret mm_y136 rfl rfl rfl ⟨rfl, rfl⟩
  · have e : sp_f g c p (g.2.2.2 0 p) 0 5 = g.2.1 - g.2.1 / 10 * 10 := by
      show sp_r (g.2.1 + 0) 10 = _
      rw [Int32.add_zero]
      rfl
    rw [e]
    refine mm_call.of mm_t136 ?_
    refine mm_ev.run mm_y136 2 rfl ?_
    refine mm_ev.run mm_y136 2 rfl ?_
    refine mm_ev.val hg.hour ?_
    refine mm_ev.run mm_y136 2 rfl ?_
    exact mm_ev.ret mm_y136 rfl rfl rfl ⟨rfl, rfl⟩
theorem sp_tst_0 {F : Nat → Int32} {o : Nat} (h : (o - 3) / 100 % 3 = 0) : sp_tst F o = decide (F ((o - 3) / 300) < nI ((o - 3) % 100)) := by unfold sp_tst; rw [if_pos h]
theorem sp_tst_1 {F : Nat → Int32} {o : Nat} (h : (o - 3) / 100 % 3 = 1) : sp_tst F o = decide (F ((o - 3) / 300) = nI ((o - 3) % 100)) := by unfold sp_tst; rw [if_neg (by omega), if_pos h]
theorem sp_tst_2 {F : Nat → Int32} {o : Nat} (h : (o - 3) / 100 % 3 = 2) : sp_tst F o = decide (nI ((o - 3) % 100) < F ((o - 3) / 300)) := by unfold sp_tst; rw [if_neg (by omega), if_neg (by omega)]
theorem bI_d {p : Prop} [Decidable p] : bI (decide p = true) = bI p := by
  by_cases h : p
  · rw [bI_1 h, bI_1 (by simp [h])]
  · rw [bI_0 h, bI_0 (by simp [h])]
set_option maxRecDepth 100000 in
theorem C135_l (hg : gM σ g μ) (hc : c < g.1) (hp : p < 12) {k b E : Nat} (hk : k < 61) (hb : μ.1 121 k = nI b) (hE : ∃ l, μ.1 122 k = nI l ∧ b + l = E) (hE2 : E ≤ 700) : ∀ (ops : List Nat) (s : List Bool) (i : Nat) (f : Nat → Int32) (x6 x7 x8 x9 : Option Value), i + ops.length = E → sp_seg (μ.1 123) nI i ops → sp_dep ops s.length = some 1 → s.length ≤ 50 → stp s f → mm_ev la_M (d + 1) 135 7 [some (.ref 110), some (.int (nI c)), some (.int (nI p)), some (.int (nI k)), some (.int (nI s.length)), some (.int (nI i)), x6, x7, x8, x9] [] (mm_sI μ 124 f) (fun v μ' => v = some (.int (bI ((sp_ev (sp_f g c p (g.2.2.2 0 p) 0) ops s).headD false = true))) ∧ ∃ f, μ' = mm_sI μ 124 f) := by
  intro ops
  have h6 := hg.2.2.1
  obtain ⟨l, hl, hlE⟩ := hE
  induction ops with
  | nil =>
    intro s i f x6 x7 x8 x9 hi _ hd _ hs
    have hi : i = E := by simpa using hi
    subst hi
    have hd : some s.length = some 1 := hd
    cases s with
    | nil => cases hd
    | cons a s =>
      cases s with
      | cons _ _ => cases hd
      | nil =>
        refine mm_ev.run mm_y135 4 rfl ?_
        refine mm_ev.ild mm_y135 rfl rfl rfl rfl rfl (by omega) (by decide) hb ?_
        refine mm_ev.run mm_y135 3 rfl ?_
        refine mm_ev.ild mm_y135 rfl rfl rfl rfl rfl (by omega) (by decide) hl ?_
        refine mm_ev.run mm_y135 1 rfl ?_
        refine mm_ev.val (show nI b + nI l = nI i from by rw [nI_add, hlE]) ?_
        refine mm_ev.run mm_y135 1 rfl ?_
        refine mm_ev.pos (nI_le (Nat.le_refl _) (by omega)) ?_
        refine mm_ev.run mm_y135 3 rfl ?_
        refine mm_ev.bld mm_y135 rfl rfl rfl rfl (show (0 : Int32) = nI 0 from rfl) (by decide) (by decide) hs.1 ?_
        exact mm_ev.ret mm_y135 rfl rfl mm_retb ⟨rfl, f, rfl⟩
  | cons o r ih =>
    intro s i f x6 x7 x8 x9 hi hseg hd hs50 hs
    simp only [List.length_cons] at hi
    have ih := fun s f x6 x7 x8 x9 => ih s (i + 1) f x6 x7 x8 x9 (by omega) hseg.2
    rw [nI_succ i] at ih
    have hev : sp_ev (sp_f g c p (g.2.2.2 0 p) 0) (o :: r) s = sp_ev (sp_f g c p (g.2.2.2 0 p) 0) r (sp_ev1 (sp_f g c p (g.2.2.2 0 p) 0) o s) := rfl
    rw [hev]
    have hd : (if 3 ≤ o then (if o < 1803 ∧ s.length < 50 then sp_dep r (s.length + 1) else none) else if o = 0 then (if 1 ≤ s.length then sp_dep r s.length else none) else if 2 ≤ s.length then sp_dep r (s.length - 1) else none) = some 1 := hd
    have hco : μ.1 123 i = nI o := hseg.1
    by_cases ho : 3 ≤ o
    · rw [if_pos ho] at hd
      by_cases h2 : o < 1803 ∧ s.length < 50
      · rw [if_pos h2] at hd
        have e1 : sp_ev1 (sp_f g c p (g.2.2.2 0 p) 0) o s = sp_tst (sp_f g c p (g.2.2.2 0 p) 0) o :: s := by unfold sp_ev1; rw [if_pos ho]
        rw [e1]
        have eo : nI o - 3 = nI (o - 3) := pk_sub (b := 3) ho
        have e300 : (nI o - 3) / 300 = nI ((o - 3) / 300) := by rw [eo]; exact pk_div (d := 300) (by omega) (by decide) (by decide)
        have e100 : nI o - 3 - (nI o - 3) / 100 * 100 = nI ((o - 3) % 100) := by rw [eo]; exact pk_rem (d := 100) (by omega) (by decide) (by decide)
        have e3 : (nI o - 3) / 100 - (nI o - 3) / 100 / 3 * 3 = nI ((o - 3) / 100 % 3) := by
          rw [eo, show (nI (o - 3) / 100 : Int32) = nI ((o - 3) / 100) from pk_div (d := 100) (by omega) (by decide) (by decide)]
          exact pk_rem (d := 3) (by omega) (by decide) (by decide)
        have K79 : ∀ (z : Int32), z = bI (sp_tst (sp_f g c p (g.2.2.2 0 p) 0) o = true) → ∀ x6 x7 x8 x9, mm_ev la_M (d + 1) 135 79 [some (.ref 110), some (.int (nI c)), some (.int (nI p)), some (.int (nI k)), some (.int (nI s.length + 1)), some (.int (nI i)), x6, x7, x8, x9] [.int z, .int (nI s.length), .ref 124] (mm_sI μ 124 f) (fun v μ' => v = some (.int (bI ((sp_ev (sp_f g c p (g.2.2.2 0 p) 0) r (sp_tst (sp_f g c p (g.2.2.2 0 p) 0) o :: s)).headD false = true))) ∧ ∃ f, μ' = mm_sI μ 124 f) := by
          intro z hz x6 x7 x8 x9
          have hz2 : vp_nar .boolean z = z := by
            subst hz
            rcases bI_01 (p := sp_tst (sp_f g c p (g.2.2.2 0 p) 0) o = true) with h | h <;> rw [h] <;> rfl
          have fin := ih (sp_tst (sp_f g c p (g.2.2.2 0 p) 0) o :: s) (upd f s.length z) x6 x7 x8 x9 hd (by simp only [List.length_cons]; omega) ⟨by rw [upd_eq, hz], stp_upd s (Nat.le_refl _) hs⟩
          rw [show nI (sp_tst (sp_f g c p (g.2.2.2 0 p) 0) o :: s).length = nI s.length + 1 from nI_succ _] at fin
          refine mm_ev.bst mm_y135 rfl rfl rfl rfl rfl (by omega) (by decide) ?_
          rw [hz2]
          refine mm_ev.eq mm_sI_sI ?_
          refine mm_ev.run mm_y135 3 rfl ?_
          exact fin
        have K136 := C136 (d := d) ((hg.st f).1) h6 hc hp (l := (o - 3) / 300) (by omega)
        have hneg : ¬ nI o < 3 := nI_nlt (b := 3) ho (by omega)
        refine mm_ev.run mm_y135 4 rfl ?_
        refine mm_ev.ild mm_y135 rfl rfl rfl rfl rfl (by omega) (by decide) hb ?_
        refine mm_ev.run mm_y135 3 rfl ?_
        refine mm_ev.ild mm_y135 rfl rfl rfl rfl rfl (by omega) (by decide) hl ?_
        refine mm_ev.run mm_y135 1 rfl ?_
        refine mm_ev.val (show nI b + nI l = nI E from by rw [nI_add, hlE]) ?_
        refine mm_ev.run mm_y135 1 rfl ?_
        refine mm_ev.neg (nI_ge (show i < E by omega) (by omega)) ?_
        refine mm_ev.run mm_y135 3 rfl ?_
        refine mm_ev.ild mm_y135 rfl rfl rfl rfl rfl (by omega) (by decide) hco ?_
        refine mm_ev.run mm_y135 4 rfl ?_
        refine mm_ev.neg hneg ?_
        refine mm_ev.run mm_y135 8 rfl ?_
        refine mm_ev.val e300 ?_
        refine mm_ev.call mm_y135 rfl rfl rfl rfl rfl K136 (fun v1 μ1 hq => ?_)
        obtain ⟨rfl, hμ⟩ := hq
        obtain rfl := hμ.symm
        refine mm_ev.run mm_y135 6 rfl ?_
        refine mm_ev.val e100 ?_
        refine mm_ev.run mm_y135 8 rfl ?_
        refine mm_ev.val e3 ?_
        rcases (show (o - 3) / 100 % 3 = 0 ∨ (o - 3) / 100 % 3 = 1 ∨ (o - 3) / 100 % 3 = 2 by omega) with hm | hm | hm
        · have et := sp_tst_0 (F := sp_f g c p (g.2.2.2 0 p) 0) hm
          refine mm_ev.run mm_y135 7 rfl ?_
          refine mm_ev.pos (by rw [hm]; rfl) ?_
          refine mm_ev.run mm_y135 3 rfl ?_
          refine mm_ev.ite (fun h => ?_) (fun h => ?_)
          · refine mm_ev.run mm_y135 2 rfl ?_
            exact K79 0 (by rw [et, bI_d, bI_0 (Int32.not_lt.mpr h)]) _ _ _ _
          · refine mm_ev.run mm_y135 2 rfl ?_
            exact K79 1 (by rw [et, bI_d, bI_1 (Int32.not_le.mp h)]) _ _ _ _
        · have et := sp_tst_1 (F := sp_f g c p (g.2.2.2 0 p) 0) hm
          refine mm_ev.run mm_y135 7 rfl ?_
          refine mm_ev.neg (by rw [hm]; decide) ?_
          refine mm_ev.run mm_y135 3 rfl ?_
          refine mm_ev.pos (by rw [hm]; rfl) ?_
          refine mm_ev.run mm_y135 3 rfl ?_
          refine mm_ev.ite (fun h => ?_) (fun h => ?_)
          · refine mm_ev.run mm_y135 2 rfl ?_
            exact K79 1 (by rw [et, bI_d, bI_1 h]) _ _ _ _
          · refine mm_ev.run mm_y135 2 rfl ?_
            exact K79 0 (by rw [et, bI_d, bI_0 h]) _ _ _ _
        · have et := sp_tst_2 (F := sp_f g c p (g.2.2.2 0 p) 0) hm
          refine mm_ev.run mm_y135 7 rfl ?_
          refine mm_ev.neg (by rw [hm]; decide) ?_
          refine mm_ev.run mm_y135 3 rfl ?_
          refine mm_ev.neg (by rw [hm]; decide) ?_
          refine mm_ev.run mm_y135 3 rfl ?_
          refine mm_ev.ite (fun h => ?_) (fun h => ?_)
          · refine mm_ev.run mm_y135 1 rfl ?_
            exact K79 0 (by rw [et, bI_d, bI_0 (Int32.not_lt.mpr h)]) _ _ _ _
          · refine mm_ev.run mm_y135 2 rfl ?_
            exact K79 1 (by rw [et, bI_d, bI_1 (Int32.not_le.mp h)]) _ _ _ _
      · rw [if_neg h2] at hd
        cases hd
    · rw [if_neg ho] at hd
      by_cases h0 : o = 0
      · rw [if_pos h0] at hd
        subst h0
        cases s with
        | nil => cases hd
        | cons a s =>
          have hd : sp_dep r (s.length + 1) = some 1 := hd
          simp only [List.length_cons] at hs50
          have K98 : ∀ (z : Int32), z = bI ((!a) = true) → ∀ x6 x7 x8 x9, mm_ev la_M (d + 1) 135 98 [some (.ref 110), some (.int (nI c)), some (.int (nI p)), some (.int (nI k)), some (.int (nI (a :: s).length)), some (.int (nI i)), x6, x7, x8, x9] [.int z, .int (nI (a :: s).length - 1), .ref 124] (mm_sI μ 124 f) (fun v μ' => v = some (.int (bI ((sp_ev (sp_f g c p (g.2.2.2 0 p) 0) r ((!a) :: s)).headD false = true))) ∧ ∃ f, μ' = mm_sI μ 124 f) := by
            intro z hz x6 x7 x8 x9
            have hz2 : vp_nar .boolean z = z := by
              subst hz
              rcases bI_01 (p := (!a) = true) with h | h <;> rw [h] <;> rfl
            have fin := ih ((!a) :: s) (upd f s.length z) x6 x7 x8 x9 hd (by simp only [List.length_cons]; omega) ⟨by rw [upd_eq, hz], stp_upd s (Nat.le_refl _) hs.2⟩
            refine mm_ev.bst mm_y135 rfl rfl rfl rfl (nI_pred s.length) (by omega) (by decide) ?_
            rw [hz2]
            refine mm_ev.eq mm_sI_sI ?_
            refine mm_ev.run mm_y135 3 rfl ?_
            exact fin
          refine mm_ev.run mm_y135 4 rfl ?_
          refine mm_ev.ild mm_y135 rfl rfl rfl rfl rfl (by omega) (by decide) hb ?_
          refine mm_ev.run mm_y135 3 rfl ?_
          refine mm_ev.ild mm_y135 rfl rfl rfl rfl rfl (by omega) (by decide) hl ?_
          refine mm_ev.run mm_y135 1 rfl ?_
          refine mm_ev.val (show nI b + nI l = nI E from by rw [nI_add, hlE]) ?_
          refine mm_ev.run mm_y135 1 rfl ?_
          refine mm_ev.neg (nI_ge (show i < E by omega) (by omega)) ?_
          refine mm_ev.run mm_y135 3 rfl ?_
          refine mm_ev.ild mm_y135 rfl rfl rfl rfl rfl (by omega) (by decide) hco ?_
          refine mm_ev.run mm_y135 4 rfl ?_
          refine mm_ev.pos (by decide) ?_
          refine mm_ev.run mm_y135 2 rfl ?_
          refine mm_ev.pos rfl ?_
          refine mm_ev.run mm_y135 10 rfl ?_
          refine mm_ev.bld mm_y135 rfl rfl rfl rfl (nI_pred s.length) (by omega) (by decide) hs.1 ?_
          refine mm_ev.run mm_y135 1 rfl ?_
          refine mm_ev.ifb (fun h => ?_) (fun h => ?_)
          · refine mm_ev.run mm_y135 2 rfl ?_
            exact K98 1 (by rw [bI_1]; simpa using h) _ _ _ _
          · refine mm_ev.run mm_y135 1 rfl ?_
            exact K98 0 (by rw [bI_0]; simpa using h) _ _ _ _
      · rw [if_neg h0] at hd
        have ho12 : o = 1 ∨ o = 2 := by omega
        cases s with
        | nil => cases hd
        | cons a s =>
          cases s with
          | nil => cases hd
          | cons b' s =>
            have hd : sp_dep r (s.length + 1) = some 1 := hd
            simp only [List.length_cons] at hs50
            have K140 : ∀ (w : Bool) (z : Int32), z = bI (w = true) → ∀ x6 x7 x8 x9, mm_ev la_M (d + 1) 135 140 [some (.ref 110), some (.int (nI c)), some (.int (nI p)), some (.int (nI k)), some (.int (nI (a :: b' :: s).length + (-1))), some (.int (nI i)), x6, x7, x8, x9] [.int z, .int (nI (a :: b' :: s).length + (-1) - 1), .ref 124] (mm_sI μ 124 f) (fun v μ' => v = some (.int (bI ((sp_ev (sp_f g c p (g.2.2.2 0 p) 0) r (w :: s)).headD false = true))) ∧ ∃ f, μ' = mm_sI μ 124 f) := by
              intro w z hz x6 x7 x8 x9
              have hz2 : vp_nar .boolean z = z := by
                subst hz
                rcases bI_01 (p := w = true) with h | h <;> rw [h] <;> rfl
              have fin := ih (w :: s) (upd f s.length z) x6 x7 x8 x9 hd (by simp only [List.length_cons]; omega) ⟨by rw [upd_eq, hz], stp_upd s (Nat.le_refl _) hs.2.2⟩
              rw [show nI (w :: s).length = nI (a :: b' :: s).length + (-1) from (pk_m1 _).symm] at fin
              refine mm_ev.bst mm_y135 rfl rfl rfl rfl (show nI (a :: b' :: s).length + (-1) - 1 = nI s.length from by rw [show nI (a :: b' :: s).length + (-1) = nI (s.length + 1) from pk_m1 _]; exact nI_pred _) (by omega) (by decide) ?_
              rw [hz2]
              refine mm_ev.eq mm_sI_sI ?_
              refine mm_ev.run mm_y135 2 rfl ?_
              exact fin
            have j1 : nI (a :: b' :: s).length + (-1) - 1 = nI s.length := by rw [show nI (a :: b' :: s).length + (-1) = nI (s.length + 1) from pk_m1 _]; exact nI_pred _
            have j0 : nI (a :: b' :: s).length + (-1) = nI (s.length + 1) := pk_m1 _
            rcases ho12 with rfl | rfl
            ·
              refine mm_ev.run mm_y135 4 rfl ?_
              refine mm_ev.ild mm_y135 rfl rfl rfl rfl rfl (by omega) (by decide) hb ?_
              refine mm_ev.run mm_y135 3 rfl ?_
              refine mm_ev.ild mm_y135 rfl rfl rfl rfl rfl (by omega) (by decide) hl ?_
              refine mm_ev.run mm_y135 1 rfl ?_
              refine mm_ev.val (show nI b + nI l = nI E from by rw [nI_add, hlE]) ?_
              refine mm_ev.run mm_y135 1 rfl ?_
              refine mm_ev.neg (nI_ge (show i < E by omega) (by omega)) ?_
              refine mm_ev.run mm_y135 3 rfl ?_
              refine mm_ev.ild mm_y135 rfl rfl rfl rfl rfl (by omega) (by decide) hco ?_
              refine mm_ev.run mm_y135 4 rfl ?_
              refine mm_ev.pos (by decide) ?_
              refine mm_ev.run mm_y135 2 rfl ?_
              refine mm_ev.neg (by decide) ?_
              refine mm_ev.run mm_y135 9 rfl ?_
              refine mm_ev.pos rfl ?_
              refine mm_ev.run mm_y135 5 rfl ?_
              refine mm_ev.bld mm_y135 rfl rfl rfl rfl j1 (by omega) (by decide) hs.2.1 ?_
              refine mm_ev.run mm_y135 1 rfl ?_
              refine mm_ev.ifb (fun h => ?_) (fun h => ?_)
              · refine mm_ev.run mm_y135 2 rfl ?_
                exact K140 (b' && a) 0 (by rw [bI_0]; simp [h]) _ _ _ _
              · refine mm_ev.run mm_y135 3 rfl ?_
                refine mm_ev.bld mm_y135 rfl rfl rfl rfl j0 (by omega) (by decide) hs.1 ?_
                refine mm_ev.run mm_y135 1 rfl ?_
                refine mm_ev.ifb (fun h2 => ?_) (fun h2 => ?_)
                · refine mm_ev.run mm_y135 2 rfl ?_
                  exact K140 (b' && a) 0 (by rw [bI_0]; simp [h2]) _ _ _ _
                · refine mm_ev.run mm_y135 2 rfl ?_
                  exact K140 (b' && a) 1 (by rw [bI_1]; simp [h, h2]) _ _ _ _
            ·
              refine mm_ev.run mm_y135 4 rfl ?_
              refine mm_ev.ild mm_y135 rfl rfl rfl rfl rfl (by omega) (by decide) hb ?_
              refine mm_ev.run mm_y135 3 rfl ?_
              refine mm_ev.ild mm_y135 rfl rfl rfl rfl rfl (by omega) (by decide) hl ?_
              refine mm_ev.run mm_y135 1 rfl ?_
              refine mm_ev.val (show nI b + nI l = nI E from by rw [nI_add, hlE]) ?_
              refine mm_ev.run mm_y135 1 rfl ?_
              refine mm_ev.neg (nI_ge (show i < E by omega) (by omega)) ?_
              refine mm_ev.run mm_y135 3 rfl ?_
              refine mm_ev.ild mm_y135 rfl rfl rfl rfl rfl (by omega) (by decide) hco ?_
              refine mm_ev.run mm_y135 4 rfl ?_
              refine mm_ev.pos (by decide) ?_
              refine mm_ev.run mm_y135 2 rfl ?_
              refine mm_ev.neg (by decide) ?_
              refine mm_ev.run mm_y135 9 rfl ?_
              refine mm_ev.neg (by decide) ?_
              refine mm_ev.run mm_y135 5 rfl ?_
              refine mm_ev.bld mm_y135 rfl rfl rfl rfl j1 (by omega) (by decide) hs.2.1 ?_
              refine mm_ev.run mm_y135 1 rfl ?_
              refine mm_ev.ifb (fun h => ?_) (fun h => ?_)
              · refine mm_ev.run mm_y135 3 rfl ?_
                refine mm_ev.bld mm_y135 rfl rfl rfl rfl j0 (by omega) (by decide) hs.1 ?_
                refine mm_ev.run mm_y135 1 rfl ?_
                refine mm_ev.ifb (fun h2 => ?_) (fun h2 => ?_)
                · refine mm_ev.run mm_y135 1 rfl ?_
                  exact K140 (b' || a) 0 (by rw [bI_0]; simp [h, h2]) _ _ _ _
                · refine mm_ev.run mm_y135 2 rfl ?_
                  exact K140 (b' || a) 1 (by rw [bI_1]; simp [h2]) _ _ _ _
              · refine mm_ev.run mm_y135 2 rfl ?_
                exact K140 (b' || a) 1 (by rw [bI_1]; simp [h]) _ _ _ _
set_option maxRecDepth 100000 in
theorem C135 (hg : gM σ g μ) (hc : c < g.1) (hp : p < 12) {k b : Nat} {ops : List Nat} (hk : k < 61) (hb : μ.1 121 k = nI b) (hl : μ.1 122 k = nI ops.length) (hE2 : b + ops.length ≤ 700) (hseg : sp_seg (μ.1 123) nI b ops) (hd : sp_dep ops 0 = some 1) : mm_call la_M (d + 1) 135 [.ref 110, .int (nI c), .int (nI p), .int (nI k)] μ (fun v μ' => v = some (.int (bI (sp_so (sp_f g c p (g.2.2.2 0 p) 0) ops = true))) ∧ ∃ f, μ' = mm_sI μ 124 f) := by
  have fin := C135_l (d := d) hg hc hp hk hb ⟨_, hl, rfl⟩ hE2 ops [] b (μ.1 124) none none none none rfl hseg hd (by decide) trivial
  rw [mm_sI_self] at fin
  refine mm_call.of mm_t135 ?_
  refine mm_ev.run mm_y135 5 rfl ?_
  refine mm_ev.ild mm_y135 rfl rfl rfl rfl rfl (by omega) (by decide) hb ?_
  refine mm_ev.run mm_y135 1 rfl ?_
  exact fin
theorem sp_sm_s (F : Nat → Int32) (w : Nat) (x : Int32) (ops : List Nat) (r : sS) (z : Int32) : sp_sm F ((w, x, ops) :: r) z = sp_sm F r (if w < 2 ∧ sp_so F ops = true then z + (if w = 0 then x else - x) else z) := rfl
set_option maxRecDepth 100000 in
theorem C134_l (hg : gM σ g μ) (hc : c < g.1) (hp : p < 12) {j cd m : Nat} (hj : j < σ.length) (hs : g.2.2.1 = some j) (hcd : cd ≤ 600) (h118 : μ.1 118 j = nI m) (hm10 : m ≤ 10) : ∀ (r : sS) (i : Nat) (z : Int32) (x5 : Option Value) (f : Nat → Int32), i + r.length = m → sp_mcl cd μ r (10 * j + i) → (∀ x ∈ r, x.1 ≤ 2 ∧ (x.1 < 2 → sp_dep x.2.2 0 = some 1)) → mm_ev la_M (d + 2) 134 4 [some (.ref 110), some (.int (nI c)), some (.int (nI p)), some (.int z), some (.int (nI i)), x5] [] (mm_sI μ 124 f) (fun v μ' => v = some (.int (sp_sm (sp_f g c p (g.2.2.2 0 p) 0) r z)) ∧ ∃ f, μ' = mm_sI μ 124 f) := by
  have h15 : μ.1 110 15 = nI j := by
    have := hg.1.2.2.1
    rw [hs] at this
    exact this
  have hσ := hg.2.2.2.2.1
  have e10 : ∀ i, 10 * nI j + nI i = nI (10 * j + i) := fun i => by rw [show (10 : Int32) = nI 10 from rfl, nI_mul, nI_add]
  intro r
  induction r with
  | nil =>
    intro i z x5 f hi _ _
    have hi : i = m := by simpa using hi
    subst hi
    refine mm_ev.run mm_y134 2 rfl ?_
    refine mm_ev.val h15 ?_
    refine mm_ev.run mm_y134 2 rfl ?_
    refine mm_ev.neg (fun z => absurd (nI_pos' (n := j) (by omega)) (by rw [z]; decide)) ?_
    refine mm_ev.run mm_y134 5 rfl ?_
    refine mm_ev.val h15 ?_
    refine mm_ev.ild mm_y134 rfl rfl rfl rfl rfl (by omega) (by decide) h118 ?_
    refine mm_ev.run mm_y134 1 rfl ?_
    refine mm_ev.pos (nI_le (Nat.le_refl _) (by omega)) ?_
    refine mm_ev.run mm_y134 1 rfl ?_
    exact mm_ev.ret mm_y134 rfl rfl rfl ⟨rfl, f, rfl⟩
  | cons x r ih =>
    intro i z x5 f hi hcl hok
    obtain ⟨w, x, ops⟩ := x
    obtain ⟨⟨c1, c2, c3⟩, c4⟩ := hcl
    simp only [List.length_cons] at hi
    have ih := fun z x5 f => ih (i + 1) z x5 f (by omega) c4 (fun x hx => hok x (by simp [hx]))
    rw [nI_succ] at ih
    have hw := hok (w, x, ops) (by simp)
    have hw2 : w ≤ 2 := hw.1
    rw [sp_sm_s]
    refine mm_ev.run mm_y134 2 rfl ?_
    refine mm_ev.val h15 ?_
    refine mm_ev.run mm_y134 2 rfl ?_
    refine mm_ev.neg (fun z => absurd (nI_pos' (n := j) (by omega)) (by rw [z]; decide)) ?_
    refine mm_ev.run mm_y134 5 rfl ?_
    refine mm_ev.val h15 ?_
    refine mm_ev.ild mm_y134 rfl rfl rfl rfl rfl (by omega) (by decide) h118 ?_
    refine mm_ev.run mm_y134 1 rfl ?_
    refine mm_ev.neg (nI_ge (show i < m by omega) (by omega)) ?_
    refine mm_ev.run mm_y134 3 rfl ?_
    refine mm_ev.val h15 ?_
    refine mm_ev.run mm_y134 3 rfl ?_
    refine mm_ev.val (e10 i) ?_
    refine mm_ev.run mm_y134 4 rfl ?_
    refine mm_ev.ild mm_y134 rfl rfl rfl rfl rfl (by omega) (by decide) c1 ?_
    refine mm_ev.run mm_y134 2 rfl ?_
    refine mm_ev.ite (fun h1 => ?_) (fun h1 => ?_)
    · have hw3 : ¬ w < 2 := fun z => absurd h1 (nI_ge (b := 2) z (by decide))
      rw [if_neg (fun z => hw3 z.1)]
      refine mm_ev.run mm_y134 2 rfl ?_
      exact ih _ _ _
    · have hw3 : w < 2 := by
        by_cases z : w < 2
        · exact z
        · exact absurd (nI_le (a := 2) (show 2 ≤ w by omega) (by omega)) h1
      obtain ⟨b, b1, b2, b3, b4⟩ := c3 hw3
      have K := C135 (d := d) (hg.st f) hc hp (k := 10 * j + i) (by omega) b1 b2 (by omega) b4 (hw.2 hw3)
      refine mm_ev.run mm_y134 4 rfl ?_
      refine mm_ev.call mm_y134 rfl rfl rfl rfl rfl K (fun v1 μ1 hq => ?_)
      obtain ⟨rfl, f2, rfl⟩ := hq
      refine mm_ev.eq mm_sI_sI ?_
      refine mm_ev.run mm_y134 1 rfl ?_
      refine mm_ev.ifb (fun h2 => ?_) (fun h2 => ?_)
      · rw [if_neg (fun z => h2 z.2)]
        refine mm_ev.run mm_y134 2 rfl ?_
        exact ih _ _ _
      · rw [if_pos ⟨hw3, h2⟩]
        refine mm_ev.run mm_y134 4 rfl ?_
        refine mm_ev.ild mm_y134 rfl rfl rfl rfl rfl (by omega) (by decide) c1 ?_
        refine mm_ev.run mm_y134 1 rfl ?_
        refine mm_ev.ite (fun h3 => ?_) (fun h3 => ?_)
        · have : w = 0 := (nI_eq (b := 0) (by omega) (by decide)).mp h3
          rw [if_pos this]
          refine mm_ev.run mm_y134 3 rfl ?_
          refine mm_ev.ild mm_y134 rfl rfl rfl rfl rfl (by omega) (by decide) c2 ?_
          refine mm_ev.run mm_y134 5 rfl ?_
          exact ih _ _ _
        · rw [if_neg (fun z => h3 (by rw [z]; rfl))]
          refine mm_ev.run mm_y134 3 rfl ?_
          refine mm_ev.ild mm_y134 rfl rfl rfl rfl rfl (by omega) (by decide) c2 ?_
          refine mm_ev.run mm_y134 5 rfl ?_
          exact ih _ _ _
set_option maxRecDepth 100000 in
theorem C134 (hg : gM σ g μ) (hc : c < g.1) (hp : p < 12) : mm_call la_M (d + 2) 134 [.ref 110, .int (nI c), .int (nI p)] μ (fun v μ' => v = some (.int (sp_sum σ g.2.2.1 (sp_f g c p (g.2.2.2 0 p) 0))) ∧ ∃ f, μ' = mm_sI μ 124 f) := by
  cases hs : g.2.2.1 with
  | none =>
    have h15 : μ.1 110 15 = -1 := by
      have := hg.1.2.2.1
      rw [hs] at this
      exact this
    refine mm_call.of mm_t134 ?_
    refine mm_ev.run mm_y134 6 rfl ?_
    refine mm_ev.val h15 ?_
    refine mm_ev.run mm_y134 2 rfl ?_
    refine mm_ev.pos rfl ?_
    refine mm_ev.run mm_y134 1 rfl ?_
    exact mm_ev.ret mm_y134 rfl rfl rfl ⟨rfl, μ.1 124, mm_sI_self.symm⟩
  | some j =>
    have hj := hg.2.2.2.1 j hs
    obtain ⟨h1, cd, h2, h3, h4⟩ := hg.2.1
    have hσ := hg.2.2.2.2.1
    have hok := hg.2.2.2.2.2 (σ.getD j []) (by
      rw [List.getD_eq_getElem?_getD, List.getElem?_eq_getElem hj]
      exact List.getElem_mem hj)
    have fin := C134_l (d := d) hg hc hp hj hs (by omega) (h4 j hj).1 hok.1 (σ.getD j []) 0 4 none (μ.1 124) (by omega) (h4 j hj).2 hok.2
    rw [mm_sI_self] at fin
    refine mm_call.of mm_t134 ?_
    refine mm_ev.run mm_y134 4 rfl ?_
    exact fin
set_option maxRecDepth 100000 in
theorem C141_l (hg : gM σ g μ) {j cd m : Nat} (hj : j < σ.length) (hs : g.2.2.1 = some j) (h118 : μ.1 118 j = nI m) (hm10 : m ≤ 10) : ∀ (r : sS) (i : Nat) (z : Int32), i + r.length = m → sp_mcl cd μ r (10 * j + i) → (∀ x ∈ r, x.1 ≤ 2) → mm_ev la_M d 141 4 [some (.ref 110), some (.int z), some (.int (nI i))] [] μ (fun v μ' => v = some (.int (sp_gr r z)) ∧ μ' = μ) := by
  have h15 : μ.1 110 15 = nI j := by
    have := hg.1.2.2.1
    rw [hs] at this
    exact this
  have hσ := hg.2.2.2.2.1
  have e10 : ∀ i, 10 * nI j + nI i = nI (10 * j + i) := fun i => by rw [show (10 : Int32) = nI 10 from rfl, nI_mul, nI_add]
  intro r
  induction r with
  | nil =>
    intro i z hi _ _
    have hi : i = m := by simpa using hi
    subst hi
    refine mm_ev.run mm_y141 2 rfl ?_
    refine mm_ev.val h15 ?_
    refine mm_ev.run mm_y141 2 rfl ?_
    refine mm_ev.neg (fun z => absurd (nI_pos' (n := j) (by omega)) (by rw [z]; decide)) ?_
    refine mm_ev.run mm_y141 5 rfl ?_
    refine mm_ev.val h15 ?_
    refine mm_ev.ild mm_y141 rfl rfl rfl rfl rfl (by omega) (by decide) h118 ?_
    refine mm_ev.run mm_y141 1 rfl ?_
    refine mm_ev.pos (nI_le (Nat.le_refl _) (by omega)) ?_
    refine mm_ev.run mm_y141 1 rfl ?_
    exact mm_ev.ret mm_y141 rfl rfl rfl ⟨rfl, rfl⟩
  | cons x r ih =>
    intro i z hi hcl hok
    obtain ⟨w, x, ops⟩ := x
    obtain ⟨⟨c1, c2, c3⟩, c4⟩ := hcl
    simp only [List.length_cons] at hi
    have ih := fun z => ih (i + 1) z (by omega) c4 (fun x hx => hok x (by simp [hx]))
    rw [nI_succ] at ih
    have hw2 : w ≤ 2 := hok (w, x, ops) (by simp)
    rw [show sp_gr ((w, x, ops) :: r) z = sp_gr r (if w = 2 then x else z) from rfl]
    refine mm_ev.run mm_y141 2 rfl ?_
    refine mm_ev.val h15 ?_
    refine mm_ev.run mm_y141 2 rfl ?_
    refine mm_ev.neg (fun z => absurd (nI_pos' (n := j) (by omega)) (by rw [z]; decide)) ?_
    refine mm_ev.run mm_y141 5 rfl ?_
    refine mm_ev.val h15 ?_
    refine mm_ev.ild mm_y141 rfl rfl rfl rfl rfl (by omega) (by decide) h118 ?_
    refine mm_ev.run mm_y141 1 rfl ?_
    refine mm_ev.neg (nI_ge (show i < m by omega) (by omega)) ?_
    refine mm_ev.run mm_y141 5 rfl ?_
    refine mm_ev.val h15 ?_
    refine mm_ev.run mm_y141 3 rfl ?_
    refine mm_ev.ild mm_y141 rfl rfl rfl rfl (e10 i) (by omega) (by decide) c1 ?_
    refine mm_ev.run mm_y141 2 rfl ?_
    refine mm_ev.ite (fun h1 => ?_) (fun h1 => ?_)
    · have : w = 2 := (nI_eq (b := 2) (by omega) (by decide)).mp h1
      rw [if_pos this]
      refine mm_ev.run mm_y141 5 rfl ?_
      refine mm_ev.val h15 ?_
      refine mm_ev.run mm_y141 3 rfl ?_
      refine mm_ev.ild mm_y141 rfl rfl rfl rfl (e10 i) (by omega) (by decide) c2 ?_
      refine mm_ev.run mm_y141 3 rfl ?_
      exact ih _
    · rw [if_neg (fun z => h1 (by rw [z]; rfl))]
      refine mm_ev.run mm_y141 2 rfl ?_
      exact ih _
set_option maxRecDepth 100000 in
theorem C141 (hg : gM σ g μ) : mm_call la_M d 141 [.ref 110] μ (fun v μ' => v = some (.int (sp_grow σ g.2.2.1)) ∧ μ' = μ) := by
  cases hs : g.2.2.1 with
  | none =>
    have h15 : μ.1 110 15 = -1 := by
      have := hg.1.2.2.1
      rw [hs] at this
      exact this
    refine mm_call.of mm_t141 ?_
    refine mm_ev.run mm_y141 6 rfl ?_
    refine mm_ev.val h15 ?_
    refine mm_ev.run mm_y141 2 rfl ?_
    refine mm_ev.pos rfl ?_
    refine mm_ev.run mm_y141 1 rfl ?_
    exact mm_ev.ret mm_y141 rfl rfl rfl ⟨rfl, rfl⟩
  | some j =>
    have hj := hg.2.2.2.1 j hs
    obtain ⟨h1, cd, h2, h3, h4⟩ := hg.2.1
    have hok := hg.2.2.2.2.2 (σ.getD j []) (by
      rw [List.getD_eq_getElem?_getD, List.getElem?_eq_getElem hj]
      exact List.getElem_mem hj)
    have fin := C141_l (d := d) hg hj hs (h4 j hj).1 hok.1 (σ.getD j []) 0 2 (by omega) (h4 j hj).2 (fun x hx => (hok.2 x hx).1)
    refine mm_call.of mm_t141 ?_
    refine mm_ev.run mm_y141 4 rfl ?_
    exact fin
set_option maxRecDepth 100000 in
theorem C132_l (hg : sG_m g μ) (h6 : g.1 ≤ 6) (hc : c < g.1) (x : Int32) : ∀ m k, k + m = g.1 → (∀ q, q < k → ¬ (q ≠ c ∧ g.2.2.2 3 q = x)) → mm_ev la_M d 132 2 [some (.ref 110), some (.int (nI c)), some (.int x), some (.int (nI k))] [] μ (fun v μ' => v = some (.int (bI (sp_met g c x))) ∧ μ' = μ) := by
  intro m
  induction m with
  | zero =>
    intro k hk hq
    have hk : k = g.1 := by omega
    rw [bI_0 (p := sp_met g c x) (fun ⟨q, h1, h2⟩ => hq q (by omega) h2)]
    subst hk
    refine mm_ev.run mm_y132 3 rfl ?_
    refine mm_ev.val hg.n ?_
    refine mm_ev.run mm_y132 1 rfl ?_
    refine mm_ev.pos (nI_le (Nat.le_refl _) (by omega)) ?_
    refine mm_ev.run mm_y132 1 rfl ?_
    exact mm_ev.ret mm_y132 rfl rfl rfl ⟨rfl, rfl⟩
  | succ m ih =>
    intro k hk hq
    have ih := fun z => ih (k + 1) (by omega) z
    rw [nI_succ] at ih
    refine mm_ev.run mm_y132 3 rfl ?_
    refine mm_ev.val hg.n ?_
    refine mm_ev.run mm_y132 1 rfl ?_
    refine mm_ev.neg (nI_ge (by omega) (by omega)) ?_
    refine mm_ev.run mm_y132 3 rfl ?_
    refine mm_ev.ite (fun h => ?_) (fun h => ?_)
    · refine mm_ev.run mm_y132 2 rfl ?_
      refine ih (fun q h1 h2 => ?_)
      by_cases hqk : q = k
      · exact h2.1 (by rw [hqk]; exact (nI_eq (by omega) (by omega)).mp h)
      · exact hq q (by omega) h2
    · refine mm_ev.run mm_y132 3 rfl ?_
      refine mm_ev.ild mm_y132 rfl rfl rfl rfl rfl (by omega) (by decide) (hg.fin (by omega)) ?_
      refine mm_ev.run mm_y132 2 rfl ?_
      refine mm_ev.ite (fun h2 => ?_) (fun h2 => ?_)
      · rw [bI_1 (p := sp_met g c x) ⟨k, by omega, fun z => h (by rw [z]), h2⟩]
        refine mm_ev.run mm_y132 1 rfl ?_
        exact mm_ev.ret mm_y132 rfl rfl rfl ⟨rfl, rfl⟩
      · refine mm_ev.run mm_y132 2 rfl ?_
        refine ih (fun q h3 h4 => ?_)
        by_cases hqk : q = k
        · exact h2 (by rw [← hqk]; exact h4.2)
        · exact hq q (by omega) h4
set_option maxRecDepth 100000 in
theorem C132 (hg : sG_m g μ) (h6 : g.1 ≤ 6) (hc : c < g.1) (x : Int32) : mm_call la_M d 132 [.ref 110, .int (nI c), .int x] μ (fun v μ' => v = some (.int (bI (sp_met g c x))) ∧ μ' = μ) := by
  refine mm_call.of mm_t132 ?_
  refine mm_ev.run mm_y132 2 rfl ?_
  exact C132_l hg h6 hc x g.1 0 (by omega) (fun q h => absurd h (by omega))
set_option maxRecDepth 100000 in
theorem C133 (hg : gM σ g μ) (hc : c < g.1) (hp : p < 12) (an : Int32) : mm_call la_M (d + 3) 133 [.ref 110, .int (nI c), .int (nI p), .int an] μ (fun v μ' => v = some (.int (sp_care σ g c p (g.2.2.2 0 p) 0 an)) ∧ ∃ f, μ' = mm_sI μ 124 f) := by
  have h6 := hg.2.2.1
  have hh := hg.1.hour
  have hkd := hg.1.kind hc
  have hvv := hg.1.v hc
  have hst := hg.1.stood hc
  have hrw := hg.1.row (c := 4 * c + p % 4) (by omega)
  have e4 : 4 * nI c + (nI p - nI p / 4 * 4) = nI (4 * c + p % 4) := by
    rw [show (nI p - nI p / 4 * 4 : Int32) = nI (p % 4) from pk_rem (d := 4) (by omega) (by decide) (by decide), show (4 : Int32) = nI 4 from rfl, nI_mul, nI_add]
  unfold sp_care sp_cr
  rw [Int32.add_zero, Int32.add_zero]
  generalize hS : sp_sum σ g.2.2.1 (sp_f g c p (g.2.2.2 0 p) 0) = S
  have K := C134 (d := d) hg hc hp
  rw [hS] at K
  have J : ∀ (f : Nat → Int32) (dr : Int32), dr = (if sp_r g.2.1 4 = 3 then 0 else S) → mm_ev la_M (d + 3) 133 14 [some (.ref 110), some (.int (nI c)), some (.int (nI p)), some (.int an), some (.int S), none] [.int dr] (mm_sI μ 124 f) (fun v μ' => v = some (.int (if g.2.2.2 1 c = 1 then S + g.2.2.2 2 c else if g.2.2.2 1 c = 2 then S / 2 else if g.2.2.2 1 c = 3 then (if sp_r g.2.1 4 = 3 then 0 else S) else if g.2.2.2 1 c = 4 then (S + g.2.2.2 2 c) * (if an = 0 then 1 else 2) else if g.2.2.2 1 c = 5 then S / 2 - sp_min 9 (g.2.2.2 4 c / 5) else if g.2.2.2 1 c = 6 then (if sp_r g.2.1 4 = 3 then 0 else S) + g.2.2.2 5 (4 * c + p % 4) else S)) ∧ ∃ f, μ' = mm_sI μ 124 f) := by
    intro f dr hdr
    rw [← hdr]
    refine mm_ev.run mm_y133 4 rfl ?_
    refine mm_ev.ild mm_y133 rfl rfl rfl rfl rfl (by omega) (by decide) hkd ?_
    refine mm_ev.run mm_y133 1 rfl ?_
    refine mm_ev.swc (fun h => ?_) (fun n1 => mm_ev.swc (fun h => ?_) (fun n2 => mm_ev.swc (fun h => ?_) (fun n3 => mm_ev.swc (fun h => ?_) (fun n4 => mm_ev.swc (fun h => ?_) (fun n5 => mm_ev.swc (fun h => ?_) (fun n6 => mm_ev.sw0 ?_))))))
    · rw [if_pos h]
      refine mm_ev.run mm_y133 4 rfl ?_
      refine mm_ev.ild mm_y133 rfl rfl rfl rfl rfl (by omega) (by decide) hvv ?_
      refine mm_ev.run mm_y133 1 rfl ?_
      exact mm_ev.ret mm_y133 rfl rfl rfl ⟨rfl, f, rfl⟩
    · rw [if_neg n1, if_pos h]
      refine mm_ev.run mm_y133 3 rfl ?_
      exact mm_ev.ret mm_y133 rfl rfl rfl ⟨rfl, f, rfl⟩
    · rw [if_neg n1, if_neg n2, if_pos h]
      refine mm_ev.run mm_y133 1 rfl ?_
      exact mm_ev.ret mm_y133 rfl rfl rfl ⟨rfl, f, rfl⟩
    · rw [if_neg n1, if_neg n2, if_neg n3, if_pos h]
      refine mm_ev.run mm_y133 2 rfl ?_
      refine mm_ev.ite (fun h2 => ?_) (fun h2 => ?_)
      · rw [if_pos h2, Int32.mul_one]
        refine mm_ev.run mm_y133 4 rfl ?_
        refine mm_ev.ild mm_y133 rfl rfl rfl rfl rfl (by omega) (by decide) hvv ?_
        refine mm_ev.run mm_y133 1 rfl ?_
        exact mm_ev.ret mm_y133 rfl rfl rfl ⟨rfl, f, rfl⟩
      · rw [if_neg h2, Int32.mul_comm]
        refine mm_ev.run mm_y133 5 rfl ?_
        refine mm_ev.ild mm_y133 rfl rfl rfl rfl rfl (by omega) (by decide) hvv ?_
        refine mm_ev.run mm_y133 3 rfl ?_
        exact mm_ev.ret mm_y133 rfl rfl rfl ⟨rfl, f, rfl⟩
    · rw [if_neg n1, if_neg n2, if_neg n3, if_neg n4, if_pos h]
      refine mm_ev.run mm_y133 7 rfl ?_
      refine mm_ev.ild mm_y133 rfl rfl rfl rfl rfl (by omega) (by decide) hst ?_
      refine mm_ev.run mm_y133 4 rfl ?_
      exact mm_ev.ret mm_y133 rfl rfl rfl ⟨rfl, f, rfl⟩
    · rw [if_neg n1, if_neg n2, if_neg n3, if_neg n4, if_neg n5, if_pos h]
      refine mm_ev.run mm_y133 10 rfl ?_
      refine mm_ev.ild mm_y133 rfl rfl rfl rfl e4 (by omega) (by decide) hrw ?_
      refine mm_ev.run mm_y133 1 rfl ?_
      exact mm_ev.ret mm_y133 rfl rfl rfl ⟨rfl, f, rfl⟩
    · rw [if_neg n1, if_neg n2, if_neg n3, if_neg n4, if_neg n5, if_neg n6]
      refine mm_ev.run mm_y133 1 rfl ?_
      exact mm_ev.ret mm_y133 rfl rfl rfl ⟨rfl, f, rfl⟩
  refine mm_call.of mm_t133 ?_
  refine mm_ev.run mm_y133 3 rfl ?_
  refine mm_ev.call mm_y133 rfl rfl rfl rfl rfl K (fun v1 μ1 hq => ?_)
  obtain ⟨rfl, f, rfl⟩ := hq
  refine mm_ev.run mm_y133 3 rfl ?_
  refine mm_ev.val hh ?_
  refine mm_ev.run mm_y133 4 rfl ?_
  refine mm_ev.ite (c := sp_r g.2.1 4 = 3) (fun h => ?_) (fun h => ?_)
  · refine mm_ev.run mm_y133 2 rfl ?_
    exact J f 0 (by rw [if_pos h])
  · refine mm_ev.run mm_y133 1 rfl ?_
    exact J f S (by rw [if_neg h])
end
