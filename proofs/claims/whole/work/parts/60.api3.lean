/-! THE CLASS'S CALLS: seen, odds -/
section
variable {A : sA} {μ μ' : mm_M} {P : Nat → Prop}
theorem rC.setK {K : sK} (h : rC A μ) (hK : rK 16 K μ') (hf : mf P μ μ') (hP : ∀ c, P c → 16 ≤ c ∧ c ≤ 35 ∨ sc c) : rC (K, A.2) μ' := by
  obtain ⟨h1, h2, h3, h4, h5, h6, h7⟩ := h
  have e : ∀ c, ¬ (16 ≤ c ∧ c ≤ 35 ∨ sc c) → μ'.1 c = μ.1 c := fun c hc => (hf c (fun z => hc (hP c z))).1
  refine ⟨hK, by rw [e 14 (by unfold sc; omega)]; exact h2, fun K hK => (h3 K hK).fr hf (fun c hc => ?_), h4.fr' hf (fun c hc => ?_), ⟨by rw [e 66 (by unfold sc; omega)]; exact h5.1, fun i hi => by rw [e 67 (by unfold sc; omega)]; exact h5.2 i hi⟩, ⟨by rw [e 71 (by unfold sc; omega)]; exact h6.1, fun i hi => by rw [e 72 (by unfold sc; omega)]; exact h6.2 i hi⟩, fun t ht => (h7 t ht).fr hf (fun c hc => ?_)⟩
  all_goals
    have := hP c hc
    unfold sc at this
    omega
theorem rC.setS {S : sR} (h : rC A μ) (hS : rR 24 S μ') (hf : mf (fun c => 24 ≤ c ∧ c ≤ 24 + 3) μ μ') : rC (sA_R A S A.1.2.2.1 A.1.2.2.2) μ' :=
  h.setK ⟨h.1.1.fr2 hf (fun c hc => by omega), hS, h.1.2.2.1.fr hf (fun c hc => by omega), h.1.2.2.2.fr hf (fun c hc => by omega)⟩ hf (fun c hc => by omega)
theorem rC.setP {S : sR} (h : rC A μ) (hS : rR 28 S μ') (hf : mf (fun c => 28 ≤ c ∧ c ≤ 28 + 3) μ μ') : rC (sA_R A A.1.2.1 S A.1.2.2.2) μ' :=
  h.setK ⟨h.1.1.fr2 hf (fun c hc => by omega), h.1.2.1.fr hf (fun c hc => by omega), hS, h.1.2.2.2.fr hf (fun c hc => by omega)⟩ hf (fun c hc => by omega)
theorem rC.setB {S : sR} (h : rC A μ) (hS : rR 32 S μ') (hf : mf (fun c => 32 ≤ c ∧ c ≤ 32 + 3) μ μ') : rC (sA_R A A.1.2.1 A.1.2.2.1 S) μ' :=
  h.setK ⟨h.1.1.fr2 hf (fun c hc => by omega), h.1.2.1.fr hf (fun c hc => by omega), h.1.2.2.1.fr hf (fun c hc => by omega), hS⟩ hf (fun c hc => by omega)
end
section
variable {σ : List sS} {g : sG} {S : sR} {p c : Nat}
theorem sp_scn_1 {f : Nat → Prop} {hd : ∀ n, Decidable (f n)} {k : Nat} {m l : Int32} (h : f k) : sp_scn f hd (k + 1) m l = sp_scn f hd k (m + 1) (nI k) := by
  show (if @decide (f k) (hd k) = true then _ else _) = _
  rw [if_pos (@decide_eq_true _ (hd k) h)]
theorem sp_scn_0 {f : Nat → Prop} {hd : ∀ n, Decidable (f n)} {k : Nat} {m l : Int32} (h : ¬ f k) : sp_scn f hd (k + 1) m l = sp_scn f hd k m l := by
  show (if @decide (f k) (hd k) = true then _ else _) = _
  rw [if_neg (fun z => h (@of_decide_eq_true _ (hd k) z))]
theorem sp_scn_n {f : Nat → Prop} {hd : ∀ n, Decidable (f n)} (h : ∀ n, ¬ f n) : ∀ (k : Nat) (m l : Int32), sp_scn f hd k m l = (m, l) := by
  intro k
  induction k with
  | zero => intro m l; rfl
  | succ k ih => intro m l; rw [sp_scn_0 (h k), ih]
theorem sp_beh_s (σ : List sS) (g : sG) (p k : Nat) : sp_beh σ g p (k + 1) = sp_next σ g p (sp_beh σ g p k) (nI k) := rfl
theorem sp_beh_n {p' n : Nat} (h : p' ≠ p) : ∀ k, sp_beh σ (sG_n g p n) p' k = sp_beh σ g p' k := by
  intro k
  induction k with
  | zero =>
    show (sG_n g p n).2.2.2 0 p' = g.2.2.2 0 p'
    unfold sG_n
    rw [sG_u_at, upd_ne h]
  | succ k ih =>
    rw [sp_beh_s, sp_beh_s, ih]
    exact sp_next_u0 _ _ _
theorem sp_sn_p (hS : okS S) (hp : p < 12) {n : Nat} : sp_sn σ (sG_n g p n) S ↔ (∀ p', p' < 12 → nI p' ≠ nI p → sp_is σ g S p') ∧ sp_is σ (sG_n g p n) S p := by
  constructor
  · intro h
    refine ⟨fun p' hp' hne i hi he => ?_, fun i hi he => ?_⟩
    · have := h i hi
      rw [he, nI_clamp (by omega), sp_beh_n (fun z => hne (by rw [z]))] at this
      exact this
    · have := h i hi
      rw [he, nI_clamp (by omega)] at this
      exact this
  · intro ⟨h1, h2⟩ i hi
    obtain ⟨⟨p', hp', he⟩, _⟩ := hS.2 i hi
    rw [he, nI_clamp (by omega)]
    by_cases e : p' = p
    · subst e
      exact h2 i hi he
    · rw [sp_beh_n e]
      exact h1 p' hp' (fun z => e ((nI_eq (by omega) (by omega)).mp z)) i hi he
theorem sp_sn_all (hS : okS S) : (∀ p, p < 12 → nI p ≠ -5 → sp_is σ g S p) ↔ sp_sn σ g S := by
  constructor
  · intro h i hi
    obtain ⟨⟨p, hp, he⟩, _⟩ := hS.2 i hi
    rw [he, nI_clamp (by omega)]
    exact h p hp (fun z => absurd (nI_pos' (n := p) (by omega)) (by rw [z]; decide)) i hi he
  · intro h p hp _ i hi he
    have := h i hi
    rw [he, nI_clamp (by omega)] at this
    exact this
theorem sG_n_n {n n2 : Nat} : sG_n (sG_n g p n) p n2 = sG_n g p n2 := by
  show sG_u (sG_u g 0 _) 0 (upd ((sG_u g 0 _).2.2.2 0) p (nI n2)) = _
  rw [sG_u_u, sG_u_at, upd_upd]
  rfl
theorem sG_v_v {n n2 : Nat} : sG_v (sG_v g c n) c n2 = sG_v g c n2 := by
  show sG_u (sG_u g 2 _) 2 (upd ((sG_u g 2 _).2.2.2 2) c (nI n2)) = _
  rw [sG_u_u, sG_u_at, upd_upd]
  rfl
theorem sG_f_f {n n2 : Nat} : sG_f (sG_f g c n) c n2 = sG_f g c n2 := by
  show sG_u (sG_u g 3 _) 3 (upd ((sG_u g 3 _).2.2.2 3) c (nI n2)) = _
  rw [sG_u_u, sG_u_at, upd_upd]
  rfl
end
section
variable {d : Nat} {μ : mm_M} {A : sA}
set_option maxRecDepth 100000 in
theorem C92_l (h : rC A μ) (ho : okA A) {p : Nat} (hp : p < 12) (w : Int32) (hot : ∀ p', p' < 12 → nI p' ≠ nI p → sp_is A.2.2.1 A.1.1 A.1.2.1 p') : ∀ k mm l g1 μ1, k ≤ 100 → gC 57 A.2.2.1 g1 μ1 → (∀ n, sG_n g1 p n = sG_n A.1.1 p n) → mf sc μ μ1 → mm_ev la_C (d + 8) 92 20 [some (.ref 14), some (.int (nI p)), some (.int w), some (.int mm), some (.int l), some (.int 1), some (.int (nI k - 1))] [] μ1 (fun v μ' => v = some (.int (if w = 0 then (sp_scn (fun n => sp_sn A.2.2.1 (sG_n A.1.1 p n) A.1.2.1) (fun _ => inferInstance) k mm l).1 else (sp_scn (fun n => sp_sn A.2.2.1 (sG_n A.1.1 p n) A.1.2.1) (fun _ => inferInstance) k mm l).2)) ∧ mf sc μ μ') := by
  intro k
  have hS := ho.1.2.1
  induction k with
  | zero =>
    intro mm l g1 μ1 hk hg hgg hf
    refine mm_ev.run mm_y92 2 rfl ?_
    refine mm_ev.neg (by decide) ?_
    refine mm_ev.run mm_y92 2 rfl ?_
    refine mm_ev.pos (by decide) ?_
    refine mm_ev.run mm_y92 2 rfl ?_
    refine mm_ev.ite (fun h2 => ?_) (fun h2 => ?_)
    · rw [if_pos h2]
      refine mm_ev.run mm_y92 1 rfl ?_
      exact mm_ev.ret mm_y92 rfl rfl rfl ⟨rfl, hf⟩
    · rw [if_neg h2]
      refine mm_ev.run mm_y92 2 rfl ?_
      exact mm_ev.ret mm_y92 rfl rfl rfl ⟨rfl, hf⟩
  | succ k ih =>
    intro mm l g1 μ1 hk hg hgg hf
    have ih := fun mm l g1 μ1 => ih mm l g1 μ1 (by omega)
    rw [Int32.sub_eq_add_neg] at ih
    rw [nI_pred]
    have hg2 := hg.u (Or.inr rfl) (k := 0) (f := upd (μ1.1 58) p (nI k)) (F := upd (g1.2.2.2 0) p (nI k)) (by decide) (upd_co (fun i hi => hg.1.need hi))
    have e2 : sG_u g1 0 (upd (g1.2.2.2 0) p (nI k)) = sG_n A.1.1 p k := hgg k
    rw [e2] at hg2
    have hf2 : mf sc μ (mm_sI μ1 58 (upd (μ1.1 58) p (nI k))) := hf.sI (by unfold sc; omega)
    have hr : rR 24 A.1.2.1 (mm_sI μ1 58 (upd (μ1.1 58) p (nI k))) := h.1.2.1.fr hf2 (fun c hc => by unfold sc at hc; omega)
    refine mm_ev.run mm_y92 2 rfl ?_
    refine mm_ev.neg (by decide) ?_
    refine mm_ev.run mm_y92 2 rfl ?_
    refine mm_ev.neg (nI_pos (by omega)) ?_
    refine mm_ev.run mm_y92 5 rfl ?_
    refine mm_ev.ist mm_y92 rfl rfl rfl rfl rfl (by omega) (by decide) ?_
    refine mm_ev.run mm_y92 6 rfl ?_
    refine mm_ev.call mm_y92 rfl rfl rfl rfl rfl (C38 hg2 hS hr hp) (fun v1 μ1 hq => ?_)
    obtain ⟨fa, rfl, rfl⟩ := hq
    refine mm_ev.run mm_y92 1 rfl ?_
    refine mm_ev.ifb (fun h3 => ?_) (fun h3 => ?_)
    · rw [sp_scn_0 (fun z => h3 ((sp_sn_p hS hp).mp z).2)]
      refine mm_ev.run mm_y92 3 rfl ?_
      exact ih _ _ _ _ (hg2.fa (Or.inr rfl) fa) (fun n => sG_n_n) (hf2.sI (by unfold sc; omega))
    · rw [sp_scn_1 ((sp_sn_p hS hp).mpr ⟨hot, h3⟩)]
      refine mm_ev.run mm_y92 5 rfl ?_
      exact ih _ _ _ _ (hg2.fa (Or.inr rfl) fa) (fun n => sG_n_n) (hf2.sI (by unfold sc; omega))
set_option maxRecDepth 100000 in
theorem C92 (h : rC A μ) (ho : okA A) {p : Nat} (hp : p < 12) (w : Int32) : mm_call la_C (d + 9) 92 [.ref 14, .int (nI p), .int w] μ (fun v μ' => v = some (.int (if w = 0 then (sp_fitN A.2.2.1 A.1.1 A.1.2.1 p).1 else (sp_fitN A.2.2.1 A.1.1 A.1.2.1 p).2)) ∧ mf sc μ μ') := by
  have hS := ho.1.2.1
  refine mm_call.of mm_t92 ?_
  refine mm_ev.run mm_y92 5 rfl ?_
  refine mm_ev.call mm_y92 rfl rfl rfl rfl rfl (C36 (by decide) h.1.1 ho.n) (fun v1 μ1 hq => ?_)
  obtain ⟨rfl, e1, e2⟩ := hq
  have hg := h.tr ho e1 e2
  have hf : mf sc μ μ1 := e2.mono (fun c hc => by unfold sc; omega)
  have hr : rR 24 A.1.2.1 μ1 := h.1.2.1.fr hf (fun c hc => by unfold sc at hc; omega)
  have K37 := C37 (d := d + 3) hg hS hr (nI p)
  by_cases hot : ∀ p', p' < 12 → nI p' ≠ nI p → sp_is A.2.2.1 A.1.1 A.1.2.1 p'
  · rw [cI_1 hot] at K37
    refine mm_ev.run mm_y92 10 rfl ?_
    refine mm_ev.call mm_y92 rfl rfl rfl rfl rfl K37 (fun v1 μ1 hq => ?_)
    obtain ⟨fa, rfl, rfl⟩ := hq
    refine mm_ev.run mm_y92 3 rfl ?_
    exact C92_l (d := d + 1) h ho hp w hot 100 0 (-5) A.1.1 _ (by omega) (hg.fa (Or.inr rfl) fa) (fun _ => rfl) (hf.sI (by unfold sc; omega))
  · rw [cI_0 hot] at K37
    have e0 : sp_fitN A.2.2.1 A.1.1 A.1.2.1 p = (0, -5) := sp_scn_n (fun n z => hot ((sp_sn_p hS hp).mp z).1) 100 0 (-5)
    rw [e0]
    refine mm_ev.run mm_y92 10 rfl ?_
    refine mm_ev.call mm_y92 rfl rfl rfl rfl rfl K37 (fun v1 μ1 hq => ?_)
    obtain ⟨fa, rfl, rfl⟩ := hq
    refine mm_ev.run mm_y92 5 rfl ?_
    refine mm_ev.pos rfl ?_
    refine mm_ev.run mm_y92 2 rfl ?_
    refine mm_ev.ite (fun h2 => ?_) (fun h2 => ?_)
    · rw [if_pos h2]
      refine mm_ev.run mm_y92 1 rfl ?_
      exact mm_ev.ret mm_y92 rfl rfl rfl ⟨rfl, hf.sI (by unfold sc; omega)⟩
    · rw [if_neg h2]
      refine mm_ev.run mm_y92 2 rfl ?_
      exact mm_ev.ret mm_y92 rfl rfl rfl ⟨rfl, hf.sI (by unfold sc; omega)⟩
set_option maxRecDepth 100000 in
theorem C90 (h : rC A μ) (ho : okA A) (p w : Int32) : mm_call la_C (d + 10) 90 [.ref 14, .int p, .int w] μ (fun v μ' => v = some (.int (q_spot A p w)) ∧ rC A μ') := by
  have hg := h.g ho
  refine mm_call.of mm_t90 ?_
  refine mm_ev.run mm_y90 1 rfl ?_
  refine mm_ev.call mm_y90 rfl rfl rfl rfl rfl (C91 p) (fun v1 μ1 hq => ?_)
  obtain ⟨rfl, hμ⟩ := hq
  obtain rfl := hμ.symm
  refine mm_ev.run mm_y90 1 rfl ?_
  refine mm_ev.ifb (fun h1 => ?_) (fun h1 => ?_)
  · rw [q_spot, if_neg h1]
    refine mm_ev.run mm_y90 1 rfl ?_
    exact mm_ev.ret mm_y90 rfl rfl rfl ⟨rfl, h⟩
  · rw [q_spot, if_pos h1]
    obtain ⟨p, hp, rfl⟩ := p_12 h1
    rw [nI_clamp (by omega)]
    refine mm_ev.run mm_y90 2 rfl ?_
    refine mm_ev.swc (fun h2 => ?_) (fun n0 => mm_ev.swc (fun h2 => ?_) (fun n1 => mm_ev.swc (fun h2 => ?_) (fun n2 => mm_ev.swc (fun h2 => ?_) (fun n3 => mm_ev.sw0 ?_))))
    · rw [if_pos h2]
      refine mm_ev.run mm_y90 5 rfl ?_
      refine mm_ev.ild mm_y90 rfl rfl rfl rfl rfl (by omega) (by decide) (hg.1.need hp) ?_
      exact mm_ev.ret mm_y90 rfl rfl rfl ⟨rfl, h⟩
    · rw [if_neg n0, if_pos h2]
      refine mm_ev.run mm_y90 4 rfl ?_
      refine mm_ev.call mm_y90 rfl rfl rfl rfl rfl (C32 (Or.inl rfl) hg hp) (fun v1 μ1 hq => ?_)
      obtain ⟨fa, rfl, rfl⟩ := hq
      exact mm_ev.ret mm_y90 rfl rfl rfl ⟨rfl, h.fr (mf.rf.sI (Or.inl rfl))⟩
    · rw [if_neg n0, if_neg n1, if_pos h2]
      refine mm_ev.run mm_y90 3 rfl ?_
      refine mm_ev.call mm_y90 rfl rfl rfl rfl rfl (C92 h ho hp 0) (fun v1 μ1 hq => ?_)
      obtain ⟨rfl, hm⟩ := hq
      exact mm_ev.ret mm_y90 rfl rfl rfl ⟨rfl, h.fr hm⟩
    · rw [if_neg n0, if_neg n1, if_neg n2, if_pos h2]
      refine mm_ev.run mm_y90 3 rfl ?_
      refine mm_ev.call mm_y90 rfl rfl rfl rfl rfl (C92 h ho hp 1) (fun v1 μ1 hq => ?_)
      obtain ⟨rfl, hm⟩ := hq
      exact mm_ev.ret mm_y90 rfl rfl rfl ⟨rfl, h.fr hm⟩
    · rw [if_neg n0, if_neg n1, if_neg n2, if_neg n3]
      refine mm_ev.run mm_y90 1 rfl ?_
      exact mm_ev.ret mm_y90 rfl rfl rfl ⟨rfl, h⟩
set_option maxRecDepth 100000 in
theorem C105 (h : rC A μ) (ho : okA A) (p n x : Int32) : mm_call la_C (d + 10) 105 [.ref 14, .int p, .int n, .int x] μ (fun v μ' => v = some (.int (q_see A p n x).1) ∧ rC (q_see A p n x).2 μ') := by
  refine mm_call.of mm_t105 ?_
  refine mm_ev.run mm_y105 3 rfl ?_
  refine mm_ev.ite (fun h1 => ?_) (fun h1 => ?_)
  · rw [q_see, if_pos h1]
    refine mm_ev.run mm_y105 3 rfl ?_
    refine mm_ev.call mm_y105 rfl rfl rfl rfl rfl (C70 (q := 24) (by decide)) (fun v1 μ1 hq => ?_)
    obtain ⟨rfl, hμ⟩ := hq
    obtain rfl := hμ.symm
    exact mm_ev.ret mm_y105 rfl rfl rfl ⟨rfl, h.setS rR_0 (mf.rf.sI ⟨by decide, by decide⟩)⟩
  · rw [q_see, if_neg h1]
    refine mm_ev.run mm_y105 1 rfl ?_
    refine mm_ev.call mm_y105 rfl rfl rfl rfl rfl (C91 p) (fun v1 μ1 hq => ?_)
    obtain ⟨rfl, hμ⟩ := hq
    obtain rfl := hμ.symm
    refine mm_ev.run mm_y105 1 rfl ?_
    refine mm_ev.ifb (fun h2 => ?_) (fun h2 => ?_)
    · rw [if_neg h2]
      refine mm_ev.run mm_y105 1 rfl ?_
      exact mm_ev.ret mm_y105 rfl rfl rfl ⟨rfl, h⟩
    · rw [if_pos h2]
      refine mm_ev.run mm_y105 3 rfl ?_
      refine mm_ev.call mm_y105 rfl rfl rfl rfl rfl (C86 n 0 12) (fun v1 μ1 hq => ?_)
      obtain ⟨rfl, hμ⟩ := hq
      obtain rfl := hμ.symm
      refine mm_ev.run mm_y105 1 rfl ?_
      refine mm_ev.ifb (fun h3 => ?_) (fun h3 => ?_)
      · rw [if_neg (fun z => h3 z.1)]
        refine mm_ev.run mm_y105 1 rfl ?_
        exact mm_ev.ret mm_y105 rfl rfl rfl ⟨rfl, h⟩
      · refine mm_ev.run mm_y105 3 rfl ?_
        refine mm_ev.call mm_y105 rfl rfl rfl rfl rfl (C86 x 0 99) (fun v1 μ1 hq => ?_)
        obtain ⟨rfl, hμ⟩ := hq
        obtain rfl := hμ.symm
        refine mm_ev.run mm_y105 1 rfl ?_
        refine mm_ev.ifb (fun h4 => ?_) (fun h4 => ?_)
        · rw [if_neg (fun z => h4 z.2)]
          refine mm_ev.run mm_y105 1 rfl ?_
          exact mm_ev.ret mm_y105 rfl rfl rfl ⟨rfl, h⟩
        · rw [if_pos ⟨h3, h4⟩]
          refine mm_ev.run mm_y105 6 rfl ?_
          refine mm_ev.call mm_y105 rfl rfl rfl rfl rfl (C71 (q := 24) (l := 5) (by decide) h.1.2.1 ho.1.2.1.1 p n x) (fun v1 μ1 hq => ?_)
          rcases hq with ⟨e, rfl, hμ⟩ | ⟨e, rfl, e2, e3⟩
          · obtain rfl := hμ.symm
            rw [if_pos e]
            exact mm_ev.ret mm_y105 rfl rfl rfl ⟨rfl, h⟩
          · rw [if_neg (by omega)]
            exact mm_ev.ret mm_y105 rfl rfl rfl ⟨rfl, h.setS e2 e3⟩
set_option maxRecDepth 100000 in
theorem C106_l (h : rC A μ) (ho : okA A) {c : Nat} (hc : c < A.1.1.1) (w : Int32) : ∀ k mm l g1 μ1, k ≤ 10 → gC 57 A.2.2.1 g1 μ1 → g1.1 = A.1.1.1 → (∀ n, sG_v g1 c n = sG_v A.1.1 c n) → mf sc μ μ1 → mm_ev la_C (d + 8) 106 23 [some (.ref 14), some (.int (nI c)), some (.int w), some (.int mm), some (.int l), some (.int (nI k - 1))] [] μ1 (fun v μ' => v = some (.int (if w = 0 then (sp_scn (fun n => sp_sn A.2.2.1 (sG_v A.1.1 c n) A.1.2.1) (fun _ => inferInstance) k mm l).1 else (sp_scn (fun n => sp_sn A.2.2.1 (sG_v A.1.1 c n) A.1.2.1) (fun _ => inferInstance) k mm l).2)) ∧ rC A μ') := by
  intro k
  have hS := ho.1.2.1
  have h6 := ho.n
  induction k with
  | zero =>
    intro mm l g1 μ1 hk hg hgn hgg hf
    refine mm_ev.run mm_y106 2 rfl ?_
    refine mm_ev.pos (by decide) ?_
    refine mm_ev.run mm_y106 2 rfl ?_
    refine mm_ev.ite (fun h2 => ?_) (fun h2 => ?_)
    · rw [if_pos h2]
      refine mm_ev.run mm_y106 2 rfl ?_
      exact mm_ev.ret mm_y106 rfl rfl rfl ⟨rfl, h.fr hf⟩
    · rw [if_neg h2]
      refine mm_ev.run mm_y106 1 rfl ?_
      exact mm_ev.ret mm_y106 rfl rfl rfl ⟨rfl, h.fr hf⟩
  | succ k ih =>
    intro mm l g1 μ1 hk hg hgn hgg hf
    have ih := fun mm l g1 μ1 => ih mm l g1 μ1 (by omega)
    rw [Int32.sub_eq_add_neg] at ih
    rw [nI_pred]
    have hg2 := hg.u (Or.inr rfl) (k := 2) (f := upd (μ1.1 60) c (nI k)) (F := upd (g1.2.2.2 2) c (nI k)) (by decide) (upd_co (fun i hi => hg.1.v hi))
    have e2 : sG_u g1 2 (upd (g1.2.2.2 2) c (nI k)) = sG_v A.1.1 c k := hgg k
    rw [e2] at hg2
    have hf2 : mf sc μ (mm_sI μ1 60 (upd (μ1.1 60) c (nI k))) := hf.sI (by unfold sc; omega)
    have hr : rR 24 A.1.2.1 (mm_sI μ1 60 (upd (μ1.1 60) c (nI k))) := h.1.2.1.fr hf2 (fun c hc => by unfold sc at hc; omega)
    have K37 := C37 (d := d + 2) hg2 hS hr (-5)
    by_cases hot : ∀ p, p < 12 → nI p ≠ -5 → sp_is A.2.2.1 (sG_v A.1.1 c k) A.1.2.1 p
    · rw [cI_1 hot] at K37
      rw [sp_scn_1 ((sp_sn_all hS).mp hot)]
      refine mm_ev.run mm_y106 2 rfl ?_
      refine mm_ev.neg (nI_pos (by omega)) ?_
      refine mm_ev.run mm_y106 5 rfl ?_
      refine mm_ev.ist mm_y106 rfl rfl rfl rfl rfl (by omega) (by decide) ?_
      refine mm_ev.run mm_y106 6 rfl ?_
      refine mm_ev.call mm_y106 rfl rfl rfl rfl rfl K37 (fun v1 μ1 hq => ?_)
      obtain ⟨fa, rfl, rfl⟩ := hq
      refine mm_ev.run mm_y106 1 rfl ?_
      refine mm_ev.neg (by decide) ?_
      refine mm_ev.run mm_y106 5 rfl ?_
      exact ih _ _ _ _ (hg2.fa (Or.inr rfl) fa) rfl (fun n => sG_v_v) (hf2.sI (by unfold sc; omega))
    · rw [cI_0 hot] at K37
      rw [sp_scn_0 (fun z => hot ((sp_sn_all hS).mpr z))]
      refine mm_ev.run mm_y106 2 rfl ?_
      refine mm_ev.neg (nI_pos (by omega)) ?_
      refine mm_ev.run mm_y106 5 rfl ?_
      refine mm_ev.ist mm_y106 rfl rfl rfl rfl rfl (by omega) (by decide) ?_
      refine mm_ev.run mm_y106 6 rfl ?_
      refine mm_ev.call mm_y106 rfl rfl rfl rfl rfl K37 (fun v1 μ1 hq => ?_)
      obtain ⟨fa, rfl, rfl⟩ := hq
      refine mm_ev.run mm_y106 1 rfl ?_
      refine mm_ev.pos rfl ?_
      refine mm_ev.run mm_y106 3 rfl ?_
      exact ih _ _ _ _ (hg2.fa (Or.inr rfl) fa) rfl (fun n => sG_v_v) (hf2.sI (by unfold sc; omega))
set_option maxRecDepth 100000 in
theorem C106 (h : rC A μ) (ho : okA A) (c w : Int32) : mm_call la_C (d + 10) 106 [.ref 14, .int c, .int w] μ (fun v μ' => v = some (.int (q_can A c w)) ∧ rC A μ') := by
  have h6 := ho.n
  refine mm_call.of mm_t106 ?_
  refine mm_ev.run mm_y106 2 rfl ?_
  refine mm_ev.call mm_y106 rfl rfl rfl rfl rfl (C88' h.n c) (fun v1 μ1 hq => ?_)
  obtain ⟨rfl, hμ⟩ := hq
  obtain rfl := hμ.symm
  refine mm_ev.run mm_y106 1 rfl ?_
  refine mm_ev.ifb (fun h1 => ?_) (fun h1 => ?_)
  · rw [q_can, if_neg (fun z => h1 z.1)]
    refine mm_ev.run mm_y106 1 rfl ?_
    exact mm_ev.ret mm_y106 rfl rfl rfl ⟨rfl, h⟩
  · refine mm_ev.run mm_y106 3 rfl ?_
    refine mm_ev.call mm_y106 rfl rfl rfl rfl rfl (C86 w 0 1) (fun v1 μ1 hq => ?_)
    obtain ⟨rfl, hμ⟩ := hq
    obtain rfl := hμ.symm
    refine mm_ev.run mm_y106 1 rfl ?_
    refine mm_ev.ifb (fun h2 => ?_) (fun h2 => ?_)
    · rw [q_can, if_neg (fun z => h2 z.2)]
      refine mm_ev.run mm_y106 1 rfl ?_
      exact mm_ev.ret mm_y106 rfl rfl rfl ⟨rfl, h⟩
    · rw [q_can, if_pos ⟨h1, h2⟩]
      obtain ⟨c, hc, rfl⟩ := nI_cap (by omega) h1
      rw [nI_clamp (by omega)]
      refine mm_ev.run mm_y106 5 rfl ?_
      refine mm_ev.call mm_y106 rfl rfl rfl rfl rfl (C36 (by decide) h.1.1 h6) (fun v1 μ1 hq => ?_)
      obtain ⟨rfl, e1, e2⟩ := hq
      refine mm_ev.run mm_y106 6 rfl ?_
      exact C106_l (d := d + 2) h ho hc w 10 0 (-5) A.1.1 _ (by omega) (h.tr ho e1 e2) rfl (fun _ => rfl) (e2.mono (fun c hc => by unfold sc; omega))
end
