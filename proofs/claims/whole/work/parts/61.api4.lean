/-! THE CLASS'S CALLS: odds, plans, books, the image -/
theorem g_12 (a : Nat) : Nat.gcd a 12 = if a % 12 = 0 then 12 else if a % 6 = 0 then 6 else if a % 4 = 0 then 4 else if a % 3 = 0 then 3 else if a % 2 = 0 then 2 else 1 := by
  have t : ∀ r, r < 12 → Nat.gcd r 12 = if r = 0 then 12 else if r % 6 = 0 then 6 else if r % 4 = 0 then 4 else if r % 3 = 0 then 3 else if r % 2 = 0 then 2 else 1 := by decide
  rw [Nat.gcd_comm, Nat.gcd_rec, t _ (Nat.mod_lt _ (by decide)), show a % 12 % 6 = a % 6 by omega, show a % 12 % 4 = a % 4 by omega, show a % 12 % 3 = a % 3 by omega, show a % 12 % 2 = a % 2 by omega]
section
variable {Λ : List mm_D} {d : Nat} {μ : mm_M}
theorem q_12 {a k : Nat} (ha : a < 2 ^ 31) (h0 : 0 < k) (hk : k < 2 ^ 31) : (nI a - nI a / nI k * nI k = 0) ↔ a % k = 0 := by
  rw [pk_rem ha h0 hk]
  have : a % k < k := Nat.mod_lt _ h0
  exact nI_eq (b := 0) (by omega) (by decide)
set_option maxRecDepth 100000 in
theorem C108_k {a b : Nat} (ha : a < 2 ^ 31) (hb : b < 2 ^ 31) (w : Int32) : mm_ev Λ d 108 8 [some (.int (nI a)), some (.int w), some (.int (nI b)), some (.int 12)] [] μ (fun v μ' => v = some (.long (lN (b / Nat.gcd a 12))) ∧ μ' = μ) := by
  have fin : ∀ k : Nat, 0 < k → k < 2 ^ 31 → (nI b / nI k).toInt64 = lN (b / k) := fun k h0 hk => by
    rw [pk_div hb h0 hk, nI_l (Nat.lt_of_le_of_lt (Nat.div_le_self _ _) hb)]
  rw [g_12]
  refine mm_ev.run mm_y108 3 rfl ?_
  refine mm_ev.neg (by decide) ?_
  refine mm_ev.run mm_y108 4 rfl ?_
  refine mm_ev.pos (by decide) ?_
  refine mm_ev.run mm_y108 4 rfl ?_
  refine mm_ev.ite (c := nI a - nI a / nI 12 * nI 12 = 0) (fun h => ?_) (fun h => ?_)
  · rw [if_pos ((q_12 ha (by decide) (by decide)).mp h)]
    refine mm_ev.run mm_y108 4 rfl ?_
    exact mm_ev.ret mm_y108 rfl rfl rfl ⟨congrArg (fun z => some (Value.long z)) (fin 12 (by decide) (by decide)), rfl⟩
  · rw [if_neg (fun z => h ((q_12 ha (by decide) (by decide)).mpr z))]
    refine mm_ev.run mm_y108 5 rfl ?_
    refine mm_ev.neg (by decide) ?_
    refine mm_ev.run mm_y108 4 rfl ?_
    refine mm_ev.neg (by decide) ?_
    refine mm_ev.run mm_y108 5 rfl ?_
    refine mm_ev.neg (by decide) ?_
    refine mm_ev.run mm_y108 4 rfl ?_
    refine mm_ev.neg (by decide) ?_
    refine mm_ev.run mm_y108 5 rfl ?_
    refine mm_ev.neg (by decide) ?_
    refine mm_ev.run mm_y108 4 rfl ?_
    refine mm_ev.neg (by decide) ?_
    refine mm_ev.run mm_y108 5 rfl ?_
    refine mm_ev.neg (by decide) ?_
    refine mm_ev.run mm_y108 4 rfl ?_
    refine mm_ev.neg (by decide) ?_
    refine mm_ev.run mm_y108 5 rfl ?_
    refine mm_ev.neg (by decide) ?_
    refine mm_ev.run mm_y108 4 rfl ?_
    refine mm_ev.neg (by decide) ?_
    refine mm_ev.run mm_y108 5 rfl ?_
    refine mm_ev.neg (by decide) ?_
    refine mm_ev.run mm_y108 4 rfl ?_
    refine mm_ev.pos (by decide) ?_
    refine mm_ev.run mm_y108 4 rfl ?_
    refine mm_ev.ite (c := nI a - nI a / nI 6 * nI 6 = 0) (fun h => ?_) (fun h => ?_)
    · rw [if_pos ((q_12 ha (by decide) (by decide)).mp h)]
      refine mm_ev.run mm_y108 4 rfl ?_
      exact mm_ev.ret mm_y108 rfl rfl rfl ⟨congrArg (fun z => some (Value.long z)) (fin 6 (by decide) (by decide)), rfl⟩
    · rw [if_neg (fun z => h ((q_12 ha (by decide) (by decide)).mpr z))]
      refine mm_ev.run mm_y108 5 rfl ?_
      refine mm_ev.neg (by decide) ?_
      refine mm_ev.run mm_y108 4 rfl ?_
      refine mm_ev.neg (by decide) ?_
      refine mm_ev.run mm_y108 5 rfl ?_
      refine mm_ev.neg (by decide) ?_
      refine mm_ev.run mm_y108 4 rfl ?_
      refine mm_ev.pos (by decide) ?_
      refine mm_ev.run mm_y108 4 rfl ?_
      refine mm_ev.ite (c := nI a - nI a / nI 4 * nI 4 = 0) (fun h => ?_) (fun h => ?_)
      · rw [if_pos ((q_12 ha (by decide) (by decide)).mp h)]
        refine mm_ev.run mm_y108 4 rfl ?_
        exact mm_ev.ret mm_y108 rfl rfl rfl ⟨congrArg (fun z => some (Value.long z)) (fin 4 (by decide) (by decide)), rfl⟩
      · rw [if_neg (fun z => h ((q_12 ha (by decide) (by decide)).mpr z))]
        refine mm_ev.run mm_y108 5 rfl ?_
        refine mm_ev.neg (by decide) ?_
        refine mm_ev.run mm_y108 4 rfl ?_
        refine mm_ev.pos (by decide) ?_
        refine mm_ev.run mm_y108 4 rfl ?_
        refine mm_ev.ite (c := nI a - nI a / nI 3 * nI 3 = 0) (fun h => ?_) (fun h => ?_)
        · rw [if_pos ((q_12 ha (by decide) (by decide)).mp h)]
          refine mm_ev.run mm_y108 4 rfl ?_
          exact mm_ev.ret mm_y108 rfl rfl rfl ⟨congrArg (fun z => some (Value.long z)) (fin 3 (by decide) (by decide)), rfl⟩
        · rw [if_neg (fun z => h ((q_12 ha (by decide) (by decide)).mpr z))]
          refine mm_ev.run mm_y108 5 rfl ?_
          refine mm_ev.neg (by decide) ?_
          refine mm_ev.run mm_y108 4 rfl ?_
          refine mm_ev.pos (by decide) ?_
          refine mm_ev.run mm_y108 4 rfl ?_
          refine mm_ev.ite (c := nI a - nI a / nI 2 * nI 2 = 0) (fun h => ?_) (fun h => ?_)
          · rw [if_pos ((q_12 ha (by decide) (by decide)).mp h)]
            refine mm_ev.run mm_y108 4 rfl ?_
            exact mm_ev.ret mm_y108 rfl rfl rfl ⟨congrArg (fun z => some (Value.long z)) (fin 2 (by decide) (by decide)), rfl⟩
          · rw [if_neg (fun z => h ((q_12 ha (by decide) (by decide)).mpr z)), Nat.div_one]
            refine mm_ev.run mm_y108 5 rfl ?_
            refine mm_ev.pos (by decide) ?_
            refine mm_ev.run mm_y108 2 rfl ?_
            exact mm_ev.ret mm_y108 rfl rfl rfl ⟨congrArg (fun z => some (Value.long z)) (nI_l hb), rfl⟩
set_option maxRecDepth 100000 in
theorem C108 {a : Nat} (ha : a < 2 ^ 31) (w : Int32) : mm_call Λ d 108 [.int (nI a), .int w] μ (fun v μ' => v = some (.long (sp_12 a w)) ∧ μ' = μ) := by
  unfold sp_12
  refine mm_call.of mm_t108 ?_
  refine mm_ev.run mm_y108 2 rfl ?_
  refine mm_ev.ite (fun h => ?_) (fun h => ?_)
  · rw [if_pos h]
    refine mm_ev.run mm_y108 5 rfl ?_
    exact C108_k ha ha w
  · rw [if_neg h]
    refine mm_ev.run mm_y108 4 rfl ?_
    exact C108_k ha (show 12 < 2 ^ 31 by decide) w
end
section
variable {σ : List sS} {g : sG}
theorem sp_beh_r {s : Nat} (ho : okG s g) {p : Nat} (hp : p < 12) (k : Nat) : ∃ x, x ≤ 99 ∧ sp_beh σ g p k = nI x := by
  cases k with
  | zero => exact ho.2.2.1 p hp
  | succ k => exact sp_clp_n _
theorem sp_fold_r {f : Nat → Int32} : ∀ k, (∀ i, i < k → ∃ x, x ≤ 99 ∧ f i = nI x) → ∃ x, x ≤ 99 * k ∧ sp_fold f k = nI x := by
  intro k
  induction k with
  | zero => intro _; exact ⟨0, by omega, rfl⟩
  | succ k ih =>
    intro h
    obtain ⟨a, ha, ea⟩ := ih (fun i hi => h i (by omega))
    obtain ⟨b, hb, eb⟩ := h k (by omega)
    exact ⟨a + b, by omega, by rw [sp_fold_s, ea, eb, nI_add]⟩
theorem sp_all_r {s : Nat} (ho : okG s g) (k : Nat) : ∃ x, x ≤ 1188 ∧ sp_all σ g k = nI x := sp_fold_r 12 (fun i hi => sp_beh_r ho hi k)
theorem sp_od_s (σ : List sS) (g : sG) (c p n k : Nat) : sp_od σ g c p n (k + 1) = if sp_beh σ (sG_f g c k) p n = 0 then sp_od σ g c p n k + 1 else sp_od σ g c p n k := rfl
theorem sp_od_le {c p n : Nat} : ∀ k, sp_od σ g c p n k ≤ k := by
  intro k
  induction k with
  | zero => exact Nat.le_refl _
  | succ k ih =>
    rw [sp_od_s]
    split <;> omega
theorem sp_pl_n {P : sR} : ∀ k, (sp_pl σ g P k).1 = g.1 := by
  intro k
  induction k with
  | zero => rfl
  | succ k ih =>
    show (sp_stp σ (sp_pl σ g P k) _ _).1 = _
    unfold sp_stp
    split
    · exact ih
    · split
      · exact ih
      · split
        · exact ih
        · split
          · exact ih
          · exact ih
end
section
variable {d : Nat} {μ : mm_M} {A : sA}
set_option maxRecDepth 100000 in
theorem C107_l (h : rC A μ) (ho : okA A) {c p n : Nat} (hc : c < A.1.1.1) (hp : p < 12) (hn : n ≤ 20) (w : Int32) : ∀ m k g1 μ1, k + m = 12 → gC 57 A.2.2.1 g1 μ1 → g1.1 = A.1.1.1 → (∀ n, sG_f g1 c n = sG_f A.1.1 c n) → mf sc μ μ1 → mm_ev la_C (d + 8) 107 31 [some (.ref 14), some (.int (nI c)), some (.int (nI p)), some (.int (nI n)), some (.int w), some (.int (nI (sp_od A.2.2.1 A.1.1 c p n k))), some (.int (nI k))] [] μ1 (fun v μ' => v = some (.long (sp_12 (sp_od A.2.2.1 A.1.1 c p n 12) w)) ∧ rC A μ') := by
  intro m
  have h6 := ho.n
  induction m with
  | zero =>
    intro k g1 μ1 hk hg hgn hgg hf
    have hk : k = 12 := by omega
    subst hk
    have := sp_od_le (σ := A.2.2.1) (g := A.1.1) (c := c) (p := p) (n := n) 12
    refine mm_ev.run mm_y107 3 rfl ?_
    refine mm_ev.pos (by decide) ?_
    refine mm_ev.run mm_y107 2 rfl ?_
    refine mm_ev.call mm_y107 rfl rfl rfl rfl rfl (C108 (by omega) w) (fun v1 μ1 hq => ?_)
    obtain ⟨rfl, hμ⟩ := hq
    obtain rfl := hμ.symm
    exact mm_ev.ret mm_y107 rfl rfl rfl ⟨rfl, h.fr hf⟩
  | succ m ih =>
    intro k g1 μ1 hk hg hgn hgg hf
    have ih := fun g1 μ1 => ih (k + 1) g1 μ1 (by omega)
    rw [nI_succ k, sp_od_s] at ih
    have hg2 := hg.u (Or.inr rfl) (k := 3) (f := upd (μ1.1 61) c (nI k)) (F := upd (g1.2.2.2 3) c (nI k)) (by decide) (upd_co (fun i hi => hg.1.fin hi))
    have e2 : sG_u g1 3 (upd (g1.2.2.2 3) c (nI k)) = sG_f A.1.1 c k := hgg k
    rw [e2] at hg2
    have hf2 : mf sc μ (mm_sI μ1 61 (upd (μ1.1 61) c (nI k))) := hf.sI (by unfold sc; omega)
    refine mm_ev.run mm_y107 3 rfl ?_
    refine mm_ev.neg (nI_ge (b := 12) (by omega) (by decide)) ?_
    refine mm_ev.run mm_y107 5 rfl ?_
    refine mm_ev.ist mm_y107 rfl rfl rfl rfl rfl (by omega) (by decide) ?_
    refine mm_ev.run mm_y107 4 rfl ?_
    refine mm_ev.call mm_y107 rfl rfl rfl rfl rfl (C42 (Or.inr rfl) hg2 hp (h := n) (by omega)) (fun v1 μ1 hq => ?_)
    obtain ⟨fa, rfl, rfl⟩ := hq
    refine mm_ev.run mm_y107 1 rfl ?_
    refine mm_ev.ite (fun h3 => ?_) (fun h3 => ?_)
    · rw [if_pos h3, nI_succ] at ih
      refine mm_ev.run mm_y107 3 rfl ?_
      exact ih _ _ (hg2.fa (Or.inr rfl) fa) rfl (fun n => sG_f_f) (hf2.sI (by unfold sc; omega))
    · rw [if_neg h3] at ih
      refine mm_ev.run mm_y107 2 rfl ?_
      exact ih _ _ (hg2.fa (Or.inr rfl) fa) rfl (fun n => sG_f_f) (hf2.sI (by unfold sc; omega))
set_option maxRecDepth 100000 in
theorem C107 (h : rC A μ) (ho : okA A) (c p n w : Int32) : mm_call la_C (d + 10) 107 [.ref 14, .int c, .int p, .int n, .int w] μ (fun v μ' => v = some (.long (q_odds A c p n w)) ∧ rC A μ') := by
  have h6 := ho.n
  refine mm_call.of mm_t107 ?_
  refine mm_ev.run mm_y107 2 rfl ?_
  refine mm_ev.call mm_y107 rfl rfl rfl rfl rfl (C88' h.n c) (fun v1 μ1 hq => ?_)
  obtain ⟨rfl, hμ⟩ := hq
  obtain rfl := hμ.symm
  refine mm_ev.run mm_y107 1 rfl ?_
  refine mm_ev.ifb (fun h1 => ?_) (fun h1 => ?_)
  · rw [q_odds, if_neg (fun z => h1 z.1.1)]
    refine mm_ev.run mm_y107 1 rfl ?_
    exact mm_ev.ret mm_y107 rfl rfl rfl ⟨rfl, h⟩
  · refine mm_ev.run mm_y107 1 rfl ?_
    refine mm_ev.call mm_y107 rfl rfl rfl rfl rfl (C91 p) (fun v1 μ1 hq => ?_)
    obtain ⟨rfl, hμ⟩ := hq
    obtain rfl := hμ.symm
    refine mm_ev.run mm_y107 1 rfl ?_
    refine mm_ev.ifb (fun h2 => ?_) (fun h2 => ?_)
    · rw [q_odds, if_neg (fun z => h2 z.1.2)]
      refine mm_ev.run mm_y107 1 rfl ?_
      exact mm_ev.ret mm_y107 rfl rfl rfl ⟨rfl, h⟩
    · refine mm_ev.run mm_y107 3 rfl ?_
      refine mm_ev.call mm_y107 rfl rfl rfl rfl rfl (C86 n 0 20) (fun v1 μ1 hq => ?_)
      obtain ⟨rfl, hμ⟩ := hq
      obtain rfl := hμ.symm
      refine mm_ev.run mm_y107 1 rfl ?_
      refine mm_ev.ifb (fun h3 => ?_) (fun h3 => ?_)
      · rw [q_odds, if_neg (fun z => h3 z.2.1)]
        refine mm_ev.run mm_y107 1 rfl ?_
        exact mm_ev.ret mm_y107 rfl rfl rfl ⟨rfl, h⟩
      · refine mm_ev.run mm_y107 3 rfl ?_
        refine mm_ev.call mm_y107 rfl rfl rfl rfl rfl (C86 w 0 1) (fun v1 μ1 hq => ?_)
        obtain ⟨rfl, hμ⟩ := hq
        obtain rfl := hμ.symm
        refine mm_ev.run mm_y107 1 rfl ?_
        refine mm_ev.ifb (fun h4 => ?_) (fun h4 => ?_)
        · rw [q_odds, if_neg (fun z => h4 z.2.2)]
          refine mm_ev.run mm_y107 1 rfl ?_
          exact mm_ev.ret mm_y107 rfl rfl rfl ⟨rfl, h⟩
        · rw [q_odds, if_pos ⟨⟨h1, h2⟩, h3, h4⟩]
          obtain ⟨c, hc, rfl⟩ := nI_cap (by omega) h1
          obtain ⟨p, hp, rfl⟩ := p_12 h2
          obtain ⟨n, hn, rfl⟩ := nI_of2 (n := 20) (M := 20) (by decide) (Int32.not_lt.mpr h3.1) h3.2
          rw [nI_clamp (by omega), nI_clamp (by omega), nI_clamp (by omega)]
          refine mm_ev.run mm_y107 5 rfl ?_
          refine mm_ev.call mm_y107 rfl rfl rfl rfl rfl (C36 (by decide) h.1.1 h6) (fun v1 μ1 hq => ?_)
          obtain ⟨rfl, e1, e2⟩ := hq
          refine mm_ev.run mm_y107 4 rfl ?_
          exact C107_l (d := d + 2) h ho hc hp hn w 12 0 A.1.1 _ (by omega) (h.tr ho e1 e2) rfl (fun _ => rfl) (e2.mono (fun c hc => by unfold sc; omega))
set_option maxRecDepth 100000 in
theorem C109 (h : rC A μ) (ho : okA A) (n w : Int32) : mm_call la_C (d + 10) 109 [.ref 14, .int n, .int w] μ (fun v μ' => v = some (.long (q_mean A n w)) ∧ rC A μ') := by
  have hg := h.g ho
  refine mm_call.of mm_t109 ?_
  refine mm_ev.run mm_y109 3 rfl ?_
  refine mm_ev.call mm_y109 rfl rfl rfl rfl rfl (C86 n 0 60) (fun v1 μ1 hq => ?_)
  obtain ⟨rfl, hμ⟩ := hq
  obtain rfl := hμ.symm
  refine mm_ev.run mm_y109 1 rfl ?_
  refine mm_ev.ifb (fun h1 => ?_) (fun h1 => ?_)
  · rw [q_mean, if_neg (fun z => h1 z.1)]
    refine mm_ev.run mm_y109 1 rfl ?_
    exact mm_ev.ret mm_y109 rfl rfl rfl ⟨rfl, h⟩
  · refine mm_ev.run mm_y109 3 rfl ?_
    refine mm_ev.call mm_y109 rfl rfl rfl rfl rfl (C86 w 0 1) (fun v1 μ1 hq => ?_)
    obtain ⟨rfl, hμ⟩ := hq
    obtain rfl := hμ.symm
    refine mm_ev.run mm_y109 1 rfl ?_
    refine mm_ev.ifb (fun h2 => ?_) (fun h2 => ?_)
    · rw [q_mean, if_neg (fun z => h2 z.2)]
      refine mm_ev.run mm_y109 1 rfl ?_
      exact mm_ev.ret mm_y109 rfl rfl rfl ⟨rfl, h⟩
    · rw [q_mean, if_pos ⟨h1, h2⟩]
      obtain ⟨n, hn, rfl⟩ := p_60 h1
      rw [nI_clamp (by omega)]
      obtain ⟨a, ha, ea⟩ := sp_all_r (σ := A.2.2.1) ho.1.1 n
      have K := C41 (d := d + 4) (Or.inl rfl) hg (h := n) (by omega)
      rw [ea] at K ⊢
      rw [nI_clamp (by omega)]
      refine mm_ev.run mm_y109 4 rfl ?_
      refine mm_ev.call mm_y109 rfl rfl rfl rfl rfl K (fun v1 μ1 hq => ?_)
      obtain ⟨fa, rfl, rfl⟩ := hq
      refine mm_ev.run mm_y109 1 rfl ?_
      refine mm_ev.call mm_y109 rfl rfl rfl rfl rfl (C108 (by omega) w) (fun v1 μ1 hq => ?_)
      obtain ⟨rfl, hμ⟩ := hq
      obtain rfl := hμ.symm
      exact mm_ev.ret mm_y109 rfl rfl rfl ⟨rfl, h.fr (mf.rf.sI (Or.inl rfl))⟩
set_option maxRecDepth 100000 in
theorem C110 (h : rC A μ) (ho : okA A) (w n : Int32) : mm_call la_C (d + 10) 110 [.ref 14, .int w, .int n] μ (fun v μ' => v = some (.int (q_plan A w n).1) ∧ rC (q_plan A w n).2 μ') := by
  have add : ∀ (w n : Int32), mm_call la_C (d + 9) 71 [.ref 28, .int w, .int n, .int 0] μ (fun v μ' => v = some (.int (q_addP A w n).1) ∧ rC (q_addP A w n).2 μ') := by
    intro w n
    refine (C71 (q := 28) (l := 10) (by decide) h.1.2.2.1 ho.1.2.2.1.1 w n 0).imp (fun v μ' hh => ?_)
    unfold q_addP
    rcases hh with ⟨e, rfl, rfl⟩ | ⟨e, rfl, e2, e3⟩
    · rw [if_pos e]
      exact ⟨rfl, h⟩
    · rw [if_neg (by omega)]
      exact ⟨rfl, h.setP e2 e3⟩
  refine mm_call.of mm_t110 ?_
  refine mm_ev.run mm_y110 3 rfl ?_
  refine mm_ev.ite (fun h1 => ?_) (fun h1 => ?_)
  · rw [q_plan, if_pos h1]
    refine mm_ev.run mm_y110 3 rfl ?_
    refine mm_ev.call mm_y110 rfl rfl rfl rfl rfl (C70 (q := 28) (by decide)) (fun v1 μ1 hq => ?_)
    obtain ⟨rfl, hμ⟩ := hq
    obtain rfl := hμ.symm
    exact mm_ev.ret mm_y110 rfl rfl rfl ⟨rfl, h.setP rR_0 (mf.rf.sI ⟨by decide, by decide⟩)⟩
  · rw [q_plan, if_neg h1]
    refine mm_ev.run mm_y110 2 rfl ?_
    refine mm_ev.swc (fun h2 => ?_) (fun n0 => mm_ev.swc (fun h2 => ?_) (fun n1 => mm_ev.swc (fun h2 => ?_) (fun n2 => mm_ev.swc (fun h2 => ?_) (fun n3 => mm_ev.sw0 ?_))))
    · rw [if_pos h2]
      refine mm_ev.run mm_y110 6 rfl ?_
      refine mm_ev.call mm_y110 rfl rfl rfl rfl rfl (add w 0) (fun v1 μ1 hq => ?_)
      obtain ⟨rfl, e2⟩ := hq
      exact mm_ev.ret mm_y110 rfl rfl rfl ⟨rfl, e2⟩
    · rw [if_neg n0, if_pos h2]
      refine mm_ev.run mm_y110 2 rfl ?_
      refine mm_ev.call mm_y110 rfl rfl rfl rfl rfl (C88' h.n n) (fun v1 μ1 hq => ?_)
      obtain ⟨rfl, hμ⟩ := hq
      obtain rfl := hμ.symm
      refine mm_ev.run mm_y110 1 rfl ?_
      refine mm_ev.ifb (fun h3 => ?_) (fun h3 => ?_)
      · rw [if_neg h3]
        refine mm_ev.run mm_y110 1 rfl ?_
        exact mm_ev.ret mm_y110 rfl rfl rfl ⟨rfl, h⟩
      · rw [if_pos h3]
        refine mm_ev.run mm_y110 6 rfl ?_
        refine mm_ev.call mm_y110 rfl rfl rfl rfl rfl (add w n) (fun v1 μ1 hq => ?_)
        obtain ⟨rfl, e2⟩ := hq
        refine mm_ev.run mm_y110 1 rfl ?_
        exact mm_ev.ret mm_y110 rfl rfl rfl ⟨rfl, e2⟩
    · rw [if_neg n0, if_neg n1, if_pos h2]
      refine mm_ev.run mm_y110 3 rfl ?_
      refine mm_ev.call mm_y110 rfl rfl rfl rfl rfl (C86 n 0 11) (fun v1 μ1 hq => ?_)
      obtain ⟨rfl, hμ⟩ := hq
      obtain rfl := hμ.symm
      refine mm_ev.run mm_y110 1 rfl ?_
      refine mm_ev.ifb (fun h3 => ?_) (fun h3 => ?_)
      · rw [if_neg h3]
        refine mm_ev.run mm_y110 1 rfl ?_
        exact mm_ev.ret mm_y110 rfl rfl rfl ⟨rfl, h⟩
      · rw [if_pos h3]
        refine mm_ev.run mm_y110 6 rfl ?_
        refine mm_ev.call mm_y110 rfl rfl rfl rfl rfl (add w n) (fun v1 μ1 hq => ?_)
        obtain ⟨rfl, e2⟩ := hq
        refine mm_ev.run mm_y110 1 rfl ?_
        exact mm_ev.ret mm_y110 rfl rfl rfl ⟨rfl, e2⟩
    · rw [if_neg n0, if_neg n1, if_neg n2, if_pos h2]
      refine mm_ev.run mm_y110 1 rfl ?_
      refine mm_ev.call mm_y110 rfl rfl rfl rfl rfl (C91 n) (fun v1 μ1 hq => ?_)
      obtain ⟨rfl, hμ⟩ := hq
      obtain rfl := hμ.symm
      refine mm_ev.run mm_y110 1 rfl ?_
      refine mm_ev.ifb (fun h3 => ?_) (fun h3 => ?_)
      · rw [if_neg h3]
        refine mm_ev.run mm_y110 1 rfl ?_
        exact mm_ev.ret mm_y110 rfl rfl rfl ⟨rfl, h⟩
      · rw [if_pos h3]
        refine mm_ev.run mm_y110 6 rfl ?_
        refine mm_ev.call mm_y110 rfl rfl rfl rfl rfl (add w n) (fun v1 μ1 hq => ?_)
        obtain ⟨rfl, e2⟩ := hq
        refine mm_ev.run mm_y110 1 rfl ?_
        exact mm_ev.ret mm_y110 rfl rfl rfl ⟨rfl, e2⟩
    · rw [if_neg n0, if_neg n1, if_neg n2, if_neg n3]
      refine mm_ev.run mm_y110 1 rfl ?_
      exact mm_ev.ret mm_y110 rfl rfl rfl ⟨rfl, h⟩
set_option maxRecDepth 100000 in
theorem C111_l (h : rC A μ) (ho : okA A) (w : Int32) : ∀ m k μ1, k + m = A.1.2.2.1.1 → gC 57 A.2.2.1 (sp_pl A.2.2.1 A.1.1 A.1.2.2.1 k) μ1 → mf sc μ μ1 → mm_ev la_C (d + 8) 111 15 [some (.ref 14), some (.int w), some (.int (nI k))] [] μ1 (fun v μ' => v = some (.int (if w = 0 then sp_all A.2.2.1 (sp_pl A.2.2.1 A.1.1 A.1.2.2.1 A.1.2.2.1.1) 0 else sp_fold ((sp_pl A.2.2.1 A.1.1 A.1.2.2.1 A.1.2.2.1.1).2.2.2 4) A.1.1.1)) ∧ rC A μ') := by
  intro m
  have h10 := ho.1.2.2.1.1
  induction m with
  | zero =>
    intro k μ1 hk hg hf
    have hk : k = A.1.2.2.1.1 := by omega
    have hr : rR 28 A.1.2.2.1 μ1 := h.1.2.2.1.fr hf (fun c hc => by unfold sc at hc; omega)
    rw [hk] at hg ⊢
    have K47 := C47 (d := d + 7) (Or.inr rfl) hg.1 hg.2.2.1
    rw [sp_pl_n] at K47
    refine mm_ev.run mm_y111 5 rfl ?_
    refine mm_ev.val hr.n ?_
    refine mm_ev.run mm_y111 1 rfl ?_
    refine mm_ev.pos (nI_le (Nat.le_refl _) (by omega)) ?_
    refine mm_ev.run mm_y111 2 rfl ?_
    refine mm_ev.ite (fun h2 => ?_) (fun h2 => ?_)
    · rw [if_pos h2]
      refine mm_ev.run mm_y111 3 rfl ?_
      refine mm_ev.call mm_y111 rfl rfl rfl rfl rfl (C41 (Or.inr rfl) hg (h := 0) (by decide)) (fun v1 μ1 hq => ?_)
      obtain ⟨fa, rfl, rfl⟩ := hq
      refine mm_ev.run mm_y111 1 rfl ?_
      exact mm_ev.ret mm_y111 rfl rfl rfl ⟨rfl, h.fr (hf.sI (by unfold sc; omega))⟩
    · rw [if_neg h2]
      refine mm_ev.run mm_y111 2 rfl ?_
      refine mm_ev.call mm_y111 rfl rfl rfl rfl rfl K47 (fun v1 μ1 hq => ?_)
      obtain ⟨rfl, hμ⟩ := hq
      obtain rfl := hμ.symm
      exact mm_ev.ret mm_y111 rfl rfl rfl ⟨rfl, h.fr hf⟩
  | succ m ih =>
    intro k μ1 hk hg hf
    have ih := fun μ1 => ih (k + 1) μ1 (by omega)
    rw [nI_succ] at ih
    have hr : rR 28 A.1.2.2.1 μ1 := h.1.2.2.1.fr hf (fun c hc => by unfold sc at hc; omega)
    have hfit := (ho.1.2.2.1.2 k (by omega)).1
    rw [← sp_pl_n (σ := A.2.2.1) (g := A.1.1) (P := A.1.2.2.1) k] at hfit
    refine mm_ev.run mm_y111 5 rfl ?_
    refine mm_ev.val hr.n ?_
    refine mm_ev.run mm_y111 1 rfl ?_
    refine mm_ev.neg (nI_ge (by omega) (by omega)) ?_
    refine mm_ev.run mm_y111 7 rfl ?_
    refine mm_ev.ild mm_y111 rfl rfl rfl rfl rfl (by omega) (by decide) (hr.fa (by omega)) ?_
    refine mm_ev.run mm_y111 5 rfl ?_
    refine mm_ev.ild mm_y111 rfl rfl rfl rfl rfl (by omega) (by decide) (hr.fb (by omega)) ?_
    refine mm_ev.call mm_y111 rfl rfl rfl rfl rfl (C46 (Or.inr rfl) hg hfit) (fun v1 μ1 hq => ?_)
    obtain ⟨rfl, e1, e2⟩ := hq
    refine mm_ev.run mm_y111 2 rfl ?_
    exact ih _ e1 (hf.tr (e2.mono (fun c hc => by unfold sc; omega)))
set_option maxRecDepth 100000 in
theorem C111 (h : rC A μ) (ho : okA A) (w : Int32) : mm_call la_C (d + 10) 111 [.ref 14, .int w] μ (fun v μ' => v = some (.int (q_ends A w)) ∧ rC A μ') := by
  refine mm_call.of mm_t111 ?_
  refine mm_ev.run mm_y111 3 rfl ?_
  refine mm_ev.call mm_y111 rfl rfl rfl rfl rfl (C86 w 0 1) (fun v1 μ1 hq => ?_)
  obtain ⟨rfl, hμ⟩ := hq
  obtain rfl := hμ.symm
  refine mm_ev.run mm_y111 1 rfl ?_
  refine mm_ev.ifb (fun h1 => ?_) (fun h1 => ?_)
  · rw [q_ends, if_neg h1]
    refine mm_ev.run mm_y111 1 rfl ?_
    exact mm_ev.ret mm_y111 rfl rfl rfl ⟨rfl, h⟩
  · rw [q_ends, if_pos h1]
    refine mm_ev.run mm_y111 5 rfl ?_
    refine mm_ev.call mm_y111 rfl rfl rfl rfl rfl (C36 (by decide) h.1.1 ho.n) (fun v1 μ1 hq => ?_)
    obtain ⟨rfl, e1, e2⟩ := hq
    refine mm_ev.run mm_y111 2 rfl ?_
    exact C111_l (d := d + 2) h ho w A.1.2.2.1.1 0 _ (by omega) (h.tr ho e1 e2) (e2.mono (fun c hc => by unfold sc; omega))
set_option maxRecDepth 100000 in
theorem C112 (h : rC A μ) (ho : okA A) (p x : Int32) : mm_call la_C (d + 10) 112 [.ref 14, .int p, .int x] μ (fun v μ' => v = some (.int (q_book A p x).1) ∧ rC (q_book A p x).2 μ') := by
  refine mm_call.of mm_t112 ?_
  refine mm_ev.run mm_y112 3 rfl ?_
  refine mm_ev.ite (fun h1 => ?_) (fun h1 => ?_)
  · rw [q_book, if_pos h1]
    refine mm_ev.run mm_y112 3 rfl ?_
    refine mm_ev.call mm_y112 rfl rfl rfl rfl rfl (C70 (q := 32) (by decide)) (fun v1 μ1 hq => ?_)
    obtain ⟨rfl, hμ⟩ := hq
    obtain rfl := hμ.symm
    exact mm_ev.ret mm_y112 rfl rfl rfl ⟨rfl, h.setB rR_0 (mf.rf.sI ⟨by decide, by decide⟩)⟩
  · rw [q_book, if_neg h1]
    refine mm_ev.run mm_y112 1 rfl ?_
    refine mm_ev.call mm_y112 rfl rfl rfl rfl rfl (C91 p) (fun v1 μ1 hq => ?_)
    obtain ⟨rfl, hμ⟩ := hq
    obtain rfl := hμ.symm
    refine mm_ev.run mm_y112 1 rfl ?_
    refine mm_ev.ifb (fun h2 => ?_) (fun h2 => ?_)
    · rw [if_neg h2]
      refine mm_ev.run mm_y112 1 rfl ?_
      exact mm_ev.ret mm_y112 rfl rfl rfl ⟨rfl, h⟩
    · rw [if_pos h2]
      refine mm_ev.run mm_y112 3 rfl ?_
      refine mm_ev.call mm_y112 rfl rfl rfl rfl rfl (C86 x 0 99) (fun v1 μ1 hq => ?_)
      obtain ⟨rfl, hμ⟩ := hq
      obtain rfl := hμ.symm
      refine mm_ev.run mm_y112 1 rfl ?_
      refine mm_ev.ifb (fun h4 => ?_) (fun h4 => ?_)
      · rw [if_neg h4]
        refine mm_ev.run mm_y112 1 rfl ?_
        exact mm_ev.ret mm_y112 rfl rfl rfl ⟨rfl, h⟩
      · rw [if_pos h4]
        refine mm_ev.run mm_y112 6 rfl ?_
        refine mm_ev.call mm_y112 rfl rfl rfl rfl rfl (C71 (q := 32) (l := 8) (by decide) h.1.2.2.2 ho.1.2.2.2.1 p x 0) (fun v1 μ1 hq => ?_)
        rcases hq with ⟨e, rfl, hμ⟩ | ⟨e, rfl, e2, e3⟩
        · obtain rfl := hμ.symm
          rw [if_pos e]
          exact mm_ev.ret mm_y112 rfl rfl rfl ⟨rfl, h⟩
        · rw [if_neg (by omega)]
          exact mm_ev.ret mm_y112 rfl rfl rfl ⟨rfl, h.setB e2 e3⟩
theorem sp_lk_s (g : sG) (B : sR) (m k : Nat) : sp_lk g B (m + 1) k = if g.2.2.2 0 (B.2 0 k).toNatClampNeg = B.2 1 k then sp_lk g B m (k + 1) else nI k := rfl
set_option maxRecDepth 100000 in
theorem C113_l (h : rC A μ) (ho : okA A) : ∀ m k, k + m = A.1.2.2.2.1 → mm_ev la_C d 113 2 [some (.ref 14), some (.int (nI k))] [] μ (fun v μ' => v = some (.int (sp_lk A.1.1 A.1.2.2.2 m k)) ∧ rC A μ') := by
  intro m
  have h8 := ho.1.2.2.2.1
  have hr := h.1.2.2.2
  have hg := h.1.1
  induction m with
  | zero =>
    intro k hk
    refine mm_ev.run mm_y113 5 rfl ?_
    refine mm_ev.val hr.n ?_
    refine mm_ev.run mm_y113 1 rfl ?_
    refine mm_ev.pos (nI_le (show A.1.2.2.2.1 ≤ k by omega) (by omega)) ?_
    refine mm_ev.run mm_y113 1 rfl ?_
    exact mm_ev.ret mm_y113 rfl rfl rfl ⟨rfl, h⟩
  | succ m ih =>
    intro k hk
    have ih := ih (k + 1) (by omega)
    rw [nI_succ] at ih
    rw [sp_lk_s]
    obtain ⟨p, hp, ep⟩ := ho.1.2.2.2.2 k (by omega)
    rw [ep, nI_clamp (by omega)]
    refine mm_ev.run mm_y113 5 rfl ?_
    refine mm_ev.val hr.n ?_
    refine mm_ev.run mm_y113 1 rfl ?_
    refine mm_ev.neg (nI_ge (show k < A.1.2.2.2.1 by omega) (by omega)) ?_
    refine mm_ev.run mm_y113 9 rfl ?_
    refine mm_ev.ild mm_y113 rfl rfl rfl rfl rfl (by omega) (by decide) ((hr.fa (by omega)).trans ep) ?_
    refine mm_ev.ild mm_y113 rfl rfl rfl rfl rfl (by omega) (by decide) (hg.need hp) ?_
    refine mm_ev.run mm_y113 5 rfl ?_
    refine mm_ev.ild mm_y113 rfl rfl rfl rfl rfl (by omega) (by decide) (hr.fb (by omega)) ?_
    refine mm_ev.run mm_y113 1 rfl ?_
    refine mm_ev.ite (fun h2 => ?_) (fun h2 => ?_)
    · rw [if_pos h2]
      refine mm_ev.run mm_y113 2 rfl ?_
      exact ih
    · rw [if_neg h2]
      refine mm_ev.run mm_y113 1 rfl ?_
      exact mm_ev.ret mm_y113 rfl rfl rfl ⟨rfl, h⟩
set_option maxRecDepth 100000 in
theorem C113 (h : rC A μ) (ho : okA A) : mm_call la_C (d + 10) 113 [.ref 14] μ (fun v μ' => v = some (.int (q_looked A)) ∧ rC A μ') := by
  refine mm_call.of mm_t113 ?_
  refine mm_ev.run mm_y113 2 rfl ?_
  exact C113_l h ho A.1.2.2.2.1 0 (by omega)
theorem okN.k {s : Nat} {K : sK} (h : okN s K) : okK K := ⟨h.1.1, h.2.1.1, h.2.2.1.1, h.2.2.2.1⟩
set_option maxRecDepth 100000 in
theorem C116 (h : rC A μ) (ho : okA A) : mm_call la_C (d + 10) 116 [.ref 14] μ (fun v μ' => v = some (.int (q_image A).1) ∧ rC (q_image A).2 μ') := by
  have K := C25 (d := d + 8) (b1 := 37) (b2 := 16) (by decide) h.1 ho.1.k
  refine mm_call.of mm_t116 ?_
  refine mm_ev.run mm_y116 4 rfl ?_
  refine mm_ev.call mm_y116 rfl rfl rfl rfl rfl K (fun v1 μ1 hq => ?_)
  obtain ⟨rfl, e1, e2⟩ := hq
  have e3 : mf (fun c => 37 ≤ c ∧ c ≤ 37 + 19 ∨ c = 14) μ (mm_sI μ1 14 (upd (μ1.1 14) 2 1)) := (e2.mono (fun c hc => by omega)).sI (Or.inr rfl)
  have e4 : mf (fun c => c = 14) μ1 (mm_sI μ1 14 (upd (μ1.1 14) 2 1)) := mf.rf.sI rfl
  have hK := h.1.fr e3 (fun c hc => by omega)
  have hσ : sC_c A.2.2.1 (mm_sI μ1 14 (upd (μ1.1 14) 2 1)) := by
    have h0 := h.2.2.2.1.fr' e2 (fun c hc => by omega)
    exact ⟨h0.1, h0.2.1, fun j hj => ⟨by rw [sI_ne (by omega)]; exact (h0.2.2 j hj).1, sp_cl_fr (fun c h1 h2 => sI_ne (by omega)) _ _ _ (h0.2.2 j hj).2⟩⟩
  have hh : rC (q_image A).2 (mm_sI μ1 14 (upd (μ1.1 14) 2 1)) := by
    obtain ⟨k1, k2, k3, k4, k5, k6, k7⟩ := h
    have e : ∀ c, ¬ (37 ≤ c ∧ c ≤ 37 + 19 ∨ c = 14) → (mm_sI μ1 14 (upd (μ1.1 14) 2 1)).1 c = μ.1 c := fun c hc => (e3 c hc).1
    refine ⟨hK, by rw [sI_eq, upd_eq]; rfl, fun K hK2 => ?_, hσ, ⟨by rw [e 66 (by omega)]; exact k5.1, fun i hi => by rw [e 67 (by omega)]; exact k5.2 i hi⟩, ⟨by rw [e 71 (by omega)]; exact k6.1, fun i hi => by rw [e 72 (by omega)]; exact k6.2 i hi⟩, fun t ht => (k7 t ht).fr e3 (fun c hc => by omega)⟩
    cases hK2
    exact e1.fr e4 (fun c hc => by omega)
  refine mm_ev.run mm_y116 3 rfl ?_
  refine mm_ev.run mm_y116 4 rfl ?_
  refine mm_ev.val hK.1.n ?_
  exact mm_ev.ret mm_y116 rfl rfl rfl ⟨rfl, hh⟩
set_option maxRecDepth 100000 in
theorem C117 (h : rC A μ) (ho : okA A) : mm_call la_C (d + 10) 117 [.ref 14] μ (fun v μ' => v = some (.int (q_undo A).1) ∧ rC (q_undo A).2 μ') := by
  have h2 := h.2.1
  unfold q_undo
  cases hk : A.2.1 with
  | none =>
    rw [hk] at h2
    refine mm_call.of mm_t117 ?_
    refine mm_ev.run mm_y117 2 rfl ?_
    refine mm_ev.val h2 ?_
    refine mm_ev.run mm_y117 1 rfl ?_
    refine mm_ev.pos rfl ?_
    refine mm_ev.run mm_y117 1 rfl ?_
    exact mm_ev.ret mm_y117 rfl rfl rfl ⟨rfl, h⟩
  | some K =>
    rw [hk] at h2
    have h2 : μ.1 14 2 = 1 := h2
    have C := C25 (d := d + 8) (b1 := 16) (b2 := 37) (by decide) (h.2.2.1 K hk) (ho.2.1 K hk).k
    refine mm_call.of mm_t117 ?_
    refine mm_ev.run mm_y117 2 rfl ?_
    refine mm_ev.val h2 ?_
    refine mm_ev.run mm_y117 1 rfl ?_
    refine mm_ev.neg (by decide) ?_
    refine mm_ev.run mm_y117 4 rfl ?_
    refine mm_ev.call mm_y117 rfl rfl rfl rfl rfl C (fun v1 μ1 hq => ?_)
    obtain ⟨rfl, e1, e2⟩ := hq
    refine mm_ev.run mm_y117 4 rfl ?_
    refine mm_ev.val e1.1.n ?_
    exact mm_ev.ret mm_y117 rfl rfl rfl ⟨rfl, h.setK e1 e2 (fun c hc => by omega)⟩
set_option maxRecDepth 100000 in
theorem C119 (h : rC A μ) (ho : okA A) (i : Int32) : mm_call la_C (d + 10) 119 [.ref 14, .int i] μ (fun v μ' => v = some (.int (q_trace A i)) ∧ rC A μ') := by
  have h20 := ho.2.2.2.2.2.1
  have h71 := h.2.2.2.2.2.1
  have K : mm_call la_C (d + 9) 23 [.ref 71] μ (fun v μ' => v = some (.int (nI A.2.2.2.2.1.1)) ∧ μ' = μ) := by
    refine mm_call.of mm_t23 ?_
    refine mm_ev.run mm_y23 2 rfl ?_
    refine mm_ev.val h71.1 ?_
    refine mm_ev.run mm_y23 4 rfl ?_
    refine mm_ev.val (show (if (20 : Int32) < nI A.2.2.2.2.1.1 then 20 else nI A.2.2.2.2.1.1) = nI A.2.2.2.2.1.1 from if_neg (nI_nlt (a := 20) h20 (by decide))) ?_
    exact mm_ev.ret mm_y23 rfl rfl rfl ⟨rfl, rfl⟩
  unfold q_trace
  refine mm_call.of mm_t119 ?_
  refine mm_ev.run mm_y119 4 rfl ?_
  refine mm_ev.call mm_y119 rfl rfl rfl rfl rfl K (fun v1 μ1 hq => ?_)
  obtain ⟨rfl, hμ⟩ := hq
  obtain rfl := hμ.symm
  refine mm_ev.run mm_y119 2 rfl ?_
  refine mm_ev.call mm_y119 rfl rfl rfl rfl rfl (C86 i 0 (nI A.2.2.2.2.1.1 - 1)) (fun v1 μ1 hq => ?_)
  obtain ⟨rfl, hμ⟩ := hq
  obtain rfl := hμ.symm
  refine mm_ev.run mm_y119 1 rfl ?_
  refine mm_ev.ifb (fun h1 => ?_) (fun h1 => ?_)
  · rw [if_neg h1]
    refine mm_ev.run mm_y119 1 rfl ?_
    exact mm_ev.ret mm_y119 rfl rfl rfl ⟨rfl, h⟩
  · rw [if_pos h1]
    obtain ⟨j, hj, rfl⟩ := nI_cap (by omega) h1
    rw [nI_clamp (by omega)]
    refine mm_ev.run mm_y119 4 rfl ?_
    refine mm_ev.ild mm_y119 rfl rfl rfl rfl rfl (by omega) (by decide) (h71.2 j hj) ?_
    refine mm_ev.run mm_y119 1 rfl ?_
    exact mm_ev.ret mm_y119 rfl rfl rfl ⟨rfl, h⟩
set_option maxRecDepth 100000 in
theorem C121 (h : rC A μ) (ho : okA A) (w : Int32) : mm_call la_C (d + 10) 121 [.ref 14, .int w] μ (fun v μ' => v = some (.int (q_count A w)) ∧ rC A μ') := by
  unfold q_count
  refine mm_call.of mm_t121 ?_
  refine mm_ev.run mm_y121 2 rfl ?_
  refine mm_ev.swc (fun h2 => ?_) (fun n0 => mm_ev.swc (fun h2 => ?_) (fun n1 => mm_ev.swc (fun h2 => ?_) (fun n2 => mm_ev.swc (fun h2 => ?_) (fun n3 => mm_ev.swc (fun h2 => ?_) (fun n4 => mm_ev.swc (fun h2 => ?_) (fun n5 => mm_ev.swc (fun h2 => ?_) (fun n6 => mm_ev.sw0 ?_)))))))
  · rw [if_pos h2]
    refine mm_ev.run mm_y121 4 rfl ?_
    refine mm_ev.val h.n ?_
    exact mm_ev.ret mm_y121 rfl rfl rfl ⟨rfl, h⟩
  · rw [if_neg n0, if_pos h2]
    refine mm_ev.run mm_y121 2 rfl ?_
    refine mm_ev.val h.2.2.2.1.1 ?_
    exact mm_ev.ret mm_y121 rfl rfl rfl ⟨rfl, h⟩
  · rw [if_neg n0, if_neg n1, if_pos h2]
    refine mm_ev.run mm_y121 4 rfl ?_
    refine mm_ev.val h.1.2.1.n ?_
    exact mm_ev.ret mm_y121 rfl rfl rfl ⟨rfl, h⟩
  · rw [if_neg n0, if_neg n1, if_neg n2, if_pos h2]
    refine mm_ev.run mm_y121 4 rfl ?_
    refine mm_ev.val h.1.2.2.1.n ?_
    exact mm_ev.ret mm_y121 rfl rfl rfl ⟨rfl, h⟩
  · rw [if_neg n0, if_neg n1, if_neg n2, if_neg n3, if_pos h2]
    refine mm_ev.run mm_y121 4 rfl ?_
    refine mm_ev.val h.1.2.2.2.n ?_
    exact mm_ev.ret mm_y121 rfl rfl rfl ⟨rfl, h⟩
  · rw [if_neg n0, if_neg n1, if_neg n2, if_neg n3, if_neg n4, if_pos h2]
    refine mm_ev.run mm_y121 3 rfl ?_
    refine mm_ev.val h.2.2.2.2.1.1 ?_
    exact mm_ev.ret mm_y121 rfl rfl rfl ⟨rfl, h⟩
  · rw [if_neg n0, if_neg n1, if_neg n2, if_neg n3, if_neg n4, if_neg n5, if_pos h2]
    refine mm_ev.run mm_y121 3 rfl ?_
    refine mm_ev.val h.2.2.2.2.2.1.1 ?_
    exact mm_ev.ret mm_y121 rfl rfl rfl ⟨rfl, h⟩
  · rw [if_neg n0, if_neg n1, if_neg n2, if_neg n3, if_neg n4, if_neg n5, if_neg n6]
    refine mm_ev.run mm_y121 1 rfl ?_
    exact mm_ev.ret mm_y121 rfl rfl rfl ⟨rfl, h⟩
end
