/-! THE CLASS'S GLOBE: a step of a plan, one more child -/
def sp_row4 (f : Nat → Int32) (n : Nat) : Nat → Int32 := upd (upd (upd (upd f (4 * n) 0) (4 * n + 1) 0) (4 * n + 2) 0) (4 * n + 3) 0
def sp_join (g : sG) (k v : Int32) : sG := (g.1 + 1, g.2.1, g.2.2.1, fun j => match j with
  | 1 => upd (g.2.2.2 1) g.1 k
  | 2 => upd (g.2.2.2 2) g.1 v
  | 3 => upd (g.2.2.2 3) g.1 (-5)
  | 4 => upd (g.2.2.2 4) g.1 0
  | 5 => sp_row4 (g.2.2.2 5) g.1
  | j => g.2.2.2 j)
def sp_stp (σ : List sS) (g : sG) (w x : Int32) : sG :=
  if w = 0 then sp_hour σ g
  else if w = 1 then sG_u g 3 (upd (g.2.2.2 3) x.toNatClampNeg (-5))
  else if w = 2 then sp_spin g x
  else if w = 3 then sG_u g 0 (upd (g.2.2.2 0) x.toNatClampNeg 0)
  else g
/-- a step of a plan that fits the globe -/
def sp_fit (n : Nat) (w x : Int32) : Prop := (w = 0 ∨ w = 1 ∨ w = 2 ∨ w = 3) ∧ (w = 1 → ∃ c, c < n ∧ x = nI c) ∧ (w = 3 → ∃ p, p < 12 ∧ x = nI p)
theorem upd_eq {f : Nat → Int32} {k : Nat} {x : Int32} : upd f k x k = x := if_pos rfl
theorem upd_ne {f : Nat → Int32} {k j : Nat} {x : Int32} (h : j ≠ k) : upd f k x j = f j := if_neg h
theorem upd_co {f F : Nat → Int32} {k n : Nat} {x : Int32} (h : ∀ i, i < n → f i = F i) : ∀ i, i < n → upd f k x i = upd F k x i := fun i hi => by unfold upd; rw [h i hi]
theorem upd_co1 {f F : Nat → Int32} {n : Nat} {x : Int32} (h : ∀ i, i < n → f i = F i) : ∀ i, i < n + 1 → upd f n x i = upd F n x i := fun i hi => by
  unfold upd
  by_cases e : i = n
  · rw [if_pos e, if_pos e]
  · rw [if_neg e, if_neg e, h i (by omega)]
theorem sp_row4_co {f F : Nat → Int32} {n : Nat} (h : ∀ i, i < 4 * n → f i = F i) : ∀ i, i < 4 * (n + 1) → sp_row4 f n i = sp_row4 F n i := fun i hi => by
  unfold sp_row4 upd
  by_cases e3 : i = 4 * n + 3
  · rw [if_pos e3, if_pos e3]
  · rw [if_neg e3, if_neg e3]
    by_cases e2 : i = 4 * n + 2
    · rw [if_pos e2, if_pos e2]
    · rw [if_neg e2, if_neg e2]
      by_cases e1 : i = 4 * n + 1
      · rw [if_pos e1, if_pos e1]
      · rw [if_neg e1, if_neg e1]
        by_cases e0 : i = 4 * n
        · rw [if_pos e0, if_pos e0]
        · rw [if_neg e0, if_neg e0, h i (by omega)]
section
variable {d : Nat} {μ : mm_M} {b : Nat} {σ : List sS} {g : sG} {c p : Nat}
set_option maxRecDepth 100000 in
theorem C46 (hb : b = 16 ∨ b = 57) (hg : gC b σ g μ) {w x : Int32} (hf : sp_fit g.1 w x) : mm_call la_C (d + 5) 46 [.ref b, .int w, .int x] μ (fun v μ' => v = none ∧ gC b σ (sp_stp σ g w x) μ' ∧ mf (fun c => b ≤ c ∧ c ≤ b + 7) μ μ') := by
  have h6 := hg.2.2.1
  obtain ⟨hw, h1, h3⟩ := hf
  unfold sp_stp
  rcases hw with rfl | rfl | rfl | rfl
  · rw [if_pos rfl]
    have K := C44 (d := d) hb hg
    rcases hb with rfl | rfl
    all_goals
      refine mm_call.of mm_t46 ?_
      refine mm_ev.run mm_y46 2 rfl ?_
      refine mm_ev.run mm_y46 1 rfl ?_
      refine mm_ev.call mm_y46 rfl rfl rfl rfl rfl K (fun v1 μ1 hq => ?_)
      obtain ⟨rfl, hq1, hq2⟩ := hq
      refine mm_ev.run mm_y46 1 rfl ?_
      exact mm_ev.ret mm_y46 rfl rfl rfl ⟨rfl, hq1, hq2⟩
  · rw [if_neg (by decide), if_pos rfl]
    obtain ⟨c, hc, rfl⟩ := h1 rfl
    rw [nI_clamp (by omega)]
    have K := hg.u hb (k := 3) (f := upd (μ.1 (b + 4)) c (-5)) (F := upd (g.2.2.2 3) c (-5)) (by decide) (upd_co (fun i hi => hg.1.fin hi))
    have K2 : mf (fun c => b ≤ c ∧ c ≤ b + 7) μ (mm_sI μ (b + 4) (upd (μ.1 (b + 4)) c (-5))) := mf.rf.sI ⟨by omega, by omega⟩
    rcases hb with rfl | rfl
    all_goals
      refine mm_call.of mm_t46 ?_
      refine mm_ev.run mm_y46 2 rfl ?_
      refine mm_ev.run mm_y46 4 rfl ?_
      refine mm_ev.ist mm_y46 rfl rfl rfl rfl rfl (by omega) (by decide) ?_
      refine mm_ev.run mm_y46 1 rfl ?_
      exact mm_ev.ret mm_y46 rfl rfl rfl ⟨rfl, K, K2⟩
  · rw [if_neg (by decide), if_neg (by decide), if_pos rfl]
    have C := C39 (d := d + 4) hb hg.1 h6 x
    have K := hg.u hb (k := 3) (f := pt (μ.1 (b + 4)) (fun c => sp_spn x (g.2.2.2 3 c)) g.1) (F := fun c => sp_spn x (g.2.2.2 3 c)) (by decide) (fun i hi => pt_lt hi)
    have K2 : mf (fun c => b ≤ c ∧ c ≤ b + 7) μ (mm_sI μ (b + 4) (pt (μ.1 (b + 4)) (fun c => sp_spn x (g.2.2.2 3 c)) g.1)) := mf.rf.sI ⟨by omega, by omega⟩
    rcases hb with rfl | rfl
    all_goals
      refine mm_call.of mm_t46 ?_
      refine mm_ev.run mm_y46 2 rfl ?_
      refine mm_ev.run mm_y46 2 rfl ?_
      refine mm_ev.call mm_y46 rfl rfl rfl rfl rfl C (fun v1 μ1 hq => ?_)
      obtain ⟨rfl, rfl⟩ := hq
      refine mm_ev.run mm_y46 1 rfl ?_
      exact mm_ev.ret mm_y46 rfl rfl rfl ⟨rfl, K, K2⟩
  · rw [if_neg (by decide), if_neg (by decide), if_neg (by decide), if_pos rfl]
    obtain ⟨p, hp, rfl⟩ := h3 rfl
    rw [nI_clamp (by omega)]
    have K := hg.u hb (k := 0) (f := upd (μ.1 (b + 1)) p 0) (F := upd (g.2.2.2 0) p 0) (by decide) (upd_co (fun i hi => hg.1.need hi))
    have K2 : mf (fun c => b ≤ c ∧ c ≤ b + 7) μ (mm_sI μ (b + 1) (upd (μ.1 (b + 1)) p 0)) := mf.rf.sI ⟨by omega, by omega⟩
    rcases hb with rfl | rfl
    all_goals
      refine mm_call.of mm_t46 ?_
      refine mm_ev.run mm_y46 2 rfl ?_
      refine mm_ev.run mm_y46 4 rfl ?_
      refine mm_ev.ist mm_y46 rfl rfl rfl rfl rfl (by omega) (by decide) ?_
      refine mm_ev.run mm_y46 1 rfl ?_
      exact mm_ev.ret mm_y46 rfl rfl rfl ⟨rfl, K, K2⟩
theorem sp_join_c {n : Nat} {f2 f3 f4 f5 f6 f0 : Nat → Int32} {k v : Int32} (hg : sG_c 16 g μ) (hn : g.1 = n) (h2 : f2 = upd (μ.1 18) n k) (h3 : f3 = upd (μ.1 19) n v) (h4 : f4 = upd (μ.1 20) n (-5)) (h5 : f5 = upd (μ.1 21) n 0) (h6 : f6 = sp_row4 (μ.1 22) n) (h0 : f0 = upd (μ.1 16) 1 (nI (n + 1))) : sG_c 16 (sp_join g k v) (mm_sI (mm_sI (mm_sI (mm_sI (mm_sI (mm_sI μ 18 f2) 19 f3) 20 f4) 21 f5) 22 f6) 16 f0) := by
  subst hn
  subst h2 h3 h4 h5 h6 h0
  refine ⟨?_, ?_, hg.2.2.1, ?_⟩
  · rw [sI_eq]
    exact upd_eq
  · rw [sI_eq]
    exact hg.hour
  · intro j i hj hi
    rcases (show j = 0 ∨ j = 1 ∨ j = 2 ∨ j = 3 ∨ j = 4 ∨ j = 5 by omega) with rfl | rfl | rfl | rfl | rfl | rfl
    · exact hg.need hi
    · exact upd_co1 (fun i hi => hg.kind hi) i hi
    · exact upd_co1 (fun i hi => hg.v hi) i hi
    · exact upd_co1 (fun i hi => hg.fin hi) i hi
    · exact upd_co1 (fun i hi => hg.stood hi) i hi
    · exact sp_row4_co (fun i hi => hg.row hi) i hi
set_option maxRecDepth 100000 in
theorem C27 (hg : sG_c 16 g μ) (h6 : g.1 ≤ 6) (k v : Int32) : mm_call la_C d 27 [.ref 16, .int k, .int v] μ (fun r μ' => (g.1 = 6 ∧ r = some (.int (-4)) ∧ μ' = μ) ∨ (g.1 < 6 ∧ r = some (.int (nI g.1)) ∧ sG_c 16 (sp_join g k v) μ' ∧ mf (fun c => 16 ≤ c ∧ c ≤ 22) μ μ')) := by
  refine mm_call.of mm_t27 ?_
  refine mm_ev.run mm_y27 2 rfl ?_
  refine mm_ev.val hg.n ?_
  refine mm_ev.run mm_y27 2 rfl ?_
  refine mm_ev.ite (fun h => ?_) (fun h => ?_)
  · have h7 : g.1 < 6 := (nI_ltI (b := 6) (by omega) (by decide)).mp h
    have e4 : ∀ i : Nat, nI g.1 * 4 + nI i = nI (4 * g.1 + i) := fun i => by rw [show (4 : Int32) = nI 4 from rfl, nI_mul, nI_add, Nat.mul_comm]
    refine mm_ev.run mm_y27 4 rfl ?_
    refine mm_ev.val hg.n ?_
    refine mm_ev.run mm_y27 1 rfl ?_
    refine mm_ev.ist mm_y27 rfl rfl rfl rfl rfl (by omega) (by decide) ?_
    refine mm_ev.run mm_y27 4 rfl ?_
    refine mm_ev.val hg.n ?_
    refine mm_ev.run mm_y27 1 rfl ?_
    refine mm_ev.ist mm_y27 rfl rfl rfl rfl rfl (by omega) (by decide) ?_
    refine mm_ev.run mm_y27 4 rfl ?_
    refine mm_ev.val hg.n ?_
    refine mm_ev.run mm_y27 1 rfl ?_
    refine mm_ev.ist mm_y27 rfl rfl rfl rfl rfl (by omega) (by decide) ?_
    refine mm_ev.run mm_y27 4 rfl ?_
    refine mm_ev.val hg.n ?_
    refine mm_ev.run mm_y27 1 rfl ?_
    refine mm_ev.ist mm_y27 rfl rfl rfl rfl rfl (by omega) (by decide) ?_

    refine mm_ev.run mm_y27 5 rfl ?_
    refine mm_ev.neg (by decide) ?_
    refine mm_ev.run mm_y27 4 rfl ?_
    refine mm_ev.val hg.n ?_
    refine mm_ev.run mm_y27 5 rfl ?_
    refine mm_ev.ist mm_y27 rfl rfl rfl rfl (e4 0) (by omega) (by decide) ?_
    refine mm_ev.run mm_y27 5 rfl ?_
    refine mm_ev.neg (by decide) ?_
    refine mm_ev.run mm_y27 4 rfl ?_
    refine mm_ev.val hg.n ?_
    refine mm_ev.run mm_y27 5 rfl ?_
    refine mm_ev.ist mm_y27 rfl rfl rfl rfl (e4 1) (by omega) (by decide) ?_
    refine mm_ev.run mm_y27 5 rfl ?_
    refine mm_ev.neg (by decide) ?_
    refine mm_ev.run mm_y27 4 rfl ?_
    refine mm_ev.val hg.n ?_
    refine mm_ev.run mm_y27 5 rfl ?_
    refine mm_ev.ist mm_y27 rfl rfl rfl rfl (e4 2) (by omega) (by decide) ?_
    refine mm_ev.run mm_y27 5 rfl ?_
    refine mm_ev.neg (by decide) ?_
    refine mm_ev.run mm_y27 4 rfl ?_
    refine mm_ev.val hg.n ?_
    refine mm_ev.run mm_y27 5 rfl ?_
    refine mm_ev.ist mm_y27 rfl rfl rfl rfl (e4 3) (by omega) (by decide) ?_
    refine mm_ev.run mm_y27 5 rfl ?_
    refine mm_ev.pos (by decide) ?_
    refine mm_ev.run mm_y27 3 rfl ?_
    refine mm_ev.val hg.n ?_
    refine mm_ev.run mm_y27 3 rfl ?_
    refine mm_ev.run mm_y27 2 rfl ?_
    refine mm_ev.val (show upd (μ.1 16) 1 (nI g.1 + 1) 1 = nI (g.1 + 1) from by rw [upd_eq, nI_succ]) ?_
    refine mm_ev.run mm_y27 2 rfl ?_
    refine mm_ev.val (nI_pred g.1) ?_
    refine mm_ev.eq (by simp only [mm_sI_sI]; rfl) ?_
    exact mm_ev.ret mm_y27 rfl rfl rfl (Or.inr ⟨h7, rfl, sp_join_c hg rfl rfl rfl rfl rfl rfl (by rw [nI_succ]; rfl), (((((mf.rf.sI ⟨by decide, by decide⟩).sI ⟨by decide, by decide⟩).sI ⟨by decide, by decide⟩).sI ⟨by decide, by decide⟩).sI ⟨by decide, by decide⟩).sI ⟨by decide, by decide⟩⟩)
  · have h7 : g.1 = 6 := by
      by_cases hz : g.1 < 6
      · exact absurd (nI_lt hz (by decide)) h
      · omega
    refine mm_ev.run mm_y27 1 rfl ?_
    exact mm_ev.ret mm_y27 rfl rfl rfl (Or.inl ⟨h7, rfl, rfl⟩)
end
