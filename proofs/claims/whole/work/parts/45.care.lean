/-! THE CLASS'S CARE -/
theorem mm_ev.vav {Λ : List mm_D} {d y i : Nat} {L : mm_L} {s : List Value} {μ : mm_M} {Φ : Option Value → mm_M → Prop} {v0 v : Value} (h : v0 = v) (g : mm_ev Λ d y i L (v :: s) μ Φ) : mm_ev Λ d y i L (v0 :: s) μ Φ := by rw [h]; exact g
theorem sI_ne {μ : mm_M} {q c : Nat} {f : Nat → Int32} (h : c ≠ q) : (mm_sI μ q f).1 c = μ.1 c := if_neg h
theorem sI_eq {μ : mm_M} {q : Nat} {f : Nat → Int32} : (mm_sI μ q f).1 q = f := if_pos rfl
theorem sI_2 {μ : mm_M} {q : Nat} {f : Nat → Int32} : (mm_sI μ q f).2 = μ.2 := rfl
theorem sp_cl_fr {q : Nat} {μ μ' : mm_M} (h : ∀ c, q ≤ c → c ≤ q + 3 → μ'.1 c = μ.1 c) : ∀ (s : sS) (k i : Nat), sp_cl q μ s k i → sp_cl q μ' s k i := by
  intro s
  induction s with
  | nil => intro k i z; unfold sp_cl at z ⊢; rw [h q (by omega) (by omega)]; exact z
  | cons x s ih =>
    obtain ⟨w, n, ops⟩ := x
    intro k i z
    unfold sp_cl at z ⊢
    by_cases hw : w = 2
    · rw [if_pos hw] at z ⊢
      exact ih _ _ z
    · rw [if_neg hw] at z ⊢
      rw [h (q + 1) (by omega) (by omega), h (q + 2) (by omega) (by omega), h (q + 3) (by omega) (by omega)]
      exact ⟨z.1, z.2.1, z.2.2.1, z.2.2.2.1, z.2.2.2.2.1, z.2.2.2.2.2.1, z.2.2.2.2.2.2.1, ih _ _ z.2.2.2.2.2.2.2⟩
theorem sC_c.fr {σ : List sS} {μ μ' : mm_M} (z : sC_c σ μ) (h : ∀ c, c = 14 ∨ 74 ≤ c ∧ c < 98 → μ'.1 c = μ.1 c) : sC_c σ μ' := by
  refine ⟨by rw [h 14 (Or.inl rfl)]; exact z.1, z.2.1, fun j hj => ?_⟩
  have h6 := z.2.1
  obtain ⟨z1, z2⟩ := z.2.2 j hj
  exact ⟨by rw [h _ (Or.inr ⟨by omega, by omega⟩)]; exact z1, sp_cl_fr (fun c h1 h2 => h c (Or.inr ⟨by omega, by omega⟩)) _ _ _ z2⟩
theorem sG_c.fr {b : Nat} {g : sG} {μ μ' : mm_M} (z : sG_c b g μ) (h : ∀ c, b ≤ c → c ≤ b + 6 → μ'.1 c = μ.1 c) (h2 : μ'.2.2 b = μ.2.2 b) : sG_c b g μ' := by
  refine ⟨by rw [h b (by omega) (by omega)]; exact z.1, by rw [h b (by omega) (by omega)]; exact z.2.1, by rw [h2]; exact z.2.2.1, fun k i hk hi => ?_⟩
  rw [h _ (by omega) (by omega)]
  exact z.2.2.2 k i hk hi
/-- what the class's methods of a globe may count on -/
def gC (b : Nat) (σ : List sS) (g : sG) (μ : mm_M) : Prop := sG_c b g μ ∧ sC_c σ μ ∧ g.1 ≤ 6 ∧ ∀ j, g.2.2.1 = some j → j < σ.length
theorem gC.fa {b : Nat} (hb : b = 16 ∨ b = 57) {σ : List sS} {g : sG} {μ : mm_M} (h : gC b σ g μ) (fa : Nat → Int32) : gC b σ g (mm_sI μ (b + 7) fa) :=
  ⟨h.1.fr (fun c h1 h2 => sI_ne (by omega)) rfl, h.2.1.fr (fun c hc => sI_ne (by omega)), h.2.2.1, h.2.2.2⟩
theorem sp_r4 : ∀ p, p < 12 → sp_r (nI p) 4 = nI (p % 4) := by decide +kernel
section
variable {d : Nat} {μ : mm_M} {b : Nat} {σ : List sS} {g : sG} {c p : Nat}
set_option maxRecDepth 100000 in
theorem C31 (hb : b = 16 ∨ b = 57) (hg : sG_c b g μ) (h6 : g.1 ≤ 6) (hc : c < g.1) (needs later : Int32) : mm_call la_C d 31 [.ref b, .int (nI c), .int (nI p), .int needs, .int later] μ (fun v μ' => ∃ fa, v = some (.ref (b + 7)) ∧ μ' = mm_sI μ (b + 7) fa ∧ ∀ l, l < 6 → fa l = sp_f g c p needs later l) := by
  rcases hb with rfl | rfl
  all_goals
    refine mm_call.of mm_t31 ?_
    refine mm_ev.run mm_y31 5 rfl ?_
    refine mm_ev.run mm_y31 6 rfl ?_
    refine mm_ev.ild mm_y31 rfl rfl rfl rfl rfl (by omega) (by decide) (hg.kind hc) ?_
    refine mm_ev.run mm_y31 1 rfl ?_
    refine mm_ev.run mm_y31 6 rfl ?_
    refine mm_ev.ild mm_y31 rfl rfl rfl rfl rfl (by omega) (by decide) (hg.v hc) ?_
    refine mm_ev.run mm_y31 1 rfl ?_
    refine mm_ev.run mm_y31 5 rfl ?_
    refine mm_ev.run mm_y31 7 rfl ?_
    refine mm_ev.run mm_y31 5 rfl ?_
    refine mm_ev.val hg.hour ?_
    refine mm_ev.run mm_y31 5 rfl ?_
    refine mm_ev.run mm_y31 2 rfl ?_
    refine mm_ev.ret mm_y31 rfl rfl rfl ⟨_, rfl, by simp only [mm_sI_sI]; rfl, ?_⟩
    intro l hl
    match l, hl with
    | 0, _ => rfl
    | 1, _ => rfl
    | 2, _ => rfl
    | 3, _ => rfl
    | 4, _ => rfl
    | 5, _ => rfl
set_option maxRecDepth 100000 in
theorem C30_k (hb : b = 16 ∨ b = 57) (hg : sG_c b g μ) (h6 : g.1 ≤ 6) (hc : c < g.1) (hp : p < 12) (needs later an sum dr : Int32) : mm_ev la_C d 30 26 [some (.ref b), some (.int (nI c)), some (.int (nI p)), some (.int needs), some (.int later), some (.int an), some (.int sum), none] [.int dr] μ (fun v μ' => v = some (.int (sp_cr g c p later an sum dr)) ∧ μ' = μ) := by
  unfold sp_cr
  rcases hb with rfl | rfl
  all_goals
    refine mm_ev.run mm_y30 4 rfl ?_
    refine mm_ev.ild mm_y30 rfl rfl rfl rfl rfl (by omega) (by decide) (hg.kind hc) ?_
    refine mm_ev.run mm_y30 1 rfl ?_
    refine mm_ev.swc (fun h => ?_) (fun n1 => mm_ev.swc (fun h => ?_) (fun n2 => mm_ev.swc (fun h => ?_) (fun n3 => mm_ev.swc (fun h => ?_) (fun n4 => mm_ev.swc (fun h => ?_) (fun n5 => mm_ev.swc (fun h => ?_) (fun n6 => mm_ev.sw0 ?_))))))
    · rw [if_pos h]
      refine mm_ev.run mm_y30 4 rfl ?_
      refine mm_ev.ild mm_y30 rfl rfl rfl rfl rfl (by omega) (by decide) (hg.v hc) ?_
      refine mm_ev.run mm_y30 1 rfl ?_
      exact mm_ev.ret mm_y30 rfl rfl rfl ⟨rfl, rfl⟩
    · rw [if_neg n1, if_pos h]
      refine mm_ev.run mm_y30 3 rfl ?_
      exact mm_ev.ret mm_y30 rfl rfl rfl ⟨rfl, rfl⟩
    · rw [if_neg n1, if_neg n2, if_pos h]
      refine mm_ev.run mm_y30 1 rfl ?_
      exact mm_ev.ret mm_y30 rfl rfl rfl ⟨rfl, rfl⟩
    · rw [if_neg n1, if_neg n2, if_neg n3, if_pos h]
      refine mm_ev.run mm_y30 4 rfl ?_
      refine mm_ev.ild mm_y30 rfl rfl rfl rfl rfl (by omega) (by decide) (hg.v hc) ?_
      refine mm_ev.run mm_y30 3 rfl ?_
      refine mm_ev.ite (fun h2 => ?_) (fun h2 => ?_)
      · rw [if_pos h2]
        refine mm_ev.run mm_y30 2 rfl ?_
        exact mm_ev.ret mm_y30 rfl rfl rfl ⟨rfl, rfl⟩
      · rw [if_neg h2]
        refine mm_ev.run mm_y30 3 rfl ?_
        exact mm_ev.ret mm_y30 rfl rfl rfl ⟨rfl, rfl⟩
    · rw [if_neg n1, if_neg n2, if_neg n3, if_neg n4, if_pos h]
      refine mm_ev.run mm_y30 7 rfl ?_
      refine mm_ev.ild mm_y30 rfl rfl rfl rfl rfl (by omega) (by decide) (hg.stood hc) ?_
      refine mm_ev.run mm_y30 6 rfl ?_
      exact mm_ev.ret mm_y30 rfl rfl rfl ⟨rfl, rfl⟩
    · rw [if_neg n1, if_neg n2, if_neg n3, if_neg n4, if_neg n5, if_pos h]
      refine mm_ev.run mm_y30 10 rfl ?_
      refine mm_ev.ild mm_y30 rfl rfl rfl rfl (show nI c * 4 + sp_r (nI p) 4 = nI (4 * c + p % 4) from by rw [sp_r4 p hp, show (4 : Int32) = nI 4 from rfl, nI_mul, nI_add, Nat.mul_comm]) (by omega) (by decide) (hg.row (by omega)) ?_
      refine mm_ev.run mm_y30 1 rfl ?_
      exact mm_ev.ret mm_y30 rfl rfl rfl ⟨rfl, rfl⟩
    · rw [if_neg n1, if_neg n2, if_neg n3, if_neg n4, if_neg n5, if_neg n6]
      refine mm_ev.run mm_y30 1 rfl ?_
      exact mm_ev.ret mm_y30 rfl rfl rfl ⟨rfl, rfl⟩
set_option maxRecDepth 100000 in
theorem C30_j (hb : b = 16 ∨ b = 57) (hg : sG_c b g μ) (h6 : g.1 ≤ 6) (hc : c < g.1) (hp : p < 12) (needs later an sum : Int32) : mm_ev la_C d 30 14 [some (.ref b), some (.int (nI c)), some (.int (nI p)), some (.int needs), some (.int later), some (.int an), none, none] [.int sum] μ (fun v μ' => v = some (.int (sp_cr g c p later an sum (if sp_r (g.2.1 + later) 4 = 3 then 0 else sum))) ∧ μ' = μ) := by
  have k := fun dr => C30_k (d := d) (μ := μ) hb hg h6 hc hp needs later an sum dr
  rcases hb with rfl | rfl
  all_goals
    refine mm_ev.run mm_y30 3 rfl ?_
    refine mm_ev.val hg.hour ?_
    refine mm_ev.run mm_y30 6 rfl ?_
    refine mm_ev.ite (c := sp_r (g.2.1 + later) 4 = 3) (fun h => ?_) (fun h => ?_)
    · rw [if_pos h]
      refine mm_ev.run mm_y30 2 rfl ?_
      exact k 0
    · rw [if_neg h]
      refine mm_ev.run mm_y30 1 rfl ?_
      exact k sum
set_option maxRecDepth 100000 in
theorem C30 (hb : b = 16 ∨ b = 57) (hg : gC b σ g μ) (hc : c < g.1) (hp : p < 12) (needs later an : Int32) : mm_call la_C (d + 2) 30 [.ref b, .int (nI c), .int (nI p), .int needs, .int later, .int an] μ (fun v μ' => ∃ fa, v = some (.int (sp_care σ g c p needs later an)) ∧ μ' = mm_sI μ (b + 7) fa) := by
  obtain ⟨h1, h2, h6, h4⟩ := hg
  have hsch := h1.sch
  unfold sp_care
  cases hs : g.2.2.1 with
  | none =>
    rw [hs] at hsch
    have hn : va_rf (μ.2.2 b 2) = .null := by rw [hsch]; rfl
    have k := C30_j (d := d + 2) (μ := μ) hb h1 h6 hc hp needs later an 4
    rcases hb with rfl | rfl
    all_goals
      refine mm_call.of mm_t30 ?_
      refine mm_ev.run mm_y30 2 rfl ?_
      refine mm_ev.vav hn ?_
      refine mm_ev.run mm_y30 1 rfl ?_
      refine mm_ev.run mm_y30 2 rfl ?_
      exact k.imp (fun v μ' hh => ⟨_, hh.1, hh.2.trans mm_sI_self.symm⟩)
  | some j =>
    rw [hs] at hsch
    have hj := h4 j hs
    have hss := h2.2.2 j hj
    have hj6 : j < 6 := Nat.lt_of_lt_of_le hj h2.2.1
    have hn : va_rf (μ.2.2 b 2) = .ref (74 + 4 * j) := by rw [hsch]; rfl
    have hfr : ∀ fa, sS_c (74 + 4 * j) (σ.getD j []) (mm_sI μ (b + 7) fa) := fun fa => ⟨by rw [sI_ne (by omega)]; exact hss.1, sp_cl_fr (fun c h1 h2 => sI_ne (by omega)) _ _ _ hss.2⟩
    have k := fun fa sum => C30_j (d := d + 2) (μ := mm_sI μ (b + 7) fa) hb (h1.fr (fun c h1 h2 => sI_ne (by omega)) rfl) h6 hc hp needs later an sum
    have hq : 74 + 4 * j = 74 ∨ 74 + 4 * j = 78 ∨ 74 + 4 * j = 82 ∨ 74 + 4 * j = 86 ∨ 74 + 4 * j = 90 ∨ 74 + 4 * j = 94 := by omega
    generalize 74 + 4 * j = q at hn hfr hq
    have hq0 := hq
    have hb0 := hb
    rcases hb with rfl | rfl
    all_goals
      rcases hq with rfl | rfl | rfl | rfl | rfl | rfl
      all_goals
        refine mm_call.of mm_t30 ?_
        refine mm_ev.run mm_y30 2 rfl ?_
        refine mm_ev.vav hn ?_
        refine mm_ev.run mm_y30 1 rfl ?_
        refine mm_ev.run mm_y30 2 rfl ?_
        refine mm_ev.vav hn ?_
        refine mm_ev.run mm_y30 5 rfl ?_
        refine mm_ev.call mm_y30 rfl rfl rfl rfl rfl (C31 (p := p) hb0 h1 h6 hc needs later) (fun v1 μ1 hq => ?_)
        obtain ⟨fa, rfl, rfl, hfa⟩ := hq
        refine mm_ev.call mm_y30 rfl rfl rfl rfl rfl (C74 hq0 (by decide) (fun l hl => hfa l hl) (hfr fa)) (fun v1 μ1 hq => ?_)
        obtain ⟨rfl, rfl⟩ := hq
        exact (k fa _).imp (fun v μ' hh => ⟨fa, hh.1, hh.2⟩)
end
