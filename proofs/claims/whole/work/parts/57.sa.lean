/-! ALL THAT BOTH HOLD -/
/-- a tape: its sort, its length, its items -/
abbrev sT : Type := Int32 × Nat × (Nat → Int64)
/-- now, the image, the schools, the text, the trace, the tapes -/
abbrev sA : Type := sK × Option sK × List sS × (Nat × (Nat → Int32)) × (Nat × (Nat → Int32)) × (Nat → sT)
def tT (q : Nat) (t : sT) (μ : mm_M) : Prop := μ.1 q 0 = t.1 ∧ μ.1 q 1 = nI t.2.1 ∧ ∀ i, i < 60 → μ.2.1 (q + 1) i = t.2.2 i
def rC (A : sA) (μ : mm_M) : Prop :=
  rK 16 A.1 μ ∧ (μ.1 14 2 = match A.2.1 with
    | none => 0
    | some _ => 1) ∧ (∀ K, A.2.1 = some K → rK 37 K μ) ∧ sC_c A.2.2.1 μ ∧ (μ.1 66 1 = nI A.2.2.2.1.1 ∧ ∀ i, i < A.2.2.2.1.1 → μ.1 67 i = A.2.2.2.1.2 i) ∧ (μ.1 71 1 = nI A.2.2.2.2.1.1 ∧ ∀ i, i < A.2.2.2.2.1.1 → μ.1 72 i = A.2.2.2.2.1.2 i) ∧ ∀ t, t < 6 → tT (98 + 2 * t) (A.2.2.2.2.2 t) μ
/-- a globe that fits, with s schools -/
def okG (s : Nat) (g : sG) : Prop := g.1 ≤ 6 ∧ (∀ j, g.2.2.1 = some j → j < s) ∧ (∀ p, p < 12 → ∃ x, x ≤ 99 ∧ g.2.2.2 0 p = nI x) ∧ (∀ c, c < g.1 → ∃ k, k < 7 ∧ g.2.2.2 1 c = nI k) ∧ (∀ c, c < g.1 → g.2.2.2 3 c = -5 ∨ ∃ x, x < 12 ∧ g.2.2.2 3 c = nI x) ∧ ∃ h, h ≤ 9999 ∧ g.2.1 = nI h ∧ ∀ c, c < g.1 → ∃ s, s ≤ h ∧ g.2.2.2 4 c = nI s
def okP (n : Nat) (r : sR) : Prop := r.1 ≤ 10 ∧ ∀ i, i < r.1 → sp_fit n (r.2 0 i) (r.2 1 i) ∧ (r.2 0 i = 2 → ∃ s, s < 12 ∧ r.2 1 i = nI s)
def okB (r : sR) : Prop := r.1 ≤ 8 ∧ ∀ i, i < r.1 → ∃ p, p < 12 ∧ r.2 0 i = nI p
def okN (s : Nat) (K : sK) : Prop := okG s K.1 ∧ okS K.2.1 ∧ okP K.1.1 K.2.2.1 ∧ okB K.2.2.2
/-- a school that fits -/
def okC (s : sS) : Prop := s.length ≤ 10 ∧ ∀ x ∈ s, x.1 ≤ 2 ∧ (x.1 < 2 → sp_dep x.2.2 0 = some 1)
def okA (A : sA) : Prop := okN A.2.2.1.length A.1 ∧ (∀ K, A.2.1 = some K → okN A.2.2.1.length K) ∧ A.2.2.1.length ≤ 6 ∧ (∀ s ∈ A.2.2.1, okC s) ∧ (A.2.2.2.1.1 ≤ 100 ∧ ∀ i, i < A.2.2.2.1.1 → ∃ c, c < 128 ∧ A.2.2.2.1.2 i = nI c) ∧ A.2.2.2.2.1.1 ≤ 20 ∧ ∀ t, t < 6 → (A.2.2.2.2.2 t).2.1 ≤ 60 ∧ ((A.2.2.2.2.2 t).1 = -1 ∧ (A.2.2.2.2.2 t).2.1 = 0 ∨ ∃ s, s < 5 ∧ (A.2.2.2.2.2 t).1 = nI s)
section
variable {A : sA} {μ μ' : mm_M} {P : Nat → Prop} {σ : List sS}
theorem tT.fr {q : Nat} {t : sT} (h : tT q t μ) (hf : mf P μ μ') (hP : ∀ c, P c → ¬ (q ≤ c ∧ c ≤ q + 1)) : tT q t μ' := by
  have h0 := hf q (fun z => hP q z ⟨Nat.le_refl _, by omega⟩)
  have h1 := hf (q + 1) (fun z => hP (q + 1) z ⟨by omega, Nat.le_refl _⟩)
  exact ⟨by rw [h0.1]; exact h.1, by rw [h0.1]; exact h.2.1, fun i hi => by rw [h1.2.1]; exact h.2.2 i hi⟩
/-- what is used again for each call -/
def sc (c : Nat) : Prop := c = 23 ∨ (57 ≤ c ∧ c ≤ 64) ∨ c = 69 ∨ c = 70
theorem rC.fr' (h : rC A μ) (hf : mf P μ μ') (hP : ∀ c, P c → sc c) : rC A μ' := by
  obtain ⟨h1, h2, h3, h4, h5, h6, h7⟩ := h
  have e : ∀ c, ¬ sc c → μ'.1 c = μ.1 c := fun c hc => (hf c (fun z => hc (hP c z))).1
  refine ⟨h1.fr hf (fun c hc => ?_), by rw [e 14 (by unfold sc; omega)]; exact h2, fun K hK => (h3 K hK).fr hf (fun c hc => ?_), h4.fr' hf (fun c hc => ?_), ⟨by rw [e 66 (by unfold sc; omega)]; exact h5.1, fun i hi => by rw [e 67 (by unfold sc; omega)]; exact h5.2 i hi⟩, ⟨by rw [e 71 (by unfold sc; omega)]; exact h6.1, fun i hi => by rw [e 72 (by unfold sc; omega)]; exact h6.2 i hi⟩, fun t ht => (h7 t ht).fr hf (fun c hc => ?_)⟩
  all_goals
    have := hP c hc
    unfold sc at this
    omega
theorem rC.fr (h : rC A μ) (hf : mf sc μ μ') : rC A μ' := h.fr' hf (fun _ z => z)
theorem rC.g (h : rC A μ) (ho : okA A) : gC 16 A.2.2.1 A.1.1 μ := ⟨h.1.1, h.2.2.2.1, ho.1.1.1, ho.1.1.2.1⟩
theorem rC.n (h : rC A μ) : μ.1 16 1 = nI A.1.1.1 := h.1.1.n
theorem okA.n (ho : okA A) : A.1.1.1 ≤ 6 := ho.1.1.1
/-- another globe -/
theorem rC.setG {g : sG} (h : rC A μ) (hg : sG_c 16 g μ') (hf : mf P μ μ') (hP : ∀ c, P c → 16 ≤ c ∧ c ≤ 22 ∨ sc c) : rC ((g, A.1.2), A.2) μ' := by
  obtain ⟨h1, h2, h3, h4, h5, h6, h7⟩ := h
  have e : ∀ c, ¬ (16 ≤ c ∧ c ≤ 22 ∨ sc c) → μ'.1 c = μ.1 c := fun c hc => (hf c (fun z => hc (hP c z))).1
  refine ⟨⟨hg, h1.2.1.fr hf (fun c hc => ?_), h1.2.2.1.fr hf (fun c hc => ?_), h1.2.2.2.fr hf (fun c hc => ?_)⟩, by rw [e 14 (by unfold sc; omega)]; exact h2, fun K hK => (h3 K hK).fr hf (fun c hc => ?_), h4.fr' hf (fun c hc => ?_), ⟨by rw [e 66 (by unfold sc; omega)]; exact h5.1, fun i hi => by rw [e 67 (by unfold sc; omega)]; exact h5.2 i hi⟩, ⟨by rw [e 71 (by unfold sc; omega)]; exact h6.1, fun i hi => by rw [e 72 (by unfold sc; omega)]; exact h6.2 i hi⟩, fun t ht => (h7 t ht).fr hf (fun c hc => ?_)⟩
  all_goals
    have := hP c hc
    unfold sc at this
    omega
end
/-! WHAT EACH CALL ANSWERS, AND WHAT IT LEAVES -/
abbrev isC (A : sA) (c : Int32) : Prop := 0 ≤ c ∧ c ≤ nI A.1.1.1 - 1
abbrev sA_G (A : sA) (g : sG) : sA := ((g, A.1.2), A.2)
def q_child (A : sA) (k v : Int32) : Int32 × sA := if 0 ≤ k ∧ k ≤ 6 then (if 0 ≤ v ∧ v ≤ 9 then (if A.1.1.1 = 6 then (-4, A) else (nI A.1.1.1, sA_G A (sp_join A.1.1 k v))) else (-2, A)) else (-1, A)
def q_of (A : sA) (c w : Int32) : Int32 := if isC A c then (if w = 0 then A.1.1.2.2.2 1 c.toNatClampNeg else if w = 1 then A.1.1.2.2.2 2 c.toNatClampNeg else if w = 2 then A.1.1.2.2.2 3 c.toNatClampNeg else if w = 3 then A.1.1.2.2.2 4 c.toNatClampNeg else if 10 ≤ w ∧ w ≤ 21 then sp_care A.2.2.1 A.1.1 c.toNatClampNeg (w - 10).toNatClampNeg (A.1.1.2.2.2 0 (w - 10).toNatClampNeg) 0 (bI (sp_met A.1.1 c.toNatClampNeg (w - 10))) else -10001) else -10001
/-- all that was seen is so -/
abbrev sp_sn (σ : List sS) (g : sG) (S : sR) : Prop := ∀ i, i < S.1 → sp_beh σ g (S.2 0 i).toNatClampNeg (S.2 1 i).toNatClampNeg = S.2 2 i
/-- how many of the numbers below k, the least -/
def sp_scn (f : Nat → Prop) (hd : ∀ n, Decidable (f n)) : Nat → Int32 → Int32 → Int32 × Int32
  | 0, m, l => (m, l)
  | k + 1, m, l => if @decide (f k) (hd k) = true then sp_scn f hd k (m + 1) (nI k) else sp_scn f hd k m l
def sG_n (g : sG) (p n : Nat) : sG := sG_u g 0 (upd (g.2.2.2 0) p (nI n))
def sG_v (g : sG) (c n : Nat) : sG := sG_u g 2 (upd (g.2.2.2 2) c (nI n))
def sG_f (g : sG) (c n : Nat) : sG := sG_u g 3 (upd (g.2.2.2 3) c (nI n))
def sp_fitN (σ : List sS) (g : sG) (S : sR) (p : Nat) : Int32 × Int32 := sp_scn (fun n => sp_sn σ (sG_n g p n) S) (fun _ => inferInstance) 100 0 (-5)
def sp_fitV (σ : List sS) (g : sG) (S : sR) (c : Nat) : Int32 × Int32 := sp_scn (fun n => sp_sn σ (sG_v g c n) S) (fun _ => inferInstance) 10 0 (-5)
def q_spot (A : sA) (p w : Int32) : Int32 := if 0 ≤ p ∧ p ≤ 11 then (if w = 0 then A.1.1.2.2.2 0 p.toNatClampNeg else if w = 1 then sp_huw A.2.2.1 A.1.1 p.toNatClampNeg 61 0 else if w = 2 then (sp_fitN A.2.2.1 A.1.1 A.1.2.1 p.toNatClampNeg).1 else if w = 3 then (sp_fitN A.2.2.1 A.1.1 A.1.2.1 p.toNatClampNeg).2 else -1) else -1
def q_point (A : sA) (c p : Int32) : Int32 × sA := if isC A c then (if p = -1 ∨ (0 ≤ p ∧ p ≤ 11) then (A.1.1.2.2.2 3 c.toNatClampNeg, sA_G A (sG_u A.1.1 3 (upd (A.1.1.2.2.2 3) c.toNatClampNeg (if p = -1 then -5 else p)))) else (-1, A)) else (-1, A)
def q_need (A : sA) (p n : Int32) : Int32 × sA := if 0 ≤ p ∧ p ≤ 11 then (if 0 ≤ n ∧ n ≤ 99 then (A.1.1.2.2.2 0 p.toNatClampNeg, sA_G A (sG_u A.1.1 0 (upd (A.1.1.2.2.2 0) p.toNatClampNeg n))) else (-2, A)) else (-1, A)
def q_spin (A : sA) (s : Int32) : Int32 × sA := if 0 ≤ s ∧ s ≤ 11 then (sp_fop (sp_spin A.1.1 s) A.1.1.1, sA_G A (sp_spin A.1.1 s)) else (-2, A)
def q_bell (A : sA) : Int32 × sA := (sp_fop A.1.1 A.1.1.1, sA_G A (sG_u A.1.1 3 (fun _ => -5)))
def q_row (A : sA) (c p n : Int32) : Int32 × sA := if isC A c ∧ (0 ≤ p ∧ p ≤ 3) then (if 0 ≤ n ∧ n ≤ 9 then (if A.1.1.2.2.2 1 c.toNatClampNeg = 6 then (A.1.1.2.2.2 5 (4 * c.toNatClampNeg + p.toNatClampNeg), sA_G A (sG_u A.1.1 5 (upd (A.1.1.2.2.2 5) (4 * c.toNatClampNeg + p.toNatClampNeg) n))) else (-3, A)) else (-2, A)) else (-1, A)
def sA_x (A : sA) (n : Nat) (tx : Nat → Int32) : sA := (A.1, A.2.1, A.2.2.1, (n, tx), A.2.2.2.2)
def q_feed (A : sA) (s : Int32) : Int32 × sA := if 0 ≤ s ∧ s ≤ 127 then (if A.2.2.2.1.1 < 100 then (nI (A.2.2.2.1.1 + 1), sA_x A (A.2.2.2.1.1 + 1) (upd A.2.2.2.1.2 A.2.2.2.1.1 s)) else (-4, A)) else (-2, A)
def q_told (A : sA) (w : Int32) : Int32 := if w = 0 then A.1.1.2.1 else if w = 1 then sp_grow A.2.2.1 A.1.1.2.2.1 else if w = 2 then sp_all A.2.2.1 A.1.1 0 else if w = 3 then sp_wel A.2.2.1 A.1.1 0 12 else if w = 4 then nI (po_mx (po_w A.2.2.1 A.1.1) A.1.1.1 0 0) else if isC A (w - 10) then nI (po_fb (po_w A.2.2.1 A.1.1) A.1.1.1 (w - 10).toNatClampNeg (po_gv (po_w A.2.2.1 A.1.1) A.1.1.1 (w - 10).toNatClampNeg)) else -1
def q_pass (A : sA) (n : Int32) : Int32 × sA := if 0 ≤ n ∧ n ≤ 60 then (if A.1.1.2.1 + n ≤ 9999 then ((sp_hours A.2.2.1 A.1.1 n.toNatClampNeg).2.1, sA_G A (sp_hours A.2.2.1 A.1.1 n.toNatClampNeg)) else (-3, A)) else (-2, A)
def q_on (A : sA) (n w : Int32) : Int32 := if w = 0 ∨ w = 1 ∨ (10 ≤ w ∧ w ≤ 21) then (if 0 ≤ n ∧ n ≤ 60 then (if w = 0 then sp_all A.2.2.1 A.1.1 n.toNatClampNeg else if w = 1 then sp_wel A.2.2.1 A.1.1 n.toNatClampNeg 12 else sp_beh A.2.2.1 A.1.1 (w - 10).toNatClampNeg n.toNatClampNeg) else -2) else -1
def sp_cw (f : Nat → Int32) : Nat → Nat → Int32 → Int32
  | 0, _, b => b
  | m + 1, s, b => if (b = -5 ∨ bc (nI s) < bc b) ∧ f s = 0 then sp_cw f m (s + 1) (nI s) else sp_cw f m (s + 1) b
def q_crowd (A : sA) (p n : Int32) : Int32 := if 0 ≤ p ∧ p ≤ 11 then (if 1 ≤ n ∧ n ≤ 12 then sp_cw (fun s => sp_beh A.2.2.1 (sp_gath A.1.1 (nI s) p) p.toNatClampNeg n.toNatClampNeg) (2 ^ A.1.1.1) 0 (-5) else -2) else -1
def sp_tn (f : Nat → Int32) : Nat → Nat → Int32 → Int32 → Int32
  | 0, _, b, _ => b
  | m + 1, s, b, l => if f s < l then sp_tn f m (s + 1) (nI s) (f s) else sp_tn f m (s + 1) b l
def q_turn (A : sA) (n : Int32) : Int32 := if 1 ≤ n ∧ n ≤ 12 then sp_tn (fun s => sp_all A.2.2.1 (sp_spin A.1.1 (nI s)) n.toNatClampNeg) 11 1 0 (sp_all A.2.2.1 A.1.1 n.toNatClampNeg) else -2
abbrev sA_R (A : sA) (S P B : sR) : sA := ((A.1.1, S, P, B), A.2)
def q_see (A : sA) (p n x : Int32) : Int32 × sA := if p = -1 then (0, sA_R A (0, A.1.2.1.2) A.1.2.2.1 A.1.2.2.2) else if 0 ≤ p ∧ p ≤ 11 then (if (0 ≤ n ∧ n ≤ 12) ∧ (0 ≤ x ∧ x ≤ 99) then (if A.1.2.1.1 = 5 then (-4, A) else (nI (A.1.2.1.1 + 1), sA_R A (sp_add A.1.2.1 p n x) A.1.2.2.1 A.1.2.2.2)) else (-2, A)) else (-1, A)
def q_can (A : sA) (c w : Int32) : Int32 := if isC A c ∧ (0 ≤ w ∧ w ≤ 1) then (if w = 0 then (sp_fitV A.2.2.1 A.1.1 A.1.2.1 c.toNatClampNeg).1 else (sp_fitV A.2.2.1 A.1.1 A.1.2.1 c.toNatClampNeg).2) else -1
/-- a part of a / 12 in lowest terms -/
def sp_12 (a : Nat) (w : Int32) : Int64 := if w = 0 then lN (a / Nat.gcd a 12) else lN (12 / Nat.gcd a 12)
def sp_od (σ : List sS) (g : sG) (c p n : Nat) : Nat → Nat
  | 0 => 0
  | k + 1 => if sp_beh σ (sG_f g c k) p n = 0 then sp_od σ g c p n k + 1 else sp_od σ g c p n k
def q_odds (A : sA) (c p n w : Int32) : Int64 := if (isC A c ∧ (0 ≤ p ∧ p ≤ 11)) ∧ (0 ≤ n ∧ n ≤ 20) ∧ (0 ≤ w ∧ w ≤ 1) then sp_12 (sp_od A.2.2.1 A.1.1 c.toNatClampNeg p.toNatClampNeg n.toNatClampNeg 12) w else -9223372036854775808
def q_mean (A : sA) (n w : Int32) : Int64 := if (0 ≤ n ∧ n ≤ 60) ∧ (0 ≤ w ∧ w ≤ 1) then sp_12 (sp_all A.2.2.1 A.1.1 n.toNatClampNeg).toNatClampNeg w else -9223372036854775808
def q_addP (A : sA) (w n : Int32) : Int32 × sA := if A.1.2.2.1.1 = 10 then (-4, A) else (nI (A.1.2.2.1.1 + 1), sA_R A A.1.2.1 (sp_add A.1.2.2.1 w n 0) A.1.2.2.2)
def q_plan (A : sA) (w n : Int32) : Int32 × sA := if w = -1 then (0, sA_R A A.1.2.1 (0, A.1.2.2.1.2) A.1.2.2.2) else if w = 0 then q_addP A w 0 else if w = 1 then (if isC A n then q_addP A w n else (-1, A)) else if w = 2 then (if 0 ≤ n ∧ n ≤ 11 then q_addP A w n else (-2, A)) else if w = 3 then (if 0 ≤ n ∧ n ≤ 11 then q_addP A w n else (-1, A)) else (-1, A)
def sp_pl (σ : List sS) (g : sG) (P : sR) : Nat → sG
  | 0 => g
  | k + 1 => sp_stp σ (sp_pl σ g P k) (P.2 0 k) (P.2 1 k)
def q_ends (A : sA) (w : Int32) : Int32 := if 0 ≤ w ∧ w ≤ 1 then (if w = 0 then sp_all A.2.2.1 (sp_pl A.2.2.1 A.1.1 A.1.2.2.1 A.1.2.2.1.1) 0 else sp_fold ((sp_pl A.2.2.1 A.1.1 A.1.2.2.1 A.1.2.2.1.1).2.2.2 4) A.1.1.1) else -1
def q_book (A : sA) (p x : Int32) : Int32 × sA := if p = -1 then (0, sA_R A A.1.2.1 A.1.2.2.1 (0, A.1.2.2.2.2)) else if 0 ≤ p ∧ p ≤ 11 then (if 0 ≤ x ∧ x ≤ 99 then (if A.1.2.2.2.1 = 8 then (-4, A) else (nI (A.1.2.2.2.1 + 1), sA_R A A.1.2.1 A.1.2.2.1 (sp_add A.1.2.2.2 p x 0))) else (-2, A)) else (-1, A)
def sp_lk (g : sG) (B : sR) : Nat → Nat → Int32
  | 0, _ => -5
  | m + 1, k => if g.2.2.2 0 (B.2 0 k).toNatClampNeg = B.2 1 k then sp_lk g B m (k + 1) else nI k
def q_looked (A : sA) : Int32 := sp_lk A.1.1 A.1.2.2.2 A.1.2.2.2.1 0
def sp_jd (g : sG) (t : sT) (i : Int32) : Nat → Nat → Int32
  | 0, _ => -5
  | m + 1, k => if i < 0 ∨ t.2.1 ≤ i.toNatClampNeg + k then nI (100 + k) else if t.2.2 (i.toNatClampNeg + k) = (g.2.2.2 0 k).toInt64 then sp_jd g t i m (k + 1) else nI k
def q_judge (A : sA) (t i : Int32) : Int32 := if 0 ≤ t ∧ t ≤ 5 then (if (A.2.2.2.2.2 t.toNatClampNeg).1 = -1 ∨ (A.2.2.2.2.2 t.toNatClampNeg).1 = 0 then sp_jd A.1.1 (A.2.2.2.2.2 t.toNatClampNeg) i 12 0 else -12) else -1
def q_image (A : sA) : Int32 × sA := (nI A.1.1.1, (A.1, some A.1, A.2.2))
def q_undo (A : sA) : Int32 × sA := match A.2.1 with
  | none => (-3, A)
  | some K => (nI K.1.1, (K, A.2))
def q_trace (A : sA) (i : Int32) : Int32 := if 0 ≤ i ∧ i ≤ nI A.2.2.2.2.1.1 - 1 then A.2.2.2.2.1.2 i.toNatClampNeg else -1
/-- a kind that is, or is under, another -/
def sp_un (k j : Int32) : Prop := j = k ∨ j = 0 ∨ (k = 4 ∧ j = 1) ∨ (k = 5 ∧ j = 2) ∨ (k = 6 ∧ j = 3)
def q_taken (A : sA) (c k : Int32) : Int32 := if 0 ≤ k ∧ k ≤ 6 then (if isC A c then (if k = A.1.1.2.2.2 1 c.toNatClampNeg ∨ k = 0 ∨ (A.1.1.2.2.2 1 c.toNatClampNeg = 4 ∧ k = 1) ∨ (A.1.1.2.2.2 1 c.toNatClampNeg = 5 ∧ k = 2) ∨ (A.1.1.2.2.2 1 c.toNatClampNeg = 6 ∧ k = 3) then A.1.1.2.2.2 1 c.toNatClampNeg else -12) else -11) else -2
def q_count (A : sA) (w : Int32) : Int32 := if w = 0 then nI A.1.1.1 else if w = 1 then nI A.2.2.1.length else if w = 2 then nI A.1.2.1.1 else if w = 3 then nI A.1.2.2.1.1 else if w = 4 then nI A.1.2.2.2.1 else if w = 5 then nI A.2.2.2.1.1 else if w = 6 then nI A.2.2.2.2.1.1 else -2
def sA_t (A : sA) (t : Nat) (T : sT) : sA := (A.1, A.2.1, A.2.2.1, A.2.2.2.1, A.2.2.2.2.1, fun j => if j = t then T else A.2.2.2.2.2 j)
def q_tape (A : sA) (t s n : Int32) : Int32 × sA := if 0 ≤ t ∧ t ≤ 5 then (if -1 ≤ s ∧ s ≤ 4 then (if s = -1 then (1, sA_t A t.toNatClampNeg (-1, 0, fun _ => 0)) else if 60 < n then (-2, A) else if n < 0 then (-14, A) else (1, sA_t A t.toNatClampNeg (s, n.toNatClampNeg, fun _ => 0))) else (-2, A)) else (-1, A)
def sp_nar (s : Int32) (v : Int64) : Int64 := if s = 0 then v.toInt32.toInt8.toInt32.toInt64 else if s = 1 then v.toInt32.toInt16.toInt32.toInt64 else if s = 2 then v.toInt32.toInt64 else if s = 3 then v else if v = 0 then 0 else 1
def q_item (A : sA) (t i : Int32) (v : Int64) : Int32 × sA := if 0 ≤ t ∧ t ≤ 5 then (if (A.2.2.2.2.2 t.toNatClampNeg).1 = -1 then (-11, A) else if 0 ≤ i ∧ i ≤ nI (A.2.2.2.2.2 t.toNatClampNeg).2.1 - 1 then (1, sA_t A t.toNatClampNeg ((A.2.2.2.2.2 t.toNatClampNeg).1, (A.2.2.2.2.2 t.toNatClampNeg).2.1, vp_updL (A.2.2.2.2.2 t.toNatClampNeg).2.2 i.toNatClampNeg (sp_nar (A.2.2.2.2.2 t.toNatClampNeg).1 v))) else (-13, A)) else (-1, A)
def q_read (A : sA) (t i : Int32) : Int64 := if 0 ≤ t ∧ t ≤ 5 then (if 0 ≤ i ∧ i ≤ nI (A.2.2.2.2.2 t.toNatClampNeg).2.1 - 1 then (A.2.2.2.2.2 t.toNatClampNeg).2.2 i.toNatClampNeg else -9223372036854775808) else -9223372036854775808
/-- a run of n from i on lies within -/
abbrev sp_hr (t : sT) (i n : Int32) : Prop := 0 ≤ n ∧ 0 ≤ i ∧ i ≤ nI t.2.1 - n
def q_shift (A : sA) (t i u j n : Int32) : Int32 × sA := if (0 ≤ t ∧ t ≤ 5) ∧ (0 ≤ u ∧ u ≤ 5) then (if (A.2.2.2.2.2 t.toNatClampNeg).1 = -1 ∨ (A.2.2.2.2.2 u.toNatClampNeg).1 = -1 then (-11, A) else if (A.2.2.2.2.2 t.toNatClampNeg).1 = (A.2.2.2.2.2 u.toNatClampNeg).1 then (if sp_hr (A.2.2.2.2.2 t.toNatClampNeg) i n ∧ sp_hr (A.2.2.2.2.2 u.toNatClampNeg) j n then (n, sA_t A u.toNatClampNeg ((A.2.2.2.2.2 u.toNatClampNeg).1, (A.2.2.2.2.2 u.toNatClampNeg).2.1, va_cpy (A.2.2.2.2.2 t.toNatClampNeg).2.2 (A.2.2.2.2.2 u.toNatClampNeg).2.2 i.toNatClampNeg j.toNatClampNeg n.toNatClampNeg)) else (-13, A)) else (-12, A)) else (-1, A)
