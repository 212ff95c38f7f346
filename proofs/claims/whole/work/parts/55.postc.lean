/-! THE CLASS'S POSTS -/
section
variable {d : Nat} {μ : mm_M} {σ : List sS} {g : sG}
set_option maxRecDepth 100000 in
theorem C52 {c x u a e : Nat} (hc : c < 6) (hx : x < 12) (hu : u < 4096) (h1 : μ.1 69 (12 * c + x) = nI a) (h2 : μ.1 70 (u ||| 2 ^ x) = nI e) : mm_call la_C d 52 [.ref 68, .int (nI c), .int (nI x), .int (nI u)] μ (fun v μ' => v = some (.int (nI (a + e))) ∧ μ' = μ) := by
  have := po_lt hu hx
  refine mm_call.of mm_t52 ?_
  refine mm_ev.run mm_y52 7 rfl ?_
  refine mm_ev.ild mm_y52 rfl rfl rfl rfl (show nI c * 12 + nI x = nI (12 * c + x) from by rw [show (12 : Int32) = nI 12 from rfl, nI_mul, nI_add, Nat.mul_comm]) (by omega) (by decide) h1 ?_
  refine mm_ev.run mm_y52 7 rfl ?_
  refine mm_ev.ild mm_y52 rfl rfl rfl rfl (show nI u ||| ((1 : Int32) <<< (nI x &&& 31)) = nI (u ||| 2 ^ x) from by rw [po_1 x hx, po_or]) this (by decide) h2 ?_
  refine mm_ev.run mm_y52 1 rfl ?_
  refine mm_ev.val (nI_add a e) ?_
  exact mm_ev.ret mm_y52 rfl rfl rfl ⟨rfl, rfl⟩
theorem po_z {u x : Nat} (hx : x < 12) : ((nI u >>> (nI x &&& 31)) &&& 1 = 0) ↔ u.testBit x = false := by
  rw [po_bit u x hx]
  cases u.testBit x
  · simp; rfl
  · simp; decide
set_option maxRecDepth 100000 in
theorem C51_l {c u : Nat} (hc : c < 6) (hu : u < 4096) {w F : Nat → Nat} (h1 : ∀ x, x < 12 → μ.1 69 (12 * c + x) = nI (w x)) (h2 : ∀ x, x < 12 → u.testBit x = false → μ.1 70 (u ||| 2 ^ x) = nI (F x)) (hb : ∀ x, w x + F x ≤ 1000) : ∀ m k, k + m = 12 → mm_ev la_C (d + 1) 51 4 [some (.ref 68), some (.int (nI c)), some (.int (nI u)), some (.int (nI (po_fm (fun x => w x + F x) (fun x => !u.testBit x) k))), some (.int (nI k))] [] μ (fun v μ' => v = some (.int (nI (po_fm (fun x => w x + F x) (fun x => !u.testBit x) 12))) ∧ μ' = μ) := by
  intro m
  induction m with
  | zero =>
    intro k hk
    have hk : k = 12 := by omega
    subst hk
    refine mm_ev.run mm_y51 3 rfl ?_
    refine mm_ev.pos (by decide) ?_
    refine mm_ev.run mm_y51 1 rfl ?_
    exact mm_ev.ret mm_y51 rfl rfl rfl ⟨rfl, rfl⟩
  | succ m ih =>
    intro k hk
    have ih := ih (k + 1) (by omega)
    have e : po_fm (fun x => w x + F x) (fun x => !u.testBit x) (k + 1) = if (!u.testBit k) = true then max (po_fm (fun x => w x + F x) (fun x => !u.testBit x) k) (w k + F k) else po_fm (fun x => w x + F x) (fun x => !u.testBit x) k := rfl
    rw [e, nI_succ] at ih
    have hle := po_fm_le (f := fun x => w x + F x) (P := fun x => !u.testBit x) hb k
    have hbk := hb k
    refine mm_ev.run mm_y51 3 rfl ?_
    refine mm_ev.neg (nI_ge (b := 12) (by omega) (by decide)) ?_
    refine mm_ev.run mm_y51 6 rfl ?_
    refine mm_ev.ite (c := (nI u >>> (nI k &&& 31)) &&& 1 = 0) (fun h => ?_) (fun h => ?_)
    · have h0 := (po_z (by omega)).mp h
      rw [if_pos (by rw [h0]; rfl), ← nI_max (by omega) (by omega)] at ih
      refine mm_ev.run mm_y51 5 rfl ?_
      refine mm_ev.call mm_y51 rfl rfl rfl rfl rfl (C52 hc (by omega) hu (h1 k (by omega)) (h2 k (by omega) h0)) (fun v1 μ1 hq => ?_)
      obtain ⟨rfl, rfl⟩ := hq
      refine mm_ev.run mm_y51 4 rfl ?_
      exact ih
    · have h0 : u.testBit k = true := by
        cases hz : u.testBit k with
        | false => exact absurd ((po_z (by omega)).mpr hz) h
        | true => rfl
      rw [if_neg (by rw [h0]; decide)] at ih
      refine mm_ev.run mm_y51 2 rfl ?_
      exact ih
set_option maxRecDepth 100000 in
theorem C51 {c u : Nat} (hc : c < 6) (hu : u < 4096) {w F : Nat → Nat} (h1 : ∀ x, x < 12 → μ.1 69 (12 * c + x) = nI (w x)) (h2 : ∀ x, x < 12 → u.testBit x = false → μ.1 70 (u ||| 2 ^ x) = nI (F x)) (hb : ∀ x, w x + F x ≤ 1000) : mm_call la_C (d + 1) 51 [.ref 68, .int (nI c), .int (nI u)] μ (fun v μ' => v = some (.int (nI (po_fm (fun x => w x + F x) (fun x => !u.testBit x) 12))) ∧ μ' = μ) := by
  refine mm_call.of mm_t51 ?_
  refine mm_ev.run mm_y51 4 rfl ?_
  exact C51_l hc hu h1 h2 hb 12 0 (by omega)
/-- the care of each; the most by sets -/
def po_a (w : Nat → Nat → Nat) (n : Nat) (μ : mm_M) : Prop := ∀ c x, c < n → x < 12 → μ.1 69 (12 * c + x) = nI (w c x)
def po_r (w : Nat → Nat → Nat) (n k : Nat) (f : Nat → Int32) : Prop := ∀ u, k ≤ u → u < 4096 → po_c u 12 ≤ n → f u = nI (po_mx w (n - po_c u 12) (po_c u 12) u)
set_option maxRecDepth 100000 in
theorem C50_2 {w : Nat → Nat → Nat} {n : Nat} (hn : n ≤ 6) (hN : μ.1 16 1 = nI n) (hw : ∀ c x, w c x ≤ 99) (ha : po_a w n μ) : ∀ k f x3 x4, k ≤ 4096 → po_r w n k f → mm_ev la_C (d + 2) 50 40 [some (.ref 68), some (.ref 16), some (.int (nI k - 1)), x3, x4] [] (mm_sI μ 70 f) (fun v μ' => v = none ∧ ∃ f, μ' = mm_sI μ 70 f ∧ po_r w n 0 f) := by
  intro k
  induction k with
  | zero =>
    intro f x3 x4 _ hf
    refine mm_ev.run mm_y50 2 rfl ?_
    refine mm_ev.pos (by decide) ?_
    exact mm_ev.ret mm_y50 rfl rfl rfl ⟨rfl, f, rfl, hf⟩
  | succ k ih =>
    intro f x3 x4 hk hf
    rw [nI_pred]
    have ih := fun f x3 x4 => ih f x3 x4 (by omega)
    rw [Int32.sub_eq_add_neg] at ih
    have hpc := po_c_le k 12
    have hC5 := C5 (Λ := la_C) (d := d + 1) (μ := mm_sI μ 70 f) (nI k)
    rw [bc_4096 k (by omega)] at hC5
    refine mm_ev.run mm_y50 2 rfl ?_
    refine mm_ev.neg (nI_pos (by omega)) ?_
    refine mm_ev.run mm_y50 1 rfl ?_
    refine mm_ev.call mm_y50 rfl rfl rfl rfl rfl hC5 (fun v1 μ1 hq => ?_)
    obtain ⟨rfl, rfl⟩ := hq
    refine mm_ev.run mm_y50 4 rfl ?_
    refine mm_ev.val hN ?_
    refine mm_ev.run mm_y50 1 rfl ?_
    refine mm_ev.ite (fun h => ?_) (fun h => ?_)
    · have hgt : ¬ po_c k 12 ≤ n := fun z => absurd h (nI_nlt z (by omega))
      refine mm_ev.run mm_y50 2 rfl ?_
      refine ih f _ _ (fun u h1 h2 h3 => ?_)
      by_cases e : u = k
      · subst e; exact absurd h3 hgt
      · exact hf u (by omega) h2 h3
    · have hle : po_c k 12 ≤ n := by
        by_cases z : po_c k 12 ≤ n
        · exact z
        · exact absurd (nI_lt (show n < po_c k 12 by omega) (by omega)) h
      refine mm_ev.run mm_y50 6 rfl ?_
      refine mm_ev.val hN ?_
      refine mm_ev.run mm_y50 1 rfl ?_
      refine mm_ev.ite (fun h2 => ?_) (fun h2 => ?_)
      · have he : po_c k 12 = n := (nI_eq (by omega) (by omega)).mp h2
        refine mm_ev.run mm_y50 2 rfl ?_
        refine mm_ev.ist mm_y50 rfl rfl rfl rfl rfl (by omega) (by decide) ?_
        refine mm_ev.eq mm_sI_sI ?_
        refine mm_ev.run mm_y50 2 rfl ?_
        refine ih _ _ _ (fun u h1 h3 h4 => ?_)
        by_cases e : u = k
        · subst e
          rw [upd_eq, he, Nat.sub_self]
          rfl
        · rw [upd_ne e, show (mm_sI μ 70 f).1 70 = f from rfl]
          exact hf u (by omega) h3 h4
      · have he : po_c k 12 < n := by
          have : po_c k 12 ≠ n := fun z => h2 (by rw [z])
          omega
        have K := C51 (d := d) (μ := mm_sI μ 70 f) (c := po_c k 12) (u := k) (by omega) (by omega) (w := w (po_c k 12)) (F := fun x => po_mx w (n - (po_c k 12 + 1)) (po_c k 12 + 1) (k ||| 2 ^ x)) (fun x hx => ha _ x he hx) (fun x hx hz => by
          have e1 := po_c_or hz 12
          rw [if_pos hx] at e1
          have e2 := hf (k ||| 2 ^ x) (po_gt hz) (po_lt (by omega) hx) (by omega)
          rw [e1] at e2
          exact e2) (fun x => by
          have h7 := hw (po_c k 12) x
          have h8 := po_mx_le hw (n - (po_c k 12 + 1)) (po_c k 12 + 1) (k ||| 2 ^ x)
          show w (po_c k 12) x + po_mx w (n - (po_c k 12 + 1)) (po_c k 12 + 1) (k ||| 2 ^ x) ≤ 1000
          omega)
        refine mm_ev.run mm_y50 3 rfl ?_
        refine mm_ev.call mm_y50 rfl rfl rfl rfl rfl K (fun v1 μ1 hq => ?_)
        obtain ⟨rfl, rfl⟩ := hq
        refine mm_ev.ist mm_y50 rfl rfl rfl rfl rfl (by omega) (by decide) ?_
        refine mm_ev.eq mm_sI_sI ?_
        refine mm_ev.run mm_y50 2 rfl ?_
        refine ih _ _ _ (fun u h1 h3 h4 => ?_)
        by_cases e : u = k
        · subst e
          rw [upd_eq, show n - po_c u 12 = (n - (po_c u 12 + 1)) + 1 by omega]
          rfl
        · rw [upd_ne e, show (mm_sI μ 70 f).1 70 = f from rfl]
          exact hf u (by omega) h3 h4
end
