/-! LEAVES of both -/
theorem mm_retb {p : Prop} [Decidable p] {pl : Nat × Nat} {bc : Nat × Nat} {zw : Int32 × Int64} {ts : List (Int32 × Nat)} : mm_ret (.ireturn, pl, (1, bc), zw, ts) [.int (bI p)] = some (some (.int (bI p))) := by
  rcases bI_01 (p := p) with h | h <;> rw [h] <;> rfl
section
variable {Λ : List mm_D} {d : Nat} {μ : mm_M}
set_option maxRecDepth 100000 in
theorem C86 (n lo hi : Int32) : mm_call Λ d 86 [.int n, .int lo, .int hi] μ (fun v μ' => v = some (.int (bI (lo ≤ n ∧ n ≤ hi))) ∧ μ' = μ) := by
  refine mm_call.of mm_t86 ?_
  refine mm_ev.run mm_y86 3 rfl ?_
  refine mm_ev.ite (fun h => ?_) (fun h => ?_)
  · refine mm_ev.run mm_y86 1 rfl ?_
    refine mm_ev.ret mm_y86 rfl rfl rfl ⟨?_, rfl⟩
    rw [bI_0 (p := lo ≤ n ∧ n ≤ hi) (fun z => Int32.not_lt.mpr z.1 h)]
  · refine mm_ev.run mm_y86 3 rfl ?_
    refine mm_ev.ite (fun h2 => ?_) (fun h2 => ?_)
    · refine mm_ev.run mm_y86 1 rfl ?_
      refine mm_ev.ret mm_y86 rfl rfl rfl ⟨?_, rfl⟩
      rw [bI_0 (p := lo ≤ n ∧ n ≤ hi) (fun z => Int32.not_lt.mpr z.2 h2)]
    · refine mm_ev.run mm_y86 2 rfl ?_
      refine mm_ev.ret mm_y86 rfl rfl rfl ⟨?_, rfl⟩
      rw [bI_1 (p := lo ≤ n ∧ n ≤ hi) ⟨Int32.not_lt.mp h, Int32.not_lt.mp h2⟩]
set_option maxRecDepth 100000 in
theorem C128 (n lo hi : Int32) : mm_call Λ d 128 [.int n, .int lo, .int hi] μ (fun v μ' => v = some (.int (bI (lo ≤ n ∧ n ≤ hi))) ∧ μ' = μ) := by
  refine mm_call.of mm_t128 ?_
  refine mm_ev.run mm_y128 3 rfl ?_
  refine mm_ev.ite (fun h => ?_) (fun h => ?_)
  · refine mm_ev.run mm_y128 1 rfl ?_
    refine mm_ev.ret mm_y128 rfl rfl rfl ⟨?_, rfl⟩
    rw [bI_0 (p := lo ≤ n ∧ n ≤ hi) (fun z => Int32.not_lt.mpr z.1 h)]
  · refine mm_ev.run mm_y128 3 rfl ?_
    refine mm_ev.ite (fun h2 => ?_) (fun h2 => ?_)
    · refine mm_ev.run mm_y128 1 rfl ?_
      refine mm_ev.ret mm_y128 rfl rfl rfl ⟨?_, rfl⟩
      rw [bI_0 (p := lo ≤ n ∧ n ≤ hi) (fun z => Int32.not_lt.mpr z.2 h2)]
    · refine mm_ev.run mm_y128 2 rfl ?_
      refine mm_ev.ret mm_y128 rfl rfl rfl ⟨?_, rfl⟩
      rw [bI_1 (p := lo ≤ n ∧ n ≤ hi) ⟨Int32.not_lt.mp h, Int32.not_lt.mp h2⟩]
set_option maxRecDepth 100000 in
theorem C91 (n : Int32) : mm_call Λ (d + 1) 91 [.int n] μ (fun v μ' => v = some (.int (bI (0 ≤ n ∧ n ≤ 11))) ∧ μ' = μ) := by
  refine mm_call.of mm_t91 ?_
  refine mm_ev.run mm_y91 3 rfl ?_
  refine mm_ev.call mm_y91 rfl rfl rfl rfl rfl (C86 n 0 11) (fun v μ1 hq => ?_)
  obtain ⟨rfl, rfl⟩ := hq
  exact mm_ev.ret mm_y91 rfl rfl mm_retb ⟨rfl, rfl⟩
set_option maxRecDepth 100000 in
theorem C89 (n : Int32) : mm_call Λ (d + 1) 89 [.int n] μ (fun v μ' => v = some (.int (bI (10 ≤ n ∧ n ≤ 21))) ∧ μ' = μ) := by
  refine mm_call.of mm_t89 ?_
  refine mm_ev.run mm_y89 3 rfl ?_
  refine mm_ev.call mm_y89 rfl rfl rfl rfl rfl (C86 n 10 21) (fun v μ1 hq => ?_)
  obtain ⟨rfl, rfl⟩ := hq
  exact mm_ev.ret mm_y89 rfl rfl mm_retb ⟨rfl, rfl⟩
set_option maxRecDepth 100000 in
theorem C115 (n : Int32) : mm_call Λ (d + 1) 115 [.int n] μ (fun v μ' => v = some (.int (bI (0 ≤ n ∧ n ≤ 5))) ∧ μ' = μ) := by
  refine mm_call.of mm_t115 ?_
  refine mm_ev.run mm_y115 3 rfl ?_
  refine mm_ev.call mm_y115 rfl rfl rfl rfl rfl (C86 n 0 5) (fun v μ1 hq => ?_)
  obtain ⟨rfl, rfl⟩ := hq
  exact mm_ev.ret mm_y115 rfl rfl mm_retb ⟨rfl, rfl⟩
set_option maxRecDepth 100000 in
theorem C131 (n : Int32) : mm_call Λ (d + 1) 131 [.int n] μ (fun v μ' => v = some (.int (bI (0 ≤ n ∧ n ≤ 11))) ∧ μ' = μ) := by
  refine mm_call.of mm_t131 ?_
  refine mm_ev.run mm_y131 3 rfl ?_
  refine mm_ev.call mm_y131 rfl rfl rfl rfl rfl (C128 n 0 11) (fun v μ1 hq => ?_)
  obtain ⟨rfl, rfl⟩ := hq
  exact mm_ev.ret mm_y131 rfl rfl mm_retb ⟨rfl, rfl⟩
set_option maxRecDepth 100000 in
theorem C147 (n : Int32) : mm_call Λ (d + 1) 147 [.int n] μ (fun v μ' => v = some (.int (bI (0 ≤ n ∧ n ≤ 99))) ∧ μ' = μ) := by
  refine mm_call.of mm_t147 ?_
  refine mm_ev.run mm_y147 3 rfl ?_
  refine mm_ev.call mm_y147 rfl rfl rfl rfl rfl (C128 n 0 99) (fun v μ1 hq => ?_)
  obtain ⟨rfl, rfl⟩ := hq
  exact mm_ev.ret mm_y147 rfl rfl mm_retb ⟨rfl, rfl⟩
set_option maxRecDepth 100000 in
theorem C198 (n : Int32) : mm_call Λ (d + 1) 198 [.int n] μ (fun v μ' => v = some (.int (bI (0 ≤ n ∧ n ≤ 5))) ∧ μ' = μ) := by
  refine mm_call.of mm_t198 ?_
  refine mm_ev.run mm_y198 3 rfl ?_
  refine mm_ev.call mm_y198 rfl rfl rfl rfl rfl (C128 n 0 5) (fun v μ1 hq => ?_)
  obtain ⟨rfl, rfl⟩ := hq
  exact mm_ev.ret mm_y198 rfl rfl mm_retb ⟨rfl, rfl⟩
set_option maxRecDepth 100000 in
theorem C88 (n : Int32) : mm_call la_C (d + 1) 88 [.ref 14, .int n] μ (fun v μ' => v = some (.int (bI (0 ≤ n ∧ n ≤ μ.1 16 1 - 1))) ∧ μ' = μ) := by
  refine mm_call.of mm_t88 ?_
  refine mm_ev.run mm_y88 8 rfl ?_
  refine mm_ev.call mm_y88 rfl rfl rfl rfl rfl (C86 n 0 (μ.1 16 1 - 1)) (fun v μ1 hq => ?_)
  obtain ⟨rfl, rfl⟩ := hq
  exact mm_ev.ret mm_y88 rfl rfl mm_retb ⟨rfl, rfl⟩
set_option maxRecDepth 100000 in
theorem C130 (n : Int32) : mm_call la_M (d + 1) 130 [.ref 110, .int n] μ (fun v μ' => v = some (.int (bI (0 ≤ n ∧ n ≤ μ.1 110 1 - 1))) ∧ μ' = μ) := by
  refine mm_call.of mm_t130 ?_
  refine mm_ev.run mm_y130 6 rfl ?_
  refine mm_ev.call mm_y130 rfl rfl rfl rfl rfl (C128 n 0 (μ.1 110 1 - 1)) (fun v μ1 hq => ?_)
  obtain ⟨rfl, rfl⟩ := hq
  exact mm_ev.ret mm_y130 rfl rfl mm_retb ⟨rfl, rfl⟩
/-- Arrays.fill -/
def fi_f (f : Nat → Int32) (z : Int32) (k : Nat) : Nat → Int32 := fun j => if j < k then z else f j
theorem fi_s {f : Nat → Int32} {z : Int32} {k : Nat} : upd (fi_f f z k) k z = fi_f f z (k + 1) := by
  funext j
  unfold upd fi_f
  by_cases h : j = k
  · subst h; simp
  · by_cases h2 : j < k
    · simp [h, h2]; omega
    · simp [h, h2]; intro h3; omega
theorem fi_0 {f : Nat → Int32} {z : Int32} : fi_f f z 0 = f := by
  funext j
  simp [fi_f]
theorem mm_sI_sI {μ : mm_M} {q : Nat} {f g : Nat → Int32} : mm_sI (mm_sI μ q f) q g = mm_sI μ q g := by
  unfold mm_sI
  refine Prod.ext ?_ rfl
  funext c
  by_cases h : c = q
  · simp [h]
  · simp [h]
theorem mm_sI_self {μ : mm_M} {q : Nat} : mm_sI μ q (μ.1 q) = μ := by
  unfold mm_sI
  refine Prod.ext ?_ rfl
  funext c
  by_cases h : c = q
  · simp [h]
  · simp [h]
set_option maxRecDepth 100000 in
theorem C0_loop {q n : Nat} {f : Nat → Int32} {rs : List (Option Nat)} {z : Int32} (hq : Λ[q]? = some (1, n, f, rs)) (hn : n < 2 ^ 31) : ∀ (m k : Nat), k + m = n → mm_ev Λ d 0 5 [some (.ref q), some (.int z), some (.int (nI k)), some (.int (nI n))] [] (mm_sI μ q (fi_f (μ.1 q) z k)) (fun v μ' => v = none ∧ μ' = mm_sI μ q (fi_f (μ.1 q) z n)) := by
  intro m
  induction m with
  | zero =>
    intro k hk
    refine mm_ev.run mm_y0 3 rfl ?_
    refine mm_ev.ite (fun h => ?_) (fun h => ?_)
    · refine mm_ev.ret mm_y0 rfl rfl rfl ⟨rfl, ?_⟩
      rw [show k = n by omega]
    · exact absurd (nI_le (by omega) (by omega)) h
  | succ m ih =>
    intro k hk
    refine mm_ev.run mm_y0 3 rfl ?_
    refine mm_ev.ite (fun h => ?_) (fun h => ?_)
    · exact absurd h (nI_ge (by omega) hn)
    · refine mm_ev.run mm_y0 3 rfl ?_
      refine mm_ev.iast mm_y0 rfl rfl hq (k := k) (by omega) hn ?_
      refine mm_ev.run mm_y0 2 rfl ?_
      have g := ih (k + 1) (by omega)
      rw [sm_sI_q, mm_sI_sI, fi_s]
      rw [nI_succ] at g
      exact g
set_option maxRecDepth 100000 in
theorem C0 {q n : Nat} {f : Nat → Int32} {rs : List (Option Nat)} (z : Int32) (hq : Λ[q]? = some (1, n, f, rs)) (hn : n < 2 ^ 31) : mm_call Λ d 0 [.ref q, .int z] μ (fun v μ' => v = none ∧ μ' = mm_sI μ q (fi_f (μ.1 q) z n)) := by
  refine mm_call.of mm_t0 ?_
  refine mm_ev.run mm_y0 3 rfl ?_
  refine mm_ev.stp1 mm_y0 rfl (mm_he_stp (st' := [.int (nI n)]) (w' := (Λ, μ)) ?_) ?_
  · show (match mm_len (Λ, μ) q with
      | some x => some ([Value.int x], (Λ, μ))
      | none => none) = _
    unfold mm_len
    rw [hq]
    rfl
  refine mm_ev.run mm_y0 1 rfl ?_
  have g := C0_loop (Λ := Λ) (d := d) (μ := μ) (z := z) hq hn n 0 (by omega)
  rw [fi_0, mm_sI_self, nI_0] at g
  exact g
end
