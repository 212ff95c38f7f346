/-! THE CLASS'S TAPES -/
theorem mm_sJ_sJ {μ : mm_M} {q : Nat} {f g : Nat → Int64} : mm_sJ (mm_sJ μ q f) q g = mm_sJ μ q g := by
  unfold mm_sJ
  refine Prod.ext rfl (Prod.ext ?_ rfl)
  funext c
  by_cases h : c = q
  · simp [h]
  · simp [h]
theorem mm_sJ_self {μ : mm_M} {q : Nat} : mm_sJ μ q (μ.2.1 q) = μ := by
  unfold mm_sJ
  refine Prod.ext rfl (Prod.ext ?_ rfl)
  funext c
  by_cases h : c = q
  · simp [h]
  · simp [h]
theorem sJ_eq {μ : mm_M} {q : Nat} {f : Nat → Int64} : (mm_sJ μ q f).2.1 q = f := if_pos rfl
theorem sJ_ne {μ : mm_M} {q c : Nat} {f : Nat → Int64} (h : c ≠ q) : (mm_sJ μ q f).2.1 c = μ.2.1 c := if_neg h
def fi_L (f : Nat → Int64) (z : Int64) (k : Nat) : Nat → Int64 := fun j => if j < k then z else f j
theorem fi_Ls {f : Nat → Int64} {z : Int64} {k : Nat} : vp_updL (fi_L f z k) k z = fi_L f z (k + 1) := by
  funext j
  unfold vp_updL fi_L
  by_cases h : j = k
  · subst h; simp
  · by_cases h2 : j < k
    · simp [h, h2]; omega
    · simp [h, h2]; intro h3; omega
theorem fi_L0 {f : Nat → Int64} {z : Int64} : fi_L f z 0 = f := by
  funext j
  simp [fi_L]
section
variable {Λ : List mm_D} {d y i : Nat} {L : mm_L} {s : List Value} {μ : mm_M} {Φ : Option Value → mm_M → Prop} {R : List (List mm_R)} {r : mm_R}
set_option maxRecDepth 100000 in
theorem C1_loop {q n : Nat} {f : Nat → Int32} {rs : List (Option Nat)} {z : Int64} (hq : Λ[q]? = some (4, n, f, rs)) (hn : n < 2 ^ 31) : ∀ (m k : Nat), k + m = n → mm_ev Λ d 1 5 [some (.ref q), some (.long z), none, some (.int (nI k)), some (.int (nI n))] [] (mm_sJ μ q (fi_L (μ.2.1 q) z k)) (fun v μ' => v = none ∧ μ' = mm_sJ μ q (fi_L (μ.2.1 q) z n)) := by
  intro m
  induction m with
  | zero =>
    intro k hk
    have hk : k = n := by omega
    subst hk
    refine mm_ev.run mm_y1 3 rfl ?_
    refine mm_ev.pos (nI_le (Nat.le_refl _) (by omega)) ?_
    exact mm_ev.ret mm_y1 rfl rfl rfl ⟨rfl, rfl⟩
  | succ m ih =>
    intro k hk
    have g := ih (k + 1) (by omega)
    rw [nI_succ] at g
    refine mm_ev.run mm_y1 3 rfl ?_
    refine mm_ev.neg (nI_ge (by omega) hn) ?_
    refine mm_ev.run mm_y1 3 rfl ?_
    refine mm_ev.last mm_y1 rfl rfl hq (k := k) (by omega) hn ?_
    refine mm_ev.run mm_y1 2 rfl ?_
    rw [sJ_eq, mm_sJ_sJ, fi_Ls]
    exact g
set_option maxRecDepth 100000 in
theorem C1 {q n : Nat} {f : Nat → Int32} {rs : List (Option Nat)} (z : Int64) (hq : Λ[q]? = some (4, n, f, rs)) (hn : n < 2 ^ 31) : mm_call Λ d 1 [.ref q, .long z] μ (fun v μ' => v = none ∧ μ' = mm_sJ μ q (fi_L (μ.2.1 q) z n)) := by
  refine mm_call.of mm_t1 ?_
  refine mm_ev.run mm_y1 3 rfl ?_
  refine mm_ev.stp1 mm_y1 rfl (mm_he_stp (st' := [.int (nI n)]) (w' := (Λ, μ)) ?_) ?_
  · show (match mm_len (Λ, μ) q with
      | some x => some ([Value.int x], (Λ, μ))
      | none => none) = _
    unfold mm_len
    rw [hq]
    rfl
  refine mm_ev.run mm_y1 1 rfl ?_
  have g := C1_loop (Λ := Λ) (d := d) (μ := μ) (z := z) hq hn n 0 (by omega)
  rw [fi_L0, mm_sJ_self, nI_0] at g
  exact g
/-- a copy of longs -/
theorem mm_ev.cpL {a b na nb sp dp n : Nat} {fa fb : Nat → Int32} {ra rb : List (Option Nat)} (hy : mm_rows y = R) (hr : mm_rw R i = some r) (hi : ∃ x, r.1 = .invokestatic x) (h5 : r.2.2.1.2.2 = 5) (ha : Λ[a]? = some (4, na, fa, ra)) (hb : Λ[b]? = some (4, nb, fb, rb)) (h1 : sp + n ≤ na) (h2 : dp + n ≤ nb) (hn : na < 2 ^ 31) (hn2 : nb < 2 ^ 31) (hs : mm_wd s ≤ 8) (g : mm_ev Λ d y (i + 1) L s (mm_sJ μ b (va_cpy (μ.2.1 a) (μ.2.1 b) sp dp n)) Φ) : mm_ev Λ d y i L (.int (nI n) :: .int (nI dp) :: .ref b :: .int (nI sp) :: .ref a :: s) μ Φ := by
  refine mm_ev.stp1 hy hr (mm_he_stp ?_) g
  obtain ⟨ins, pl, ⟨x1, x2, x3⟩, zw, ts⟩ := r
  obtain ⟨x, hx⟩ := hi
  dsimp only at hx h5
  subst hx h5
  unfold mm_he
  dsimp only
  unfold mm_cp
  dsimp only
  rw [ha, hb]
  dsimp only
  rw [nI_clamp (by omega), nI_clamp (by omega), nI_clamp (by omega), if_neg (by
    intro z
    rcases z with z | z | z | z | z | z
    · exact nI_pos (by omega) z
    · exact nI_pos (by omega) z
    · exact nI_pos (by omega) z
    · omega
    · omega
    · omega)]
  rfl
end
section
variable {d : Nat} {μ μ' : mm_M} {A : sA} {t : Nat}
theorem rC.setT {T : sT} (h : rC A μ) (ht : t < 6) (hT : tT (98 + 2 * t) T μ') (hf : mf (fun c => c = 98 + 2 * t ∨ c = 99 + 2 * t) μ μ') : rC (sA_t A t T) μ' := by
  obtain ⟨h1, h2, h3, h4, h5, h6, h7⟩ := h
  have e : ∀ c, ¬ (c = 98 + 2 * t ∨ c = 99 + 2 * t) → μ'.1 c = μ.1 c := fun c hc => (hf c hc).1
  refine ⟨h1.fr hf (fun c hc => by omega), by rw [e 14 (by omega)]; exact h2, fun K hK => (h3 K hK).fr hf (fun c hc => by omega), h4.fr' hf (fun c hc => by omega), ⟨by rw [e 66 (by omega)]; exact h5.1, fun i hi => by rw [e 67 (by omega)]; exact h5.2 i hi⟩, ⟨by rw [e 71 (by omega)]; exact h6.1, fun i hi => by rw [e 72 (by omega)]; exact h6.2 i hi⟩, fun u hu => ?_⟩
  show tT (98 + 2 * u) (if u = t then T else A.2.2.2.2.2 u) μ'
  by_cases e2 : u = t
  · subst e2
    rw [if_pos rfl]
    exact hT
  · rw [if_neg e2]
    exact (h7 u hu).fr hf (fun c hc => by omega)
theorem p_6 {x : Int32} (h : 0 ≤ x ∧ x ≤ 5) : ∃ j, j < 6 ∧ x = nI j := by
  obtain ⟨j, hj, rfl⟩ := nI_of2 (n := 5) (M := 5) (by decide) (Int32.not_lt.mpr h.1) h.2
  exact ⟨j, by omega, rfl⟩
theorem t_6 (ht : t < 6) : t = 0 ∨ t = 1 ∨ t = 2 ∨ t = 3 ∨ t = 4 ∨ t = 5 := by omega
set_option maxRecDepth 100000 in
theorem C81 (ht : t < 6) (s n : Int32) : mm_call la_C (d + 1) 81 [.ref (98 + 2 * t), .int s, .int n] μ (fun v μ' => v = some (.int 1) ∧ (∀ n' : Nat, n = nI n' → tT (98 + 2 * t) (s, n', fun _ => 0) μ') ∧ mf (fun c => c = 98 + 2 * t ∨ c = 99 + 2 * t) μ μ') := by
  have key : (∀ n' : Nat, n = nI n' → tT (98 + 2 * t) (s, n', fun _ => 0) (mm_sJ (mm_sI (mm_sI μ (98 + 2 * t) (upd (μ.1 (98 + 2 * t)) 0 s)) (98 + 2 * t) (upd (upd (μ.1 (98 + 2 * t)) 0 s) 1 n)) (99 + 2 * t) (fi_L (μ.2.1 (99 + 2 * t)) 0 60))) ∧ mf (fun c => c = 98 + 2 * t ∨ c = 99 + 2 * t) μ (mm_sJ (mm_sI (mm_sI μ (98 + 2 * t) (upd (μ.1 (98 + 2 * t)) 0 s)) (98 + 2 * t) (upd (upd (μ.1 (98 + 2 * t)) 0 s) 1 n)) (99 + 2 * t) (fi_L (μ.2.1 (99 + 2 * t)) 0 60)) := by
    refine ⟨fun n' hn => ?_, ((mf.rf.sI (Or.inl rfl)).sI (Or.inl rfl)).sJ (Or.inr rfl)⟩
    subst hn
    refine ⟨?_, ?_, fun i hi => ?_⟩
    · show (mm_sI _ (98 + 2 * t) _).1 (98 + 2 * t) 0 = _
      rw [sI_eq]
      rfl
    · show (mm_sI _ (98 + 2 * t) _).1 (98 + 2 * t) 1 = _
      rw [sI_eq]
      rfl
    · rw [show 98 + 2 * t + 1 = 99 + 2 * t by omega, sJ_eq]
      exact if_pos hi
  rcases t_6 ht with rfl | rfl | rfl | rfl | rfl | rfl
  all_goals
    refine mm_call.of mm_t81 ?_
    refine mm_ev.run mm_y81 9 rfl ?_
    refine mm_ev.call mm_y81 rfl rfl rfl rfl rfl (C1 0 rfl (by decide)) (fun v1 μ1 hq => ?_)
    obtain ⟨rfl, hμ⟩ := hq
    obtain rfl := hμ.symm
    refine mm_ev.run mm_y81 1 rfl ?_
    exact mm_ev.ret mm_y81 rfl rfl rfl ⟨rfl, key⟩
set_option maxRecDepth 100000 in
theorem C82 {T : sT} (ht : t < 6) (hT : tT (98 + 2 * t) T μ) (hs : ∃ s, s < 5 ∧ T.1 = nI s) (x : Int64) : mm_call la_C d 82 [.ref (98 + 2 * t), .long x] μ (fun v μ' => v = some (.long (sp_nar T.1 x)) ∧ μ' = μ) := by
  obtain ⟨s, hs, es⟩ := hs
  have h0 := hT.1
  rw [es] at h0 ⊢
  unfold sp_nar
  rcases t_6 ht with rfl | rfl | rfl | rfl | rfl | rfl
  all_goals
    refine mm_call.of mm_t82 ?_
    refine mm_ev.run mm_y82 2 rfl ?_
    refine mm_ev.val h0 ?_
    refine mm_ev.run mm_y82 1 rfl ?_
    refine mm_ev.swc (fun h => ?_) (fun n0 => mm_ev.swc (fun h => ?_) (fun n1 => mm_ev.swc (fun h => ?_) (fun n2 => mm_ev.swc (fun h => ?_) (fun n3 => mm_ev.swc (fun h => ?_) (fun n4 => mm_ev.sw0 ?_)))))
    · rw [if_pos h]
      refine mm_ev.run mm_y82 4 rfl ?_
      exact mm_ev.ret mm_y82 rfl rfl rfl ⟨rfl, rfl⟩
    · rw [if_neg n0, if_pos h]
      refine mm_ev.run mm_y82 4 rfl ?_
      exact mm_ev.ret mm_y82 rfl rfl rfl ⟨rfl, rfl⟩
    · rw [if_neg n0, if_neg n1, if_pos h]
      refine mm_ev.run mm_y82 3 rfl ?_
      exact mm_ev.ret mm_y82 rfl rfl rfl ⟨rfl, rfl⟩
    · rw [if_neg n0, if_neg n1, if_neg n2, if_pos h]
      refine mm_ev.run mm_y82 1 rfl ?_
      exact mm_ev.ret mm_y82 rfl rfl rfl ⟨rfl, rfl⟩
    · rw [if_neg n0, if_neg n1, if_neg n2, if_neg n3]
      refine mm_ev.run mm_y82 4 rfl ?_
      refine mm_ev.ite (fun h2 => ?_) (fun h2 => ?_)
      · rw [if_pos ((lg_cmp_eq _ _).mp h2)]
        refine mm_ev.run mm_y82 1 rfl ?_
        exact mm_ev.ret mm_y82 rfl rfl rfl ⟨rfl, rfl⟩
      · rw [if_neg (fun z => h2 ((lg_cmp_eq _ _).mpr z))]
        refine mm_ev.run mm_y82 2 rfl ?_
        exact mm_ev.ret mm_y82 rfl rfl rfl ⟨rfl, rfl⟩
    · exact absurd (show s = 0 ∨ s = 1 ∨ s = 2 ∨ s = 3 ∨ s = 4 by omega) (by
        intro z
        rcases z with rfl | rfl | rfl | rfl | rfl
        · exact n0 rfl
        · exact n1 rfl
        · exact n2 rfl
        · exact n3 rfl
        · exact n4 rfl)
set_option maxRecDepth 100000 in
theorem C83 {T : sT} (ht : t < 6) (hT : tT (98 + 2 * t) T μ) (i n : Int32) : mm_call la_C d 83 [.ref (98 + 2 * t), .int i, .int n] μ (fun v μ' => v = some (.int (bI (sp_hr T i n))) ∧ μ' = μ) := by
  have h1 := hT.2.1
  rcases t_6 ht with rfl | rfl | rfl | rfl | rfl | rfl
  all_goals
    refine mm_call.of mm_t83 ?_
    refine mm_ev.run mm_y83 2 rfl ?_
    refine mm_ev.ite (fun h => ?_) (fun h => ?_)
    · rw [bI_0 (p := sp_hr T i n) (fun z => Int32.not_lt.mpr z.1 h)]
      refine mm_ev.run mm_y83 1 rfl ?_
      exact mm_ev.ret mm_y83 rfl rfl rfl ⟨rfl, rfl⟩
    · refine mm_ev.run mm_y83 2 rfl ?_
      refine mm_ev.ite (fun h2 => ?_) (fun h2 => ?_)
      · rw [bI_0 (p := sp_hr T i n) (fun z => Int32.not_lt.mpr z.2.1 h2)]
        refine mm_ev.run mm_y83 1 rfl ?_
        exact mm_ev.ret mm_y83 rfl rfl rfl ⟨rfl, rfl⟩
      · refine mm_ev.run mm_y83 3 rfl ?_
        refine mm_ev.val h1 ?_
        refine mm_ev.run mm_y83 3 rfl ?_
        refine mm_ev.ite (fun h3 => ?_) (fun h3 => ?_)
        · rw [bI_0 (p := sp_hr T i n) (fun z => Int32.not_lt.mpr z.2.2 h3)]
          refine mm_ev.run mm_y83 1 rfl ?_
          exact mm_ev.ret mm_y83 rfl rfl rfl ⟨rfl, rfl⟩
        · rw [bI_1 (p := sp_hr T i n) ⟨Int32.not_lt.mp h, Int32.not_lt.mp h2, Int32.not_lt.mp h3⟩]
          refine mm_ev.run mm_y83 2 rfl ?_
          exact mm_ev.ret mm_y83 rfl rfl rfl ⟨rfl, rfl⟩
set_option maxRecDepth 100000 in
theorem C122 (h : rC A μ) (ho : okA A) (t s n : Int32) : mm_call la_C (d + 10) 122 [.ref 14, .int t, .int s, .int n] μ (fun v μ' => v = some (.int (q_tape A t s n).1) ∧ rC (q_tape A t s n).2 μ') := by
  refine mm_call.of mm_t122 ?_
  refine mm_ev.run mm_y122 1 rfl ?_
  refine mm_ev.call mm_y122 rfl rfl rfl rfl rfl (C115 t) (fun v1 μ1 hq => ?_)
  obtain ⟨rfl, hμ⟩ := hq
  obtain rfl := hμ.symm
  refine mm_ev.run mm_y122 1 rfl ?_
  refine mm_ev.ifb (fun h1 => ?_) (fun h1 => ?_)
  · rw [q_tape, if_neg h1]
    refine mm_ev.run mm_y122 1 rfl ?_
    exact mm_ev.ret mm_y122 rfl rfl rfl ⟨rfl, h⟩
  · rw [q_tape, if_pos h1]
    obtain ⟨t, ht, rfl⟩ := p_6 h1
    rw [nI_clamp (by omega)]
    have K := fun n => C81 (d := d + 8) (μ := μ) ht s n
    have key := fun μ' T => rC.setT (μ' := μ') (T := T) h ht
    refine mm_ev.run mm_y122 3 rfl ?_
    refine mm_ev.call mm_y122 rfl rfl rfl rfl rfl (C86 s (-1) 4) (fun v1 μ1 hq => ?_)
    obtain ⟨rfl, hμ⟩ := hq
    obtain rfl := hμ.symm
    refine mm_ev.run mm_y122 1 rfl ?_
    refine mm_ev.ifb (fun h2 => ?_) (fun h2 => ?_)
    · rw [if_neg h2]
      refine mm_ev.run mm_y122 1 rfl ?_
      exact mm_ev.ret mm_y122 rfl rfl rfl ⟨rfl, h⟩
    · rw [if_pos h2]
      rcases t_6 ht with rfl | rfl | rfl | rfl | rfl | rfl
      all_goals
        refine mm_ev.run mm_y122 3 rfl ?_
        refine mm_ev.ite (fun h3 => ?_) (fun h3 => ?_)
        · rw [if_pos h3]
          refine mm_ev.run mm_y122 3 rfl ?_
          refine mm_ev.ald mm_y122 rfl rfl rfl rfl rfl (by omega) (by decide) rfl ?_
          refine mm_ev.run mm_y122 2 rfl ?_
          refine mm_ev.call mm_y122 rfl rfl rfl rfl rfl (K 0) (fun v1 μ1 hq => ?_)
          obtain ⟨rfl, e1, e2⟩ := hq
          subst h3
          exact mm_ev.ret mm_y122 rfl rfl rfl ⟨rfl, key _ _ (e1 0 rfl) e2⟩
        · rw [if_neg h3]
          refine mm_ev.run mm_y122 3 rfl ?_
          refine mm_ev.ite (fun h4 => ?_) (fun h4 => ?_)
          · rw [if_neg (Int32.not_lt.mpr h4)]
            refine mm_ev.run mm_y122 2 rfl ?_
            refine mm_ev.ite (fun h5 => ?_) (fun h5 => ?_)
            · rw [if_neg (Int32.not_lt.mpr h5)]
              obtain ⟨n, hn, rfl⟩ := nI_of (Int32.not_lt.mpr h5)
              rw [nI_clamp hn]
              refine mm_ev.run mm_y122 3 rfl ?_
              refine mm_ev.ald mm_y122 rfl rfl rfl rfl rfl (by omega) (by decide) rfl ?_
              refine mm_ev.run mm_y122 2 rfl ?_
              refine mm_ev.call mm_y122 rfl rfl rfl rfl rfl (K (nI n)) (fun v1 μ1 hq => ?_)
              obtain ⟨rfl, e1, e2⟩ := hq
              exact mm_ev.ret mm_y122 rfl rfl rfl ⟨rfl, key _ _ (e1 n rfl) e2⟩
            · rw [if_pos (Int32.not_le.mp h5)]
              refine mm_ev.run mm_y122 1 rfl ?_
              exact mm_ev.ret mm_y122 rfl rfl rfl ⟨rfl, h⟩
          · rw [if_pos (Int32.not_le.mp h4)]
            refine mm_ev.run mm_y122 1 rfl ?_
            exact mm_ev.ret mm_y122 rfl rfl rfl ⟨rfl, h⟩
theorem vp_updL_co {f F : Nat → Int64} {k n : Nat} {x : Int64} (h : ∀ i, i < n → f i = F i) : ∀ i, i < n → vp_updL f k x i = vp_updL F k x i := fun i hi => by unfold vp_updL; rw [h i hi]
set_option maxRecDepth 100000 in
theorem C123 (h : rC A μ) (ho : okA A) (t i : Int32) (x : Int64) : mm_call la_C (d + 10) 123 [.ref 14, .int t, .int i, .long x] μ (fun v μ' => v = some (.int (q_item A t i x).1) ∧ rC (q_item A t i x).2 μ') := by
  refine mm_call.of mm_t123 ?_
  refine mm_ev.run mm_y123 1 rfl ?_
  refine mm_ev.call mm_y123 rfl rfl rfl rfl rfl (C115 t) (fun v1 μ1 hq => ?_)
  obtain ⟨rfl, hμ⟩ := hq
  obtain rfl := hμ.symm
  refine mm_ev.run mm_y123 1 rfl ?_
  refine mm_ev.ifb (fun h1 => ?_) (fun h1 => ?_)
  · rw [q_item, if_neg h1]
    refine mm_ev.run mm_y123 1 rfl ?_
    exact mm_ev.ret mm_y123 rfl rfl rfl ⟨rfl, h⟩
  · rw [q_item, if_pos h1]
    obtain ⟨t, ht, rfl⟩ := p_6 h1
    rw [nI_clamp (by omega)]
    have hT := h.2.2.2.2.2.2 t ht
    have hok := ho.2.2.2.2.2.2 t ht
    have key := fun μ' T => rC.setT (μ' := μ') (T := T) h ht
    have hm : mf (fun c => c = 98 + 2 * t ∨ c = 99 + 2 * t) μ (mm_sJ μ (99 + 2 * t) (vp_updL (μ.2.1 (99 + 2 * t)) i.toNatClampNeg (sp_nar (A.2.2.2.2.2 t).1 x))) := mf.rf.sJ (Or.inr rfl)
    have hT2 : tT (98 + 2 * t) ((A.2.2.2.2.2 t).1, (A.2.2.2.2.2 t).2.1, vp_updL (A.2.2.2.2.2 t).2.2 i.toNatClampNeg (sp_nar (A.2.2.2.2.2 t).1 x)) (mm_sJ μ (99 + 2 * t) (vp_updL (μ.2.1 (99 + 2 * t)) i.toNatClampNeg (sp_nar (A.2.2.2.2.2 t).1 x))) := ⟨hT.1, hT.2.1, fun j hj => by
      rw [show 98 + 2 * t + 1 = 99 + 2 * t by omega, sJ_eq]
      exact vp_updL_co (fun i hi => by
        have := hT.2.2 i hi
        rw [show 98 + 2 * t + 1 = 99 + 2 * t by omega] at this
        exact this) j hj⟩
    have K82 := fun hs => C82 (d := d + 9) (μ := μ) ht hT hs x
    have f0 := hT.1
    have f1 := hT.2.1
    rcases t_6 ht with rfl | rfl | rfl | rfl | rfl | rfl
    all_goals
      refine mm_ev.run mm_y123 3 rfl ?_
      refine mm_ev.ald mm_y123 rfl rfl rfl rfl rfl (by omega) (by decide) rfl ?_
      refine mm_ev.run mm_y123 3 rfl ?_
      refine mm_ev.val f0 ?_
      refine mm_ev.run mm_y123 2 rfl ?_
      refine mm_ev.ite (fun h3 => ?_) (fun h3 => ?_)
      · rw [if_pos h3]
        refine mm_ev.run mm_y123 1 rfl ?_
        exact mm_ev.ret mm_y123 rfl rfl rfl ⟨rfl, h⟩
      · rw [if_neg h3]
        refine mm_ev.run mm_y123 4 rfl ?_
        refine mm_ev.val f1 ?_
        refine mm_ev.run mm_y123 2 rfl ?_
        refine mm_ev.call mm_y123 rfl rfl rfl rfl rfl (C86 i 0 _) (fun v1 μ1 hq => ?_)
        obtain ⟨rfl, hμ⟩ := hq
        obtain rfl := hμ.symm
        refine mm_ev.run mm_y123 1 rfl ?_
        refine mm_ev.ifb (fun h4 => ?_) (fun h4 => ?_)
        · rw [if_neg h4]
          refine mm_ev.run mm_y123 1 rfl ?_
          exact mm_ev.ret mm_y123 rfl rfl rfl ⟨rfl, h⟩
        · rw [if_pos h4]
          obtain ⟨j, hj, rfl⟩ := nI_cap (by omega) h4
          rw [nI_clamp (by omega)] at hm hT2 ⊢
          refine mm_ev.run mm_y123 5 rfl ?_
          refine mm_ev.call mm_y123 rfl rfl rfl rfl rfl (K82 (hok.2.resolve_left (fun z => h3 z.1))) (fun v1 μ1 hq => ?_)
          obtain ⟨rfl, hμ⟩ := hq
          obtain rfl := hμ.symm
          refine mm_ev.lst mm_y123 rfl rfl rfl rfl rfl (by omega) (by decide) ?_
          refine mm_ev.run mm_y123 1 rfl ?_
          exact mm_ev.ret mm_y123 rfl rfl rfl ⟨rfl, key _ _ hT2 hm⟩
set_option maxRecDepth 100000 in
theorem C124 (h : rC A μ) (ho : okA A) (t i : Int32) : mm_call la_C (d + 10) 124 [.ref 14, .int t, .int i] μ (fun v μ' => v = some (.long (q_read A t i)) ∧ rC A μ') := by
  refine mm_call.of mm_t124 ?_
  refine mm_ev.run mm_y124 1 rfl ?_
  refine mm_ev.call mm_y124 rfl rfl rfl rfl rfl (C115 t) (fun v1 μ1 hq => ?_)
  obtain ⟨rfl, hμ⟩ := hq
  obtain rfl := hμ.symm
  refine mm_ev.run mm_y124 1 rfl ?_
  refine mm_ev.ifb (fun h1 => ?_) (fun h1 => ?_)
  · rw [q_read, if_neg h1]
    refine mm_ev.run mm_y124 1 rfl ?_
    exact mm_ev.ret mm_y124 rfl rfl rfl ⟨rfl, h⟩
  · rw [q_read, if_pos h1]
    obtain ⟨t, ht, rfl⟩ := p_6 h1
    rw [nI_clamp (by omega)]
    have hT := h.2.2.2.2.2.2 t ht
    have hok := ho.2.2.2.2.2.2 t ht
    have f1 := hT.2.1
    have f2 := hT.2.2
    rcases t_6 ht with rfl | rfl | rfl | rfl | rfl | rfl
    all_goals
      refine mm_ev.run mm_y124 5 rfl ?_
      refine mm_ev.ald mm_y124 rfl rfl rfl rfl rfl (by omega) (by decide) rfl ?_
      refine mm_ev.run mm_y124 1 rfl ?_
      refine mm_ev.val f1 ?_
      refine mm_ev.run mm_y124 2 rfl ?_
      refine mm_ev.call mm_y124 rfl rfl rfl rfl rfl (C86 i 0 _) (fun v1 μ1 hq => ?_)
      obtain ⟨rfl, hμ⟩ := hq
      obtain rfl := hμ.symm
      refine mm_ev.run mm_y124 1 rfl ?_
      refine mm_ev.ifb (fun h4 => ?_) (fun h4 => ?_)
      · rw [if_neg h4]
        refine mm_ev.run mm_y124 1 rfl ?_
        exact mm_ev.ret mm_y124 rfl rfl rfl ⟨rfl, h⟩
      · rw [if_pos h4]
        obtain ⟨j, hj, rfl⟩ := nI_cap (by omega) h4
        rw [nI_clamp (by omega)]
        refine mm_ev.run mm_y124 3 rfl ?_
        refine mm_ev.ald mm_y124 rfl rfl rfl rfl rfl (by omega) (by decide) rfl ?_
        refine mm_ev.run mm_y124 2 rfl ?_
        refine mm_ev.lld mm_y124 rfl rfl rfl rfl rfl (by omega) (by decide) (f2 j (by omega)) ?_
        refine mm_ev.run mm_y124 1 rfl ?_
        exact mm_ev.ret mm_y124 rfl rfl rfl ⟨rfl, h⟩
theorem sp_jd_s (g : sG) (T : sT) (i : Int32) (m k : Nat) : sp_jd g T i (m + 1) k = if i < 0 ∨ T.2.1 ≤ i.toNatClampNeg + k then nI (100 + k) else if T.2.2 (i.toNatClampNeg + k) = (g.2.2.2 0 k).toInt64 then sp_jd g T i m (k + 1) else nI k := rfl
theorem le_jd {l k j : Nat} (hl : l ≤ 60) (hk : k < 12) (hj : j < 2 ^ 31) : nI l - nI k ≤ nI j ↔ l ≤ j + k := by
  rw [Int32.le_iff_toInt_le, pk_sub_toInt (by omega) (by omega), nI_toInt hj]
  omega
set_option maxRecDepth 100000 in
theorem C114_l (h : rC A μ) (ht : t < 6) (hl : (A.2.2.2.2.2 t).2.1 ≤ 60) (i : Int32) : ∀ m k, k + m = 12 → mm_ev la_C d 114 21 [some (.ref 14), some (.int (nI t)), some (.int i), some (.ref (98 + 2 * t)), some (.int (nI k))] [] μ (fun v μ' => v = some (.int (sp_jd A.1.1 (A.2.2.2.2.2 t) i m k)) ∧ rC A μ') := by
  intro m
  have hT := h.2.2.2.2.2.2 t ht
  have hg := h.1.1
  induction m with
  | zero =>
    intro k hk
    have hk : k = 12 := by omega
    subst hk
    rcases t_6 ht with rfl | rfl | rfl | rfl | rfl | rfl
    all_goals
      refine mm_ev.run mm_y114 3 rfl ?_
      refine mm_ev.pos (by decide) ?_
      refine mm_ev.run mm_y114 1 rfl ?_
      exact mm_ev.ret mm_y114 rfl rfl rfl ⟨rfl, h⟩
  | succ m ih =>
    intro k hk
    have ih := ih (k + 1) (by omega)
    rw [nI_succ] at ih
    rw [sp_jd_s]
    have f1 := hT.2.1
    have f2 := hT.2.2
    rcases t_6 ht with rfl | rfl | rfl | rfl | rfl | rfl
    all_goals
      refine mm_ev.run mm_y114 3 rfl ?_
      refine mm_ev.neg (nI_ge (b := 12) (by omega) (by decide)) ?_
      refine mm_ev.run mm_y114 2 rfl ?_
      refine mm_ev.ite (fun h1 => ?_) (fun h1 => ?_)
      · rw [if_pos (Or.inl h1)]
        refine mm_ev.run mm_y114 3 rfl ?_
        refine mm_ev.val (nI_add 100 k) ?_
        exact mm_ev.ret mm_y114 rfl rfl rfl ⟨rfl, h⟩
      · obtain ⟨j, hj, rfl⟩ := nI_of h1
        rw [nI_clamp hj]
        refine mm_ev.run mm_y114 3 rfl ?_
        refine mm_ev.val f1 ?_
        refine mm_ev.run mm_y114 3 rfl ?_
        refine mm_ev.ite (fun h2 => ?_) (fun h2 => ?_)
        · have h3 : ¬ _ ≤ j + k := fun z => absurd h2 (Int32.not_lt.mpr ((le_jd hl (by omega) hj).mpr z))
          rw [if_neg (fun z => z.elim h1 h3)]
          refine mm_ev.run mm_y114 5 rfl ?_
          refine mm_ev.lld mm_y114 rfl rfl rfl rfl (nI_add j k) (by omega) (by decide) (f2 (j + k) (by omega)) ?_
          refine mm_ev.run mm_y114 5 rfl ?_
          refine mm_ev.ild mm_y114 rfl rfl rfl rfl rfl (by omega) (by decide) (hg.need (by omega)) ?_
          refine mm_ev.run mm_y114 3 rfl ?_
          refine mm_ev.ite (fun h4 => ?_) (fun h4 => ?_)
          · rw [if_pos ((lg_cmp_eq _ _).mp h4)]
            refine mm_ev.run mm_y114 2 rfl ?_
            exact ih
          · rw [if_neg (fun z => h4 ((lg_cmp_eq _ _).mpr z))]
            refine mm_ev.run mm_y114 1 rfl ?_
            exact mm_ev.ret mm_y114 rfl rfl rfl ⟨rfl, h⟩
        · rw [if_pos (Or.inr ((le_jd hl (by omega) hj).mp (Int32.not_lt.mp h2)))]
          refine mm_ev.run mm_y114 3 rfl ?_
          refine mm_ev.val (nI_add 100 k) ?_
          exact mm_ev.ret mm_y114 rfl rfl rfl ⟨rfl, h⟩
set_option maxRecDepth 100000 in
theorem C114 (h : rC A μ) (ho : okA A) (t i : Int32) : mm_call la_C (d + 10) 114 [.ref 14, .int t, .int i] μ (fun v μ' => v = some (.int (q_judge A t i)) ∧ rC A μ') := by
  refine mm_call.of mm_t114 ?_
  refine mm_ev.run mm_y114 1 rfl ?_
  refine mm_ev.call mm_y114 rfl rfl rfl rfl rfl (C115 t) (fun v1 μ1 hq => ?_)
  obtain ⟨rfl, hμ⟩ := hq
  obtain rfl := hμ.symm
  refine mm_ev.run mm_y114 1 rfl ?_
  refine mm_ev.ifb (fun h1 => ?_) (fun h1 => ?_)
  · rw [q_judge, if_neg h1]
    refine mm_ev.run mm_y114 1 rfl ?_
    exact mm_ev.ret mm_y114 rfl rfl rfl ⟨rfl, h⟩
  · rw [q_judge, if_pos h1]
    obtain ⟨t, ht, rfl⟩ := p_6 h1
    rw [nI_clamp (by omega)]
    have hT := h.2.2.2.2.2.2 t ht
    have hok := ho.2.2.2.2.2.2 t ht
    have L := C114_l (d := d + 10) h ht hok.1 i 12 0 (by omega)
    have f0 := hT.1
    rcases t_6 ht with rfl | rfl | rfl | rfl | rfl | rfl
    all_goals
      refine mm_ev.run mm_y114 3 rfl ?_
      refine mm_ev.ald mm_y114 rfl rfl rfl rfl rfl (by omega) (by decide) rfl ?_
      refine mm_ev.run mm_y114 3 rfl ?_
      refine mm_ev.val f0 ?_
      refine mm_ev.run mm_y114 2 rfl ?_
      refine mm_ev.ite (fun h2 => ?_) (fun h2 => ?_)
      · rw [if_pos (Or.inl h2)]
        refine mm_ev.run mm_y114 2 rfl ?_
        exact L
      · refine mm_ev.run mm_y114 2 rfl ?_
        refine mm_ev.val f0 ?_
        refine mm_ev.run mm_y114 1 rfl ?_
        refine mm_ev.ite (fun h3 => ?_) (fun h3 => ?_)
        · rw [if_pos (Or.inr h3)]
          refine mm_ev.run mm_y114 2 rfl ?_
          exact L
        · rw [if_neg (fun z => z.elim h2 h3)]
          refine mm_ev.run mm_y114 1 rfl ?_
          exact mm_ev.ret mm_y114 rfl rfl rfl ⟨rfl, h⟩
end
