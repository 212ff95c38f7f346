/-! THE CLASS'S SCHOOLS -/
/-- the answers as bits: the last one lowest -/
def sp_rep (A : Int64) (s : List Bool) : Prop := s.length ≤ 60 ∧ ∀ i (h : i < s.length), A.toBitVec.getLsbD i = s[i]
theorem sp_rep0 : sp_rep 0 [] := ⟨by decide, fun i h => absurd h (by simp)⟩
theorem l_shl1 (A : Int64) : (A <<< ((1 : Int32).toInt64 &&& 63)).toBitVec = A.toBitVec <<< 1 := rfl
theorem l_shr1 (A : Int64) : (A >>> ((1 : Int32).toInt64 &&& 63)).toBitVec = A.toBitVec.sshiftRight 1 := rfl
theorem l_shr2 (A : Int64) : (A >>> ((2 : Int32).toInt64 &&& 63)).toBitVec = A.toBitVec.sshiftRight 2 := rfl
theorem l_one : (1 : Int64).toBitVec = 1#64 := rfl
theorem b_one (i : Nat) : (1#64).getLsbD i = decide (i = 0) := by
  rw [BitVec.getLsbD_one]
  by_cases h : i = 0 <;> simp [h]
theorem sp_rep_not {A : Int64} {a : Bool} {s : List Bool} (h : sp_rep A (a :: s)) : sp_rep (A ^^^ 1) ((!a) :: s) := by
  refine ⟨h.1, fun i hi => ?_⟩
  have h2 := h.2 i hi
  rw [Int64.toBitVec_xor, BitVec.getLsbD_xor, h2, l_one, b_one]
  cases i with
  | zero => simp
  | succ i => simp
theorem sp_rep_top {A : Int64} {a b : Bool} {s : List Bool} {B : BitVec 64} {r : Bool} (h : sp_rep A (a :: b :: s)) (hB : B.getLsbD 0 = r) (hB1 : ∀ i, 0 < i → B.getLsbD i = false) : sp_rep ((A >>> ((2 : Int32).toInt64 &&& 63)) <<< ((1 : Int32).toInt64 &&& 63) ||| ⟨⟨B⟩⟩) (r :: s) := by
  have hl := h.1
  simp only [List.length_cons] at hl
  refine ⟨by simp only [List.length_cons]; omega, fun i hi => ?_⟩
  simp only [List.length_cons] at hi
  rw [Int64.toBitVec_or, l_shl1, l_shr2, BitVec.getLsbD_or]
  show (_ || B.getLsbD i) = _
  cases i with
  | zero => rw [hB]; simp
  | succ i =>
    rw [hB1 _ (by omega)]
    have h2 := h.2 (i + 2) (by simp only [List.length_cons]; omega)
    simp only [List.getElem_cons_succ] at h2 ⊢
    rw [← h2]
    simp only [BitVec.getLsbD_shiftLeft, BitVec.getLsbD_sshiftRight]
    have : i + 2 < 64 := by omega
    simp [show i + 1 < 64 by omega, show ¬ i + 1 < 1 by omega, show ¬ 64 ≤ i by omega, this, Nat.add_comm]
theorem sp_rep_and {A : Int64} {a b : Bool} {s : List Bool} (h : sp_rep A (a :: b :: s)) : sp_rep ((A >>> ((2 : Int32).toInt64 &&& 63)) <<< ((1 : Int32).toInt64 &&& 63) ||| ((A >>> ((1 : Int32).toInt64 &&& 63)) &&& A &&& 1)) ((b && a) :: s) := by
  have h0 := h.2 0 (by simp)
  have h1 := h.2 1 (by simp)
  simp only [List.getElem_cons_zero, List.getElem_cons_succ] at h0 h1
  refine sp_rep_top h (B := ((A >>> ((1 : Int32).toInt64 &&& 63)) &&& A &&& 1).toBitVec) ?_ ?_
  · rw [Int64.toBitVec_and, Int64.toBitVec_and, l_shr1, l_one, BitVec.getLsbD_and, BitVec.getLsbD_and, b_one, h0, show (A.toBitVec.sshiftRight 1).getLsbD 0 = A.toBitVec.getLsbD 1 by rw [BitVec.getLsbD_sshiftRight]; rfl, h1]
    simp
  · intro i hi
    rw [Int64.toBitVec_and, BitVec.getLsbD_and, l_one, b_one]
    simp [show ¬ i = 0 by omega]
theorem sp_rep_or {A : Int64} {a b : Bool} {s : List Bool} (h : sp_rep A (a :: b :: s)) : sp_rep ((A >>> ((2 : Int32).toInt64 &&& 63)) <<< ((1 : Int32).toInt64 &&& 63) ||| (((A >>> ((1 : Int32).toInt64 &&& 63)) ||| A) &&& 1)) ((b || a) :: s) := by
  have h0 := h.2 0 (by simp)
  have h1 := h.2 1 (by simp)
  simp only [List.getElem_cons_zero, List.getElem_cons_succ] at h0 h1
  refine sp_rep_top h (B := (((A >>> ((1 : Int32).toInt64 &&& 63)) ||| A) &&& 1).toBitVec) ?_ ?_
  · rw [Int64.toBitVec_and, Int64.toBitVec_or, l_shr1, l_one, BitVec.getLsbD_and, BitVec.getLsbD_or, b_one, h0, show (A.toBitVec.sshiftRight 1).getLsbD 0 = A.toBitVec.getLsbD 1 by rw [BitVec.getLsbD_sshiftRight]; rfl, h1]
    simp
  · intro i hi
    rw [Int64.toBitVec_and, BitVec.getLsbD_and, l_one, b_one]
    simp [show ¬ i = 0 by omega]
theorem sp_rep_push {A : Int64} {s : List Bool} {a : Bool} (h : sp_rep A s) (hl : s.length < 60) : sp_rep ((A <<< ((1 : Int32).toInt64 &&& 63)) ||| (bI (a = true)).toInt64) (a :: s) := by
  refine ⟨by simp only [List.length_cons]; omega, fun i hi => ?_⟩
  simp only [List.length_cons] at hi
  have e : (bI (a = true)).toInt64.toBitVec = if a then 1#64 else 0#64 := by cases a <;> rfl
  rw [Int64.toBitVec_or, l_shl1, BitVec.getLsbD_or, e]
  cases i with
  | zero => cases a <;> simp
  | succ i =>
    have h2 := h.2 i (by omega)
    simp only [List.getElem_cons_succ]
    rw [← h2]
    have : (if a = true then 1#64 else 0#64).getLsbD (i + 1) = false := by
      cases a
      · simp
      · simp only [if_true]
        rw [b_one]
        simp
    rw [this]
    simp [BitVec.getLsbD_shiftLeft, show i + 1 < 64 by omega]
    exact (BitVec.getLsbD_eq_getElem (by omega)).symm
theorem sp_cc_3 : ∀ o, o < 1800 → (nI (o / 300 * 512 + o / 100 % 3 * 128 + o % 100) >>> ((9 : Int32) &&& 31) = nI (o / 300) ∧ (nI (o / 300 * 512 + o / 100 % 3 * 128 + o % 100) >>> ((7 : Int32) &&& 31)) &&& 3 = nI (o / 100 % 3) ∧ nI (o / 300 * 512 + o / 100 % 3 * 128 + o % 100) &&& 127 = nI (o % 100)) := by decide +kernel
section
variable {d : Nat} {μ : mm_M}
set_option maxRecDepth 100000 in
theorem C75_join {q : Nat} {A : Int64} {x a b c : Int32} {so : Bool} {fz : Int32} : mm_ev la_C d 75 87 [some (.long A), none, some (.int x), some (.ref q), some (.int a), some (.int b), some (.int c), some (.int fz), none] [.int (bI (so = true))] μ (fun v μ' => v = some (.long ((A <<< ((1 : Int32).toInt64 &&& 63)) ||| (bI (so = true)).toInt64)) ∧ μ' = μ) := by
  cases so
  ·
    refine mm_ev.run mm_y75 6 rfl ?_
    refine mm_ev.pos rfl ?_
    refine mm_ev.run mm_y75 3 rfl ?_
    exact mm_ev.ret mm_y75 rfl rfl rfl ⟨rfl, rfl⟩
  ·
    refine mm_ev.run mm_y75 6 rfl ?_
    refine mm_ev.neg (by decide) ?_
    refine mm_ev.run mm_y75 4 rfl ?_
    exact mm_ev.ret mm_y75 rfl rfl rfl ⟨rfl, rfl⟩
set_option maxRecDepth 100000 in
theorem C75_t {q : Nat} (hb : q = 23 ∨ q = 64) {A : Int64} {o : Nat} (h3 : 3 ≤ o) (ho : o < 1803) {F : Nat → Int32} (hF : ∀ l, l < 6 → μ.1 q l = F l) : mm_call la_C d 75 [.long A, .int (sp_cc o), .ref q] μ (fun v μ' => v = some (.long ((A <<< ((1 : Int32).toInt64 &&& 63)) ||| (bI (sp_tst F o = true)).toInt64)) ∧ μ' = μ) := by
  obtain ⟨o, rfl⟩ : ∃ k, o = k + 3 := ⟨o - 3, by omega⟩
  have ho : o < 1800 := by omega
  obtain ⟨e1, e2, e3⟩ := sp_cc_3 o ho
  have ec : sp_cc (o + 3) = nI (o / 300 * 512 + o / 100 % 3 * 128 + o % 100) := by
    unfold sp_cc
    rw [if_neg (by omega), if_neg (by omega), if_neg (by omega), show o + 3 - 3 = o by omega]
  rw [ec]
  have hsm : o / 300 * 512 + o / 100 % 3 * 128 + o % 100 < 2 ^ 31 := by omega
  have hneg : ∀ z : Int32, z < 0 → ¬ nI (o / 300 * 512 + o / 100 % 3 * 128 + o % 100) = z := fun z hz e => nI_pos hsm (e ▸ hz)
  have et : sp_tst F (o + 3) = (if o / 100 % 3 = 0 then decide (F (o / 300) < nI (o % 100)) else if o / 100 % 3 = 1 then decide (F (o / 300) = nI (o % 100)) else decide (nI (o % 100) < F (o / 300))) := by
    unfold sp_tst
    rw [show o + 3 - 3 = o by omega]
  have key : ∀ w, w = o / 100 % 3 → mm_call la_C d 75 [.long A, .int (nI (o / 300 * 512 + o / 100 % 3 * 128 + o % 100)), .ref q] μ (fun v μ' => v = some (.long ((A <<< ((1 : Int32).toInt64 &&& 63)) ||| (bI (sp_tst F (o + 3) = true)).toInt64)) ∧ μ' = μ) := by
    intro w hw
    rcases hb with rfl | rfl
    all_goals
      refine mm_call.of mm_t75 ?_
      refine mm_ev.run mm_y75 2 rfl ?_
      refine mm_ev.swc (fun h => ?_) (fun nm3 => mm_ev.swc (fun h => ?_) (fun nm2 => mm_ev.swc (fun h => ?_) (fun nm1 => mm_ev.sw0 ?_)))
      · exact absurd h (hneg _ (by decide))
      · exact absurd h (hneg _ (by decide))
      · exact absurd h (hneg _ (by decide))
      · refine mm_ev.run mm_y75 3 rfl ?_
        refine mm_ev.val e1 ?_
        refine mm_ev.run mm_y75 3 rfl ?_
        refine mm_ev.neg (nI_pos (by omega)) ?_
        refine mm_ev.run mm_y75 3 rfl ?_
        refine mm_ev.run mm_y75 1 rfl ?_
        refine mm_ev.pos (nI_lt (by omega) (by decide)) ?_
        refine mm_ev.run mm_y75 5 rfl ?_
        refine mm_ev.val e2 ?_
        refine mm_ev.run mm_y75 4 rfl ?_
        refine mm_ev.val e3 ?_
        refine mm_ev.run mm_y75 3 rfl ?_
        refine mm_ev.ild mm_y75 rfl rfl rfl rfl rfl (by omega) (by decide) (hF _ (by omega)) ?_
        refine mm_ev.run mm_y75 3 rfl ?_
        refine mm_ev.ite (fun h => ?_) (fun h => ?_)
        · have hw0 : o / 100 % 3 = 0 := by
            have := (nI_eq (a := o / 100 % 3) (b := 0) (by omega) (by decide)).mp h
            exact this
          rw [et, if_pos hw0]
          refine mm_ev.run mm_y75 3 rfl ?_
          refine mm_ev.ite (fun h2 => ?_) (fun h2 => ?_)
          · refine mm_ev.run mm_y75 2 rfl ?_
            rw [decide_eq_false (Int32.not_lt.mpr h2)]
            exact C75_join (so := false)
          · refine mm_ev.run mm_y75 2 rfl ?_
            rw [decide_eq_true (Int32.not_le.mp h2)]
            exact C75_join (so := true)
        · have hw0 : ¬ o / 100 % 3 = 0 := fun z => h (by rw [z]; rfl)
          rw [et, if_neg hw0]
          refine mm_ev.run mm_y75 3 rfl ?_
          refine mm_ev.ite (fun h2 => ?_) (fun h2 => ?_)
          · have hw1 : o / 100 % 3 = 1 := (nI_eq (a := o / 100 % 3) (b := 1) (by omega) (by decide)).mp h2
            rw [if_pos hw1]
            refine mm_ev.run mm_y75 3 rfl ?_
            refine mm_ev.ite (fun h3 => ?_) (fun h3 => ?_)
            · refine mm_ev.run mm_y75 2 rfl ?_
              rw [decide_eq_true h3]
              exact C75_join (so := true)
            · refine mm_ev.run mm_y75 2 rfl ?_
              rw [decide_eq_false h3]
              exact C75_join (so := false)
          · have hw1 : ¬ o / 100 % 3 = 1 := fun z => h2 (by rw [z]; rfl)
            rw [if_neg hw1]
            refine mm_ev.run mm_y75 3 rfl ?_
            refine mm_ev.ite (fun h3 => ?_) (fun h3 => ?_)
            · refine mm_ev.run mm_y75 1 rfl ?_
              rw [decide_eq_false (Int32.not_lt.mpr h3)]
              exact C75_join (so := false)
            · refine mm_ev.run mm_y75 2 rfl ?_
              rw [decide_eq_true (Int32.not_le.mp h3)]
              exact C75_join (so := true)
  exact key _ rfl
set_option maxRecDepth 100000 in
theorem C75 {q : Nat} (hb : q = 23 ∨ q = 64) {A : Int64} {o n n' : Nat} {s : List Bool} (hA : sp_rep A s) (hn : s.length = n) (hd : sp_dep [o] n = some n') {F : Nat → Int32} (hF : ∀ l, l < 6 → μ.1 q l = F l) : mm_call la_C d 75 [.long A, .int (sp_cc o), .ref q] μ (fun v μ' => ∃ B, v = some (.long B) ∧ sp_rep B (sp_ev1 F o s) ∧ (sp_ev1 F o s).length = n' ∧ μ' = μ) := by
  unfold sp_dep sp_dep at hd
  by_cases h3 : 3 ≤ o
  · rw [if_pos h3] at hd
    by_cases h4 : o < 1803 ∧ n < 50
    · rw [if_pos h4] at hd
      refine (C75_t hb h3 h4.1 hF).imp (fun v μ' hh => ⟨_, hh.1, ?_, ?_, hh.2⟩)
      · unfold sp_ev1
        rw [if_pos h3]
        exact sp_rep_push hA (by omega)
      · unfold sp_ev1
        rw [if_pos h3]
        simp only [List.length_cons]
        cases hd
        omega
    · rw [if_neg h4] at hd
      cases hd
  · rw [if_neg h3] at hd
    by_cases h0 : o = 0
    · subst h0
      rw [if_pos rfl] at hd
      cases s with
      | nil => simp only [List.length_nil] at hn; subst hn; simp at hd
      | cons a s =>
        rw [if_pos (by simp only [List.length_cons] at hn; omega)] at hd
        cases hd
        refine mm_call.of mm_t75 ?_
        refine mm_ev.run mm_y75 2 rfl ?_
        refine mm_ev.run mm_y75 3 rfl ?_
        exact mm_ev.ret mm_y75 rfl rfl rfl ⟨_, rfl, sp_rep_not hA, by simpa [sp_ev1] using hn, rfl⟩
    · rw [if_neg h0] at hd
      by_cases h2 : 2 ≤ n
      · rw [if_pos h2] at hd
        cases hd
        match s, hn, hA with
        | [], hn, hA => simp only [List.length_nil] at hn; omega
        | [_], hn, hA => simp only [List.length_cons, List.length_nil] at hn; omega
        | a :: b :: s, hn, hA =>
          rcases (show o = 1 ∨ o = 2 by omega) with rfl | rfl
          ·
            refine mm_call.of mm_t75 ?_
            refine mm_ev.run mm_y75 2 rfl ?_
            refine mm_ev.run mm_y75 13 rfl ?_
            exact mm_ev.ret mm_y75 rfl rfl rfl ⟨_, rfl, sp_rep_and hA, by simp only [sp_ev1, List.length_cons] at hn ⊢; simp; omega, rfl⟩
          ·
            refine mm_call.of mm_t75 ?_
            refine mm_ev.run mm_y75 2 rfl ?_
            refine mm_ev.run mm_y75 13 rfl ?_
            exact mm_ev.ret mm_y75 rfl rfl rfl ⟨_, rfl, sp_rep_or hA, by simp only [sp_ev1, List.length_cons] at hn ⊢; simp; omega, rfl⟩
      · rw [if_neg h2] at hd
        cases hd
end
