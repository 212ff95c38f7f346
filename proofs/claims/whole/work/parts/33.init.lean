/-! BOTH OBJECTS ARE MADE: a run without anything open, done by the kernel -/
def mm_zf (Λ : List mm_D) : Prop := ∀ (q : Nat) (D : mm_D), Λ[q]? = some D → D.1 < 7 → D.2.2.1 = fun _ => 0
theorem mm_zf.set {Λ : List mm_D} (h : mm_zf Λ) {q t n : Nat} {f : Nat → Int32} {rs rs' : List (Option Nat)} (hq : Λ[q]? = some (t, n, f, rs)) : mm_zf (Λ.set q (t, n, f, rs')) := by
  intro c D hD h7
  by_cases hc : q = c
  · subst hc
    rw [List.getElem?_set_self (List.getElem?_eq_some_iff.mp hq).1] at hD
    cases hD
    exact h q (t, n, f, rs) hq h7
  · rw [List.getElem?_set_ne hc] at hD
    exact h c D hD h7
theorem mm_zf.push {Λ : List mm_D} (h : mm_zf Λ) {t n : Nat} {rs : List (Option Nat)} : mm_zf (Λ ++ [(t, n, (fun _ => 0), rs)]) := by
  intro c D hD h7
  by_cases hc : c < Λ.length
  · rw [List.getElem?_append_left hc] at hD
    exact h c D hD h7
  · rw [List.getElem?_append_right (by omega)] at hD
    have hz : c - Λ.length < 1 := (List.getElem?_eq_some_iff.mp hD).1
    rw [show c - Λ.length = 0 by omega] at hD
    cases hD
    rfl
theorem mm_pf_zf {w w' : mm_W} {q a b c0 : Nat} {v : Value} (hz : mm_zf w.1) (h : mm_pf w q a b c0 v = some w') : mm_zf w'.1 := by
  unfold mm_pf at h
  cases hq : w.1[q]? with
  | none => rw [hq] at h; cases h
  | some D =>
    obtain ⟨t, n, f, rs⟩ := D
    rw [hq] at h
    dsimp only at h
    split at h
    · cases h; exact hz
    · split at h
      · cases h; exact hz
      · cases h
    · cases h; exact hz
    · cases h; exact hz
    · split at h
      · cases h; exact hz.set hq
      · cases h
    · cases h
theorem mm_aas_zf {w w' : mm_W} {q y : Nat} {j : Int32} (hz : mm_zf w.1) (h : mm_aas w q j y = some w') : mm_zf w'.1 := by
  unfold mm_aas at h
  cases hq : w.1[q]? with
  | none => rw [hq] at h; cases h
  | some D =>
    cases hq2 : w.1[y]? with
    | none => rw [hq, hq2] at h; cases h
    | some D2 =>
      obtain ⟨t, n, f, rs⟩ := D
      rw [hq, hq2] at h
      dsimp only at h
      split at h
      · cases h
      · split at h
        · cases h; exact hz.set hq
        · cases h
set_option maxHeartbeats 4000000 in
theorem mm_he_zf {r : mm_R} {st st' : List Value} {w w' : mm_W} (hz : mm_zf w.1) (h : mm_he r st w = some (st', w')) : mm_zf w'.1 := by
  obtain ⟨ins, ⟨pc, len⟩, ⟨a, b, c0⟩, ⟨z, zz⟩, ts⟩ := r
  unfold mm_he at h
  dsimp only at h
  cases ins
  case putfield n =>
    dsimp only at h
    split at h
    · split at h
      · rename_i hp; cases h; exact mm_pf_zf hz hp
      · cases h
    · cases h
  case iastore =>
    dsimp only at h
    split at h
    · split at h
      · rename_i hp; cases h; rw [← mm_ias_mono hp]; exact hz
      · cases h
    · cases h
  case bastore =>
    dsimp only at h
    split at h
    · split at h
      · rename_i hp; cases h; rw [← mm_bas_mono hp]; exact hz
      · cases h
    · cases h
  case lastore =>
    dsimp only at h
    split at h
    · split at h
      · rename_i hp; cases h; rw [← mm_las_mono hp]; exact hz
      · cases h
    · cases h
  case aastore =>
    dsimp only at h
    split at h
    · split at h
      · rename_i hp; cases h; exact mm_aas_zf hz hp
      · cases h
    · cases h
  case new n => cases h; exact hz.push
  case newarray n =>
    dsimp only at h
    split at h
    · split at h
      · cases h
      · cases h; exact hz.push
    · cases h
  case anewarray n =>
    dsimp only at h
    split at h
    · split at h
      · cases h
      · cases h; exact hz.push
    · cases h
  case invokestatic n =>
    dsimp only at h
    split at h
    · rw [← mm_cp_mono h]; exact hz
    · split at h
      · split at h
        · cases h; exact hz
        · cases h
      · cases h
    · split at h
      · split at h
        · cases h; exact hz
        · cases h
      · cases h
    · split at h
      · split at h
        · cases h; exact hz
        · cases h
      · cases h
    · cases h
  all_goals first
    | (dsimp only at h; split at h <;> first | (split at h <;> first | (cases h; exact hz) | cases h) | (cases h; exact hz) | cases h)
    | cases h
theorem mm_exec_zf : ∀ (f d y i : Nat) (L : mm_L) (st : List Value) (w : mm_W) (p : Option Value × mm_W), mm_zf w.1 → mm_exec f d y i L st w = some p → mm_zf p.2.1 := by
  intro f
  induction f with
  | zero => intro d y i L st w p hz h; simp [mm_exec] at h
  | succ f ih =>
    intro d y i L st w p hz h
    rw [mm_exec] at h
    cases hr : mm_rw (mm_rows y) i with
    | none => rw [hr] at h; cases h
    | some r =>
      rw [hr] at h
      dsimp only at h
      cases hs : mm_stp r i L st w with
      | some c =>
        rw [hs] at h
        refine ih _ _ _ _ _ _ _ ?_ h
        unfold mm_stp at hs
        split at hs
        · cases hs; exact hz
        · split at hs
          · cases hs; exact hz
          · split at hs
            · cases hs; exact hz
            · split at hs
              · rename_i hp; cases hs; exact mm_he_zf hz hp
              · cases hs
      | none =>
        rw [hs] at h
        dsimp only at h
        cases hv : mm_ret r st with
        | some v => rw [hv] at h; cases h; exact hz
        | none =>
          rw [hv] at h
          dsimp only at h
          cases d with
          | zero => cases h
          | succ d =>
            dsimp only at h
            cases hc : mm_cl r st with
            | none => rw [hc] at h; cases h
            | some q =>
              rw [hc] at h
              dsimp only at h
              cases hrc : mm_rc r q.1 q.2.1 w with
              | false => rw [hrc] at h; cases h
              | true =>
              rw [hrc] at h
              dsimp only at h
              cases ht : mm_T q.1 with
              | none => rw [ht] at h; cases h
              | some t =>
                rw [ht] at h
                dsimp only at h
                cases hu : mm_exec f d q.1 0 (mm_ent t.1 q.2.1) [] w with
                | none => rw [hu] at h; cases h
                | some u =>
                  rw [hu] at h
                  exact ih _ _ _ _ _ _ _ (ih _ _ _ _ _ _ _ hz hu) h
/-- the same lists but for what is only read -/
def la_eq : List mm_D → List mm_D → Bool
  | [], [] => true
  | a :: l, b :: k => decide (a.1 = b.1) && decide (a.2.1 = b.2.1) && decide (a.2.2.2 = b.2.2.2) && la_eq l k
  | _, _ => false
theorem la_eq_at : ∀ (l k : List mm_D), la_eq l k = true → l.length = k.length ∧ ∀ (q : Nat) (a b : mm_D), l[q]? = some a → k[q]? = some b → a.1 = b.1 ∧ a.2.1 = b.2.1 ∧ a.2.2.2 = b.2.2.2
  | [], [], _ => ⟨rfl, fun q a b h _ => by simp at h⟩
  | [], _ :: _, h => by cases h
  | _ :: _, [], h => by cases h
  | a :: l, b :: k, h => by
    rw [la_eq] at h
    simp only [Bool.and_eq_true, decide_eq_true_eq] at h
    obtain ⟨h1, h2⟩ := la_eq_at l k h.2
    refine ⟨by simp [h1], fun q c d hc hd => ?_⟩
    cases q with
    | zero => cases hc; cases hd; exact ⟨h.1.1.1, h.1.1.2, h.1.2⟩
    | succ q => exact h2 q c d hc hd
/-- the lists are the same where what is only read stayed, and the rest holds nothing -/
theorem la_same {Λ0 l k : List mm_D} (h : la_eq l k = true) (hz : mm_zf l) (hk : mm_zf k) (h1 : mm_keep Λ0 l) (h2 : mm_keep Λ0 k) (h0 : ∀ (q : Nat) (D : mm_D), k[q]? = some D → 7 ≤ D.1 → ∃ E, Λ0[q]? = some E ∧ 7 ≤ E.1) : l = k := by
  obtain ⟨e1, e2⟩ := la_eq_at l k h
  apply List.ext_getElem?
  intro q
  cases hl : l[q]? with
  | none =>
    have := List.getElem?_eq_none_iff.mp hl
    rw [List.getElem?_eq_none (by omega)]
  | some a =>
    have hq := (List.getElem?_eq_some_iff.mp hl).1
    obtain ⟨b, hb⟩ : ∃ b, k[q]? = some b := ⟨_, List.getElem?_eq_getElem (by omega)⟩
    obtain ⟨f1, f2, f3⟩ := e2 q a b hl hb
    rw [hb]
    by_cases h7 : 7 ≤ b.1
    · obtain ⟨E, hE, hE7⟩ := h0 q b hb h7
      have g1 := h1 q E hE hE7
      have g2 := h2 q E hE hE7
      rw [hl] at g1
      rw [hb] at g2
      rw [g1, g2]
    · have g1 := hz q a hl (by omega)
      have g2 := hk q b hb (by omega)
      obtain ⟨a1, a2, a3, a4⟩ := a
      obtain ⟨b1, b2, b3, b4⟩ := b
      dsimp only at f1 f2 f3 g1 g2
      subst f1; subst f2; subst f3; subst g1; subst g2
      rfl
def la_0 : List mm_D := (12, 0, (fun _ => 0), []) :: la_z
def la_w1 : mm_W := mm_new (la_0, st_m0) (0, 8, (fun _ => 0), List.replicate 10 none)
def la_1 : List mm_D := la_0 ++ la_c
def la_r1 : Option (Option Value × mm_W) := mm_exec 4000 50 84 0 (mm_ent 2 [.ref 14]) [] la_w1
