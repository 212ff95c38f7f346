section
variable {E : Nat → mm_D} {Λ Λ2 : List mm_D} {μ : mm_M} {w' : mm_W} {r : mm_R} {i : Nat} {L : mm_L} {st st' : List Value}
theorem mm_new_sub (hs : mm_sub E Λ Λ2) {D : mm_D} (h12 : D.1 ≠ 12) : (∃ Λ2', mm_new (Λ2, μ) D = (Λ2', (mm_new (Λ, μ) D).2) ∧ mm_sub E (mm_new (Λ, μ) D).1 Λ2') ∧ mm_loc Λ μ (mm_new (Λ, μ) D).2 ∧ mm_keep Λ (mm_new (Λ, μ) D).1 := by
  refine ⟨⟨Λ2 ++ [D], ?_, hs.push h12⟩, fun c E hE _ => ?_, mm_keep.push⟩
  · show (Λ2 ++ [D], _) = _
    rw [show (mm_new (Λ, μ) D).2 = mm_sR (mm_sJ (mm_sI μ Λ.length (fun _ => 0)) Λ.length (fun _ => 0)) Λ.length (fun _ => none) from rfl, hs.1]
  · have hl := (List.getElem?_eq_some_iff.mp hE).1
    exact sm_zero c (by omega)
set_option maxHeartbeats 4000000 in
theorem mm_he_sub (hs : mm_sub E Λ Λ2) (ok : ∃ Y RR i hh, mm_ok Y RR i hh r = true) (h : mm_he r st (Λ, μ) = some (st', w')) : (∃ Λ2', mm_he r st (Λ2, μ) = some (st', (Λ2', w'.2)) ∧ mm_sub E w'.1 Λ2') ∧ mm_loc Λ μ w'.2 ∧ mm_keep Λ w'.1 := by
  obtain ⟨ins, ⟨pc, len⟩, ⟨a, b, c0⟩, ⟨z, zz⟩, ts⟩ := r
  obtain ⟨Y, RR, i0, hh, ok⟩ := ok
  unfold mm_ok at ok
  rw [Bool.and_eq_true] at ok
  replace ok := ok.2
  unfold mm_he at h ⊢
  dsimp only at h ok ⊢
  cases ins
  case getfield n =>
    dsimp only at h ⊢
    split at h
    · split at h
      · rename_i hg; cases h; exact ⟨⟨Λ2, by (try dsimp only); rw [mm_gf_sub hs hg], hs⟩, mm_loc.rf, mm_keep.rf⟩
      · cases h
    · cases h
  case putfield n =>
    dsimp only at h ⊢
    split at h
    · split at h
      · rename_i hg; cases h
        obtain ⟨⟨Λ3, g1, g2⟩, g3, g4⟩ := mm_pf_sub hs hg
        exact ⟨⟨Λ3, by (try dsimp only); rw [g1], g2⟩, g3, g4⟩
      · cases h
    · cases h
  case iaload =>
    dsimp only at h ⊢
    split at h
    · split at h
      · rename_i hg; cases h; exact ⟨⟨Λ2, by (try dsimp only); rw [mm_ial_sub hs hg], hs⟩, mm_loc.rf, mm_keep.rf⟩
      · cases h
    · cases h
  case baload =>
    dsimp only at h ⊢
    split at h
    · split at h
      · rename_i hg; cases h; exact ⟨⟨Λ2, by (try dsimp only); rw [mm_bal_sub hs hg], hs⟩, mm_loc.rf, mm_keep.rf⟩
      · cases h
    · cases h
  case laload =>
    dsimp only at h ⊢
    split at h
    · split at h
      · rename_i hg; cases h; exact ⟨⟨Λ2, by (try dsimp only); rw [mm_lal_sub hs hg], hs⟩, mm_loc.rf, mm_keep.rf⟩
      · cases h
    · cases h
  case aaload =>
    dsimp only at h ⊢
    split at h
    · split at h
      · rename_i hg; cases h; exact ⟨⟨Λ2, by (try dsimp only); rw [mm_aal_sub hs hg], hs⟩, mm_loc.rf, mm_keep.rf⟩
      · cases h
    · cases h
  case arraylength =>
    dsimp only at h ⊢
    split at h
    · split at h
      · rename_i hg; cases h; exact ⟨⟨Λ2, by (try dsimp only); rw [mm_len_sub hs hg], hs⟩, mm_loc.rf, mm_keep.rf⟩
      · cases h
    · cases h
  case iastore =>
    dsimp only at h ⊢
    split at h
    · split at h
      · rename_i hg; cases h
        obtain ⟨⟨Λ3, g1, g2⟩, g3, g4⟩ := mm_ias_sub hs hg
        exact ⟨⟨Λ3, by (try dsimp only); rw [g1], g2⟩, g3, g4⟩
      · cases h
    · cases h
  case bastore =>
    dsimp only at h ⊢
    split at h
    · split at h
      · rename_i hg; cases h
        obtain ⟨⟨Λ3, g1, g2⟩, g3, g4⟩ := mm_bas_sub hs hg
        exact ⟨⟨Λ3, by (try dsimp only); rw [g1], g2⟩, g3, g4⟩
      · cases h
    · cases h
  case lastore =>
    dsimp only at h ⊢
    split at h
    · split at h
      · rename_i hg; cases h
        obtain ⟨⟨Λ3, g1, g2⟩, g3, g4⟩ := mm_las_sub hs hg
        exact ⟨⟨Λ3, by (try dsimp only); rw [g1], g2⟩, g3, g4⟩
      · cases h
    · cases h
  case aastore =>
    dsimp only at h ⊢
    split at h
    · split at h
      · rename_i hg; cases h
        obtain ⟨⟨Λ3, g1, g2⟩, g3, g4⟩ := mm_aas_sub hs hg
        exact ⟨⟨Λ3, by (try dsimp only); rw [g1], g2⟩, g3, g4⟩
      · cases h
    · cases h
  case new n =>
    cases h
    obtain ⟨⟨Λ3, g1, g2⟩, g3, g4⟩ := mm_new_sub (μ := μ) (D := (0, a, (fun _ => 0), List.replicate (mm_N.getD a 0) none)) hs (by show (0 : Nat) ≠ 12; decide)
    exact ⟨⟨Λ3, by (try dsimp only); rw [g1, hs.1], g2⟩, g3, g4⟩
  case newarray n =>
    dsimp only at h ⊢
    split at h
    · split at h
      · cases h
      · rename_i j s1 hj
        cases h
        obtain ⟨⟨Λ3, g1, g2⟩, g3, g4⟩ := mm_new_sub (μ := μ) (D := (a, j.toNatClampNeg, (fun _ => 0), [])) hs (by
          show a ≠ 12
          intro z; subst z
          cases n <;> simp at ok)
        exact ⟨⟨Λ3, by (try dsimp only); rw [if_neg hj, g1, hs.1], g2⟩, g3, g4⟩
    · cases h
  case anewarray n =>
    dsimp only at h ⊢
    split at h
    · split at h
      · cases h
      · rename_i j s1 hj
        cases h
        obtain ⟨⟨Λ3, g1, g2⟩, g3, g4⟩ := mm_new_sub (μ := μ) (D := (a, j.toNatClampNeg, (fun _ => 0), List.replicate j.toNatClampNeg none)) hs (by
          show a ≠ 12
          intro z; subst z
          simp at ok)
        exact ⟨⟨Λ3, by (try dsimp only); rw [if_neg hj, g1, hs.1], g2⟩, g3, g4⟩
    · cases h
  case invokespecial n =>
    dsimp only at h ⊢
    split at h
    · split at h
      · rename_i hg; cases h; exact ⟨⟨Λ2, by first | rfl | rw [hg], hs⟩, mm_loc.rf, mm_keep.rf⟩
      · cases h
    · cases h
  case invokestatic n =>
    dsimp only at h ⊢
    split at h
    · obtain ⟨⟨Λ3, g1, g2⟩, g3, g4⟩ := mm_cp_sub hs h
      exact ⟨⟨Λ3, g1, g2⟩, g3, g4⟩
    · split at h
      · split at h
        · rename_i hg; cases h; exact ⟨⟨Λ2, by first | rfl | rw [hg], hs⟩, mm_loc.rf, mm_keep.rf⟩
        · cases h
      · cases h
    · split at h
      · split at h
        · rename_i hg; cases h; exact ⟨⟨Λ2, by first | rfl | rw [hg], hs⟩, mm_loc.rf, mm_keep.rf⟩
        · cases h
      · cases h
    · split at h
      · split at h
        · rename_i hg; cases h; exact ⟨⟨Λ2, by first | rfl | rw [hg], hs⟩, mm_loc.rf, mm_keep.rf⟩
        · cases h
      · cases h
    · cases h
  all_goals cases h
theorem mm_op_he {w : mm_W} (h : mm_he r st w = some (st', w')) : mm_op r st = none ∧ mm_lo r L st = none ∧ mm_jp r i st = none := by
  obtain ⟨ins, ⟨pc, len⟩, ⟨a, b, c0⟩, ⟨z, zz⟩, ts⟩ := r
  unfold mm_he at h
  unfold mm_op mm_lo mm_jp
  cases ins <;> first | exact ⟨rfl, rfl, rfl⟩ | cases h
theorem mm_he_none {w w2 : mm_W} (hs : mm_sub E w.1 w2.1) (h : mm_stp r i L st w = none) (hr : (∃ v, mm_ret r st = some v) ∨ ∃ q, mm_cl r st = some q) : mm_stp r i L st w2 = none := by
  obtain ⟨ins, ⟨pc, len⟩, ⟨a, b, c0⟩, ⟨z, zz⟩, ts⟩ := r
  have h4 : (∃ q, mm_cl (ins, (pc, len), (a, b, c0), (z, zz), ts) st = some q) → c0 < 4 := by
    rintro ⟨⟨y, as, rest⟩, hq⟩
    exact (mm_cl_inv hq).2.2.2.1
  have hk : (∃ n, ins = .invokevirtual n) ∨ (∃ n, ins = .invokestatic n) ∨ (∃ n, ins = .invokespecial n) ∨ ins = .ireturn ∨ ins = .lreturn ∨ ins = .areturn ∨ ins = .return_ := by
    rcases hr with ⟨v, hv⟩ | ⟨⟨y, as, rest⟩, hq⟩
    · unfold mm_ret at hv
      dsimp only at hv
      split at hv
      · simp
      · simp
      · simp
      · simp
      · cases hv
    · rcases (mm_cl_inv hq).2.2.2.2.2 with e | e | e
      · exact Or.inl e
      · exact Or.inr (Or.inl e)
      · exact Or.inr (Or.inr (Or.inl e))
  rcases hk with ⟨n, rfl⟩ | ⟨n, rfl⟩ | ⟨n, rfl⟩ | rfl | rfl | rfl | rfl
  · rfl
  · rcases hr with ⟨v, hv⟩ | hq
    · cases hv
    · have h5 := h4 hq
      rcases (show c0 = 0 ∨ c0 = 1 ∨ c0 = 2 ∨ c0 = 3 by omega) with rfl | rfl | rfl | rfl <;> rfl
  · rcases hr with ⟨v, hv⟩ | hq
    · cases hv
    · have h5 := h4 hq
      rcases (show c0 = 0 ∨ c0 = 1 ∨ c0 = 2 ∨ c0 = 3 by omega) with rfl | rfl | rfl | rfl <;> rfl
  · rfl
  · rfl
  · rfl
  · rfl
theorem mm_rc_sub {y : Nat} {as : List Value} (hs : mm_sub E Λ Λ2) (h : mm_rc r y as (Λ, μ) = true) : mm_rc r y as (Λ2, μ) = true := by
  unfold mm_rc at h ⊢
  rw [Bool.and_eq_true] at h ⊢
  refine ⟨h.1, ?_⟩
  have h := h.2
  split at h
  · split at h
    · rename_i x xs hz9
      dsimp only at h ⊢
      cases hq : Λ[x]? with
      | none => rw [hq] at h; cases h
      | some D =>
        rw [hq] at h
        obtain ⟨t, n, f, rs⟩ := D
        have h1 := h
        simp only [Bool.or_eq_true, Bool.and_eq_true, beq_iff_eq] at h1
        have g1 := hs.get hq (by omega)
        rw [g1]
        exact h
    · cases h
  · split at h
    · rename_i x xs hz9
      dsimp only at h ⊢
      cases hq : Λ[x]? with
      | none => rw [hq] at h; cases h
      | some D =>
        rw [hq] at h
        obtain ⟨t, n, f, rs⟩ := D
        have h1 := h
        simp only [Bool.and_eq_true, beq_iff_eq] at h1
        have g1 := hs.get hq (by omega)
        rw [g1]
        exact h
    · cases h
  · exact h
  · rfl
end
theorem mm_stp_sub {E : Nat → mm_D} {Λ Λ2 : List mm_D} {μ : mm_M} {r : mm_R} {i : Nat} {L : mm_L} {st : List Value} {c : mm_C} (hs : mm_sub E Λ Λ2) (ok : ∃ Y RR i hh, mm_ok Y RR i hh r = true) (h : mm_stp r i L st (Λ, μ) = some c) : (∃ Λ2', mm_stp r i L st (Λ2, μ) = some (c.1, c.2.1, c.2.2.1, (Λ2', c.2.2.2.2)) ∧ mm_sub E c.2.2.2.1 Λ2') ∧ mm_loc Λ μ c.2.2.2.2 ∧ mm_keep Λ c.2.2.2.1 := by
  unfold mm_stp at h
  split at h
  · rename_i st1 hop
    cases h
    exact ⟨⟨Λ2, by unfold mm_stp; rw [hop], hs⟩, mm_loc.rf, mm_keep.rf⟩
  · rename_i hop
    split at h
    · rename_i L1 st1 hlo
      cases h
      exact ⟨⟨Λ2, by unfold mm_stp; rw [hop]; dsimp only; rw [hlo], hs⟩, mm_loc.rf, mm_keep.rf⟩
    · rename_i hlo
      split at h
      · rename_i i1 st1 hjp
        cases h
        exact ⟨⟨Λ2, by unfold mm_stp; rw [hop]; dsimp only; rw [hlo]; dsimp only; rw [hjp], hs⟩, mm_loc.rf, mm_keep.rf⟩
      · rename_i hjp
        split at h
        · rename_i st1 w1 hhe
          cases h
          obtain ⟨⟨Λ3, g1, g2⟩, g3, g4⟩ := mm_he_sub hs ok hhe
          exact ⟨⟨Λ3, by unfold mm_stp; rw [hop]; dsimp only; rw [hlo]; dsimp only; rw [hjp]; dsimp only; rw [g1], g2⟩, g3, g4⟩
        · cases h
theorem mm_loc.trans {Λ Λ1 : List mm_D} {μ μ1 μ2 : mm_M} (h1 : mm_loc Λ μ μ1) (hk : mm_keep Λ Λ1) (h2 : mm_loc Λ1 μ1 μ2) : mm_loc Λ μ μ2 := fun c D hD h7 => by
  obtain ⟨a1, a2, a3⟩ := h1 c D hD h7
  obtain ⟨b1, b2, b3⟩ := h2 c D (hk c D hD h7) h7
  exact ⟨b1.trans a1, b2.trans a2, b3.trans a3⟩
theorem mm_keep.trans {Λ Λ1 Λ2 : List mm_D} (h1 : mm_keep Λ Λ1) (h2 : mm_keep Λ1 Λ2) : mm_keep Λ Λ2 := fun c D hD h7 => h2 c D (h1 c D hD h7) h7
theorem mm_exec_sub {E : Nat → mm_D} : ∀ (f d y i : Nat) (L : mm_L) (st : List Value) (Λ Λ2 : List mm_D) (μ : mm_M) (v : Option Value) (w' : mm_W), mm_sub E Λ Λ2 → mm_exec f d y i L st (Λ, μ) = some (v, w') → (∃ Λ2', mm_exec f d y i L st (Λ2, μ) = some (v, (Λ2', w'.2)) ∧ mm_sub E w'.1 Λ2') ∧ mm_loc Λ μ w'.2 ∧ mm_keep Λ w'.1 := by
  intro f
  induction f with
  | zero => intro d y i L st Λ Λ2 μ v w' hs h; simp [mm_exec] at h
  | succ f ih =>
    intro d y i L st Λ Λ2 μ v w' hs h
    rw [mm_exec] at h ⊢
    cases hr : mm_rw (mm_rows y) i with
    | none => rw [hr] at h; cases h
    | some r =>
      rw [hr] at h
      dsimp only at h ⊢
      cases hst : mm_stp r i L st (Λ, μ) with
      | some c =>
        obtain ⟨i1, L1, st1, w1⟩ := c
        obtain ⟨Λ1, μ1⟩ := w1
        rw [hst] at h
        obtain ⟨⟨Λ3, g1, g2⟩, g3, g4⟩ := mm_stp_sub hs (by obtain ⟨hh, ok⟩ := mm_aall y i r hr; exact ⟨_, _, _, _, ok⟩) hst
        dsimp only at g1 g2 g3 g4 h
        rw [g1]
        dsimp only
        obtain ⟨k1, k2, k3⟩ := ih d y i1 L1 st1 Λ1 Λ3 μ1 v w' g2 h
        exact ⟨k1, g3.trans g4 k2, g4.trans k3⟩
      | none =>
        rw [hst] at h
        dsimp only at h
        cases hv : mm_ret r st with
        | some v0 =>
          rw [hv] at h
          cases h
          rw [mm_he_none (w := (Λ, μ)) (w2 := (Λ2, μ)) hs hst (Or.inl ⟨_, hv⟩)]
          exact ⟨⟨Λ2, rfl, hs⟩, mm_loc.rf, mm_keep.rf⟩
        | none =>
          rw [hv] at h
          dsimp only at h
          cases d with
          | zero => cases h
          | succ d =>
            dsimp only at h
            cases hc : mm_cl r st with
            | none => rw [hc] at h; cases h
            | some q =>
              rw [hc] at h
              dsimp only at h
              cases hrc : mm_rc r q.1 q.2.1 (Λ, μ) with
              | false => rw [hrc] at h; cases h
              | true =>
              rw [hrc] at h
              dsimp only at h
              cases ht : mm_T q.1 with
              | none => rw [ht] at h; cases h
              | some t =>
                rw [ht] at h
                dsimp only at h
                cases hu : mm_exec f d q.1 0 (mm_ent t.1 q.2.1) [] (Λ, μ) with
                | none => rw [hu] at h; cases h
                | some u =>
                  obtain ⟨v1, Λ1, μ1⟩ := u
                  rw [hu] at h
                  dsimp only at h
                  rw [mm_he_none (w := (Λ, μ)) (w2 := (Λ2, μ)) hs hst (Or.inr ⟨_, hc⟩)]
                  dsimp only
                  rw [mm_rc_sub hs hrc]
                  dsimp only
                  obtain ⟨⟨Λ3, k1, k2⟩, k3, k4⟩ := ih d q.1 0 (mm_ent t.1 q.2.1) [] Λ Λ2 μ v1 (Λ1, μ1) hs hu
                  dsimp only at k1 k2 k3 k4
                  rw [ht]
                  dsimp only
                  rw [k1]
                  dsimp only
                  obtain ⟨j1, j2, j3⟩ := ih (d + 1) y (i + 1) L (v1.toList ++ q.2.2) Λ1 Λ3 μ1 v w' k2 h
                  exact ⟨j1, k3.trans k4 j2, k4.trans j3⟩
theorem mm_call.lift {E : Nat → mm_D} {Λ Λ2 : List mm_D} {d y : Nat} {as : List Value} {μ : mm_M} {Φ : Option Value → mm_M → Prop} (hs : mm_sub E Λ Λ2) (h : mm_call Λ d y as μ Φ) : mm_call Λ2 d y as μ (fun v μ' => Φ v μ' ∧ mm_loc Λ μ μ') := by
  obtain ⟨ml, R, h1, f, v, μ', h2, h3⟩ := h
  obtain ⟨⟨Λ3, k1, k2⟩, k3, -⟩ := mm_exec_sub f d y 0 _ _ Λ Λ2 μ v (Λ, μ') hs h2
  dsimp only at k1 k2 k3
  rw [k2.eq hs] at k1
  exact ⟨ml, R, h1, f, v, μ', k1, h3, k3⟩
