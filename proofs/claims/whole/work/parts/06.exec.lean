/-- all methods: how many places, the rows -/
def mm_T_0 : List (Nat × List (List mm_R)) := [(4, mm_r0), (5, mm_r1), (2, mm_r2), (2, mm_r3), (2, mm_r4), (1, mm_r5), (1, mm_r6), (1, mm_r7), (2, mm_r8), (1, mm_r9), (2, mm_r10), (2, mm_r11), (3, mm_r12), (2, mm_r13), (4, mm_r14), (1, mm_r15)]
def mm_T_1 : List (Nat × List (List mm_R)) := [(6, mm_r16), (3, mm_r17), (1, mm_r18), (1, mm_r19), (5, mm_r20), (7, mm_r21), (5, mm_r22), (1, mm_r23), (1, mm_r24), (2, mm_r25), (1, mm_r26), (4, mm_r27), (4, mm_r28), (4, mm_r29), (8, mm_r30), (5, mm_r31)]
def mm_T_2 : List (Nat × List (List mm_R)) := [(4, mm_r32), (7, mm_r33), (1, mm_r34), (4, mm_r35), (2, mm_r36), (4, mm_r37), (8, mm_r38), (3, mm_r39), (3, mm_r40), (4, mm_r41), (5, mm_r42), (4, mm_r43), (2, mm_r44), (4, mm_r45), (3, mm_r46), (3, mm_r47)]
def mm_T_3 : List (Nat × List (List mm_R)) := [(1, mm_r48), (2, mm_r49), (5, mm_r50), (5, mm_r51), (4, mm_r52), (6, mm_r53), (4, mm_r54), (1, mm_r55), (2, mm_r56), (4, mm_r57), (3, mm_r58), (1, mm_r59), (1, mm_r60), (3, mm_r61), (2, mm_r62), (2, mm_r63)]
def mm_T_4 : List (Nat × List (List mm_R)) := [(3, mm_r64), (3, mm_r65), (3, mm_r66), (3, mm_r67), (1, mm_r68), (2, mm_r69), (1, mm_r70), (4, mm_r71), (2, mm_r72), (1, mm_r73), (7, mm_r74), (9, mm_r75), (1, mm_r76), (3, mm_r77), (2, mm_r78), (2, mm_r79)]
def mm_T_5 : List (Nat × List (List mm_R)) := [(1, mm_r80), (3, mm_r81), (3, mm_r82), (3, mm_r83), (2, mm_r84), (3, mm_r85), (3, mm_r86), (4, mm_r87), (2, mm_r88), (1, mm_r89), (3, mm_r90), (1, mm_r91), (7, mm_r92), (4, mm_r93), (4, mm_r94), (2, mm_r95)]
def mm_T_6 : List (Nat × List (List mm_R)) := [(2, mm_r96), (5, mm_r97), (2, mm_r98), (3, mm_r99), (2, mm_r100), (3, mm_r101), (3, mm_r102), (7, mm_r103), (6, mm_r104), (4, mm_r105), (6, mm_r106), (7, mm_r107), (4, mm_r108), (3, mm_r109), (3, mm_r110), (3, mm_r111)]
def mm_T_7 : List (Nat × List (List mm_R)) := [(3, mm_r112), (2, mm_r113), (5, mm_r114), (1, mm_r115), (1, mm_r116), (1, mm_r117), (4, mm_r118), (2, mm_r119), (6, mm_r120), (2, mm_r121), (4, mm_r122), (6, mm_r123), (3, mm_r124), (8, mm_r125), (2, mm_r126), (4, mm_r127)]
def mm_T_8 : List (Nat × List (List mm_R)) := [(3, mm_r128), (3, mm_r129), (2, mm_r130), (1, mm_r131), (4, mm_r132), (6, mm_r133), (6, mm_r134), (10, mm_r135), (4, mm_r136), (3, mm_r137), (4, mm_r138), (3, mm_r139), (3, mm_r140), (3, mm_r141), (3, mm_r142), (7, mm_r143)]
def mm_T_9 : List (Nat × List (List mm_R)) := [(4, mm_r144), (4, mm_r145), (4, mm_r146), (1, mm_r147), (2, mm_r148), (3, mm_r149), (3, mm_r150), (3, mm_r151), (5, mm_r152), (2, mm_r153), (5, mm_r154), (4, mm_r155), (3, mm_r156), (2, mm_r157), (1, mm_r158), (1, mm_r159)]
def mm_T_10 : List (Nat × List (List mm_R)) := [(1, mm_r160), (1, mm_r161), (2, mm_r162), (2, mm_r163), (2, mm_r164), (3, mm_r165), (2, mm_r166), (3, mm_r167), (5, mm_r168), (3, mm_r169), (3, mm_r170), (4, mm_r171), (4, mm_r172), (6, mm_r173), (6, mm_r174), (4, mm_r175)]
def mm_T_11 : List (Nat × List (List mm_R)) := [(7, mm_r176), (8, mm_r177), (11, mm_r178), (3, mm_r179), (3, mm_r180), (4, mm_r181), (3, mm_r182), (3, mm_r183), (2, mm_r184), (4, mm_r185), (1, mm_r186), (1, mm_r187), (5, mm_r188), (4, mm_r189), (2, mm_r190), (1, mm_r191)]
def mm_T_12 : List (Nat × List (List mm_R)) := [(5, mm_r192), (5, mm_r193), (2, mm_r194), (4, mm_r195), (2, mm_r196), (5, mm_r197), (1, mm_r198), (5, mm_r199), (3, mm_r200), (3, mm_r201), (7, mm_r202), (4, mm_r203)]
def mm_T (y : Nat) : Option (Nat × List (List mm_R)) := match ([mm_T_0, mm_T_1, mm_T_2, mm_T_3, mm_T_4, mm_T_5, mm_T_6, mm_T_7, mm_T_8, mm_T_9, mm_T_10, mm_T_11, mm_T_12] : List (List (Nat × List (List mm_R))))[y / 16]? with
  | some l => l[y % 16]?
  | none => none
def mm_rw (R : List (List mm_R)) (i : Nat) : Option mm_R := match R[i / 32]? with
  | some l => l[i % 32]?
  | none => none
def mm_rows (y : Nat) : List (List mm_R) := match mm_T y with
  | some p => p.2
  | none => []
/-- the kind of a method's objects (10: texts; 20: it has none; 30 more: it makes them) -/
def mm_rkl : List (List Nat) := [[20, 20, 20, 20, 20, 20, 10, 10, 10, 10, 20, 10, 10, 20, 20, 20], [20, 20, 30, 0, 0, 0, 0, 0, 31, 1, 32, 2, 2, 2, 2, 2], [2, 2, 2, 2, 2, 2, 2, 2, 2, 2, 2, 2, 2, 2, 2, 2], [33, 3, 3, 3, 3, 3, 3, 34, 4, 4, 4, 4, 4, 4, 4, 4], [4, 4, 4, 4, 20, 35, 5, 5, 5, 36, 6, 20, 6, 20, 6, 6], [37, 7, 7, 7, 38, 8, 20, 8, 8, 20, 8, 20, 8, 8, 8, 8], [8, 8, 8, 8, 8, 8, 8, 8, 8, 8, 8, 8, 20, 8, 8, 8], [8, 8, 8, 20, 8, 8, 8, 8, 8, 8, 8, 8, 8, 8, 39, 9], [20, 9, 9, 20, 9, 9, 9, 9, 9, 9, 9, 9, 9, 9, 9, 9], [9, 9, 9, 20, 9, 9, 9, 9, 9, 9, 9, 9, 9, 9, 9, 9], [9, 9, 9, 9, 9, 9, 9, 9, 9, 9, 9, 9, 9, 9, 9, 9], [9, 9, 20, 9, 9, 9, 9, 9, 9, 9, 9, 9, 9, 9, 9, 20], [9, 9, 9, 9, 9, 9, 20, 9, 20, 9, 9, 20]]
def mm_rk (y : Nat) : Nat := match mm_rkl[y / 16]? with
  | some l => l.getD (y % 16) 11
  | none => 11
/-- a call by the object: the object is of the method's kind -/
def mm_rc (r : mm_R) (y : Nat) (as : List Value) (w : mm_W) : Bool := (Nat.blt y 203 && (Nat.blt y 2 || Nat.blt 4 y)) && (match mm_T y with
  | some t => Nat.ble (mm_sl as).length t.1 && Nat.ble t.1 45
  | none => false) && match r.1 with
  | .invokevirtual _ => match as with
    | .ref x :: _ => match w.1[x]? with
      | some D => (D.1 == 0 && (D.2.1 == mm_rk y && Nat.blt D.2.1 10)) || (D.1 == 9 && mm_rk y == 10)
      | none => false
    | _ => false
  | .invokespecial _ => match as with
    | .ref x :: _ => match w.1[x]? with
      | some D => D.1 == 0 && mm_rk y == 30 + D.2.1
      | none => false
    | _ => false
  | .invokestatic _ => mm_rk y == 20
  | _ => true
def mm_exec : Nat → Nat → Nat → Nat → mm_L → List Value → mm_W → Option (Option Value × mm_W)
  | 0, _, _, _, _, _, _ => none
  | f + 1, d, y, i, L, st, w => match mm_rw (mm_rows y) i with
    | none => none
    | some r => match mm_stp r i L st w with
      | some c => mm_exec f d y c.1 c.2.1 c.2.2.1 c.2.2.2
      | none => match mm_ret r st with
        | some v => some (v, w)
        | none => match d with
          | 0 => none
          | d' + 1 => match mm_cl r st with
            | none => none
            | some q => match mm_rc r q.1 q.2.1 w with
              | false => none
              | true => match mm_T q.1 with
              | none => none
              | some t => match mm_exec f d' q.1 0 (mm_ent t.1 q.2.1) [] w with
                | none => none
                | some u => mm_exec f (d' + 1) y (i + 1) L (u.1.toList ++ q.2.2) u.2
/-- steps that are no calls -/
def mm_1 (R : List (List mm_R)) (i : Nat) (L : mm_L) (st : List Value) (w : mm_W) : Option mm_C := match mm_rw R i with
  | none => none
  | some r => mm_stp r i L st w
def mm_k (o : Option mm_C) (k : Nat → mm_L → List Value → mm_W → Option mm_C) : Option mm_C := match o with
  | some (i, L, st, w) => k i L st w
  | none => none
def mm_run (R : List (List mm_R)) : Nat → Nat → mm_L → List Value → mm_W → Option mm_C
  | 0, i, L, st, w => some (i, L, st, w)
  | n + 1, i, L, st, w => mm_k (mm_1 R i L st w) (fun i' L' st' w' => mm_run R n i' L' st' w')
theorem mm_more : ∀ (f d y i : Nat) (L : mm_L) (st : List Value) (w : mm_W) (x : Option Value × mm_W), mm_exec f d y i L st w = some x → ∀ (g e : Nat), f ≤ g → d ≤ e → mm_exec g e y i L st w = some x := by
  intro f
  induction f with
  | zero => intro d y i L st w x h; simp [mm_exec] at h
  | succ f ih =>
    intro d y i L st w x h g e hg he
    obtain ⟨g, rfl⟩ : ∃ k, g = k + 1 := ⟨g - 1, by omega⟩
    have hg : f ≤ g := by omega
    rw [mm_exec] at h ⊢
    cases hr : mm_rw (mm_rows y) i with
    | none => rw [hr] at h; cases h
    | some r =>
      rw [hr] at h
      dsimp only at h ⊢
      cases hs : mm_stp r i L st w with
      | some c =>
        rw [hs] at h
        exact ih _ _ _ _ _ _ _ h _ _ hg he
      | none =>
        rw [hs] at h
        dsimp only at h ⊢
        cases hv : mm_ret r st with
        | some v => rw [hv] at h; exact h
        | none =>
          rw [hv] at h
          dsimp only at h ⊢
          cases d with
          | zero => cases h
          | succ d =>
            obtain ⟨e, rfl⟩ : ∃ k, e = k + 1 := ⟨e - 1, by omega⟩
            have he : d ≤ e := by omega
            dsimp only at h ⊢
            cases hc : mm_cl r st with
            | none => rw [hc] at h; cases h
            | some q =>
              rw [hc] at h
              dsimp only at h ⊢
              cases hrc : mm_rc r q.1 q.2.1 w with
              | false => rw [hrc] at h; cases h
              | true =>
              rw [hrc] at h
              dsimp only at h ⊢
              cases ht : mm_T q.1 with
              | none => rw [ht] at h; cases h
              | some t =>
                rw [ht] at h
                dsimp only at h ⊢
                cases hu : mm_exec f d q.1 0 (mm_ent t.1 q.2.1) [] w with
                | none => rw [hu] at h; cases h
                | some u =>
                  rw [hu] at h
                  rw [ih _ _ _ _ _ _ _ hu g e hg he]
                  exact ih _ _ _ _ _ _ _ h _ _ hg (by omega)
/-- from here the method comes to its end, with Φ of its answer and of what the cells hold; no cell is made -/
def mm_ev (Λ : List mm_D) (d y i : Nat) (L : mm_L) (st : List Value) (μ : mm_M) (Φ : Option Value → mm_M → Prop) : Prop :=
  ∃ (f : Nat) (v : Option Value) (μ' : mm_M), mm_exec f d y i L st (Λ, μ) = some (v, Λ, μ') ∧ Φ v μ'
/-- a call of the method with these values -/
def mm_call (Λ : List mm_D) (d y : Nat) (as : List Value) (μ : mm_M) (Φ : Option Value → mm_M → Prop) : Prop :=
  ∃ (ml : Nat) (R : List (List mm_R)), mm_T y = some (ml, R) ∧ mm_ev Λ d y 0 (mm_ent ml as) [] μ Φ
section
variable {Λ : List mm_D} {d y i : Nat} {L : mm_L} {st : List Value} {μ : mm_M} {Φ Ψ : Option Value → mm_M → Prop}
theorem mm_call.of {ml : Nat} {R : List (List mm_R)} {as : List Value} (h : mm_T y = some (ml, R)) (h2 : mm_ev Λ d y 0 (mm_ent ml as) [] μ Φ) : mm_call Λ d y as μ Φ := ⟨ml, R, h, h2⟩
theorem mm_ev.imp (h : mm_ev Λ d y i L st μ Φ) (hq : ∀ v μ', Φ v μ' → Ψ v μ') : mm_ev Λ d y i L st μ Ψ := by
  obtain ⟨f, v, μ', h1, h2⟩ := h
  exact ⟨f, v, μ', h1, hq _ _ h2⟩
theorem mm_call.imp {as : List Value} (h : mm_call Λ d y as μ Φ) (hq : ∀ v μ', Φ v μ' → Ψ v μ') : mm_call Λ d y as μ Ψ := by
  obtain ⟨ml, R, h1, h2⟩ := h
  exact ⟨ml, R, h1, h2.imp hq⟩
theorem mm_call.deep {as : List Value} {e : Nat} (h : mm_call Λ d y as μ Φ) (he : d ≤ e) : mm_call Λ e y as μ Φ := by
  obtain ⟨ml, R, h1, f, v, μ', h2, h3⟩ := h
  exact ⟨ml, R, h1, f, v, μ', mm_more _ _ _ _ _ _ _ _ h2 _ _ (Nat.le_refl _) he, h3⟩
theorem mm_ev.run1 {R : List (List mm_R)} (hy : mm_rows y = R) : ∀ (k i : Nat) (L : mm_L) (st : List Value) (w : mm_W) {i' : Nat} {L' : mm_L} {st' : List Value} {μ' : mm_M}, mm_run R k i L st w = some (i', L', st', (Λ, μ')) → mm_ev Λ d y i' L' st' μ' Φ → ∃ (f : Nat) (v : Option Value) (μ' : mm_M), mm_exec f d y i L st w = some (v, Λ, μ') ∧ Φ v μ' := by
  intro k
  induction k with
  | zero =>
    intro i L st w i' L' st' μ' h h2
    rw [mm_run] at h
    cases h
    exact h2
  | succ k ih =>
    intro i L st w i' L' st' μ' h h2
    rw [mm_run] at h
    cases hs : mm_1 R i L st w with
    | none => rw [hs] at h; cases h
    | some c' =>
      obtain ⟨i1, L1, st1, w1⟩ := c'
      rw [hs] at h
      obtain ⟨f, v, μ1, h3, h4⟩ := ih i1 L1 st1 w1 h h2
      refine ⟨f + 1, v, μ1, ?_, h4⟩
      rw [mm_exec, hy]
      unfold mm_1 at hs
      cases hr : mm_rw R i with
      | none => rw [hr] at hs; cases hs
      | some r =>
        rw [hr] at hs
        dsimp only at hs ⊢
        rw [hs]
        exact h3
theorem mm_ev.run {R : List (List mm_R)} (hy : mm_rows y = R) (k : Nat) {i' : Nat} {L' : mm_L} {st' : List Value} {μ' : mm_M} (h : mm_run R k i L st (Λ, μ) = some (i', L', st', (Λ, μ'))) (h2 : mm_ev Λ d y i' L' st' μ' Φ) : mm_ev Λ d y i L st μ Φ := mm_ev.run1 hy k _ _ _ _ h h2
theorem mm_ev.ite {c : Prop} [Decidable c] {i1 i2 : Nat} (h1 : c → mm_ev Λ d y i1 L st μ Φ) (h2 : ¬ c → mm_ev Λ d y i2 L st μ Φ) : mm_ev Λ d y (if c then i1 else i2) L st μ Φ := by
  by_cases h : c
  · rw [if_pos h]; exact h1 h
  · rw [if_neg h]; exact h2 h
theorem mm_ev.ret {R : List (List mm_R)} (hy : mm_rows y = R) {r : mm_R} {v : Option Value} (hr : mm_rw R i = some r) (hs : mm_stp r i L st (Λ, μ) = none) (hv : mm_ret r st = some v) (h : Φ v μ) : mm_ev Λ d y i L st μ Φ := by
  refine ⟨1, v, μ, ?_, h⟩
  rw [mm_exec, hy, hr]
  dsimp only
  rw [hs]
  dsimp only
  rw [hv]
theorem mm_ev.call {R : List (List mm_R)} (hy : mm_rows y = R) {r : mm_R} {y' : Nat} {as rest : List Value} (hr : mm_rw R i = some r) (hs : mm_stp r i L st (Λ, μ) = none) (hv : mm_ret r st = none) (hc : mm_cl r st = some (y', as, rest)) (hrc : mm_rc r y' as (Λ, μ) = true) (h : mm_call Λ d y' as μ Ψ) (k : ∀ v μ', Ψ v μ' → mm_ev Λ (d + 1) y (i + 1) L (v.toList ++ rest) μ' Φ) : mm_ev Λ (d + 1) y i L st μ Φ := by
  obtain ⟨ml, R', ht, f1, v1, μ1, e1, p1⟩ := h
  obtain ⟨f2, v2, μ2, e2, p2⟩ := k _ _ p1
  refine ⟨(f1 + f2) + 1, v2, μ2, ?_, p2⟩
  rw [mm_exec, hy, hr]
  dsimp only
  rw [hs]
  dsimp only
  rw [hv]
  dsimp only
  rw [hc]
  dsimp only
  rw [hrc]
  dsimp only
  rw [ht]
  dsimp only
  rw [mm_more _ _ _ _ _ _ _ _ e1 (f1 + f2) d (by omega) (Nat.le_refl _)]
  exact mm_more _ _ _ _ _ _ _ _ e2 (f1 + f2) (d + 1) (by omega) (Nat.le_refl _)
end
