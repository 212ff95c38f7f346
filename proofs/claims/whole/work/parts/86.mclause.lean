/-! THE REFERENCE'S READER: a clause -/
abbrev rcl (c0 i c j : Nat) : Prop := rdm c0 c j ∨ (119 ≤ c ∧ c ≤ 122 ∧ j = i)
abbrev rCl (c0 i : Nat) (z : Bool × Nat × (Nat × Int32 × List Nat)) (μ : mm_M) (v : Option Value) (μ' : mm_M) : Prop := v = some (.int (bI (z.1 = true))) ∧ μ'.1 110 10 = nI z.2.1 ∧ mh (rcl c0 i) μ μ' ∧ (z.1 = true → sp_mcl (c0 + z.2.2.2.2.length) μ' [z.2.2] i ∧ μ'.1 110 22 = nI (c0 + z.2.2.2.2.length))
section
variable {d n c0 a o i : Nat} {tx : Nat → Int32} {cs : List Nat} {μ μ' : mm_M} {w x y : Int32}
theorem rPm.stc (h : rPm n tx c0 a o cs μ) : rPm n tx c0 a 0 cs (mm_sI (mm_sI (mm_sI (mm_sI μ 119 (upd (μ.1 119) i w)) 120 (upd (μ.1 120) i x)) 121 (upd (μ.1 121) i y)) 110 (upd (μ.1 110) 13 0)) := by
  obtain ⟨⟨h1, h2, h3⟩, h4, h5, h6⟩ := h
  exact ⟨⟨h1, h2, h3⟩, rfl, h5, h6⟩
theorem rcl_stc : mh (rcl c0 i) μ (mm_sI (mm_sI (mm_sI (mm_sI μ 119 (upd (μ.1 119) i w)) 120 (upd (μ.1 120) i x)) 121 (upd (μ.1 121) i y)) 110 (upd (μ.1 110) 13 0)) := (((mh.rf.sU (Or.inr ⟨by decide, by decide, rfl⟩) rfl).sU (Or.inr ⟨by decide, by decide, rfl⟩) rfl).sU (Or.inr ⟨by decide, by decide, rfl⟩) rfl).sU (Or.inl (Or.inl ⟨rfl, Or.inl ⟨by decide, by decide⟩⟩)) rfl
set_option maxRecDepth 100000 in
theorem C155_z (hi : i < 60) {l : Nat} (h1 : μ.1 110 22 = nI (c0 + l)) (h2 : μ.1 121 i = nI c0) {Φ : Option Value → mm_M → Prop} (K : Φ (some (.int 1)) (mm_sI μ 122 (upd (μ.1 122) i (nI l)))) {x1 : Int32} : mm_ev la_M d 155 99 [some (.ref 110), some (.int (nI i)), some (.int w), some (.int x1)] [] μ Φ := by
  refine mm_ev.run mm_y155 5 rfl ?_
  refine mm_ev.val h1 ?_
  refine mm_ev.run mm_y155 3 rfl ?_
  refine mm_ev.ild mm_y155 rfl rfl rfl rfl rfl (by omega) (by decide) h2 ?_
  refine mm_ev.run mm_y155 1 rfl ?_
  refine mm_ev.val (show nI (c0 + l) - nI c0 = nI l from by rw [pk_sub (by omega)]; congr 1; omega) ?_
  refine mm_ev.ist mm_y155 rfl rfl rfl rfl rfl (by omega) (by decide) ?_
  refine mm_ev.run mm_y155 1 rfl ?_
  exact mm_ev.ret mm_y155 rfl rfl rfl K
set_option maxRecDepth 100000 in
theorem C155 (h : rPm n tx c0 a o [] μ) (ht : okT n tx) (ha : a ≤ n) (hc : c0 ≤ 500 + a) (hi : i < 60) : mm_call la_M (d + 20) 155 [.ref 110, .int (nI i)] μ (rCl c0 i (pC n tx a) μ) := by
  have h100 := ht.1
  obtain ⟨w1, w2⟩ := pW_le (n := n) (tx := tx) (pwd (pw n tx a)) a ha (pwd_ok _)
  have hw2 : pw n tx a ≤ 2 := by
    unfold pw
    split
    · omega
    · split <;> omega
  have up : ∀ c j, rdm c0 c j → rcl c0 i c j := fun c j z => Or.inl z
  refine mm_call.of mm_t155 ?_
  refine C155_a ht ha h ?_
  refine C155_b (d := d + 15) ht ha h (fun z μ0 k1 k2 => ?_) (fun z μ0 k1 k2 => ?_)
  · rcases hW : pW n tx (pwd (pw n tx a)) a with ⟨t, b⟩
    rw [hW] at z k1 w1 w2
    have z : t = true := z
    subst z
    have k1 : rPm n tx c0 b o [] μ0 := k1
    have w2 : b ≤ n := w2
    have w1 : a ≤ b := w1
    rcases hM : pM n tx b with ⟨t, e, x⟩
    have hm := pM_le (tx := tx) w2
    rw [hM] at hm
    have m2 : e ≤ n := hm.2.1
    have m1 : b ≤ e := hm.1
    have K := C158 (d := d + 18) k1 ht w2
    rw [hM] at K
    cases t with
    | false =>
      have ez : pC n tx a = (false, e, (3, 0, [])) := by
        unfold pC
        rw [hW]
        dsimp only
        rw [hM]
        rfl
      rw [ez]
      refine mm_ev.run mm_y155 1 rfl ?_
      refine mm_ev.call mm_y155 rfl rfl rfl rfl rfl K (fun v1 μ1 hq => ?_)
      obtain ⟨rfl, k3, k4, k5⟩ := hq
      refine mm_ev.run mm_y155 1 rfl ?_
      refine mm_ev.pos rfl ?_
      refine mm_ev.run mm_y155 1 rfl ?_
      exact mm_ev.ret mm_y155 rfl rfl rfl ⟨rfl, k3.1.2.1, (k2.tr k5).mono up, fun z => by cases z⟩
    | true =>
      have K : mm_call la_M (d + 19) 158 [.ref 110] μ0 (fun v μ' => v = some (.int 1) ∧ rPm n tx c0 e o [] μ' ∧ μ'.1 110 11 = nI x ∧ mh (rdm c0) μ0 μ') := K
      refine mm_ev.run mm_y155 1 rfl ?_
      refine mm_ev.call mm_y155 rfl rfl rfl rfl rfl K (fun v1 μ1 hq => ?_)
      obtain ⟨rfl, k3, k4, k5⟩ := hq
      have k6 := (k2.tr k5).mono up
      have kc : μ1.1 110 22 = nI c0 := k3.2.2.1
      have s1 := k3.stc (i := i) (w := nI (pw n tx a)) (x := nI x) (y := nI c0)
      have s2 := k6.tr (rcl_stc (c0 := c0) (i := i) (w := nI (pw n tx a)) (x := nI x) (y := nI c0))
      refine mm_ev.run mm_y155 1 rfl ?_
      refine mm_ev.neg (by decide) ?_
      refine mm_ev.run mm_y155 4 rfl ?_
      refine mm_ev.ist mm_y155 rfl rfl rfl rfl rfl (by omega) (by decide) ?_
      refine mm_ev.run mm_y155 5 rfl ?_
      refine mm_ev.val k4 ?_
      refine mm_ev.ist mm_y155 rfl rfl rfl rfl rfl (by omega) (by decide) ?_
      refine mm_ev.run mm_y155 5 rfl ?_
      refine mm_ev.val kc ?_
      refine mm_ev.ist mm_y155 rfl rfl rfl rfl rfl (by omega) (by decide) ?_
      by_cases h3 : pw n tx a = 2
      · have ez : pC n tx a = (true, e, (2, nI x, [])) := by
          unfold pC
          rw [hW]
          dsimp only
          rw [hM, if_pos rfl, if_pos rfl, if_pos h3]
        rw [ez]
        refine mm_ev.run mm_y155 6 rfl ?_
        refine mm_ev.pos (show (2 : Int32) ≤ nI (pw n tx a) from by rw [h3]; decide) ?_
        refine C155_z (l := 0) hi s1.2.2.1 upd_eq ?_
        refine ⟨rfl, s1.1.2.1, s2.sU (Or.inr ⟨by decide, by decide, rfl⟩) rfl, fun _ => ⟨⟨⟨?_, ?_, fun z => absurd (show 2 < 2 from z) (by decide)⟩, trivial⟩, kc⟩⟩
        · rw [h3]
          exact upd_eq
        · exact upd_eq
      ·
        refine mm_ev.run mm_y155 6 rfl ?_
        refine mm_ev.neg (show ¬ (2 : Int32) ≤ nI (pw n tx a) from nI_ge (b := 2) (by omega) (by decide)) ?_
        have K3 := C157 (d := d + 19) s1 ht m2 (s := 32) (by decide)
        by_cases h4 : pN n tx e = 32
        · have hlt := pN_lt h4 (by decide)
          rw [bI_1 (p := pN n tx e = 32) h4, if_pos h4] at K3
          refine mm_ev.run mm_y155 2 rfl ?_
          refine mm_ev.call mm_y155 rfl rfl rfl rfl rfl K3 (fun v1 μ1 hq => ?_)
          obtain ⟨rfl, e1, e2⟩ := hq
          refine mm_ev.run mm_y155 1 rfl ?_
          refine mm_ev.neg (by decide) ?_
          have hG := pF_G (n := n) (tx := tx) 4
          have hF1 := fun a cs μ1 (ha : a ≤ n) (hc : c0 + cs.length ≤ 500 + a) (h : rPm n tx c0 a 0 cs μ1) => C162 ht 4 d 0 a cs μ1 (by omega) ha hc h
          have hF := C160 ht (pJ_G hG (by decide) (Or.inl rfl)) (C161 ht hG hF1) (e + 1) [] _ hlt (by show c0 + 0 ≤ _; omega) e1
          have eE : pJ n tx (pJ n tx (pF n tx 4) 38 1) 124 2 (e + 1) = pE n tx (pF n tx 4) (e + 1) := rfl
          rw [eE] at hF
          have hF := hF.deep (show d + 5 + 3 * 4 + 1 + 1 ≤ d + 19 by omega)
          have hE := pE_G (tx := tx) hG (e + 1) hlt
          rcases hP : pE n tx (pF n tx 4) (e + 1) with ⟨t, f, ops⟩
          rw [hP] at hF hE
          have ez : pC n tx a = (t, f, (pw n tx a, nI x, ops)) := by
            unfold pC
            rw [hW]
            dsimp only
            rw [hM, if_pos rfl, if_pos rfl, if_neg h3]
            dsimp only
            rw [if_pos h4, hP]
          rw [ez]
          have s3 := s2.tr (e2.mono up)
          have b1 := e2.1 121 i (by omega)
          have b2 := e2.1 119 i (by omega)
          have b3 := e2.1 120 i (by omega)
          cases t with
          | false =>
            refine mm_ev.run mm_y155 1 rfl ?_
            refine mm_ev.call mm_y155 rfl rfl rfl rfl rfl hF (fun v1 μ1 hq => ?_)
            obtain ⟨rfl, e3, e4⟩ := hq
            refine mm_ev.run mm_y155 1 rfl ?_
            refine mm_ev.pos rfl ?_
            refine mm_ev.run mm_y155 1 rfl ?_
            exact mm_ev.ret mm_y155 rfl rfl rfl ⟨rfl, e3.1.2.1, s3.tr (e4.mono up), fun z => by cases z⟩
          | true =>
            have hF : mm_call la_M (d + 19) 160 [.ref 110] _ (fun v μ' => v = some (.int 1) ∧ rPm n tx c0 f 0 ops μ' ∧ mh (rdm c0) _ μ') := hF
            refine mm_ev.run mm_y155 1 rfl ?_
            refine mm_ev.call mm_y155 rfl rfl rfl rfl rfl hF (fun v1 μ1 hq => ?_)
            obtain ⟨rfl, e3, e4⟩ := hq
            refine mm_ev.run mm_y155 1 rfl ?_
            refine mm_ev.neg (by decide) ?_
            have c1 := (e4.1 121 i (by omega)).trans b1
            have c2 := (e4.1 119 i (by omega)).trans b2
            have c3 := (e4.1 120 i (by omega)).trans b3
            refine C155_z (l := ops.length) hi e3.2.2.1 (c1.trans upd_eq) ?_
            refine ⟨rfl, e3.1.2.1, (s3.tr (e4.mono up)).sU (Or.inr ⟨by decide, by decide, rfl⟩) rfl, fun _ => ⟨⟨⟨c2.trans upd_eq, c3.trans upd_eq, fun _ => ⟨c0, c1.trans upd_eq, ?_, Nat.le_refl _, e3.2.2.2⟩⟩, trivial⟩, e3.2.2.1⟩⟩
            rw [sI_eq, upd_eq]
        · have ez : pC n tx a = (false, e, (3, 0, [])) := by
            unfold pC
            rw [hW]
            dsimp only
            rw [hM, if_pos rfl, if_pos rfl, if_neg h3]
            dsimp only
            rw [if_neg h4]
          rw [bI_0 (p := pN n tx e = 32) h4, if_neg h4] at K3
          rw [ez]
          refine mm_ev.run mm_y155 2 rfl ?_
          refine mm_ev.call mm_y155 rfl rfl rfl rfl rfl K3 (fun v1 μ1 hq => ?_)
          obtain ⟨rfl, e1, e2⟩ := hq
          refine mm_ev.run mm_y155 1 rfl ?_
          refine mm_ev.pos rfl ?_
          refine mm_ev.run mm_y155 1 rfl ?_
          exact mm_ev.ret mm_y155 rfl rfl rfl ⟨rfl, e1.1.2.1, s2.tr (e2.mono up), fun z => by cases z⟩
  · rcases hW : pW n tx (pwd (pw n tx a)) a with ⟨t, b⟩
    rw [hW] at z k1
    cases t with
    | true => exact absurd rfl z
    | false =>
      have ez : pC n tx a = (false, b, (3, 0, [])) := by
        unfold pC
        rw [hW]
        rfl
      rw [ez]
      exact ⟨rfl, k1.1.2.1, k2.mono up, fun z => by cases z⟩
end
