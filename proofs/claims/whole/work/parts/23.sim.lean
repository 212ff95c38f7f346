theorem sm_pc0 : ∀ y, y < 204 → (mm_rw (mm_rows y) 0).map (fun r => r.2.1.1) = some 0 := by decide +kernel
theorem sm_rkc : ∀ y, y < 203 → (mm_rk y < 10 → (mm_T1 (mm_rk y)).1 = (mm_I y).1.cls) ∧ (mm_rk y = 10 → (mm_I y).1.cls = "java/lang/String") ∧ ((mm_I y).1.name = "<init>" → (mm_I y).2.2 = none) := by decide +kernel
theorem mm_exec_row {f d y i : Nat} {L : mm_L} {st : List Value} {w : mm_W} {x : Option Value × mm_W} (h : mm_exec f d y i L st w = some x) : ∃ r, mm_rw (mm_rows y) i = some r := by
  cases f with
  | zero => simp [mm_exec] at h
  | succ f =>
    rw [mm_exec] at h
    cases hr : mm_rw (mm_rows y) i with
    | none => rw [hr] at h; cases h
    | some r => exact ⟨r, rfl⟩
theorem mm_cl_inv {r : mm_R} {st as rest : List Value} {y : Nat} (h : mm_cl r st = some (y, as, rest)) : st = as.reverse ++ rest ∧ as.length = r.2.2.1.2.1 ∧ mm_wd rest ≤ 8 ∧ r.2.2.1.2.2 < 4 ∧ y = r.2.2.1.1 ∧ ((∃ n, r.1 = .invokevirtual n) ∨ (∃ n, r.1 = .invokestatic n) ∨ ∃ n, r.1 = .invokespecial n) := by
  unfold mm_cl at h
  split at h
  · rename_i h1 h2
    rw [Bool.and_eq_true] at h1
    have b1 : r.2.2.1.2.1 ≤ st.length := Nat.le_of_ble_eq_true h1.1
    have b2 := Nat.le_of_ble_eq_true h1.2
    have b3 : r.2.2.1.2.2 < 4 := mm_blt h2
    have key : (r.2.2.1.1, (st.take r.2.2.1.2.1).reverse, st.drop r.2.2.1.2.1) = (y, as, rest) → st = as.reverse ++ rest ∧ as.length = r.2.2.1.2.1 ∧ mm_wd rest ≤ 8 ∧ r.2.2.1.2.2 < 4 ∧ y = r.2.2.1.1 := by
      intro e
      cases e
      refine ⟨by rw [List.reverse_reverse, List.take_append_drop], by rw [List.length_reverse, List.length_take]; omega, b2, b3, rfl⟩
    split at h
    · rename_i n hn
      obtain ⟨k1, k2, k3, k4, k5⟩ := key (Option.some.inj h)
      exact ⟨k1, k2, k3, k4, k5, Or.inl ⟨n, hn⟩⟩
    · rename_i n hn
      obtain ⟨k1, k2, k3, k4, k5⟩ := key (Option.some.inj h)
      exact ⟨k1, k2, k3, k4, k5, Or.inr (Or.inl ⟨n, hn⟩)⟩
    · rename_i n hn
      obtain ⟨k1, k2, k3, k4, k5⟩ := key (Option.some.inj h)
      exact ⟨k1, k2, k3, k4, k5, Or.inr (Or.inr ⟨n, hn⟩)⟩
    · cases h
  · cases h
theorem sm_blind {bs : Nat} {cy : Nat → ClassId} {ad : Nat → Nat} {fm : Value} {Dg : va_G} {Ls : Nat} {xs : Nat → Int32} {as : List Value} {w : mm_W} : FrameBlind (sm_Pc bs cy ad fm Dg Ls xs as w) := fun a U g mk h => by
  obtain ⟨h1, h2, h3, h4⟩ := h
  exact ⟨h1, h2.same rfl rfl, h3, h4⟩
theorem sm_wmap {ad : Nat → Nat} {fm : Value} (v : Option Value) (rest : List Value) : (v.map (sm_v ad fm)).toList ++ rest.map (sm_v ad fm) = (v.toList ++ rest).map (sm_v ad fm) := by
  cases v <;> simp
set_option maxHeartbeats 8000000 in
set_option maxRecDepth 100000 in
theorem sm_main (l : Launch) {bs : Nat} {cy : Nat → ClassId} {ad : Nat → Nat} {fm : Value} {Dg : va_G} {Ls : Nat} {xs : Nat → Int32} (had : ∀ j, 14 ≤ j → ad j = bs + (j - 14)) : ∀ (f d y i : Nat) (L : mm_L) (st : List Value) (w : mm_W) (v : Option Value) (w' : mm_W), mm_exec f d y i L st w = some (v, w') → ∀ (ml : Nat) (RT : List (List mm_R)), mm_T y = some (ml, RT) →
    ∀ (p : Program) (e : Env) (R : Room) (s : State) (m : MethodId) (args : Array Value) (below : List Frame) (meth : Method) (c : Code) (H : Heap) (locs : List Loc) (cells slots : Nat) (Q : State → Prop) (ls : Array Slot) (r : mm_R), mm_rw (mm_rows y) i = some r → sm_En p R s m args meth c (mm_I y) ml d → sm_St bs cy ad fm Dg Ls xs s → sm_wf Ls xs w.1 → s.heap.size + cells = bs + (w.1.length - 14) → bs ≤ s.heap.size → sm_l ad fm ls L → L.length = ml → va_P Dg vwCl (sm_w bs cy ad fm w) H → va_S (sm_A bs) s.heap H locs → (cells + (w'.1.length - w.1.length) ≤ R.cells ∧ slots + (sm_sz w'.1 - sm_sz w.1) ≤ R.slots) →
    (∀ (H1 : Heap) (locs1 : List Loc) (ls1 : Array Slot) (i1 h1 : Nat) (r1 : mm_R), sm_wf Ls xs w'.1 → va_P Dg vwCl (sm_w bs cy ad fm w') H1 → va_S (sm_A bs) s.heap H1 locs1 → mm_ok (mm_I y) (mm_rows y) i1 h1 r1 = true → mm_ret r1 v.toList = some v → W p l e R s m args below meth c H1 locs1 (cells + (w'.1.length - w.1.length)) (slots + (sm_sz w'.1 - sm_sz w.1)) Q (F0 m r1.2.1.1 ls1 (v.toList.map (sm_v ad fm)))) →
    W p l e R s m args below meth c H locs cells slots Q (F0 m r.2.1.1 ls (st.map (sm_v ad fm))) := by
  intro f
  induction f with
  | zero => intro d y i L st w v w' h; simp [mm_exec] at h
  | succ f ih =>
    intro d y i L st w v w' h ml RT hT p e R s m args below meth c H locs cells slots Q ls r hr hE hSt hwf hn hbs hl hL hP hS hroom K
    obtain ⟨hh, ok⟩ := mm_aall y i r hr
    have hls : c.maxLocals = ls.size := by rw [hE.2.2.2.1, hl.1, hL]
    have h14 := hwf.len
    rw [mm_exec, hr] at h
    dsimp only at h
    cases hs : mm_stp r i L st w with
    | some c1 =>
      obtain ⟨i1, L1, st1, w1⟩ := c1
      rw [hs] at h
      dsimp only at h
      have m1 := mm_stp_mono hs
      have m2 := mm_exec_mono _ _ _ _ _ _ _ _ h
      dsimp only at m1 m2
      obtain ⟨r1, hr1⟩ := mm_exec_row h
      refine sm_step hE hSt hwf had hn hbs hls hl hP hS ok hs hr1 ⟨by omega, by omega⟩ (fun H1 locs1 ls1 g1 g2 g3 g4 g5 => ?_)
      refine ih d y i1 L1 st1 w1 v w' h ml RT hT p e R s m args below meth c H1 locs1 _ _ Q ls1 r1 hr1 hE hSt g1 (by omega) hbs g2 (by rw [g3, hL]) g4 g5 ⟨by omega, by omega⟩ (fun H2 locs2 ls2 i2 h2 r2 q1 q2 q3 q4 q5 => ?_)
      exact W.cs (by omega) (by omega) (K H2 locs2 ls2 i2 h2 r2 q1 q2 q3 q4 q5)
    | none =>
      rw [hs] at h
      dsimp only at h
      cases hv : mm_ret r st with
      | some v0 =>
        rw [hv] at h
        cases h
        have e1 := sm_ret_inv hv
        have k1 := K H locs ls i hh r hwf hP hS ok (by rw [← e1]; exact hv)
        rw [Nat.sub_self, Nat.sub_self, Nat.add_zero, Nat.add_zero] at k1
        rw [e1]
        exact k1
      | none =>
        rw [hv] at h
        dsimp only at h
        cases d with
        | zero => cases h
        | succ d =>
          dsimp only at h
          cases hc : mm_cl r st with
          | none => rw [hc] at h; cases h
          | some q =>
            obtain ⟨y', as, rest⟩ := q
            rw [hc] at h
            dsimp only at h
            cases hrc : mm_rc r y' as w with
            | false => rw [hrc] at h; cases h
            | true =>
            rw [hrc] at h
            dsimp only at h
            cases ht : mm_T y' with
            | none => rw [ht] at h; cases h
            | some t =>
              obtain ⟨ml', RT'⟩ := t
              rw [ht] at h
              dsimp only at h
              cases hu : mm_exec f d y' 0 (mm_ent ml' as) [] w with
              | none => rw [hu] at h; cases h
              | some u =>
                obtain ⟨v1, w1⟩ := u
                rw [hu] at h
                dsimp only at h
                have m1 := mm_exec_mono _ _ _ _ _ _ _ _ hu
                have m2 := mm_exec_mono _ _ _ _ _ _ _ _ h
                dsimp only at m1 m2
                obtain ⟨r1, hr1⟩ := mm_exec_row h
                obtain ⟨r0, hr0⟩ := mm_exec_row hu
                obtain ⟨c1, c2, c3, c4, c5, c6⟩ := mm_cl_inv hc
                have hfm := hSt.2.2.2.2.2.2.2.2.2
                have hfc := sm_St_fm hSt
                have hnx := (mm_ok_d ok).2
                have hdd := (mm_ok_d ok).1
                have hpc1 := mm_pcis_at hnx hr1
                unfold mm_rc at hrc
                rw [ht] at hrc
                simp only [Bool.and_eq_true] at hrc
                obtain ⟨⟨⟨hy1, hy2⟩, hy3, hy4⟩, hy5⟩ := hrc
                have hy1 : y' < 203 := mm_blt hy1
                have hy2 : y' < 2 ∨ 4 < y' := by
                  rw [Bool.or_eq_true] at hy2
                  rcases hy2 with h | h
                  · exact Or.inl (mm_blt h)
                  · exact Or.inr (mm_blt h)
                have hy3 : (mm_sl as).length ≤ ml' := Nat.le_of_ble_eq_true hy3
                have hy4 : ml' ≤ 45 := Nat.le_of_ble_eq_true hy4
                obtain ⟨a1, a2, a3, a4, hm⟩ := mm_mall y' hy1 hy2
                unfold mm_okm at hm
                rw [ht] at hm
                simp only [Bool.and_eq_true, Bool.or_eq_true, decide_eq_true_eq] at hm
                obtain ⟨⟨⟨⟨⟨n1, n2⟩, n3⟩, n4⟩, n5⟩, n6⟩ := hm
                obtain ⟨rk1, rk2, rk3⟩ := sm_rkc y' hy1
                have hpc0 : r0.2.1.1 = 0 := by
                  have := sm_pc0 y' (by omega)
                  rw [hr0] at this
                  exact Option.some.inj this
                have hM : Met l (mm_I y').1 (Cond.code (mm_I y').1 (mm_I y').2.1 ml' (mm_I y').2.2 :: mm_good) (sm_rm d (w1.1.length - w.1.length) (sm_sz w1.1 - sm_sz w.1)) (sm_Pc bs cy ad fm Dg Ls xs as w) (sm_Q bs cy ad fm Dg Ls xs w1 v1) (w1.1.length - w.1.length) (sm_sz w1.1 - sm_sz w.1) (sm_A bs) := by
                  refine Met.ofW (cc := (mm_I y').2.1) (maxL := ml') (ret := (mm_I y').2.2) n3 rfl ?_
                  intro p e s m args below meth c s₁ B hml hv
                  obtain ⟨rfl, hSt', hsz, hP'⟩ := hv
                  have hts := atoms_spec (ws := Cond.code (mm_I y').1 (mm_I y').2.1 ml' (mm_I y').2.2 :: mm_good) B.pre
                  have hent := lv_entry (as.map (sm_v ad fm)) (n := ml') (by rw [sm_ent_len hfc]; exact hy3)
                  rw [lg_entry_eq]
                  generalize (lg_sl (as.map (sm_v ad fm)) ++ List.replicate (ml' - (lg_sl (as.map (sm_v ad fm))).length) Slot.unset).toArray = ls0 at hent ⊢
                  have hLl : (mm_ent ml' as).length = ml' := by
                    unfold mm_ent
                    rw [List.length_append, List.length_replicate]
                    omega
                  have hl0 : sm_l ad fm ls0 (mm_ent ml' as) := by
                    refine ⟨by rw [hLl]; exact hent.1, hent.2.1, fun j u hju => ?_⟩
                    have hj2 : mm_ld (mm_sl as) j = some u := by
                      unfold mm_ent mm_ld at hju
                      unfold mm_ld
                      by_cases hjl : j < (mm_sl as).length
                      · rw [List.getElem?_append_left hjl] at hju
                        exact hju
                      · rw [List.getElem?_append_right (by omega), List.getElem?_replicate] at hju
                        split at hju
                        · rename_i o ho
                          split at ho
                          · cases ho; cases hju
                          · cases ho
                        · cases hju
                    have := hent.2.2 _ (sm_ent_ld (ad := ad) hfc as 0 j u hj2)
                    rw [Nat.zero_add] at this
                    exact this
                  have g := ih d y' 0 (mm_ent ml' as) [] w v1 w1 hu ml' RT' ht p e (sm_rm d (w1.1.length - w.1.length) (sm_sz w1.1 - sm_sz w.1)) s m (as.map (sm_v ad fm)).toArray below meth c s.heap [] 0 0 (MQ below (sm_Q bs cy ad fm Dg Ls xs w1 v1) (as.map (sm_v ad fm)).toArray s (w1.1.length - w.1.length) (sm_sz w1.1 - sm_sz w.1) (sm_A bs)) ls0 r0 hr0
                    ⟨B.exec, B.bytes, B.returns, hml, findClass_of_methodNamed B.named, fun x hx => hts x (List.mem_cons_of_mem _ hx), B.notSynchronized, (fun hz => (name_of_methodNamed B.named B.method).1.trans hz), Nat.le_refl _, Nat.le_refl _⟩ hSt' hwf (by rw [hsz]; omega) (by rw [hsz]; omega) hl0 hLl hP' va_S.rf ⟨by show 0 + _ ≤ w1.1.length - w.1.length; omega, by show 0 + _ ≤ sm_sz w1.1 - sm_sz w.1; omega⟩
                    (fun H1 locs1 ls1 i1 h1 r1 q1 q2 q3 q4 q5 => by
                      rw [Nat.zero_add, Nat.zero_add]
                      exact sm_end (Y := mm_I y') (ml := ml') (d := d) ⟨B.exec, B.bytes, B.returns, hml, findClass_of_methodNamed B.named, fun x hx => hts x (List.mem_cons_of_mem _ hx), B.notSynchronized, (fun hz => (name_of_methodNamed B.named B.method).1.trans hz), Nat.le_refl _, Nat.le_refl _⟩ hfm q1 q2 q3 q4 q5)
                  rw [hpc0] at g
                  exact g
                have hgo : r.2.1.2 = 3 → ∀ (H1 : Heap) (locs1 : List Loc), sm_wf Ls xs w1.1 → va_P Dg vwCl (sm_w bs cy ad fm w1) H1 → va_S (sm_A bs) s.heap H1 locs1 → W p l e R s m args below meth c H1 locs1 (cells + (w1.1.length - w.1.length)) (slots + (sm_sz w1.1 - sm_sz w.1)) Q (F0 m (r.2.1.1 + 3) ls ((v1.map (sm_v ad fm)).toList ++ rest.map (sm_v ad fm))) := by
                  intro g4 H1 locs1 g3 g1 g2
                  rw [sm_wmap]
                  have g := ih (d + 1) y (i + 1) L (v1.toList ++ rest) w1 v w' h ml RT hT p e R s m args below meth c H1 locs1 (cells + (w1.1.length - w.1.length)) (slots + (sm_sz w1.1 - sm_sz w.1)) Q ls r1 hr1 hE hSt g3 (by omega) hbs hl hL g1 g2 ⟨by omega, by omega⟩ (fun H2 locs2 ls2 i2 h2 r2 q1 q2 q3 q4 q5 => W.cs (by omega) (by omega) (K H2 locs2 ls2 i2 h2 r2 q1 q2 q3 q4 q5))
                  rw [hpc1, g4] at g
                  exact g
                refine sm_sized (fun hsz => ?_)
                have hHs : H.size = bs + (w.1.length - 14) := by
                  rcases Nat.lt_or_ge 14 w.1.length with h5 | h5
                  · have := sm_last hP h5
                    omega
                  · have := hS.1
                    omega
                obtain ⟨hx, hb, hrr, hml, hown, hts, hlocks, hnm, hfr, hlo⟩ := id hE
                have hwd8 : ((rest.map (sm_v ad fm)).map (fun v => v.category)).sum ≤ 8 := by rw [sm_wdc hfc]; exact c3
                have hroomc : (sm_rm d (w1.1.length - w.1.length) (sm_sz w1.1 - sm_sz w.1)).frames + 1 ≤ R.frames ∧ 8 + (ml' + 11) + (sm_rm d (w1.1.length - w.1.length) (sm_sz w1.1 - sm_sz w.1)).locals ≤ R.locals := ⟨by show d + 1 + 1 ≤ _; exact hfr, by show 8 + (ml' + 11) + 64 * (d + 1) ≤ _; omega⟩
                have hPcU : ∀ U : State, U.heap = H → s.WarmedH U.vm → sm_Pc bs cy ad fm Dg Ls xs as w (as.map (sm_v ad fm)).toArray U := fun U hU hW => ⟨rfl, hSt.warm hW hU hS, by rw [hU]; exact hHs, by rw [hU]; exact hP⟩
                have hrm2 : cells + (w1.1.length - w.1.length) ≤ R.cells ∧ slots + (sm_sz w1.1 - sm_sz w.1) ≤ R.slots := ⟨by omega, by omega⟩
                have hwsin : ∀ x ∈ (Cond.code (mm_I y').1 (mm_I y').2.1 ml' (mm_I y').2.2 :: mm_good), x ∈ mm_good := fun x hx => by
                  rcases List.mem_cons.mp hx with rfl | hx
                  · exact mm_has_mem n1
                  · exact hx
                clear ih hr hs hv hc h hu hT K hnx hpc1 hr1 hr0
                obtain ⟨ins, ⟨pc, len⟩, ⟨a, b, c0⟩, ⟨z, zz⟩, ts⟩ := r
                unfold mm_ok at ok
                rw [Bool.and_eq_true] at ok
                replace ok := ok.2
                dsimp only at ok hdd c2 c4 c5 c6 hgo hy5 ⊢
                subst c5
                subst c1
                rcases c6 with ⟨n, rfl⟩ | ⟨n, rfl⟩ | ⟨n, rfl⟩
                · dsimp only at ok hy5
                  rw [Bool.and_eq_true, decide_eq_true_eq] at ok
                  obtain ⟨rfl, ok⟩ := ok
                  have hc01 : c0 = 1 := by
                    rcases (show c0 = 0 ∨ c0 = 1 ∨ c0 = 2 ∨ c0 = 3 by omega) with rfl | rfl | rfl | rfl
                    · exact absurd (show Nat.ble 4 0 = true from ok) (by decide)
                    · rfl
                    · exact absurd (show Nat.ble 4 2 = true from ok) (by decide)
                    · exact absurd (show Nat.ble 4 3 = true from ok) (by decide)
                  subst hc01
                  simp only [Bool.and_eq_true, decide_eq_true_eq] at ok
                  obtain ⟨⟨o1, o2⟩, o3⟩ := ok
                  split at hy5
                  · rename_i x as' hz9
                    cases hxq : w.1[x]? with
                    | none => rw [hxq] at hy5; cases hy5
                    | some D =>
                      rw [hxq] at hy5
                      dsimp only at hy5
                      simp only [Bool.or_eq_true, Bool.and_eq_true, beq_iff_eq] at hy5
                      have hx13 : x ≠ 13 := by
                        intro e
                        subst e
                        have := hwf.old hxq (by decide)
                        cases this
                        rcases hy5 with ⟨h6, -⟩ | ⟨h6, -⟩ <;> cases h6
                      have hsel := (sm_kda y' hy1 hy2).2.2 (by
                        rcases hy5 with ⟨-, h6, h7⟩ | ⟨-, h6⟩
                        · have h7 : D.2.1 < 10 := mm_blt h7
                          omega
                        · omega)
                      have hrecv : ∃ cellB : Cell, H[ad x]? = some cellB ∧ cellB.vm.isStatics = false ∧ s.vm.findClass (mm_I y').1.cls = some cellB.cls := by
                        rcases hy5 with ⟨h6, h7, h8⟩ | ⟨h6, h7⟩
                        · obtain ⟨t, n0, ff, rs⟩ := D
                          have h6 : t = 0 := h6
                          have h7 : n0 = mm_rk y' := h7
                          subst h6
                          have hx14 : 14 ≤ x := hwf.new hxq (by show 0 ≤ 6; decide)
                          have hn0 : n0 < 10 := mm_blt h8
                          obtain ⟨C, T, N, k1, k2, -⟩ := sm_cls n0 hn0
                          have hC := rk1 (by rw [← h7]; exact hn0)
                          rw [← h7, k2] at hC
                          rw [had x hx14, ← hC]
                          exact va_recv hSt.1 hP (q := (C, T, N)) k1 (sm_get hxq hx14)
                        · have hO := hwf.rd hxq (by rw [h6]; decide)
                          obtain ⟨cell, e1, e2, e3, -⟩ := ((hSt.2.2.2.2.2.2.2.2.1 x D hO h6).1).kept hS.2.1
                          rw [rk2 h7]
                          exact ⟨cell, e1, e2, e3⟩
                      have hst : ((Value.ref x :: as').reverse ++ rest).map (sm_v ad fm) = (as'.map (sm_v ad fm)).reverse ++ .ref (ad x) :: rest.map (sm_v ad fm) := by
                        simp [sm_ref hx13]
                      rw [hst]
                      refine sm_callg (va_runV (C := (mm_I y').1.cls) (As := as'.map (sm_v ad fm)) (rest := rest.map (sm_v ad fm)) (b := ad x) (n := b - 1) (nL := ls.size) ⟨hx, hb, hls, hown, hts⟩ hM (cwV (b - 1) hts (sm_good_in (fun x hx => ?_)) rfl rfl rfl ⟨rfl, n4, n5, o2⟩ hroomc) ⟨sm_blind, hrecv, ?_⟩ rfl ?_ rfl rfl (lv_room hwd8) hdd hrm2) hS (hgo rfl)
                      · rcases List.mem_append.mp hx with hx | hx
                        · simp only [List.mem_cons, List.not_mem_nil, or_false] at hx
                          rcases hx with rfl | rfl | rfl | rfl
                          · exact mm_has_mem o1
                          · exact hsel.1
                          · exact hsel.2
                          · exact mm_has_mem n2
                        · exact hwsin x hx
                      · intro U hU hW
                        have g := hPcU U hU hW
                        rw [List.map_cons, sm_ref hx13] at g
                        exact g
                      · rw [List.length_map]
                        have : as'.length + 1 = b := c2
                        omega
                  · cases hy5
                · dsimp only at ok hy5
                  rw [Bool.and_eq_true, decide_eq_true_eq] at ok
                  obtain ⟨rfl, ok⟩ := ok
                  have hc01 : c0 = 0 := by
                    rcases (show c0 = 0 ∨ c0 = 1 ∨ c0 = 2 ∨ c0 = 3 by omega) with rfl | rfl | rfl | rfl
                    · rfl
                    · exact absurd (show Nat.ble 4 1 = true from ok) (by decide)
                    · exact absurd (show Nat.ble 4 2 = true from ok) (by decide)
                    · exact absurd (show Nat.ble 4 3 = true from ok) (by decide)
                  subst hc01
                  simp only [Bool.and_eq_true, decide_eq_true_eq] at ok
                  obtain ⟨o1, o2⟩ := ok
                  have hsel := (sm_kda y' hy1 hy2).1 (by simpa using hy5)
                  have hst : (as.reverse ++ rest).map (sm_v ad fm) = (as.map (sm_v ad fm)).reverse ++ rest.map (sm_v ad fm) := by simp
                  rw [hst]
                  refine sm_callg (va_runS (As := as.map (sm_v ad fm)) (rest := rest.map (sm_v ad fm)) (n := b) (nL := ls.size) ⟨hx, hb, hls, hown, hts⟩ hM (va_cwS b hts (sm_good_in (fun x hx => ?_)) rfl rfl rfl ⟨n4, n5, o2⟩ hroomc) ⟨sm_blind, hPcU⟩ rfl (by rw [List.length_map]; exact c2) rfl rfl (lv_room hwd8) hdd hrm2) hS (hgo rfl)
                  rcases List.mem_append.mp hx with hx | hx
                  · simp only [List.mem_cons, List.not_mem_nil, or_false] at hx
                    rcases hx with rfl | rfl | rfl
                    · exact mm_has_mem o1
                    · exact hsel
                    · exact mm_has_mem n2
                  · exact hwsin x hx
                · dsimp only at ok hy5
                  rw [Bool.and_eq_true, decide_eq_true_eq] at ok
                  obtain ⟨rfl, ok⟩ := ok
                  split at hy5
                  · rename_i x as' hz9
                    cases hxq : w.1[x]? with
                    | none => rw [hxq] at hy5; cases hy5
                    | some D =>
                      rw [hxq] at hy5
                      simp only [Bool.and_eq_true, beq_iff_eq] at hy5
                      have hx13 : x ≠ 13 := by
                        intro e
                        subst e
                        have := hwf.old hxq (by decide)
                        cases this
                        cases hy5.1
                      have hst : ((Value.ref x :: as').reverse ++ rest).map (sm_v ad fm) = (as'.map (sm_v ad fm)).reverse ++ .ref (ad x) :: rest.map (sm_v ad fm) := by
                        simp [sm_ref hx13]
                      have hPcU2 : ∀ U : State, U.heap = H → s.WarmedH U.vm → sm_Pc bs cy ad fm Dg Ls xs (.ref x :: as') w (Value.ref (ad x) :: as'.map (sm_v ad fm)).toArray U := by
                        intro U hU hW
                        have g := hPcU U hU hW
                        rw [List.map_cons, sm_ref hx13] at g
                        exact g
                      have hlen2 : (as'.map (sm_v ad fm)).length = b - 1 := by
                        rw [List.length_map]
                        have : as'.length + 1 = b := c2
                        omega
                      have hsel := (sm_kda y' hy1 hy2).2.1 (by omega)
                      have hnone := rk3 hsel.2
                      rw [hnone] at hM hwsin
                      rw [hst]
                      rcases (show c0 = 0 ∨ c0 = 1 ∨ c0 = 2 ∨ c0 = 3 by omega) with rfl | rfl | rfl | rfl
                      · exact absurd (show Nat.ble 4 0 = true from ok) (by decide)
                      · exact absurd (show Nat.ble 4 1 = true from ok) (by decide)
                      · simp only [Bool.and_eq_true, decide_eq_true_eq] at ok
                        obtain ⟨⟨⟨o1, o2⟩, o3⟩, o4⟩ := ok
                        exact sm_callg (va_runI (As := as'.map (sm_v ad fm)) (rest := rest.map (sm_v ad fm)) (b := ad x) (n := b - 1) (nL := ls.size) ⟨hx, hb, hls, hown, hts⟩ hM (cwI (b - 1) hts (sm_good_in hwsin) rfl rfl rfl (hts _ (mm_has_mem n2)) (hts _ (mm_has_mem o1)) (hts _ hsel.1) hsel.2 ⟨n4, n5, o2⟩ hroomc) ⟨sm_blind, hPcU2⟩ rfl hlen2 rfl rfl (lv_room hwd8) hdd hrm2) hS (hgo rfl)
                      · simp only [Bool.and_eq_true, decide_eq_true_eq] at ok
                        obtain ⟨⟨⟨⟨o0, o1⟩, o2⟩, o3⟩, o4⟩ := ok
                        have hown2 := hown
                        rw [o0] at hown2
                        exact sm_callg (va_runIN (own := "GlobeCorner") (host := "GlobeCorner") (As := as'.map (sm_v ad fm)) (rest := rest.map (sm_v ad fm)) (b := ad x) (n := b - 1) (nL := ls.size) ⟨hx, hb, hls, hown2, hts⟩ hM ⟨va_cnB (b - 1) hts (sm_good_in hwsin) rfl rfl rfl (hSt.2.2.1 _ o1) (hts _ (mm_has_mem n2)) ⟨n4, n5, o2⟩ hroomc, hsel.2, hts _ hsel.1⟩ ⟨sm_blind, hPcU2⟩ rfl hlen2 rfl rfl (lv_room hwd8) hdd hrm2) hS (hgo rfl)
                  · cases hy5
