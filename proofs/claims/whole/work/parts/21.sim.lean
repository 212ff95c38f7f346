theorem mm_pf_mono {w w' : mm_W} {q a b c0 : Nat} {v : Value} (h : mm_pf w q a b c0 v = some w') : w.1.length = w'.1.length ∧ sm_sz w.1 = sm_sz w'.1 := by
  unfold mm_pf at h
  cases hq : w.1[q]? with
  | none => rw [hq] at h; cases h
  | some D =>
    obtain ⟨t, n, f, rs⟩ := D
    rw [hq] at h
    dsimp only at h
    split at h
    · cases h; exact ⟨rfl, rfl⟩
    · split at h
      · cases h; exact ⟨rfl, rfl⟩
      · cases h
    · cases h; exact ⟨rfl, rfl⟩
    · cases h; exact ⟨rfl, rfl⟩
    · rename_i y he0
      split at h
      · cases h; exact ⟨by rw [List.length_set], (sm_sz_set w.1 q (t, n, f, rs) (t, n, f, rs.set b (some y)) hq rfl rfl).symm⟩
      · cases h
    · cases h
theorem mm_aas_mono {w w' : mm_W} {q x : Nat} {j : Int32} (h : mm_aas w q j x = some w') : w.1.length = w'.1.length ∧ sm_sz w.1 = sm_sz w'.1 := by
  unfold mm_aas at h
  cases hq : w.1[q]? with
  | none => rw [hq] at h; cases h
  | some D =>
    cases hq2 : w.1[x]? with
    | none => rw [hq, hq2] at h; cases h
    | some D2 =>
      obtain ⟨t, n, f, rs⟩ := D
      rw [hq, hq2] at h
      dsimp only at h
      split at h
      · cases h
      · split at h
        · cases h; exact ⟨by rw [List.length_set], (sm_sz_set w.1 q (t, n, f, rs) (t, n, f, rs.set j.toNatClampNeg (some x)) hq rfl rfl).symm⟩
        · cases h
theorem mm_ias_mono {w w' : mm_W} {q : Nat} {j x : Int32} (h : mm_ias w q j x = some w') : w.1 = w'.1 := by
  unfold mm_ias at h
  split at h
  · split at h
    · cases h
    · split at h
      · cases h; rfl
      · cases h
  · cases h
theorem mm_bas_mono {w w' : mm_W} {q : Nat} {j x : Int32} (h : mm_bas w q j x = some w') : w.1 = w'.1 := by
  unfold mm_bas at h
  split at h
  · split at h
    · cases h
    · split at h
      · cases h; rfl
      · cases h; rfl
      · cases h
  · cases h
theorem mm_las_mono {w w' : mm_W} {q : Nat} {j : Int32} {x : Int64} (h : mm_las w q j x = some w') : w.1 = w'.1 := by
  unfold mm_las at h
  split at h
  · split at h
    · cases h
    · split at h
      · cases h; rfl
      · cases h
  · cases h
theorem mm_cp_mono {w w' : mm_W} {st st' : List Value} (h : mm_cp st w = some (st', w')) : w.1 = w'.1 := by
  unfold mm_cp at h
  split at h
  · split at h
    · split at h
      · cases h
      · split at h
        · cases h; rfl
        · cases h; rfl
        · cases h
    · cases h
  · cases h
theorem mm_new_mono (w : mm_W) (d : mm_D) : w.1.length ≤ (mm_new w d).1.length ∧ sm_sz w.1 ≤ sm_sz (mm_new w d).1 := by
  refine ⟨?_, ?_⟩
  · show w.1.length ≤ (w.1 ++ [d]).length
    rw [List.length_append]; omega
  · show sm_sz w.1 ≤ sm_sz (w.1 ++ [d])
    rw [sm_sz_push]; omega
set_option maxHeartbeats 4000000 in
theorem mm_he_mono {r : mm_R} {st st' : List Value} {w w' : mm_W} (h : mm_he r st w = some (st', w')) : w.1.length ≤ w'.1.length ∧ sm_sz w.1 ≤ sm_sz w'.1 := by
  have eqs : ∀ {a b : mm_W}, a.1 = b.1 → a.1.length ≤ b.1.length ∧ sm_sz a.1 ≤ sm_sz b.1 := fun h => by rw [h]; exact ⟨Nat.le_refl _, Nat.le_refl _⟩
  have eq2 : ∀ {a b : mm_W}, a.1.length = b.1.length ∧ sm_sz a.1 = sm_sz b.1 → a.1.length ≤ b.1.length ∧ sm_sz a.1 ≤ sm_sz b.1 := fun h => ⟨Nat.le_of_eq h.1, Nat.le_of_eq h.2⟩
  obtain ⟨ins, ⟨pc, len⟩, ⟨a, b, c0⟩, ⟨z, zz⟩, ts⟩ := r
  unfold mm_he at h
  dsimp only at h
  cases ins
  case getfield n =>
    dsimp only at h
    split at h
    · split at h
      · cases h; exact eqs rfl
      · cases h
    · cases h
  case putfield n =>
    dsimp only at h
    split at h
    · split at h
      · rename_i hp; cases h; exact eq2 (mm_pf_mono hp)
      · cases h
    · cases h
  case iaload =>
    dsimp only at h
    split at h
    · split at h
      · cases h; exact eqs rfl
      · cases h
    · cases h
  case baload =>
    dsimp only at h
    split at h
    · split at h
      · cases h; exact eqs rfl
      · cases h
    · cases h
  case laload =>
    dsimp only at h
    split at h
    · split at h
      · cases h; exact eqs rfl
      · cases h
    · cases h
  case aaload =>
    dsimp only at h
    split at h
    · split at h
      · cases h; exact eqs rfl
      · cases h
    · cases h
  case iastore =>
    dsimp only at h
    split at h
    · split at h
      · rename_i hp; cases h; exact eqs (mm_ias_mono hp)
      · cases h
    · cases h
  case bastore =>
    dsimp only at h
    split at h
    · split at h
      · rename_i hp; cases h; exact eqs (mm_bas_mono hp)
      · cases h
    · cases h
  case lastore =>
    dsimp only at h
    split at h
    · split at h
      · rename_i hp; cases h; exact eqs (mm_las_mono hp)
      · cases h
    · cases h
  case aastore =>
    dsimp only at h
    split at h
    · split at h
      · rename_i hp; cases h; exact eq2 (mm_aas_mono hp)
      · cases h
    · cases h
  case arraylength =>
    dsimp only at h
    split at h
    · split at h
      · cases h; exact eqs rfl
      · cases h
    · cases h
  case new n => cases h; exact mm_new_mono w _
  case newarray n =>
    dsimp only at h
    split at h
    · split at h
      · cases h
      · cases h; exact mm_new_mono w _
    · cases h
  case anewarray n =>
    dsimp only at h
    split at h
    · split at h
      · cases h
      · cases h; exact mm_new_mono w _
    · cases h
  case invokespecial n =>
    dsimp only at h
    split at h
    · split at h
      · cases h; exact eqs rfl
      · cases h
    · cases h
  case invokestatic n =>
    dsimp only at h
    split at h
    · exact eqs (mm_cp_mono h)
    · split at h
      · split at h
        · cases h; exact eqs rfl
        · cases h
      · cases h
    · split at h
      · split at h
        · cases h; exact eqs rfl
        · cases h
      · cases h
    · split at h
      · split at h
        · cases h; exact eqs rfl
        · cases h
      · cases h
    · cases h
  all_goals cases h
theorem mm_stp_mono {r : mm_R} {i : Nat} {L : mm_L} {st : List Value} {w : mm_W} {c : mm_C} (h : mm_stp r i L st w = some c) : w.1.length ≤ c.2.2.2.1.length ∧ sm_sz w.1 ≤ sm_sz c.2.2.2.1 := by
  unfold mm_stp at h
  split at h
  · cases h; exact ⟨Nat.le_refl _, Nat.le_refl _⟩
  · split at h
    · cases h; exact ⟨Nat.le_refl _, Nat.le_refl _⟩
    · split at h
      · cases h; exact ⟨Nat.le_refl _, Nat.le_refl _⟩
      · split at h
        · rename_i hp; cases h; exact mm_he_mono hp
        · cases h
theorem mm_exec_mono : ∀ (f d y i : Nat) (L : mm_L) (st : List Value) (w : mm_W) (x : Option Value × mm_W), mm_exec f d y i L st w = some x → w.1.length ≤ x.2.1.length ∧ sm_sz w.1 ≤ sm_sz x.2.1 := by
  intro f
  induction f with
  | zero => intro d y i L st w x h; simp [mm_exec] at h
  | succ f ih =>
    intro d y i L st w x h
    rw [mm_exec] at h
    cases hr : mm_rw (mm_rows y) i with
    | none => rw [hr] at h; cases h
    | some r =>
      rw [hr] at h
      dsimp only at h
      cases hs : mm_stp r i L st w with
      | some c =>
        rw [hs] at h
        have a1 := mm_stp_mono hs
        have a2 := ih _ _ _ _ _ _ _ h
        exact ⟨Nat.le_trans a1.1 a2.1, Nat.le_trans a1.2 a2.2⟩
      | none =>
        rw [hs] at h
        dsimp only at h
        cases hv : mm_ret r st with
        | some v => rw [hv] at h; cases h; exact ⟨Nat.le_refl _, Nat.le_refl _⟩
        | none =>
          rw [hv] at h
          dsimp only at h
          cases d with
          | zero => cases h
          | succ d =>
            dsimp only at h
            cases hc : mm_cl r st with
            | none => rw [hc] at h; cases h
            | some q =>
              rw [hc] at h
              dsimp only at h
              cases hrc : mm_rc r q.1 q.2.1 w with
              | false => rw [hrc] at h; cases h
              | true =>
              rw [hrc] at h
              dsimp only at h
              cases ht : mm_T q.1 with
              | none => rw [ht] at h; cases h
              | some t =>
                rw [ht] at h
                dsimp only at h
                cases hu : mm_exec f d q.1 0 (mm_ent t.1 q.2.1) [] w with
                | none => rw [hu] at h; cases h
                | some u =>
                  rw [hu] at h
                  have a1 := ih _ _ _ _ _ _ _ hu
                  have a2 := ih _ _ _ _ _ _ _ h
                  exact ⟨Nat.le_trans a1.1 a2.1, Nat.le_trans a1.2 a2.2⟩
section
variable {p : Program} {l : Launch} {e : Env} {R : Room} {s : State} {m : MethodId} {args : Array Value} {below : List Frame} {meth : Method} {c : Code} {H : Heap} {locs : List Loc} {cells slots : Nat} {Q : State → Prop}
variable {bs : Nat} {cy : Nat → ClassId} {ad : Nat → Nat} {fm : Value} {Dg : va_G} {Ls : Nat} {xs : Nat → Int32} {Y : MethodName × ByteArray × Option FieldType} {RR : List (List mm_R)} {i i' hh ml d : Nat} {r r' : mm_R} {ls : Array Slot} {st st' : List Value} {L L' : mm_L} {w w' : mm_W}
set_option maxHeartbeats 8000000 in
set_option maxRecDepth 100000 in
theorem sm_he (hE : sm_En p R s m args meth c Y ml d) (hSt : sm_St bs cy ad fm Dg Ls xs s) (hwf : sm_wf Ls xs w.1) (had : ∀ j, 14 ≤ j → ad j = bs + (j - 14)) (hn : s.heap.size + cells = bs + (w.1.length - 14)) (hbs : bs ≤ s.heap.size) (hls : c.maxLocals = ls.size) (hP : va_P Dg vwCl (sm_w bs cy ad fm w) H) (hS : va_S (sm_A bs) s.heap H locs) (ok : mm_ok Y RR i hh r = true) (h : mm_he r st w = some (st', w')) (hroom : cells + (w'.1.length - w.1.length) ≤ R.cells ∧ slots + (sm_sz w'.1 - sm_sz w.1) ≤ R.slots)
    (k : ∀ (H1 : Heap) (locs1 : List Loc), sm_wf Ls xs w'.1 → va_P Dg vwCl (sm_w bs cy ad fm w') H1 → va_S (sm_A bs) s.heap H1 locs1 → W p l e R s m args below meth c H1 locs1 (cells + (w'.1.length - w.1.length)) (slots + (sm_sz w'.1 - sm_sz w.1)) Q (F0 m (r.2.1.1 + r.2.1.2) ls (st'.map (sm_v ad fm)))) : W p l e R s m args below meth c H locs cells slots Q (F0 m r.2.1.1 ls (st.map (sm_v ad fm))) := by
  have hd := (mm_ok_d ok).1
  have hfm := hSt.2.2.2.2.2.2.2.2.2
  have hfc := sm_St_fm hSt
  obtain ⟨ins, ⟨pc, len⟩, ⟨a, b, c0⟩, ⟨z, zz⟩, ts⟩ := r
  unfold mm_ok at ok
  rw [Bool.and_eq_true] at ok
  replace ok := ok.2
  unfold mm_he at h
  dsimp only at h ok hd k ⊢
  have same : ∀ (H1 : Heap) (locs1 : List Loc), sm_wf Ls xs w'.1 → w'.1.length = w.1.length → sm_sz w'.1 = sm_sz w.1 → va_P Dg vwCl (sm_w bs cy ad fm w') H1 → va_S (sm_A bs) s.heap H1 locs1 → W p l e R s m args below meth c H1 locs1 cells slots Q (F0 m (pc + len) ls (st'.map (sm_v ad fm))) := by
    intro H1 locs1 h1 h2 h3 h4 h5
    have k1 := k H1 locs1 h1 h4 h5
    rw [h2, h3, Nat.sub_self, Nat.sub_self, Nat.add_zero, Nat.add_zero] at k1
    exact k1
  cases ins
  case getfield n =>
    dsimp only at h ok
    rw [Bool.and_eq_true, decide_eq_true_eq] at ok
    obtain ⟨rfl, ok⟩ := ok
    split at h
    · split at h
      · rename_i hg
        cases h
        exact sm_gf hE hSt hwf had hP hS hd ok hg (same H locs hwf rfl rfl hP hS)
      · cases h
    · cases h
  case putfield n =>
    dsimp only at h ok
    rw [Bool.and_eq_true, Bool.and_eq_true, Bool.and_eq_true, Bool.and_eq_true, decide_eq_true_eq] at ok
    obtain ⟨⟨⟨⟨rfl, o1⟩, o2⟩, o3⟩, ok⟩ := ok
    split at h
    · split at h
      · rename_i hg
        cases h
        exact sm_pf hE hSt hwf had hP hS hd o1 o2 o3 ok hg (fun H1 locs1 g1 g2 g3 g4 g5 => same H1 locs1 g1 g2 g3 g4 g5)
      · cases h
    · cases h
  case iaload =>
    simp only [decide_eq_true_eq] at ok
    subst ok
    dsimp only at h
    split at h
    · split at h
      · rename_i hg
        cases h
        exact sm_ial hE hSt hwf had hP hS hd hg (same H locs hwf rfl rfl hP hS)
      · cases h
    · cases h
  case baload =>
    simp only [decide_eq_true_eq] at ok
    subst ok
    dsimp only at h
    split at h
    · split at h
      · rename_i hg
        cases h
        exact sm_bal hE hSt hwf had hP hS hd hg (same H locs hwf rfl rfl hP hS)
      · cases h
    · cases h
  case laload =>
    simp only [decide_eq_true_eq] at ok
    subst ok
    dsimp only at h
    split at h
    · split at h
      · rename_i hg
        cases h
        exact sm_lal hE hSt hwf had hP hd hg (same H locs hwf rfl rfl hP hS)
      · cases h
    · cases h
  case aaload =>
    simp only [decide_eq_true_eq] at ok
    subst ok
    dsimp only at h
    split at h
    · split at h
      · rename_i hg
        cases h
        exact sm_aal hE hSt hwf had hP hd hg (same H locs hwf rfl rfl hP hS)
      · cases h
    · cases h
  case iastore =>
    simp only [decide_eq_true_eq] at ok
    subst ok
    dsimp only at h
    split at h
    · split at h
      · rename_i hg
        cases h
        exact sm_ias hE hSt hwf had hP hS hd hg (fun H1 locs1 g1 g4 g5 => same H1 locs1 (by rw [g1]; exact hwf) (by rw [g1]) (by rw [g1]) g4 g5)
      · cases h
    · cases h
  case bastore =>
    simp only [decide_eq_true_eq] at ok
    subst ok
    dsimp only at h
    split at h
    · split at h
      · rename_i hg
        cases h
        exact sm_bas hE hSt hwf had hP hS hd hg (fun H1 locs1 g1 g4 g5 => same H1 locs1 (by rw [g1]; exact hwf) (by rw [g1]) (by rw [g1]) g4 g5)
      · cases h
    · cases h
  case lastore =>
    simp only [decide_eq_true_eq] at ok
    subst ok
    dsimp only at h
    split at h
    · split at h
      · rename_i hg
        cases h
        exact sm_las hE hSt hwf had hP hS hd hg (fun H1 locs1 g1 g4 g5 => same H1 locs1 (by rw [g1]; exact hwf) (by rw [g1]) (by rw [g1]) g4 g5)
      · cases h
    · cases h
  case aastore =>
    simp only [decide_eq_true_eq] at ok
    subst ok
    dsimp only at h
    split at h
    · split at h
      · rename_i hg
        cases h
        exact sm_aas hE hSt hwf had hP hS hd hg (fun H1 locs1 g1 g2 g3 g4 g5 => same H1 locs1 g1 g2 g3 g4 g5)
      · cases h
    · cases h
  case arraylength =>
    simp only [decide_eq_true_eq] at ok
    subst ok
    dsimp only at h
    split at h
    · split at h
      · rename_i hg
        cases h
        exact sm_al hE hSt hwf had hP hS hd hg (same H locs hwf rfl rfl hP hS)
      · cases h
    · cases h
  case new n =>
    dsimp only at h ok
    simp only [Bool.and_eq_true, decide_eq_true_eq] at ok
    obtain ⟨⟨rfl, o1⟩, o2⟩ := ok
    cases h
    have e1 : (mm_new w (0, a, (fun _ => 0), List.replicate (mm_N.getD a 0) none)).1.length - w.1.length = 1 := by
      show (w.1 ++ [_]).length - _ = 1
      rw [List.length_append]; simp
    have e2 : sm_sz (mm_new w (0, a, (fun _ => 0), List.replicate (mm_N.getD a 0) none)).1 - sm_sz w.1 = mm_N.getD a 0 := by
      show sm_sz (w.1 ++ [_]) - _ = _
      rw [sm_sz_push]; simp
    rw [e1, e2] at hroom k
    exact sm_nw hE hSt hwf had hn hbs hP hS hd o1 o2 hroom.1 hroom.2 (fun H1 g1 g2 g3 => k H1 locs g1 g2 g3)
  case newarray n =>
    dsimp only at h ok
    rw [Bool.and_eq_true, decide_eq_true_eq] at ok
    obtain ⟨rfl, ok⟩ := ok
    split at h
    · rename_i j s1
      split at h
      · cases h
      · rename_i hj
        cases h
        have ha : a ≠ 0 := by
          intro ha
          subst ha
          cases n <;> simp at ok
        have e1 : (mm_new w (a, j.toNatClampNeg, (fun _ => 0), [])).1.length - w.1.length = 1 := by
          show (w.1 ++ [_]).length - _ = 1
          rw [List.length_append]; simp
        have e2 : sm_sz (mm_new w (a, j.toNatClampNeg, (fun _ => 0), [])).1 - sm_sz w.1 = j.toNatClampNeg := by
          show sm_sz (w.1 ++ [_]) - _ = _
          rw [sm_sz_push]; simp [ha]
        rw [e1, e2] at hroom k
        exact sm_na hE hSt hwf had hn hbs hP hS hd (show mm_nok n a = true from ok) (fun z => hj (Or.inl z)) (Nat.not_lt.mp (fun z => hj (Or.inr z))) hroom.1 hroom.2 (fun H1 g1 g2 g3 => k H1 locs g1 g2 g3)
    · cases h
  case anewarray n =>
    dsimp only at h ok
    rw [Bool.and_eq_true, decide_eq_true_eq] at ok
    obtain ⟨rfl, ok⟩ := ok
    split at h
    · rename_i j s1
      split at h
      · cases h
      · rename_i hj
        cases h
        have ha : a ≠ 0 := by
          intro ha
          subst ha
          simp at ok
        have e1 : (mm_new w (a, j.toNatClampNeg, (fun _ => 0), List.replicate j.toNatClampNeg none)).1.length - w.1.length = 1 := by
          show (w.1 ++ [_]).length - _ = 1
          rw [List.length_append]; simp
        have e2 : sm_sz (mm_new w (a, j.toNatClampNeg, (fun _ => 0), List.replicate j.toNatClampNeg none)).1 - sm_sz w.1 = j.toNatClampNeg := by
          show sm_sz (w.1 ++ [_]) - _ = _
          rw [sm_sz_push]; simp [ha]
        rw [e1, e2] at hroom k
        exact sm_nq hE hSt hwf had hn hbs hP hS hd ok (fun z => hj (Or.inl z)) (Nat.not_lt.mp (fun z => hj (Or.inr z))) hroom.1 hroom.2 (fun H1 g1 g2 g3 => k H1 locs g1 g2 g3)
    · cases h
  case invokespecial n =>
    dsimp only at h ok
    rw [Bool.and_eq_true, decide_eq_true_eq] at ok
    obtain ⟨rfl, ok⟩ := ok
    split at h
    · split at h
      · rename_i c1 st1 x s1 b1 hw8
        cases h
        rw [Bool.and_eq_true] at hw8
        have hx13 : x ≠ 13 := by simpa using hw8.2
        have hw8 := Nat.le_of_ble_eq_true hw8.1
        have k1 := same H locs hwf rfl rfl hP hS
        obtain ⟨hx, hb, hr, hml, hown, hts, hlocks, hnm, hfr, hlo⟩ := hE
        rw [List.map_cons, sm_ref hx13]
        refine W.objInit hx hb hown (hts _ (mm_has_mem ok)) (hts _ sm_wo1) (hts _ sm_wo2) rfl hls.symm rfl hd (by omega) ?_ k1
        show 2 * 0 + _ + 12 ≤ _
        rw [sm_wdc hfc]
        omega
      · cases h
    · cases h
  case invokestatic n =>
    dsimp only at h ok
    rw [Bool.and_eq_true, decide_eq_true_eq] at ok
    obtain ⟨rfl, ok⟩ := ok
    split at h
    · exact sm_cp hE hSt hwf had hls hP hS hd ok h (fun H1 locs1 g1 g4 g5 => same H1 locs1 (by rw [g1]; exact hwf) (by rw [g1]) (by rw [g1]) g4 g5)
    · split at h
      · split at h
        · rename_i hw8
          cases h
          have hw8 := Nat.le_of_ble_eq_true hw8
          have k1 := same H locs hwf rfl rfl hP hS
          obtain ⟨hx, hb, hr, hml, hown, hts, hlocks, hnm, hfr, hlo⟩ := hE
          exact va_mmax hx hb hls hown (hts _ (mm_has_mem ok)) (hts _ sm_wmx1) (hts _ sm_wm) (hts _ sm_wmx2) (by omega) (by rw [sm_wdc hfc]; omega) (by omega) (by omega) hd k1
        · cases h
      · cases h
    · split at h
      · split at h
        · rename_i hw8
          cases h
          have hw8 := Nat.le_of_ble_eq_true hw8
          have k1 := same H locs hwf rfl rfl hP hS
          obtain ⟨hx, hb, hr, hml, hown, hts, hlocks, hnm, hfr, hlo⟩ := hE
          exact va_mmin hx hb hls hown (hts _ (mm_has_mem ok)) (hts _ sm_wmn1) (hts _ sm_wm) (hts _ sm_wmn2) (by omega) (by rw [sm_wdc hfc]; omega) (by omega) (by omega) hd k1
        · cases h
      · cases h
    · split at h
      · split at h
        · rename_i hw8
          cases h
          have hw8 := Nat.le_of_ble_eq_true hw8
          have k1 := same H locs hwf rfl rfl hP hS
          obtain ⟨hx, hb, hr, hml, hown, hts, hlocks, hnm, hfr, hlo⟩ := hE
          exact va_mabs_long hx hb hls hown (hts _ (mm_has_mem ok)) (hts _ sm_wma1) (hts _ sm_wm) (hts _ sm_wma2) (by omega) (by rw [sm_wdc hfc]; omega) (by omega) (by omega) hd k1
        · cases h
      · cases h
    · cases h
  all_goals cases h
end
