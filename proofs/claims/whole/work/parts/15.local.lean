theorem mm_blt {a b : Nat} (h : Nat.blt a b = true) : a < b := Nat.le_of_ble_eq_true h
theorem sm_fc {fm : Value} (h : fm = .null ∨ ∃ t, fm = .ref t) : fm.category = 1 := by
  rcases h with rfl | ⟨t, rfl⟩ <;> rfl
theorem sm_vr {ad : Nat → Nat} {fm : Value} (h : fm = .null ∨ ∃ t, fm = .ref t) (x : Nat) : sm_v ad fm (.ref x) = .null ∨ ∃ t, sm_v ad fm (.ref x) = .ref t := by
  simp only [sm_v]
  split
  · exact h
  · exact Or.inr ⟨_, rfl⟩
theorem sm_st1 {ad : Nat → Nat} {fm : Value} (hfm : fm.category = 1) {ls' : Array Slot} {L L' : mm_L} {a : Nat} {v : Value} (h : mm_st1 L a v = some L') (hh : lv_has ls' L.length ((a, sm_v ad fm v) :: (sm_as ad fm L).filter (fun q => !(q.1 == a) && !(q.1 + 1 == a && q.2.category == 2)))) : sm_l ad fm ls' L' ∧ L'.length = L.length := by
  unfold mm_st1 at h
  split at h
  · rename_i hg hb
    cases h
    have hlt : a < L.length := mm_blt hb
    refine ⟨⟨by rw [List.length_set]; exact hh.1, hh.2.1, fun j u hu => ?_⟩, List.length_set⟩
    rw [sm_ld_set] at hu
    by_cases hj : a = j
    · subst hj
      rw [if_pos ⟨rfl, hlt⟩] at hu
      cases hu
      exact hh.2.2 (a, sm_v ad fm v) List.mem_cons_self
    · rw [if_neg (fun q => hj q.1)] at hu
      refine hh.2.2 (j, sm_v ad fm u) (List.mem_cons_of_mem _ (List.mem_filter.mpr ⟨sm_as_mem hu, ?_⟩))
      simp only [Bool.and_eq_true, Bool.not_eq_true', beq_eq_false_iff_ne, ne_eq, Bool.and_eq_false_iff]
      refine ⟨fun q => hj q.symm, ?_⟩
      by_cases h1 : j + 1 = a
      · right
        rw [sm_v_cat hfm, sm_lg hg hu h1]
        decide
      · left; exact h1
  · cases h
theorem sm_st2 {ad : Nat → Nat} {fm : Value} (hfm : fm.category = 1) {ls' : Array Slot} {L L' : mm_L} {a : Nat} {v : Value} (h : mm_st2 L a v = some L') (hh : lv_has ls' L.length ((a, sm_v ad fm v) :: (sm_as ad fm L).filter (fun q => !(q.1 == a) && (!(q.1 == a + 1) && !(q.1 + 1 == a && q.2.category == 2))))) : sm_l ad fm ls' L' ∧ L'.length = L.length := by
  unfold mm_st2 at h
  split at h
  · rename_i hg hb
    cases h
    have hlt : a + 1 < L.length := mm_blt hb
    refine ⟨⟨by rw [List.length_set, List.length_set]; exact hh.1, hh.2.1, fun j u hu => ?_⟩, by rw [List.length_set, List.length_set]⟩
    rw [sm_ld_set, sm_ld_set, List.length_set] at hu
    by_cases hj2 : a + 1 = j
    · rw [if_pos ⟨hj2, hlt⟩] at hu; cases hu
    · rw [if_neg (fun q => hj2 q.1)] at hu
      by_cases hj : a = j
      · subst hj
        rw [if_pos ⟨rfl, by omega⟩] at hu
        cases hu
        exact hh.2.2 (a, sm_v ad fm v) List.mem_cons_self
      · rw [if_neg (fun q => hj q.1)] at hu
        refine hh.2.2 (j, sm_v ad fm u) (List.mem_cons_of_mem _ (List.mem_filter.mpr ⟨sm_as_mem hu, ?_⟩))
        simp only [Bool.and_eq_true, Bool.not_eq_true', beq_eq_false_iff_ne, ne_eq, Bool.and_eq_false_iff]
        refine ⟨fun q => hj q.symm, fun q => hj2 q.symm, ?_⟩
        by_cases h1 : j + 1 = a
        · right
          rw [sm_v_cat hfm, sm_lg hg hu h1]
          decide
        · left; exact h1
  · cases h
theorem sm_st1_lt {L L' : mm_L} {a : Nat} {v : Value} (h : mm_st1 L a v = some L') : a < L.length := by
  unfold mm_st1 at h
  split at h
  · rename_i hg hb
    exact mm_blt hb
  · cases h
theorem sm_st2_lt {L L' : mm_L} {a : Nat} {v : Value} (h : mm_st2 L a v = some L') : a + 1 < L.length := by
  unfold mm_st2 at h
  split at h
  · rename_i hg hb
    exact mm_blt hb
  · cases h
section
variable {p : Program} {l : Launch} {e : Env} {R : Room} {s : State} {m : MethodId} {args : Array Value} {below : List Frame} {meth : Method} {c : Code} {H : Heap} {locs : List Loc} {cells slots : Nat} {Q : State → Prop}
variable {bs : Nat} {cy : Nat → ClassId} {ad : Nat → Nat} {fm : Value} {Dg : va_G} {Ls : Nat} {xs : Nat → Int32} {Y : MethodName × ByteArray × Option FieldType} {RR : List (List mm_R)} {i hh ml d : Nat} {r : mm_R} {ls : Array Slot} {st st' : List Value} {L L' : mm_L}
set_option maxHeartbeats 4000000 in
set_option maxRecDepth 100000 in
theorem sm_lo (hE : sm_En p R s m args meth c Y ml d) (hfm : fm = .null ∨ ∃ t, fm = .ref t) (hl : sm_l ad fm ls L) (ok : mm_ok Y RR i hh r = true) (h : mm_lo r L st = some (L', st')) (k : ∀ ls', sm_l ad fm ls' L' → L'.length = L.length → W p l e R s m args below meth c H locs cells slots Q (F0 m (r.2.1.1 + r.2.1.2) ls' (st'.map (sm_v ad fm)))) : W p l e R s m args below meth c H locs cells slots Q (F0 m r.2.1.1 ls (st.map (sm_v ad fm))) := by
  obtain ⟨hx, hb, hr, hml, hown, hts, hlocks, hnm, hfr, hlo⟩ := hE
  have hd := (mm_ok_d ok).1
  have hfc := sm_fc hfm
  obtain ⟨ins, ⟨pc, len⟩, ⟨a, b, c0⟩, ⟨z, w⟩, ts⟩ := r
  unfold mm_ok at ok
  rw [Bool.and_eq_true] at ok
  replace ok := ok.2
  unfold mm_lo at h
  dsimp only at h ok hd k ⊢
  cases ins
  case iload n =>
    dsimp only at h ok
    simp only [Bool.and_eq_true, decide_eq_true_eq] at ok
    obtain ⟨rfl, rfl⟩ := ok
    split at h
    · rename_i x hv
      cases h
      exact lv_iload hx hb hd (hl.2.2 _ _ hv) (k ls hl rfl)
    · cases h
  case iload_n n =>
    dsimp only at h ok
    simp only [Bool.and_eq_true, decide_eq_true_eq] at ok
    obtain ⟨h1, rfl⟩ := ok
    split at h
    · rename_i x hv
      cases h
      exact lv_iload_n hx hb hd h1 (hl.2.2 _ _ hv) (k ls hl rfl)
    · cases h
  case lload n =>
    dsimp only at h ok
    simp only [Bool.and_eq_true, decide_eq_true_eq] at ok
    obtain ⟨rfl, rfl⟩ := ok
    split at h
    · rename_i x hv
      cases h
      exact lv_lload hx hb hd (hl.2.2 _ _ hv) (k ls hl rfl)
    · cases h
  case lload_n n =>
    dsimp only at h ok
    simp only [Bool.and_eq_true, decide_eq_true_eq] at ok
    obtain ⟨h1, rfl⟩ := ok
    split at h
    · rename_i x hv
      cases h
      exact lv_lload_n hx hb hd h1 (hl.2.2 _ _ hv) (k ls hl rfl)
    · cases h
  case aload n =>
    dsimp only at h ok
    simp only [Bool.and_eq_true, decide_eq_true_eq] at ok
    obtain ⟨rfl, rfl⟩ := ok
    split at h
    · rename_i x hv
      have hh1 := hl.2.2 _ _ hv
      have k1 := k ls
      cases h
      have k2 := k1 hl rfl
      rw [List.map_cons] at k2
      rcases sm_vr (ad := ad) hfm x with e1 | ⟨t, e1⟩
      · rw [e1] at hh1 k2
        exact lv_aloadN hx hb hd hh1 k2
      · rw [e1] at hh1 k2
        exact lv_aload hx hb hd hh1 k2
    · cases h
  case aload_n n =>
    dsimp only at h ok
    simp only [Bool.and_eq_true, decide_eq_true_eq] at ok
    obtain ⟨h1, rfl⟩ := ok
    split at h
    · rename_i x hv
      have hh1 := hl.2.2 _ _ hv
      have k1 := k ls
      cases h
      have k2 := k1 hl rfl
      rw [List.map_cons] at k2
      rcases sm_vr (ad := ad) hfm x with e1 | ⟨t, e1⟩
      · rw [e1] at hh1 k2
        exact lv_aload_nN hx hb hd h1 hh1 k2
      · rw [e1] at hh1 k2
        exact lv_aload_n hx hb hd h1 hh1 k2
    · cases h
  case istore n =>
    dsimp only at h ok
    simp only [Bool.and_eq_true, decide_eq_true_eq] at ok
    obtain ⟨rfl, rfl⟩ := ok
    split at h
    · split at h
      · rename_i x s1 o1 L1 hv
        cases h
        exact lv_istore hx hb hd hl.has (sm_st1_lt hv) rfl (fun ls' h1 => k ls' (sm_st1 hfc hv h1).1 (sm_st1 hfc hv h1).2)
      · cases h
    · cases h
  case istore_n n =>
    dsimp only at h ok
    simp only [Bool.and_eq_true, decide_eq_true_eq] at ok
    obtain ⟨h1, rfl⟩ := ok
    split at h
    · split at h
      · rename_i x s1 o1 L1 hv
        cases h
        exact lv_istore_n hx hb hd h1 hl.has (sm_st1_lt hv) rfl (fun ls' h1 => k ls' (sm_st1 hfc hv h1).1 (sm_st1 hfc hv h1).2)
      · cases h
    · cases h
  case lstore n =>
    dsimp only at h ok
    simp only [Bool.and_eq_true, decide_eq_true_eq] at ok
    obtain ⟨rfl, rfl⟩ := ok
    split at h
    · split at h
      · rename_i x s1 o1 L1 hv
        cases h
        exact lv_lstore hx hb hd hl.has (sm_st2_lt hv) rfl (fun ls' h1 => k ls' (sm_st2 hfc hv h1).1 (sm_st2 hfc hv h1).2)
      · cases h
    · cases h
  case astore n =>
    dsimp only at h ok
    simp only [Bool.and_eq_true, decide_eq_true_eq] at ok
    obtain ⟨rfl, rfl⟩ := ok
    split at h
    · split at h
      · rename_i x s1 o1 L1 hv
        cases h
        rw [List.map_cons]
        rcases sm_vr (ad := ad) hfm x with e1 | ⟨t, e1⟩
        · rw [e1]
          exact lv_astoreN hx hb hd hl.has (sm_st1_lt hv) rfl (fun ls' h1 => by
            rw [← e1] at h1
            exact k ls' (sm_st1 hfc hv h1).1 (sm_st1 hfc hv h1).2)
        · rw [e1]
          exact lv_astore hx hb hd hl.has (sm_st1_lt hv) rfl (fun ls' h1 => by
            rw [← e1] at h1
            exact k ls' (sm_st1 hfc hv h1).1 (sm_st1 hfc hv h1).2)
      · cases h
    · cases h
  case astore_n n =>
    dsimp only at h ok
    simp only [Bool.and_eq_true, decide_eq_true_eq] at ok
    obtain ⟨h1, rfl⟩ := ok
    split at h
    · split at h
      · rename_i x s1 o1 L1 hv
        cases h
        rw [List.map_cons]
        rcases sm_vr (ad := ad) hfm x with e1 | ⟨t, e1⟩
        · rw [e1]
          exact lv_astore_nN hx hb hd h1 hl.has (sm_st1_lt hv) rfl (fun ls' h1 => by
            rw [← e1] at h1
            exact k ls' (sm_st1 hfc hv h1).1 (sm_st1 hfc hv h1).2)
        · rw [e1]
          exact lv_astore_n hx hb hd h1 hl.has (sm_st1_lt hv) rfl (fun ls' h1 => by
            rw [← e1] at h1
            exact k ls' (sm_st1 hfc hv h1).1 (sm_st1 hfc hv h1).2)
      · cases h
    · cases h
  case iinc n z1 =>
    dsimp only at h ok
    simp only [Bool.and_eq_true, decide_eq_true_eq] at ok
    obtain ⟨⟨rfl, h2⟩, rfl⟩ := ok
    split at h
    · split at h
      · rename_i x hx1 o1 L1 hv
        cases h
        obtain ⟨kk, hk⟩ := List.getElem?_of_mem (sm_as_mem (ad := ad) (fm := fm) hx1)
        exact lv_iinc hx hb hd hl.has hk (by rw [h2]) (sm_st1_lt hv) rfl (fun ls' h1 => k ls' (sm_st1 hfc hv h1).1 (sm_st1 hfc hv h1).2)
      · cases h
    · cases h
  all_goals cases h
end
