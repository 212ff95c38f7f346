/-! THE START: what the Statement gives, in the small machine's words -/
/-- five texts, by a constant that bears each -/
def st_tm (i : Nat) : Term := match i with
  | 0 => .string "GlobeCorner$Reader" 46
  | 1 => .string "GlobeCorner$Reader" 48
  | 2 => .string "GlobeCorner$Reader" 67
  | 3 => .string "GlobeCorner$Reader" 84
  | _ => .string "GlobeCornerModel" 187
def st_len : List Nat := [5, 5, 5, 6, 3]
def st_byt : List (List Int32) := [[109, 111, 114, 101, 32], [108, 101, 115, 115, 32], [103, 114, 111, 119, 32], [112, 107, 118, 120, 110, 104], [60, 61, 62]]
theorem st_arr {s : State} {args : Array Value} {ty : FieldType} (h : (Cond.arrayClass ty).before args s = true) : ∃ cA : ClassId, ArrOfT s cA ty ∧ s.vm.findClass ("[" ++ ty.toString) = some cA := by
  obtain ⟨cA, kA, comp, h1, h2, h3⟩ := Cond.arrayClass_spec (args := args) (first := s) (o := none) (s := s) (idx := []) h
  exact ⟨cA, fun n z => ⟨fun k h => (by cases h), kA, h2, comp, h3⟩, h1⟩
theorem st_ao {s : State} {C : String} (h : va_AO C s) : ∃ cA : ClassId, ArrOfT s cA (.object C) ∧ va_RA s cA (.object C) := by
  obtain ⟨comp, cA, kA, h1, h2, h3, h4, h5⟩ := Cond.arrayOver_spec (args := #[]) (first := s) (o := none) (s := s) (idx := []) h
  exact ⟨cA, fun n z => ⟨fun k h => (by cases h), kA, h3, comp, h4⟩, kA, comp, h3, h4, h1, h5⟩
theorem st_same {args : Array Value} {s : State} {t u : Term} {a : Nat} (h : (Cond.eq t u).before args s = true) (hu : u.eval args s none [] s = some (.ref a)) : t.eval args s none [] s = some (.ref a) := by
  cases hv : t.eval args s none [] s with
  | none => simp [Cond.before, Cond.holds, Cond.value, hv] at h
  | some w =>
    simp only [Cond.before, Cond.holds, Cond.value, hv, hu] at h
    cases w <;> simp_all
theorem st_same2 {args : Array Value} {s : State} {t u : Term} {a : Nat} (h : (Cond.eq t u).before args s = true) (hu : t.eval args s none [] s = some (.ref a)) : u.eval args s none [] s = some (.ref a) := by
  cases hv : u.eval args s none [] s with
  | none => simp [Cond.before, Cond.holds, Cond.value, hu, hv] at h
  | some w =>
    simp only [Cond.before, Cond.holds, Cond.value, hu, hv] at h
    cases w <;> simp_all
theorem st_in (h : Nat) {w : Cond} (e : ((mm_seg (h / 1000))[h % 1000]?) = some w) : w ∈ lw_tbl := mm_seg_mem _ (List.mem_of_getElem? e)
theorem st_gl {w : Cond} (h : w ∈ mm_good) : w ∈ lw_tbl := (List.mem_filter.mp h).1
set_option maxHeartbeats 8000000 in
set_option maxRecDepth 100000 in
theorem st_start {s : State} {b L : Nat} {xs : Nat → Int32} (hts : ∀ w ∈ lw_tbl, w.before #[Value.ref b] s = true) (hX : va_X b L xs s s.heap) (hbl : b < s.heap.size) (hgv : (Jvm.Cond.and given_1 narrow_1).before #[Value.ref b] s = true) : ∃ (cy : Nat → ClassId) (ad : Nat → Nat) (fm : Value) (Dg : va_G), (∀ j, 14 ≤ j → ad j = s.heap.size + (j - 14)) ∧ ad 0 = b ∧ sm_St s.heap.size cy ad fm Dg L xs s := by
  have hA : ∀ a : Nat, a < s.heap.size → ¬ sm_A s.heap.size a := fun a h z => absurd z (Nat.not_le.mpr h)
  have hs := flat_of_before _ hgv
  obtain ⟨adK, adV, hSs, hev⟩ := vk_Sof (N := 5) (tm := st_tm) (len := st_len) (byt := st_byt) (A := sm_A s.heap.size) (args := #[Value.ref b]) (s := s)
    (fun i hi => by match i, hi with
      | 0, _ | 1, _ | 2, _ | 3, _ | 4, _ => decide +kernel)
    (fun i hi => by match i, hi with
      | 0, _ => exact hs _ (by decide +kernel)
      | 1, _ => exact hs _ (by decide +kernel)
      | 2, _ => exact hs _ (by decide +kernel)
      | 3, _ => exact hs _ (by decide +kernel)
      | 4, _ => exact hs _ (by decide +kernel))
    (fun i hi => by match i, hi with
      | 0, _ => exact hs _ (by decide +kernel)
      | 1, _ => exact hs _ (by decide +kernel)
      | 2, _ => exact hs _ (by decide +kernel)
      | 3, _ => exact hs _ (by decide +kernel)
      | 4, _ => exact hs _ (by decide +kernel))
    (fun i hi => by match i, hi with
      | 0, _ => exact hs _ (by decide +kernel)
      | 1, _ => exact hs _ (by decide +kernel)
      | 2, _ => exact hs _ (by decide +kernel)
      | 3, _ => exact hs _ (by decide +kernel)
      | 4, _ => exact hs _ (by decide +kernel))
    (fun i hi => by match i, hi with
      | 0, _ => exact hs _ (by decide +kernel)
      | 1, _ => exact hs _ (by decide +kernel)
      | 2, _ => exact hs _ (by decide +kernel)
      | 3, _ => exact hs _ (by decide +kernel)
      | 4, _ => exact hs _ (by decide +kernel))
    (fun i hi => by match i, hi with
      | 0, _ => exact fun j hj => by match j, hj with
        | 0, _ => exact hs _ (by decide +kernel)
        | 1, _ => exact hs _ (by decide +kernel)
        | 2, _ => exact hs _ (by decide +kernel)
        | 3, _ => exact hs _ (by decide +kernel)
        | 4, _ => exact hs _ (by decide +kernel)
      | 1, _ => exact fun j hj => by match j, hj with
        | 0, _ => exact hs _ (by decide +kernel)
        | 1, _ => exact hs _ (by decide +kernel)
        | 2, _ => exact hs _ (by decide +kernel)
        | 3, _ => exact hs _ (by decide +kernel)
        | 4, _ => exact hs _ (by decide +kernel)
      | 2, _ => exact fun j hj => by match j, hj with
        | 0, _ => exact hs _ (by decide +kernel)
        | 1, _ => exact hs _ (by decide +kernel)
        | 2, _ => exact hs _ (by decide +kernel)
        | 3, _ => exact hs _ (by decide +kernel)
        | 4, _ => exact hs _ (by decide +kernel)
      | 3, _ => exact fun j hj => by match j, hj with
        | 0, _ => exact hs _ (by decide +kernel)
        | 1, _ => exact hs _ (by decide +kernel)
        | 2, _ => exact hs _ (by decide +kernel)
        | 3, _ => exact hs _ (by decide +kernel)
        | 4, _ => exact hs _ (by decide +kernel)
        | 5, _ => exact hs _ (by decide +kernel)
      | 4, _ => exact fun j hj => by match j, hj with
        | 0, _ => exact hs _ (by decide +kernel)
        | 1, _ => exact hs _ (by decide +kernel)
        | 2, _ => exact hs _ (by decide +kernel))
    (fun i j hi hj hij => by match i, j, hi, hj with
      | 0, 0, _, _ => exact absurd rfl hij
      | 0, 1, _, _ => exact Or.inl (hs _ (by decide +kernel))
      | 0, 2, _, _ => exact Or.inr (hs _ (by decide +kernel))
      | 0, 3, _, _ => exact Or.inl (hs _ (by decide +kernel))
      | 0, 4, _, _ => exact Or.inl (hs _ (by decide +kernel))
      | 1, 0, _, _ => exact Or.inr (hs _ (by decide +kernel))
      | 1, 1, _, _ => exact absurd rfl hij
      | 1, 2, _, _ => exact Or.inr (hs _ (by decide +kernel))
      | 1, 3, _, _ => exact Or.inl (hs _ (by decide +kernel))
      | 1, 4, _, _ => exact Or.inl (hs _ (by decide +kernel))
      | 2, 0, _, _ => exact Or.inl (hs _ (by decide +kernel))
      | 2, 1, _, _ => exact Or.inl (hs _ (by decide +kernel))
      | 2, 2, _, _ => exact absurd rfl hij
      | 2, 3, _, _ => exact Or.inl (hs _ (by decide +kernel))
      | 2, 4, _, _ => exact Or.inl (hs _ (by decide +kernel))
      | 3, 0, _, _ => exact Or.inr (hs _ (by decide +kernel))
      | 3, 1, _, _ => exact Or.inr (hs _ (by decide +kernel))
      | 3, 2, _, _ => exact Or.inr (hs _ (by decide +kernel))
      | 3, 3, _, _ => exact absurd rfl hij
      | 3, 4, _, _ => exact Or.inl (hs _ (by decide +kernel))
      | 4, 0, _, _ => exact Or.inr (hs _ (by decide +kernel))
      | 4, 1, _, _ => exact Or.inr (hs _ (by decide +kernel))
      | 4, 2, _, _ => exact Or.inr (hs _ (by decide +kernel))
      | 4, 3, _, _ => exact Or.inr (hs _ (by decide +kernel))
      | 4, 4, _, _ => exact absurd rfl hij)
    hA
  obtain ⟨t1, ht1, hTt1⟩ := va_Tof (tm := .static "GlobeCorner" "KIND_ABOVE" "[I") (ty := .int) (N := 7) (f := fun j => .int (sm_by [-1, 0, 0, 0, 1, 2, 3] j)) (A := sm_A s.heap.size) (args := #[Value.ref b]) (s := s) (by decide) (hs _ (by decide +kernel)) (va_eqt (hs (.eq (.length (.static "GlobeCorner" "KIND_ABOVE" "[I")) (.int 7)) (by decide +kernel))) (fun j hj => by match j, hj with
    | 0, _ => exact va_eqt (hs (.eq (.elem (.static "GlobeCorner" "KIND_ABOVE" "[I") (.int 0)) (.int (-1))) (by decide +kernel))
    | 1, _ => exact va_eqt (hs (.eq (.elem (.static "GlobeCorner" "KIND_ABOVE" "[I") (.int 1)) (.int (0))) (by decide +kernel))
    | 2, _ => exact va_eqt (hs (.eq (.elem (.static "GlobeCorner" "KIND_ABOVE" "[I") (.int 2)) (.int (0))) (by decide +kernel))
    | 3, _ => exact va_eqt (hs (.eq (.elem (.static "GlobeCorner" "KIND_ABOVE" "[I") (.int 3)) (.int (0))) (by decide +kernel))
    | 4, _ => exact va_eqt (hs (.eq (.elem (.static "GlobeCorner" "KIND_ABOVE" "[I") (.int 4)) (.int (1))) (by decide +kernel))
    | 5, _ => exact va_eqt (hs (.eq (.elem (.static "GlobeCorner" "KIND_ABOVE" "[I") (.int 5)) (.int (2))) (by decide +kernel))
    | 6, _ => exact va_eqt (hs (.eq (.elem (.static "GlobeCorner" "KIND_ABOVE" "[I") (.int 6)) (.int (3))) (by decide +kernel))
    | j + 7, hj => exact absurd hj (by omega)) hA
  obtain ⟨t2, ht2, hTt2⟩ := va_Tof (tm := .static "GlobeCorner$Acts" "BODIES" "[I") (ty := .int) (N := 21) (f := fun j => .int (sm_by [10, 11, 12, 0, 20, 0, 30, 0, 0, 0, 0, 40, 50, 51, 0, 0, 0, 60, 71, 70, 0] j)) (A := sm_A s.heap.size) (args := #[Value.ref b]) (s := s) (by decide) (hs _ (by decide +kernel)) (va_eqt (hs (.eq (.length (.static "GlobeCorner$Acts" "BODIES" "[I")) (.int 21)) (by decide +kernel))) (fun j hj => by match j, hj with
    | 0, _ => exact va_eqt (hs (.eq (.elem (.static "GlobeCorner$Acts" "BODIES" "[I") (.int 0)) (.int (10))) (by decide +kernel))
    | 1, _ => exact va_eqt (hs (.eq (.elem (.static "GlobeCorner$Acts" "BODIES" "[I") (.int 1)) (.int (11))) (by decide +kernel))
    | 2, _ => exact va_eqt (hs (.eq (.elem (.static "GlobeCorner$Acts" "BODIES" "[I") (.int 2)) (.int (12))) (by decide +kernel))
    | 3, _ => exact va_eqt (hs (.eq (.elem (.static "GlobeCorner$Acts" "BODIES" "[I") (.int 3)) (.int (0))) (by decide +kernel))
    | 4, _ => exact va_eqt (hs (.eq (.elem (.static "GlobeCorner$Acts" "BODIES" "[I") (.int 4)) (.int (20))) (by decide +kernel))
    | 5, _ => exact va_eqt (hs (.eq (.elem (.static "GlobeCorner$Acts" "BODIES" "[I") (.int 5)) (.int (0))) (by decide +kernel))
    | 6, _ => exact va_eqt (hs (.eq (.elem (.static "GlobeCorner$Acts" "BODIES" "[I") (.int 6)) (.int (30))) (by decide +kernel))
    | 7, _ => exact va_eqt (hs (.eq (.elem (.static "GlobeCorner$Acts" "BODIES" "[I") (.int 7)) (.int (0))) (by decide +kernel))
    | 8, _ => exact va_eqt (hs (.eq (.elem (.static "GlobeCorner$Acts" "BODIES" "[I") (.int 8)) (.int (0))) (by decide +kernel))
    | 9, _ => exact va_eqt (hs (.eq (.elem (.static "GlobeCorner$Acts" "BODIES" "[I") (.int 9)) (.int (0))) (by decide +kernel))
    | 10, _ => exact va_eqt (hs (.eq (.elem (.static "GlobeCorner$Acts" "BODIES" "[I") (.int 10)) (.int (0))) (by decide +kernel))
    | 11, _ => exact va_eqt (hs (.eq (.elem (.static "GlobeCorner$Acts" "BODIES" "[I") (.int 11)) (.int (40))) (by decide +kernel))
    | 12, _ => exact va_eqt (hs (.eq (.elem (.static "GlobeCorner$Acts" "BODIES" "[I") (.int 12)) (.int (50))) (by decide +kernel))
    | 13, _ => exact va_eqt (hs (.eq (.elem (.static "GlobeCorner$Acts" "BODIES" "[I") (.int 13)) (.int (51))) (by decide +kernel))
    | 14, _ => exact va_eqt (hs (.eq (.elem (.static "GlobeCorner$Acts" "BODIES" "[I") (.int 14)) (.int (0))) (by decide +kernel))
    | 15, _ => exact va_eqt (hs (.eq (.elem (.static "GlobeCorner$Acts" "BODIES" "[I") (.int 15)) (.int (0))) (by decide +kernel))
    | 16, _ => exact va_eqt (hs (.eq (.elem (.static "GlobeCorner$Acts" "BODIES" "[I") (.int 16)) (.int (0))) (by decide +kernel))
    | 17, _ => exact va_eqt (hs (.eq (.elem (.static "GlobeCorner$Acts" "BODIES" "[I") (.int 17)) (.int (60))) (by decide +kernel))
    | 18, _ => exact va_eqt (hs (.eq (.elem (.static "GlobeCorner$Acts" "BODIES" "[I") (.int 18)) (.int (71))) (by decide +kernel))
    | 19, _ => exact va_eqt (hs (.eq (.elem (.static "GlobeCorner$Acts" "BODIES" "[I") (.int 19)) (.int (70))) (by decide +kernel))
    | 20, _ => exact va_eqt (hs (.eq (.elem (.static "GlobeCorner$Acts" "BODIES" "[I") (.int 20)) (.int (0))) (by decide +kernel))
    | j + 21, hj => exact absurd hj (by omega)) hA
  have z1 := va_Zof (A := sm_A s.heap.size) (hts (.laysStatic "java/lang/String" "COMPACT_STRINGS" "Z") (st_in 2202 (by decide +kernel))) (hts (.initialized "java/lang/String") (st_in 1014 (by decide +kernel))) (va_eqt (hs (.eq (.static "java/lang/String" "COMPACT_STRINGS" "Z") (.int 1)) (by decide +kernel))) hA
  have z2 := va_Zref (A := sm_A s.heap.size) (hts (.laysStatic "GlobeCorner" "KIND_ABOVE" "[I") (st_in 4031 (by decide +kernel))) (hts (.initialized "GlobeCorner") (st_in 1001 (by decide +kernel))) ht1 hA
  have z3 := va_Zref (A := sm_A s.heap.size) (hts (.laysStatic "GlobeCorner$Acts" "BODIES" "[I") (st_in 4029 (by decide +kernel))) (hts (.initialized "GlobeCorner$Acts") (st_in 1008 (by decide +kernel))) ht2 hA
  have z4 := va_Zqof (A := sm_A s.heap.size) (hts (.laysStatic "jdk/internal/util/Preconditions" "SIOOBE_FORMATTER" "Ljava/util/function/BiFunction;") (st_in 2218 (by decide +kernel))) (hts (.initialized "jdk/internal/util/Preconditions") (st_in 1016 (by decide +kernel))) (hs (.isRef (.static "jdk/internal/util/Preconditions" "SIOOBE_FORMATTER" "Ljava/util/function/BiFunction;")) (by decide +kernel)) hA
  obtain ⟨fm, hfm, z4⟩ : ∃ fm : Value, (fm = .null ∨ ∃ t, fm = .ref t) ∧ va_Z "jdk/internal/util/Preconditions" "SIOOBE_FORMATTER" "Ljava/util/function/BiFunction;" fm (sm_A s.heap.size) s s.heap := by
    rcases z4 with h | ⟨t, h⟩
    · exact ⟨_, Or.inl rfl, h⟩
    · exact ⟨_, Or.inr ⟨t, rfl⟩, h⟩
  have ao6 : va_AO RX6 s := va_AO.of (hts (.arrayOver (.object "GlobeCorner$School")) (st_in 1133 (by decide +kernel)))
  have ao7 : va_AO RX7 s := va_AO.of (hts (.arrayOver (.object "GlobeCorner$Tape")) (st_in 1196 (by decide +kernel)))
  obtain ⟨c1, a1, r1⟩ := st_arr (hts _ (st_gl sm_wa1))
  obtain ⟨c2, a2, r2⟩ := st_arr (hts _ (st_gl sm_wa2))
  obtain ⟨c3, a3, r3⟩ := st_arr (hts _ (st_gl sm_wa3))
  obtain ⟨c4, a4, r4⟩ := st_arr (hts _ (st_gl sm_wa4))
  obtain ⟨c5, a5, r5⟩ := st_ao ao6
  obtain ⟨c6, a6, r6⟩ := st_ao ao7
  have hkn : ∀ k : Nat, ∃ q : ClassId × (Nat → Nat), ∀ C : vw_C, vwCl[k]? = some C → u_Kn s C.1 C.2.1 C.2.2 q.1 q.2 := by
    intro k
    by_cases hk : k < 10
    · obtain ⟨C, T, N, g1, g2, g3, g4, g5, g6, g7, g8⟩ := sm_cls k hk
      obtain ⟨cC, iS, hK⟩ := u_known hts (fun w hw => st_gl (g4 w hw)) (hts _ (st_gl g7))
      refine ⟨(cC, iS), fun C2 hC2 => ?_⟩
      rw [g1] at hC2
      cases hC2
      exact hK
    · refine ⟨(c1, fun _ => 0), fun C2 hC2 => ?_⟩
      have := (List.getElem?_eq_some_iff.mp hC2).1
      exact absurd this hk
  obtain ⟨dd, hdd⟩ := Classical.axiomOfChoice hkn
  refine ⟨fun t => match t with
    | 1 => c1
    | 2 => c2
    | 3 => c3
    | 4 => c4
    | 5 => c5
    | _ => c6, fun i => if i = 0 then b else if i = 1 then t1 else if i = 2 then t2 else if i < 8 then adK (i - 3) else if i < 13 then adV (i - 8) else s.heap.size + (i - 14), fm, (fun k => (dd k).1, fun k => (dd k).2), ?_, rfl, ?_⟩
  · intro j hj
    show (if j = 0 then b else if j = 1 then t1 else if j = 2 then t2 else if j < 8 then adK (j - 3) else if j < 13 then adV (j - 8) else s.heap.size + (j - 14)) = _
    rw [if_neg (by omega), if_neg (by omega), if_neg (by omega), if_neg (by omega), if_neg (by omega)]
  have hTx : va_T .int b L (fun j => .int (xs j)) (sm_A s.heap.size) s s.heap := by
    obtain ⟨scr, q1, q2, q3, q4, q5⟩ := hX
    exact ⟨scr, q1, q2, q3, by omega, by rw [q4], q5, hA b hbl⟩
  refine ⟨⟨fun k C hC => hdd k C hC, fun k C hC => ?_⟩, ⟨ao6, ao7⟩, ?_, ?_, ?_, ⟨z1, z2, z3, z4⟩, ?_, ?_, ?_, hfm⟩
  · have hl := (List.getElem?_eq_some_iff.mp hC).1
    match k, hl, hC with
    | 0, _, hC => cases hC; exact ⟨a1, r1⟩
    | 1, _, hC => cases hC; exact ⟨a2, r2⟩
    | 2, _, hC => cases hC; exact ⟨a3, r3⟩
    | 3, _, hC => cases hC; exact ⟨a4, r4⟩
    | 4, _, hC => cases hC; exact ⟨a5, r5⟩
    | 5, _, hC => cases hC; exact ⟨a6, r6⟩
  · intro q hq
    simp only [mm_nest, List.mem_cons, List.not_mem_nil, or_false] at hq
    rcases hq with rfl | rfl | rfl | rfl | rfl | rfl
    · exact va_Nw.of rfl (hts (.methodLinkNest "GlobeCorner" 11 (mm_I 24).1 "GlobeCorner") (st_in 1030 (by decide +kernel)))
    · exact va_Nw.of rfl (hts (.methodLinkNest "GlobeCorner" 36 (mm_I 55).1 "GlobeCorner") (st_in 1136 (by decide +kernel)))
    · exact va_Nw.of rfl (hts (.methodLinkNest "GlobeCorner" 43 (mm_I 48).1 "GlobeCorner") (st_in 1160 (by decide +kernel)))
    · exact va_Nw.of rfl (hts (.methodLinkNest "GlobeCorner" 50 (mm_I 18).1 "GlobeCorner") (st_in 1173 (by decide +kernel)))
    · exact va_Nw.of rfl (hts (.methodLinkNest "GlobeCorner" 61 (mm_I 73).1 "GlobeCorner") (st_in 1198 (by decide +kernel)))
    · exact va_Nw.of rfl (hts (.methodLinkNest "GlobeCorner" 62 (mm_I 80).1 "GlobeCorner") (st_in 1224 (by decide +kernel)))
  · exact va_Nw.of rfl (hts (.fieldLinkNest "GlobeCorner$Acts" 47 "GlobeCorner" "KIND_ABOVE" "[I" "GlobeCorner") (st_in 4030 (by decide +kernel)))
  · intro q hq
    simp only [mm_strs, List.mem_cons, List.not_mem_nil, or_false] at hq
    rcases hq with rfl | rfl | rfl | rfl | rfl | rfl | rfl | rfl | rfl
    · exact ⟨"grow ", vk_R.of (hts (.stringRef "GlobeCorner$Reader" 67 "grow ") (st_in 2188 (by decide +kernel))) (hev 2 (by decide))⟩
    · exact ⟨"more ", vk_R.of (hts (.stringRef "GlobeCorner$Reader" 46 "more ") (st_in 3009 (by decide +kernel))) (hev 0 (by decide))⟩
    · exact ⟨"less ", vk_R.of (hts (.stringRef "GlobeCorner$Reader" 48 "less ") (st_in 3010 (by decide +kernel))) (hev 1 (by decide))⟩
    · exact ⟨"pkvxnh", vk_R.of (hts (.stringRef "GlobeCorner$Reader" 84 "pkvxnh") (st_in 3027 (by decide +kernel))) (hev 3 (by decide))⟩
    · exact ⟨"more ", vk_R.of (hts (.stringRef "GlobeCornerModel" 213 "more ") (st_in 5110 (by decide +kernel))) (st_same2 (hs (.eq (.string "GlobeCorner$Reader" 46) (.string "GlobeCornerModel" 213)) (by decide +kernel)) (hev 0 (by decide)))⟩
    · exact ⟨"less ", vk_R.of (hts (.stringRef "GlobeCornerModel" 219 "less ") (st_in 5121 (by decide +kernel))) (st_same2 (hs (.eq (.string "GlobeCorner$Reader" 48) (.string "GlobeCornerModel" 219)) (by decide +kernel)) (hev 1 (by decide)))⟩
    · exact ⟨"grow ", vk_R.of (hts (.stringRef "GlobeCornerModel" 221 "grow ") (st_in 5122 (by decide +kernel))) (st_same2 (hs (.eq (.string "GlobeCorner$Reader" 67) (.string "GlobeCornerModel" 221)) (by decide +kernel)) (hev 2 (by decide)))⟩
    · exact ⟨"pkvxnh", vk_R.of (hts (.stringRef "GlobeCornerModel" 182 "pkvxnh") (st_in 5155 (by decide +kernel))) (st_same2 (hs (.eq (.string "GlobeCorner$Reader" 84) (.string "GlobeCornerModel" 182)) (by decide +kernel)) (hev 3 (by decide)))⟩
    · exact ⟨"<=>", vk_R.of (hts (.stringRef "GlobeCornerModel" 187 "<=>") (st_in 5157 (by decide +kernel))) (hev 4 (by decide))⟩
  · intro i D hD h7
    have hl : i < 14 := (List.getElem?_eq_some_iff.mp hD).1
    match i, hl, hD with
    | 0, _, hD => cases hD; exact hTx
    | 1, _, hD => cases hD; exact hTt1
    | 2, _, hD => cases hD; exact hTt2
    | 3, _, hD => cases hD; cases h7
    | 4, _, hD => cases hD; cases h7
    | 5, _, hD => cases hD; cases h7
    | 6, _, hD => cases hD; cases h7
    | 7, _, hD => cases hD; cases h7
    | 8, _, hD => cases hD; cases h7
    | 9, _, hD => cases hD; cases h7
    | 10, _, hD => cases hD; cases h7
    | 11, _, hD => cases hD; cases h7
    | 12, _, hD => cases hD; cases h7
    | 13, _, hD => cases hD; cases h7
  · intro i D hD h7
    have hl : i < 14 := (List.getElem?_eq_some_iff.mp hD).1
    match i, hl, hD with
    | 0, _, hD => cases hD; cases h7
    | 1, _, hD => cases hD; cases h7
    | 2, _, hD => cases hD; cases h7
    | 3, _, hD => cases hD; cases h7
    | 4, _, hD => cases hD; cases h7
    | 5, _, hD => cases hD; cases h7
    | 6, _, hD => cases hD; cases h7
    | 7, _, hD => cases hD; cases h7
    | 8, _, hD => cases hD; exact (hSs.1 0 (by decide)).2.2.2
    | 9, _, hD => cases hD; exact (hSs.1 1 (by decide)).2.2.2
    | 10, _, hD => cases hD; exact (hSs.1 2 (by decide)).2.2.2
    | 11, _, hD => cases hD; exact (hSs.1 3 (by decide)).2.2.2
    | 12, _, hD => cases hD; exact (hSs.1 4 (by decide)).2.2.2
    | 13, _, hD => cases hD; cases h7
  · intro i D hD h7
    have hl : i < 14 := (List.getElem?_eq_some_iff.mp hD).1
    match i, hl, hD with
    | 0, _, hD => cases hD; cases h7
    | 1, _, hD => cases hD; cases h7
    | 2, _, hD => cases hD; cases h7
    | 3, _, hD => cases hD; exact ⟨(hSs.1 0 (by decide)).1, (hSs.1 0 (by decide)).2.1, (hSs.1 0 (by decide)).2.2.1⟩
    | 4, _, hD => cases hD; exact ⟨(hSs.1 1 (by decide)).1, (hSs.1 1 (by decide)).2.1, (hSs.1 1 (by decide)).2.2.1⟩
    | 5, _, hD => cases hD; exact ⟨(hSs.1 2 (by decide)).1, (hSs.1 2 (by decide)).2.1, (hSs.1 2 (by decide)).2.2.1⟩
    | 6, _, hD => cases hD; exact ⟨(hSs.1 3 (by decide)).1, (hSs.1 3 (by decide)).2.1, (hSs.1 3 (by decide)).2.2.1⟩
    | 7, _, hD => cases hD; exact ⟨(hSs.1 4 (by decide)).1, (hSs.1 4 (by decide)).2.1, (hSs.1 4 (by decide)).2.2.1⟩
    | 8, _, hD => cases hD; cases h7
    | 9, _, hD => cases hD; cases h7
    | 10, _, hD => cases hD; cases h7
    | 11, _, hD => cases hD; cases h7
    | 12, _, hD => cases hD; cases h7
    | 13, _, hD => cases hD; cases h7
def R_law : String := "GlobeCornerLaw"
def lw_P (b : Addr) (xs : List Int32) (args : Array Value) (s : State) : Prop := args = #[.ref b] ∧ s.IntsAt b xs ∧ xs.length ≤ 3072 ∧ (Jvm.Cond.and given_1 narrow_1).before args s = true
def lw_Q (_ : Array Value) (s : State) (o : Outcome) (t : State) : Prop := o = .returned (some (.int 1)) ∧ Framed s o t [] 600000 7302250
def lw_Z (below : List Frame) (a : Array Value) (s : State) : State → Prop := fun t => ∃ o, t.status = .running ∧ Ended t below o ∧ lw_Q a s o t
/-- the law's own end, with 1 on the stack, nothing written that was there before, its room as the claim has it -/
theorem lw_ret {p : Program} {l : Launch} {e : Env} {s : State} {m : MethodId} {below : List Frame} {meth : Method} {c : Code} {b : Nat} (hx : p.tables.exec = Jvm.exec) (hb : c.code = code) (hr : meth.sig.returnType = ret) (hlocks : meth.locks = false) {pc : Nat} {H : Heap} {ls : Array Slot} (hdg : decode code pc = .ok (.ireturn, 1)) : W p l e room_1 s m #[Value.ref b] below meth c H [] 600000 7302250 (lw_Z below #[Value.ref b] s) (F0 m pc ls [.int 1]) := by
  intro T hT X
  obtain ⟨fs, hret, hrun, hended, hW, hframe⟩ := X.leave (v := some (.int 1)) (hlocks := hlocks) (fun h => by rw [hr] at h; cases h)
  have hmeth' : T.vm.method? m = some meth := X.method'
  refine ⟨T.setFrames fs, ?_, .returned (some (.int 1)), hrun, hended, rfl, ⟨_, rfl⟩, hW, hframe⟩
  jvm_step X.here [X.here.top, hx, hb, hdg, hmeth', hr, ret, narrow_b1]
  (try refine ⟨rfl, ?_⟩); (try refine ⟨rfl, ?_⟩)
  first | (intro acts; rw [hret _ acts rfl rfl rfl]) | rw [hret _ _ rfl rfl rfl]
  exact Steps.refl _
/-- what holds at the law's entry: the machine, the code, the tables' words (any of lw_tbl by 'hts w (by decide +kernel)'), the script of L ints xs at the cell b, what the Statement gives of the start (any of its parts by flat_of_before) -/
def lw_At (p : Program) (s : State) (m : MethodId) (meth : Method) (c : Code) (b L : Nat) (xs : Nat → Int32) : Prop :=
  p.tables.exec = Jvm.exec ∧ c.code = code ∧ meth.sig.returnType = ret ∧ c.maxLocals = 4 ∧ s.vm.findClass R_law = some m.cls ∧ (∀ w ∈ lw_tbl, w.before #[Value.ref b] s = true) ∧ va_X b L xs s s.heap ∧ b < s.heap.size ∧ meth.locks = false ∧ (Jvm.Cond.and given_1 narrow_1).before #[Value.ref b] s = true

def st_m0 : mm_M := (fun _ _ => 0, fun _ _ => 0, fun _ _ => none)
/-- what the small machine owes: the law, run over every script, ends with 1 -/
def st_owed : Prop := ∀ (L : Nat) (xs : Nat → Int32), L ≤ 3072 → ∃ (f : Nat) (w' : mm_W), mm_exec f 60 203 0 [some (.ref 0), none, none, none] [] (sm_O L xs, st_m0) = some (some (.int 1), w') ∧ w'.1.length ≤ 1000 ∧ sm_sz w'.1 ≤ sm_sz (sm_O L xs) + 100000
set_option maxHeartbeats 8000000 in
set_option maxRecDepth 100000 in
theorem st_whole (hO : st_owed) {p : Program} {e : Env} {s : State} {m : MethodId} {below : List Frame} {meth : Method} {c : Code} (l : Launch) {b L : Nat} {xs : Nat → Int32} (hL : L ≤ 3072) (C0 : lw_At p s m meth c b L xs) : W p l e room_1 s m #[Value.ref b] below meth c s.heap [] 0 0 (lw_Z below #[Value.ref b] s) (entryFrame m ([Value.ref b] : List Value).toArray 4) := by
  obtain ⟨hx, hb, hr, hml, hown, hts, hX, hbl, hlocks, hgv⟩ := C0
  obtain ⟨cy, ad, fm, Dg, had, had0, hSt⟩ := st_start hts hX hbl hgv
  obtain ⟨f, w', hex, hw1, hw2⟩ := hO L xs hL
  have hfc := sm_St_fm hSt
  have hent := lv_entry [Value.ref b] (n := 4) (Nat.le_of_ble_eq_true rfl)
  rw [lg_entry_eq]
  generalize (lg_sl ([Value.ref b]) ++ List.replicate (4 - (lg_sl ([Value.ref b])).length) Slot.unset).toArray = ls at hent ⊢
  have hl : sm_l ad fm ls [some (.ref 0), none, none, none] := by
    refine ⟨hent.1, hent.2.1, fun i v hv => ?_⟩
    match i, hv with
    | 0, hv =>
      cases hv
      rw [sm_ref (by decide), had0]
      exact hent.2.2 (0, .ref b) (by simp [lv_args])
    | 1, hv => cases hv
    | 2, hv => cases hv
    | 3, hv => cases hv
    | i + 4, hv => simp [mm_ld] at hv
  obtain ⟨r0, hr0⟩ := mm_exec_row hex
  have hpc0 : r0.2.1.1 = 0 := by
    have := sm_pc0 203 (by decide)
    rw [hr0] at this
    exact Option.some.inj this
  have g := sm_main l (cy := cy) (fm := fm) (Dg := Dg) (Ls := L) (xs := xs) had f 60 203 0 [some (.ref 0), none, none, none] [] (sm_O L xs, st_m0) (some (.int 1)) w' hex 4 mm_r203 rfl p e room_1 s m #[Value.ref b] below meth c s.heap [] 0 0 (lw_Z below #[Value.ref b] s) ls r0 hr0
    ⟨hx, hb, hr, hml, hown, fun w hw => hts w (st_gl hw), hlocks, fun h => absurd h (by decide +kernel), by show 61 ≤ 2048; decide, by show 64 * 61 ≤ 84000; decide⟩ hSt
    ⟨rfl, fun q D hq hD => absurd (List.getElem?_eq_some_iff.mp hD).1 (by show ¬ q < 14; omega)⟩ (by show s.heap.size + 0 = s.heap.size + (14 - 14); rfl) (Nat.le_refl _) hl rfl (fun k q h => by simp [sm_w, sm_O] at h) va_S.rf
    ⟨by show 0 + (w'.1.length - 14) ≤ 600000; omega, by show 0 + (sm_sz w'.1 - sm_sz (sm_O L xs)) ≤ 7302250; omega⟩
    (fun H1 locs1 ls1 i1 h1 r1 q1 q2 q3 q4 q5 => by
      have hd := (mm_ok_d q4).1
      have hri : r1.1 = .ireturn ∧ r1.2.1.2 = 1 := by
        obtain ⟨ins, ⟨pc, len⟩, ⟨a, b, c0⟩, ⟨z, zz⟩, ts⟩ := r1
        unfold mm_ok at q4
        rw [Bool.and_eq_true] at q4
        replace q4 := q4.2
        unfold mm_ret at q5
        dsimp only at q4 q5 ⊢
        cases ins
        case ireturn =>
          dsimp only at q4
          rw [Bool.and_eq_true, decide_eq_true_eq] at q4
          exact ⟨rfl, q4.1⟩
        all_goals cases q5
      rw [hri.1, hri.2] at hd
      refine va_forget (fun q hq => q3.2.2 q hq) ?_
      refine W.widen (k := 600000) (n := 7302250) (by show 0 + (w'.1.length - 14) ≤ 600000; omega) (by show 0 + (sm_sz w'.1 - sm_sz (sm_O L xs)) ≤ 7302250; omega) ?_
      exact lw_ret hx hb hr hlocks hd)
  rw [hpc0] at g
  exact g
