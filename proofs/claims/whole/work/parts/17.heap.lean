def sm_sz (Λ : List mm_D) : Nat := (Λ.map (fun D => if D.1 = 0 then mm_N.getD D.2.1 0 else D.2.1)).sum
theorem sm_sz_push (Λ : List mm_D) (D : mm_D) : sm_sz (Λ ++ [D]) = sm_sz Λ + (if D.1 = 0 then mm_N.getD D.2.1 0 else D.2.1) := by
  simp [sm_sz]
theorem sm_sz_set : ∀ (Λ : List mm_D) (q : Nat) (D D' : mm_D), Λ[q]? = some D → D.1 = D'.1 → D.2.1 = D'.2.1 → sm_sz (Λ.set q D') = sm_sz Λ
  | [], q, D, D', h, _, _ => by simp at h
  | E :: Λ, 0, D, D', h, h1, h2 => by
    rw [List.getElem?_cons_zero] at h
    cases h
    simp [sm_sz, h1, h2]
  | E :: Λ, q + 1, D, D', h, h1, h2 => by
    rw [List.getElem?_cons_succ] at h
    have := sm_sz_set Λ q D D' h h1 h2
    simp only [sm_sz, List.set_cons_succ, List.map_cons, List.sum_cons] at this ⊢
    rw [this]
theorem sm_set_same {Λ : List mm_D} {q : Nat} {D : mm_D} (h : Λ[q]? = some D) : Λ.set q D = Λ := by
  apply List.ext_getElem?
  intro j
  by_cases hj : q = j
  · subst hj
    rw [List.getElem?_set_self (List.getElem?_eq_some_iff.mp h).1, h]
  · rw [List.getElem?_set_ne hj]
theorem sm_fs_at {ad : Nat → Nat} {fm : Value} {μ : mm_M} {q n b : Nat} {rs : List (Option Nat)} (hb : b < mm_N.getD n 0) : (sm_fs ad fm μ q n rs)[b]? = some (match mm_fc n b with
  | 0 => .int (μ.1 q b)
  | 1 => sm_v ad fm (va_rf (μ.2.2 q b))
  | _ => sm_v ad fm (va_rf (rs.getD b none))) := by
  unfold sm_fs
  rw [List.getElem?_map, List.getElem?_range hb]
  rfl
theorem sm_fs_len {ad : Nat → Nat} {fm : Value} {μ : mm_M} {q n : Nat} {rs : List (Option Nat)} : (sm_fs ad fm μ q n rs).length = mm_N.getD n 0 := by simp [sm_fs]
theorem sm_fs_set {ad : Nat → Nat} {fm : Value} {μ μ' : mm_M} {q n b : Nat} {rs rs' : List (Option Nat)} {v : Value} (hb : b < mm_N.getD n 0) (h1 : (sm_fs ad fm μ' q n rs')[b]? = some v) (h2 : ∀ j, j ≠ b → μ'.1 q j = μ.1 q j ∧ μ'.2.2 q j = μ.2.2 q j ∧ rs'.getD j none = rs.getD j none) : (sm_fs ad fm μ q n rs).set b v = sm_fs ad fm μ' q n rs' := by
  apply List.ext_getElem?
  intro j
  by_cases hj : b = j
  · subst hj
    rw [List.getElem?_set_self (by rw [sm_fs_len]; exact hb), h1]
  · rw [List.getElem?_set_ne hj]
    by_cases hl : j < mm_N.getD n 0
    · rw [sm_fs_at hl, sm_fs_at hl]
      obtain ⟨a1, a2, a3⟩ := h2 j (Ne.symm hj)
      rw [a1, a2, a3]
    · rw [List.getElem?_eq_none (by rw [sm_fs_len]; omega), List.getElem?_eq_none (by rw [sm_fs_len]; omega)]
theorem sm_wdc {ad : Nat → Nat} {fm : Value} (hfc : fm.category = 1) : ∀ st : List Value, ((st.map (sm_v ad fm)).map (fun v => v.category)).sum = mm_wd st
  | [] => rfl
  | v :: st => by
    have := sm_wdc (ad := ad) hfc st
    simp only [List.map_cons, List.sum_cons]
    rw [this, sm_v_cat hfc]
    cases v <;> simp only [Value.category, mm_wd] <;> omega
theorem sm_O_ne {L : Nat} {xs : Nat → Int32} {q : Nat} {D : mm_D} (h : (sm_O L xs)[q]? = some D) (hD : D.1 ≠ 11) : q ≠ 13 := by
  intro e
  subst e
  cases h
  exact hD rfl
theorem sm_wf.rd {L : Nat} {xs : Nat → Int32} {Λ : List mm_D} (h : sm_wf L xs Λ) {q : Nat} {D : mm_D} (hq : Λ[q]? = some D) (h7 : 7 ≤ D.1) : (sm_O L xs)[q]? = some D := by
  rcases Nat.lt_or_ge q 14 with h1 | h1
  · exact h.old hq h1
  · have := (h.2 q D h1 hq).1
    omega
/-- the size of the heap is known: a bound stands in the machine, the cells lie below -/
theorem sm_sized {p : Program} {l : Launch} {e : Env} {R : Room} {s : State} {m : MethodId} {args : Array Value} {below : List Frame} {meth : Method} {c : Code} {H : Heap} {locs : List Loc} {cells slots : Nat} {Q : State → Prop} {g : JFrame} (k : H.size ≤ s.heap.size + cells → W p l e R s m args below meth c H locs cells slots Q g) : W p l e R s m args below meth c H locs cells slots Q g :=
  fun T hT X => k (by rw [← hT]; exact X.heapSize) T hT X
section
variable {p : Program} {l : Launch} {e : Env} {R : Room} {s : State} {m : MethodId} {args : Array Value} {below : List Frame} {meth : Method} {c : Code} {H : Heap} {locs : List Loc} {cells slots : Nat} {Q : State → Prop}
variable {bs : Nat} {cy : Nat → ClassId} {ad : Nat → Nat} {fm : Value} {Dg : va_G} {Ls : Nat} {xs : Nat → Int32} {Y : MethodName × ByteArray × Option FieldType} {pc a b c0 n hh ml d q : Nat} {ls : Array Slot} {st : List Value} {w w' : mm_W} {v : Value} {j x : Int32}
set_option maxHeartbeats 4000000 in
theorem sm_gf (hE : sm_En p R s m args meth c Y ml d) (hSt : sm_St bs cy ad fm Dg Ls xs s) (hwf : sm_wf Ls xs w.1) (had : ∀ j, 14 ≤ j → ad j = bs + (j - 14)) (hP : va_P Dg vwCl (sm_w bs cy ad fm w) H) (hS : va_S (sm_A bs) s.heap H locs) (hd : decode Y.2.1 pc = .ok (.getfield n, 3))
    (ok : (match c0 with
      | 3 => mm_has hh (.fieldLink Y.1.cls n "java/lang/String" "value" "[B")
      | 4 => mm_has hh (.fieldLink Y.1.cls n "java/lang/String" "coder" "B")
      | c => Nat.blt a 10 && Nat.blt b (mm_N.getD a 0) && decide (mm_fc a b = c) && mm_has hh (.fieldLink Y.1.cls n (((mm_T1 a).2.1 b).1) (((mm_T1 a).2.1 b).2.1) (((mm_T1 a).2.1 b).2.2.1))) = true)
    (h : mm_gf w q a b c0 = some v) (k : W p l e R s m args below meth c H locs cells slots Q (F0 m (pc + 3) ls (sm_v ad fm v :: st))) : W p l e R s m args below meth c H locs cells slots Q (F0 m pc ls (sm_v ad fm (.ref q) :: st)) := by
  obtain ⟨hx, hb, hr, hml, hown, hts, hlocks, hnm, hfr, hlo⟩ := hE
  unfold mm_gf at h
  cases hq : w.1[q]? with
  | none => rw [hq] at h; cases h
  | some D =>
    obtain ⟨t, n0, f, rs⟩ := D
    rw [hq] at h
    dsimp only at h
    have own : ∀ cc : Nat, (t == 0 && n0 == a) = true → cc ≠ 3 → cc ≠ 4 → c0 = cc → (match mm_fc a b with
        | 0 => Value.int (w.2.1 q b)
        | 1 => sm_v ad fm (va_rf (w.2.2.2 q b))
        | _ => sm_v ad fm (va_rf (rs.getD b none))) = sm_v ad fm v → W p l e R s m args below meth c H locs cells slots Q (F0 m pc ls (sm_v ad fm (.ref q) :: st)) := by
      intro cc h0 h3 h4 hc hv
      simp only [Bool.and_eq_true, beq_iff_eq] at h0
      obtain ⟨rfl, rfl⟩ := h0
      have h14 : 14 ≤ q := hwf.new hq (by show 0 ≤ 6; decide)
      rw [sm_ref (by omega), had q h14]
      have ok2 : (Nat.blt n0 10 && Nat.blt b (mm_N.getD n0 0) && decide (mm_fc n0 b = c0) && mm_has hh (.fieldLink Y.1.cls n (((mm_T1 n0).2.1 b).1) (((mm_T1 n0).2.1 b).2.1) (((mm_T1 n0).2.1 b).2.2.1))) = true := by
        subst hc
        split at ok
        · exact absurd rfl h3
        · exact absurd rfl h4
        · exact ok
      simp only [Bool.and_eq_true, decide_eq_true_eq] at ok2
      obtain ⟨⟨⟨o1, o2⟩, o3⟩, o4⟩ := ok2
      have o1 : n0 < 10 := mm_blt o1
      have o2 : b < mm_N.getD n0 0 := mm_blt o2
      obtain ⟨C, T, N, c1, c2, c3, c4, c5, c6, c7, c8⟩ := sm_cls n0 o1
      have hm := mm_has_mem o4
      rw [c2] at hm
      have he := sm_get (bs := bs) (cy := cy) (ad := ad) (fm := fm) hq h14
      refine va_get hx hb hts c4 hown hSt.1 hP (q - 14) he c1 b (by rw [← c3]; exact o2) (hts _ hm) (fun _ z => z) (v := sm_v ad fm v) ?_ hd k
      rw [← hv]
      exact sm_fs_at o2
    split at h
    · rename_i h0
      cases h
      refine own 0 h0 (by decide) (by decide) rfl ?_
      have e0 : mm_fc a b = 0 := by
        try dsimp only at ok
        simp only [Bool.and_eq_true, decide_eq_true_eq] at ok
        exact ok.1.2
      rw [e0]
      rfl
    · rename_i h0
      cases h
      refine own 1 h0 (by decide) (by decide) rfl ?_
      have e0 : mm_fc a b = 1 := by
        try dsimp only at ok
        simp only [Bool.and_eq_true, decide_eq_true_eq] at ok
        exact ok.1.2
      rw [e0]
      rfl
    · rename_i h0
      cases h
      refine own 2 h0 (by decide) (by decide) rfl ?_
      have e0 : mm_fc a b = 2 := by
        try dsimp only at ok
        simp only [Bool.and_eq_true, decide_eq_true_eq] at ok
        exact ok.1.2
      rw [e0]
      rfl
    · rename_i h9
      cases h
      simp only [beq_iff_eq] at h9
      subst h9
      have hO := hwf.rd hq (by show 7 ≤ 9; decide)
      obtain ⟨a1, a2, a3⟩ := hSt.2.2.2.2.2.2.2.2.1 q _ hO rfl
      rw [sm_ref (sm_O_ne hO (by show (9 : Nat) ≠ 11; decide))]
      have hn : n0 ≠ 13 := by
        intro z
        subst z
        have hl := (List.getElem?_eq_some_iff.mp hO).1
        match q, hl, hO with
        | 0, _, hO | 1, _, hO | 2, _, hO | 3, _, hO | 4, _, hO | 5, _, hO | 6, _, hO | 7, _, hO | 8, _, hO | 9, _, hO | 10, _, hO | 11, _, hO | 12, _, hO | 13, _, hO => simp [sm_O] at hO
      rw [sm_ref hn] at k
      exact vk_getf hx hb a3 hS hown (hts _ (mm_has_mem ok)) (fun _ z => z) hd k
    · rename_i h9
      cases h
      simp only [beq_iff_eq] at h9
      subst h9
      have hO := hwf.rd hq (by show 7 ≤ 9; decide)
      obtain ⟨a1, a2, a3⟩ := hSt.2.2.2.2.2.2.2.2.1 q _ hO rfl
      rw [sm_ref (sm_O_ne hO (by show (9 : Nat) ≠ 11; decide))]
      exact vk_getf hx hb a2 hS hown (hts _ (mm_has_mem ok)) (fun _ z => z) hd k
    · cases h
end
