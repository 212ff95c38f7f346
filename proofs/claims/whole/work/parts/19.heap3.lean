section
variable {p : Program} {l : Launch} {e : Env} {R : Room} {s : State} {m : MethodId} {args : Array Value} {below : List Frame} {meth : Method} {c : Code} {H : Heap} {locs : List Loc} {cells slots : Nat} {Q : State → Prop}
variable {bs : Nat} {cy : Nat → ClassId} {ad : Nat → Nat} {fm : Value} {Dg : va_G} {Ls : Nat} {xs : Nat → Int32} {Y : MethodName × ByteArray × Option FieldType} {pc ml d q : Nat} {ls : Array Slot} {st : List Value} {w w' : mm_W} {v : Value} {j x : Int32} {z : Int64}
set_option maxHeartbeats 4000000 in
theorem sm_ial (hE : sm_En p R s m args meth c Y ml d) (hSt : sm_St bs cy ad fm Dg Ls xs s) (hwf : sm_wf Ls xs w.1) (had : ∀ j, 14 ≤ j → ad j = bs + (j - 14)) (hP : va_P Dg vwCl (sm_w bs cy ad fm w) H) (hS : va_S (sm_A bs) s.heap H locs) (hd : decode Y.2.1 pc = .ok (.iaload, 1))
    (h : mm_ial w q j = some x) (k : W p l e R s m args below meth c H locs cells slots Q (F0 m (pc + 1) ls (.int x :: st))) : W p l e R s m args below meth c H locs cells slots Q (F0 m pc ls (.int j :: sm_v ad fm (.ref q) :: st)) := by
  obtain ⟨hx, hb, hr, hml, hown, hts, hlocks, hnm, hfr, hlo⟩ := hE
  unfold mm_ial at h
  cases hq : w.1[q]? with
  | none => rw [hq] at h; cases h
  | some D =>
    obtain ⟨t, n, f, rs⟩ := D
    rw [hq] at h
    dsimp only at h
    by_cases hin : j < 0 ∨ n ≤ j.toNatClampNeg
    · rw [if_pos hin] at h; cases h
    · rw [if_neg hin] at h
      split at h
      · rename_i h0
        cases h
        simp only [beq_iff_eq] at h0
        subst h0
        have h14 : 14 ≤ q := hwf.new hq (by show 1 ≤ 6; decide)
        rw [sm_ref (by omega), had q h14]
        exact va_iald hx hb hSt.1 hP (q - 14) 0 (sm_get hq h14) rfl hin hd k
      · rename_i h0 hno
        cases h
        simp only [beq_iff_eq] at h0
        subst h0
        have hO := hwf.rd hq (by show 7 ≤ 7; decide)
        rw [sm_ref (sm_O_ne hO (by show (7 : Nat) ≠ 11; decide))]
        exact va_ti hx hb (hSt.2.2.2.2.2.2.1 q _ hO rfl) hS hin rfl hd k
      · cases h
set_option maxHeartbeats 4000000 in
theorem sm_bal (hE : sm_En p R s m args meth c Y ml d) (hSt : sm_St bs cy ad fm Dg Ls xs s) (hwf : sm_wf Ls xs w.1) (had : ∀ j, 14 ≤ j → ad j = bs + (j - 14)) (hP : va_P Dg vwCl (sm_w bs cy ad fm w) H) (hS : va_S (sm_A bs) s.heap H locs) (hd : decode Y.2.1 pc = .ok (.baload, 1))
    (h : mm_bal w q j = some x) (k : W p l e R s m args below meth c H locs cells slots Q (F0 m (pc + 1) ls (.int x :: st))) : W p l e R s m args below meth c H locs cells slots Q (F0 m pc ls (.int j :: sm_v ad fm (.ref q) :: st)) := by
  obtain ⟨hx, hb, hr, hml, hown, hts, hlocks, hnm, hfr, hlo⟩ := hE
  unfold mm_bal at h
  cases hq : w.1[q]? with
  | none => rw [hq] at h; cases h
  | some D =>
    obtain ⟨t, n, f, rs⟩ := D
    rw [hq] at h
    dsimp only at h
    by_cases hin : j < 0 ∨ n ≤ j.toNatClampNeg
    · rw [if_pos hin] at h; cases h
    · rw [if_neg hin] at h
      split at h
      · rename_i h0
        cases h
        simp only [Bool.or_eq_true, beq_iff_eq] at h0
        rcases h0 with rfl | rfl
        · have h14 : 14 ≤ q := hwf.new hq (by show 2 ≤ 6; decide)
          rw [sm_ref (by omega), had q h14]
          exact va_bald hx hb hSt.1 hP (q - 14) 1 (sm_get hq h14) rfl hin hd k
        · have h14 : 14 ≤ q := hwf.new hq (by show 3 ≤ 6; decide)
          rw [sm_ref (by omega), had q h14]
          exact va_zald hx hb hSt.1 hP (q - 14) 2 (sm_get hq h14) rfl hin hd k
      · rename_i h0 hno
        cases h
        simp only [beq_iff_eq] at h0
        subst h0
        have hO := hwf.rd hq (by show 7 ≤ 8; decide)
        rw [sm_ref (sm_O_ne hO (by show (8 : Nat) ≠ 11; decide))]
        exact va_tb hx hb (hSt.2.2.2.2.2.2.2.1 q _ hO rfl) hS hin rfl hd k
      · cases h
set_option maxHeartbeats 4000000 in
theorem sm_lal (hE : sm_En p R s m args meth c Y ml d) (hSt : sm_St bs cy ad fm Dg Ls xs s) (hwf : sm_wf Ls xs w.1) (had : ∀ j, 14 ≤ j → ad j = bs + (j - 14)) (hP : va_P Dg vwCl (sm_w bs cy ad fm w) H) (hd : decode Y.2.1 pc = .ok (.laload, 1))
    (h : mm_lal w q j = some z) (k : W p l e R s m args below meth c H locs cells slots Q (F0 m (pc + 1) ls (.long z :: st))) : W p l e R s m args below meth c H locs cells slots Q (F0 m pc ls (.int j :: sm_v ad fm (.ref q) :: st)) := by
  obtain ⟨hx, hb, hr, hml, hown, hts, hlocks, hnm, hfr, hlo⟩ := hE
  unfold mm_lal at h
  cases hq : w.1[q]? with
  | none => rw [hq] at h; cases h
  | some D =>
    obtain ⟨t, n, f, rs⟩ := D
    rw [hq] at h
    dsimp only at h
    by_cases hin : j < 0 ∨ n ≤ j.toNatClampNeg
    · rw [if_pos hin] at h; cases h
    · rw [if_neg hin] at h
      split at h
      · rename_i h0
        cases h
        simp only [beq_iff_eq] at h0
        subst h0
        have h14 : 14 ≤ q := hwf.new hq (by show 4 ≤ 6; decide)
        rw [sm_ref (by omega), had q h14]
        exact va_lald hx hb hSt.1 hP (q - 14) 3 (sm_get hq h14) rfl hin hd k
      · cases h
set_option maxHeartbeats 4000000 in
theorem sm_aal (hE : sm_En p R s m args meth c Y ml d) (hSt : sm_St bs cy ad fm Dg Ls xs s) (hwf : sm_wf Ls xs w.1) (had : ∀ j, 14 ≤ j → ad j = bs + (j - 14)) (hP : va_P Dg vwCl (sm_w bs cy ad fm w) H) (hd : decode Y.2.1 pc = .ok (.aaload, 1))
    (h : mm_aal w q j = some v) (k : W p l e R s m args below meth c H locs cells slots Q (F0 m (pc + 1) ls (sm_v ad fm v :: st))) : W p l e R s m args below meth c H locs cells slots Q (F0 m pc ls (.int j :: sm_v ad fm (.ref q) :: st)) := by
  obtain ⟨hx, hb, hr, hml, hown, hts, hlocks, hnm, hfr, hlo⟩ := hE
  unfold mm_aal at h
  cases hq : w.1[q]? with
  | none => rw [hq] at h; cases h
  | some D =>
    obtain ⟨t, n, f, rs⟩ := D
    rw [hq] at h
    dsimp only at h
    by_cases hin : j < 0 ∨ n ≤ j.toNatClampNeg
    · rw [if_pos hin] at h; cases h
    · rw [if_neg hin] at h
      split at h
      · rename_i h0
        cases h
        simp only [Bool.or_eq_true, beq_iff_eq] at h0
        have h14 : 14 ≤ q := hwf.new hq (by show t ≤ 6; omega)
        have hdk := (hwf.2 q _ h14 hq).2 h0
        rw [sm_ref (by omega), had q h14]
        have e1 : va_rf ((rs.getD j.toNatClampNeg none).map ad) = sm_v ad fm (va_rf (rs.getD j.toNatClampNeg none)) := by
          cases hv : rs.getD j.toNatClampNeg none with
          | none => rfl
          | some y => exact (sm_ref (hdk _ y hv)).symm
        rw [← e1] at k
        rcases h0 with rfl | rfl
        · exact va_aldq hx hb hSt.1 hP (q - 14) 4 (sm_get hq h14) rfl hin hd k
        · exact va_aldq hx hb hSt.1 hP (q - 14) 5 (sm_get hq h14) rfl hin hd k
      · cases h
set_option maxHeartbeats 4000000 in
theorem sm_al (hE : sm_En p R s m args meth c Y ml d) (hSt : sm_St bs cy ad fm Dg Ls xs s) (hwf : sm_wf Ls xs w.1) (had : ∀ j, 14 ≤ j → ad j = bs + (j - 14)) (hP : va_P Dg vwCl (sm_w bs cy ad fm w) H) (hS : va_S (sm_A bs) s.heap H locs) (hd : decode Y.2.1 pc = .ok (.arraylength, 1))
    (h : mm_len w q = some x) (k : W p l e R s m args below meth c H locs cells slots Q (F0 m (pc + 1) ls (.int x :: st))) : W p l e R s m args below meth c H locs cells slots Q (F0 m pc ls (sm_v ad fm (.ref q) :: st)) := by
  obtain ⟨hx, hb, hr, hml, hown, hts, hlocks, hnm, hfr, hlo⟩ := hE
  unfold mm_len at h
  cases hq : w.1[q]? with
  | none => rw [hq] at h; cases h
  | some D =>
    obtain ⟨t, n, f, rs⟩ := D
    rw [hq] at h
    dsimp only at h
    split at h
    · rename_i h0
      cases h
      simp only [Bool.and_eq_true] at h0
      have a1 : 0 < t := mm_blt h0.1
      have a2 : t < 9 := mm_blt h0.2
      by_cases h7 : t ≤ 6
      · have h14 : 14 ≤ q := hwf.new hq h7
        rw [sm_ref (by omega), had q h14]
        have hg := sm_get (bs := bs) (cy := cy) (ad := ad) (fm := fm) hq h14
        match t, a1, h7, hg with
        | 1, _, _, hg => exact va_alen hx hb hSt.1 hP (q - 14) 0 hg (ty := .int) rfl rfl hd k
        | 2, _, _, hg => exact va_alen hx hb hSt.1 hP (q - 14) 1 hg (ty := .byte) rfl rfl hd k
        | 3, _, _, hg => exact va_alen hx hb hSt.1 hP (q - 14) 2 hg (ty := .boolean) rfl rfl hd k
        | 4, _, _, hg => exact va_alen hx hb hSt.1 hP (q - 14) 3 hg (ty := .long) rfl rfl hd k
        | 5, _, _, hg => exact va_alen hx hb hSt.1 hP (q - 14) 4 hg (ty := .object RX6) rfl rfl hd k
        | 6, _, _, hg => exact va_alen hx hb hSt.1 hP (q - 14) 5 hg (ty := .object RX7) rfl rfl hd k
      · have hO := hwf.rd hq (by show 7 ≤ t; omega)
        rw [sm_ref (sm_O_ne hO (by show t ≠ 11; omega))]
        rcases (show t = 7 ∨ t = 8 by omega) with rfl | rfl
        · exact va_tlen hx hb (hSt.2.2.2.2.2.2.1 q _ hO rfl) hS rfl hd k
        · exact va_tlen hx hb (hSt.2.2.2.2.2.2.2.1 q _ hO rfl) hS rfl hd k
    · cases h
set_option maxHeartbeats 4000000 in
theorem sm_ias (hE : sm_En p R s m args meth c Y ml d) (hSt : sm_St bs cy ad fm Dg Ls xs s) (hwf : sm_wf Ls xs w.1) (had : ∀ j, 14 ≤ j → ad j = bs + (j - 14)) (hP : va_P Dg vwCl (sm_w bs cy ad fm w) H) (hS : va_S (sm_A bs) s.heap H locs) (hd : decode Y.2.1 pc = .ok (.iastore, 1))
    (h : mm_ias w q j x = some w') (k : ∀ (H1 : Heap) (locs1 : List Loc), w'.1 = w.1 → va_P Dg vwCl (sm_w bs cy ad fm w') H1 → va_S (sm_A bs) s.heap H1 locs1 → W p l e R s m args below meth c H1 locs1 cells slots Q (F0 m (pc + 1) ls st)) : W p l e R s m args below meth c H locs cells slots Q (F0 m pc ls (.int x :: .int j :: sm_v ad fm (.ref q) :: st)) := by
  obtain ⟨hx, hb, hr, hml, hown, hts, hlocks, hnm, hfr, hlo⟩ := hE
  obtain ⟨Λ, μ⟩ := w
  unfold mm_ias at h
  dsimp only at h hwf
  cases hq : Λ[q]? with
  | none => rw [hq] at h; cases h
  | some D =>
    obtain ⟨t, n, f, rs⟩ := D
    rw [hq] at h
    dsimp only at h
    by_cases hin : j < 0 ∨ n ≤ j.toNatClampNeg
    · rw [if_pos hin] at h; cases h
    · rw [if_neg hin] at h
      split at h
      · rename_i h0
        cases h
        simp only [beq_iff_eq] at h0
        subst h0
        have h14 : 14 ≤ q := hwf.new hq (by show 1 ≤ 6; decide)
        rw [sm_ref (by omega), had q h14]
        refine va_iast hx hb hSt.1 hP sm_D hS (q - 14) 0 (sm_get (w := (Λ, μ)) hq h14) rfl hin hd (fun H1 locs1 hP1 hD1 hS1 => k H1 locs1 rfl ?_ hS1)
        have e1 := sm_mem (bs := bs) (cy := cy) (ad := ad) (fm := fm) (μ := μ) (μ' := mm_sI μ q (upd (μ.1 q) j.toNatClampNeg x)) hq h14 sm_sI_o
        rw [← e1, show sm_e cy ad fm (mm_sI μ q (upd (μ.1 q) j.toNatClampNeg x)) q (1, n, f, rs) = .inl (cy 1, n, .inl (upd (μ.1 q) j.toNatClampNeg x)) by simp [sm_e, mm_sI]]
        exact hP1
      · cases h
set_option maxHeartbeats 4000000 in
theorem sm_bas (hE : sm_En p R s m args meth c Y ml d) (hSt : sm_St bs cy ad fm Dg Ls xs s) (hwf : sm_wf Ls xs w.1) (had : ∀ j, 14 ≤ j → ad j = bs + (j - 14)) (hP : va_P Dg vwCl (sm_w bs cy ad fm w) H) (hS : va_S (sm_A bs) s.heap H locs) (hd : decode Y.2.1 pc = .ok (.bastore, 1))
    (h : mm_bas w q j x = some w') (k : ∀ (H1 : Heap) (locs1 : List Loc), w'.1 = w.1 → va_P Dg vwCl (sm_w bs cy ad fm w') H1 → va_S (sm_A bs) s.heap H1 locs1 → W p l e R s m args below meth c H1 locs1 cells slots Q (F0 m (pc + 1) ls st)) : W p l e R s m args below meth c H locs cells slots Q (F0 m pc ls (.int x :: .int j :: sm_v ad fm (.ref q) :: st)) := by
  obtain ⟨hx, hb, hr, hml, hown, hts, hlocks, hnm, hfr, hlo⟩ := hE
  obtain ⟨Λ, μ⟩ := w
  unfold mm_bas at h
  dsimp only at h hwf
  cases hq : Λ[q]? with
  | none => rw [hq] at h; cases h
  | some D =>
    obtain ⟨t, n, f, rs⟩ := D
    rw [hq] at h
    dsimp only at h
    by_cases hin : j < 0 ∨ n ≤ j.toNatClampNeg
    · rw [if_pos hin] at h; cases h
    · rw [if_neg hin] at h
      split at h
      · rename_i h0
        cases h
        simp only [beq_iff_eq] at h0
        subst h0
        have h14 : 14 ≤ q := hwf.new hq (by show 2 ≤ 6; decide)
        rw [sm_ref (by omega), had q h14]
        refine va_bast hx hb hSt.1 hP sm_D hS (q - 14) 1 (sm_get (w := (Λ, μ)) hq h14) rfl hin hd (fun H1 locs1 hP1 hD1 hS1 => k H1 locs1 rfl ?_ hS1)
        have e1 := sm_mem (bs := bs) (cy := cy) (ad := ad) (fm := fm) (μ := μ) (μ' := mm_sI μ q (upd (μ.1 q) j.toNatClampNeg (vp_nar .byte x))) hq h14 sm_sI_o
        rw [← e1, show sm_e cy ad fm (mm_sI μ q (upd (μ.1 q) j.toNatClampNeg (vp_nar .byte x))) q (2, n, f, rs) = .inl (cy 2, n, .inl (upd (μ.1 q) j.toNatClampNeg (vp_nar .byte x))) by simp [sm_e, mm_sI]]
        exact hP1
      · rename_i h0 hno
        cases h
        simp only [beq_iff_eq] at h0
        subst h0
        have h14 : 14 ≤ q := hwf.new hq (by show 3 ≤ 6; decide)
        rw [sm_ref (by omega), had q h14]
        refine va_zast hx hb hSt.1 hP sm_D hS (q - 14) 2 (sm_get (w := (Λ, μ)) hq h14) rfl hin hd (fun H1 locs1 hP1 hD1 hS1 => k H1 locs1 rfl ?_ hS1)
        have e1 := sm_mem (bs := bs) (cy := cy) (ad := ad) (fm := fm) (μ := μ) (μ' := mm_sI μ q (upd (μ.1 q) j.toNatClampNeg (vp_nar .boolean x))) hq h14 sm_sI_o
        rw [← e1, show sm_e cy ad fm (mm_sI μ q (upd (μ.1 q) j.toNatClampNeg (vp_nar .boolean x))) q (3, n, f, rs) = .inl (cy 3, n, .inl (upd (μ.1 q) j.toNatClampNeg (vp_nar .boolean x))) by simp [sm_e, mm_sI]]
        exact hP1
      · cases h
set_option maxHeartbeats 4000000 in
theorem sm_las (hE : sm_En p R s m args meth c Y ml d) (hSt : sm_St bs cy ad fm Dg Ls xs s) (hwf : sm_wf Ls xs w.1) (had : ∀ j, 14 ≤ j → ad j = bs + (j - 14)) (hP : va_P Dg vwCl (sm_w bs cy ad fm w) H) (hS : va_S (sm_A bs) s.heap H locs) (hd : decode Y.2.1 pc = .ok (.lastore, 1))
    (h : mm_las w q j z = some w') (k : ∀ (H1 : Heap) (locs1 : List Loc), w'.1 = w.1 → va_P Dg vwCl (sm_w bs cy ad fm w') H1 → va_S (sm_A bs) s.heap H1 locs1 → W p l e R s m args below meth c H1 locs1 cells slots Q (F0 m (pc + 1) ls st)) : W p l e R s m args below meth c H locs cells slots Q (F0 m pc ls (.long z :: .int j :: sm_v ad fm (.ref q) :: st)) := by
  obtain ⟨hx, hb, hr, hml, hown, hts, hlocks, hnm, hfr, hlo⟩ := hE
  obtain ⟨Λ, μ⟩ := w
  unfold mm_las at h
  dsimp only at h hwf
  cases hq : Λ[q]? with
  | none => rw [hq] at h; cases h
  | some D =>
    obtain ⟨t, n, f, rs⟩ := D
    rw [hq] at h
    dsimp only at h
    by_cases hin : j < 0 ∨ n ≤ j.toNatClampNeg
    · rw [if_pos hin] at h; cases h
    · rw [if_neg hin] at h
      split at h
      · rename_i h0
        cases h
        simp only [beq_iff_eq] at h0
        subst h0
        have h14 : 14 ≤ q := hwf.new hq (by show 4 ≤ 6; decide)
        rw [sm_ref (by omega), had q h14]
        refine va_last hx hb hSt.1 hP sm_D hS (q - 14) 3 (sm_get (w := (Λ, μ)) hq h14) rfl hin hd (fun H1 locs1 hP1 hD1 hS1 => k H1 locs1 rfl ?_ hS1)
        have e1 := sm_mem (bs := bs) (cy := cy) (ad := ad) (fm := fm) (μ := μ) (μ' := mm_sJ μ q (vp_updL (μ.2.1 q) j.toNatClampNeg z)) hq h14 sm_sJ_o
        rw [← e1, show sm_e cy ad fm (mm_sJ μ q (vp_updL (μ.2.1 q) j.toNatClampNeg z)) q (4, n, f, rs) = .inl (cy 4, n, .inr (.inl (vp_updL (μ.2.1 q) j.toNatClampNeg z))) by simp [sm_e, mm_sJ]]
        exact hP1
      · cases h
end
