theorem sm_wa1 : Cond.arrayClass .int ∈ mm_good := mm_has_mem (h := 1086) (by decide +kernel)
theorem sm_wa2 : Cond.arrayClass .byte ∈ mm_good := mm_has_mem (h := 1157) (by decide +kernel)
theorem sm_wa3 : Cond.arrayClass .boolean ∈ mm_good := mm_has_mem (h := 4234) (by decide +kernel)
theorem sm_wa4 : Cond.arrayClass .long ∈ mm_good := mm_has_mem (h := 2001) (by decide +kernel)
theorem sm_wo1 : Cond.instanceMethod Lib.objectInit ∈ mm_good := mm_has_mem (h := 1026) (by decide +kernel)
theorem sm_wo2 : Cond.code Lib.objectInit ⟨#[0xb1]⟩ 1 none ∈ mm_good := mm_has_mem (h := 1027) (by decide +kernel)
theorem sm_wmx1 : Cond.static Lib.Math.max.name ∈ mm_good := mm_has_mem (h := 2105) (by decide +kernel)
theorem sm_wmx2 : Cond.code Lib.Math.max.name Lib.Math.max.code 2 (some .int) ∈ mm_good := mm_has_mem (h := 2106) (by decide +kernel)
theorem sm_wmn1 : Cond.static Lib.Math.min.name ∈ mm_good := mm_has_mem (h := 2079) (by decide +kernel)
theorem sm_wmn2 : Cond.code Lib.Math.min.name Lib.Math.min.code 2 (some .int) ∈ mm_good := mm_has_mem (h := 2080) (by decide +kernel)
theorem sm_wma1 : Cond.static Lib.MathLoose.abs_long.x ∈ mm_good := mm_has_mem (h := 5214) (by decide +kernel)
theorem sm_wma2 : Cond.code Lib.MathLoose.abs_long.x Lib.MathLoose.abs_long.code 2 (some .long) ∈ mm_good := mm_has_mem (h := 5215) (by decide +kernel)
theorem sm_wm : Cond.initialized "java/lang/Math" ∈ mm_good := mm_has_mem (h := 1012) (by decide +kernel)
theorem sm_wy : Cond.initialized "java/lang/System" ∈ mm_good := mm_has_mem (h := 1013) (by decide +kernel)
theorem sm_wc1 : Cond.native arraycopyName ∈ mm_good := mm_has_mem (h := 2117) (by decide +kernel)
theorem sm_wc2 : Cond.static arraycopyName ∈ mm_good := mm_has_mem (h := 2116) (by decide +kernel)
theorem sm_sI_q {μ : mm_M} {q : Nat} {f : Nat → Int32} : (mm_sI μ q f).1 q = f := by simp [mm_sI]
theorem sm_sJ_q {μ : mm_M} {q : Nat} {f : Nat → Int64} : (mm_sJ μ q f).2.1 q = f := by simp [mm_sJ]
theorem sm_sR_q {μ : mm_M} {q : Nat} {f : Nat → Option Nat} : (mm_sR μ q f).2.2 q = f := by simp [mm_sR]
theorem sm_sI_o {μ : mm_M} {q : Nat} {f : Nat → Int32} : ∀ c, c ≠ q → (mm_sI μ q f).1 c = μ.1 c ∧ (mm_sI μ q f).2.1 c = μ.2.1 c ∧ (mm_sI μ q f).2.2 c = μ.2.2 c := fun c h => ⟨by simp [mm_sI, h], rfl, rfl⟩
theorem sm_sJ_o {μ : mm_M} {q : Nat} {f : Nat → Int64} : ∀ c, c ≠ q → (mm_sJ μ q f).1 c = μ.1 c ∧ (mm_sJ μ q f).2.1 c = μ.2.1 c ∧ (mm_sJ μ q f).2.2 c = μ.2.2 c := fun c h => ⟨rfl, by simp [mm_sJ, h], rfl⟩
theorem sm_sR_o {μ : mm_M} {q : Nat} {f : Nat → Option Nat} : ∀ c, c ≠ q → (mm_sR μ q f).1 c = μ.1 c ∧ (mm_sR μ q f).2.1 c = μ.2.1 c ∧ (mm_sR μ q f).2.2 c = μ.2.2 c := fun c h => ⟨rfl, rfl, by simp [mm_sR, h]⟩
theorem sm_mem {bs : Nat} {cy : Nat → ClassId} {ad : Nat → Nat} {fm : Value} {Λ : List mm_D} {μ μ' : mm_M} {q : Nat} {D : mm_D} (hq : Λ[q]? = some D) (h14 : 14 ≤ q) (hμ : ∀ c, c ≠ q → μ'.1 c = μ.1 c ∧ μ'.2.1 c = μ.2.1 c ∧ μ'.2.2 c = μ.2.2 c) : (sm_w bs cy ad fm (Λ, μ)).set (q - 14) (bs + (q - 14), sm_e cy ad fm μ' q D) = sm_w bs cy ad fm (Λ, μ') := by
  rw [sm_set hq h14 hμ, sm_set_same hq]
section
variable {p : Program} {l : Launch} {e : Env} {R : Room} {s : State} {m : MethodId} {args : Array Value} {below : List Frame} {meth : Method} {c : Code} {H : Heap} {locs : List Loc} {cells slots : Nat} {Q : State → Prop}
variable {bs : Nat} {cy : Nat → ClassId} {ad : Nat → Nat} {fm : Value} {Dg : va_G} {Ls : Nat} {xs : Nat → Int32} {Y : MethodName × ByteArray × Option FieldType} {pc a b c0 n hh ml d q : Nat} {ls : Array Slot} {st : List Value} {w w' : mm_W} {v : Value} {j x : Int32}
theorem sm_fits {C : String} (hfm : fm = .null ∨ ∃ t, fm = .ref t) (x : Nat) : narrow (.object C) (sm_v ad fm (.ref x)) = sm_v ad fm (.ref x) ∧ fits (.object C) (sm_v ad fm (.ref x)) = true := by
  rcases sm_vr (ad := ad) hfm x with e | ⟨t, e⟩ <;> rw [e] <;> exact ⟨rfl, rfl⟩
set_option maxHeartbeats 4000000 in
theorem sm_pf (hE : sm_En p R s m args meth c Y ml d) (hSt : sm_St bs cy ad fm Dg Ls xs s) (hwf : sm_wf Ls xs w.1) (had : ∀ j, 14 ≤ j → ad j = bs + (j - 14)) (hP : va_P Dg vwCl (sm_w bs cy ad fm w) H) (hS : va_S (sm_A bs) s.heap H locs) (hd : decode Y.2.1 pc = .ok (.putfield n, 3))
    (o1 : Nat.blt a 10 = true) (o2 : Nat.blt b (mm_N.getD a 0) = true) (o4 : mm_has hh (.fieldLink Y.1.cls n (((mm_T1 a).2.1 b).1) (((mm_T1 a).2.1 b).2.1) (((mm_T1 a).2.1 b).2.2.1)) = true)
    (ok : (match c0 with
    | 0 => decide (mm_fc a b = 0) && !((mm_T1 a).2.1 b).2.2.2 && decide (parseFieldDescriptor ((mm_T1 a).2.1 b).2.2.1 = some .int)
    | 5 => decide (mm_fc a b = 0) && !((mm_T1 a).2.1 b).2.2.2 && decide (parseFieldDescriptor ((mm_T1 a).2.1 b).2.2.1 = some .boolean)
    | 1 => decide (mm_fc a b = 1) && !((mm_T1 a).2.1 b).2.2.2 && decide (parseFieldDescriptor ((mm_T1 a).2.1 b).2.2.1 = some (.object "GlobeCorner$School"))
    | 2 => decide (mm_fc a b = 2) && ((mm_T1 a).2.1 b).2.2.2 && decide (((mm_T1 a).2.1 b).1 = Y.1.cls) && decide (Y.1.name = "<init>") && (match parseFieldDescriptor ((mm_T1 a).2.1 b).2.2.1 with
      | some (.object _) => true
      | some (.array _) => true
      | _ => false)
    | _ => false) = true)
    (h : mm_pf w q a b c0 v = some w') (k : ∀ (H1 : Heap) (locs1 : List Loc), sm_wf Ls xs w'.1 → w'.1.length = w.1.length → sm_sz w'.1 = sm_sz w.1 → va_P Dg vwCl (sm_w bs cy ad fm w') H1 → va_S (sm_A bs) s.heap H1 locs1 → W p l e R s m args below meth c H1 locs1 cells slots Q (F0 m (pc + 3) ls st)) : W p l e R s m args below meth c H locs cells slots Q (F0 m pc ls (sm_v ad fm v :: sm_v ad fm (.ref q) :: st)) := by
  obtain ⟨hx, hb, hr, hml, hown, hts, hlocks, hnm, hfr, hlo⟩ := hE
  obtain ⟨Λ, μ⟩ := w
  have hfm := hSt.2.2.2.2.2.2.2.2.2
  unfold mm_pf at h
  dsimp only at h k hwf hP
  cases hq : Λ[q]? with
  | none => rw [hq] at h; cases h
  | some D =>
    obtain ⟨t, n0, f, rs⟩ := D
    rw [hq] at h
    dsimp only at h
    have ht : (t == 0 && n0 == a) = true := by
      cases hz : (t == 0 && n0 == a) with
      | true => rfl
      | false => rw [hz] at h; cases h
    rw [ht] at h
    simp only [Bool.and_eq_true, beq_iff_eq] at ht
    obtain ⟨rfl, rfl⟩ := ht
    have h14 : 14 ≤ q := hwf.new hq (by show 0 ≤ 6; decide)
    rw [sm_ref (q := q) (by omega), had q h14]
    have o1 : n0 < 10 := mm_blt o1
    have o2 : b < mm_N.getD n0 0 := mm_blt o2
    obtain ⟨C, T, N, c1, c2, c3, c4, ⟨ty, c5, -⟩, c6, c7, c8⟩ := sm_cls n0 o1
    have hm := mm_has_mem o4
    rw [c2] at hm ok
    dsimp only at hm ok
    have he := sm_get (bs := bs) (cy := cy) (ad := ad) (fm := fm) (w := (Λ, μ)) hq h14
    have hbN : b < N := by rw [← c3]; exact o2
    split at h
    · rename_i x he0
      cases h
      try dsimp only at ok
      simp only [Bool.and_eq_true, decide_eq_true_eq, Bool.not_eq_true'] at ok
      obtain ⟨⟨k1, k2⟩, k3⟩ := ok
      refine va_put hx hb hts c4 ty c5 c6 hown hSt.1 hP sm_D hS (q - 14) he c1 b hbN (hts _ hm) (fun _ z => z) k2 k3 (v := .int x) rfl rfl (by rw [sm_fs_len]; exact o2) hd (fun H1 locs1 hP1 hD1 hS1 => k H1 locs1 hwf rfl rfl ?_ hS1)
      dsimp only at hP1
      rw [sm_fs_set (ad := ad) (fm := fm) (μ := μ) (q := q) (n := n0) (rs := rs) (μ' := mm_sI μ q (upd (μ.1 q) b x)) (rs' := rs) o2 (by rw [sm_fs_at o2, k1, sm_sI_q]; simp [upd]) (fun j hj => ⟨by rw [sm_sI_q]; simp [upd, hj], rfl, rfl⟩)] at hP1
      have e1 := sm_mem (bs := bs) (cy := cy) (ad := ad) (fm := fm) (μ := μ) (μ' := mm_sI μ q (upd (μ.1 q) b x)) hq h14 sm_sI_o
      rw [← e1]
      exact hP1
    · rename_i x he0
      split at h
      · rename_i hx01
        cases h
        try dsimp only at ok
        simp only [Bool.and_eq_true, decide_eq_true_eq, Bool.not_eq_true'] at ok
        obtain ⟨⟨k1, k2⟩, k3⟩ := ok
        refine va_put hx hb hts c4 ty c5 c6 hown hSt.1 hP sm_D hS (q - 14) he c1 b hbN (hts _ hm) (fun _ z => z) k2 k3 (v := .int x) (by rcases hx01 with rfl | rfl <;> rfl) (by rcases hx01 with rfl | rfl <;> rfl) (by rw [sm_fs_len]; exact o2) hd (fun H1 locs1 hP1 hD1 hS1 => k H1 locs1 hwf rfl rfl ?_ hS1)
        dsimp only at hP1
        rw [sm_fs_set (ad := ad) (fm := fm) (μ := μ) (q := q) (n := n0) (rs := rs) (μ' := mm_sI μ q (upd (μ.1 q) b x)) (rs' := rs) o2 (by rw [sm_fs_at o2, k1, sm_sI_q]; simp [upd]) (fun j hj => ⟨by rw [sm_sI_q]; simp [upd, hj], rfl, rfl⟩)] at hP1
        have e1 := sm_mem (bs := bs) (cy := cy) (ad := ad) (fm := fm) (μ := μ) (μ' := mm_sI μ q (upd (μ.1 q) b x)) hq h14 sm_sI_o
        rw [← e1]
        exact hP1
      · cases h
    · rename_i x he0
      cases h
      try dsimp only at ok
      simp only [Bool.and_eq_true, decide_eq_true_eq, Bool.not_eq_true'] at ok
      obtain ⟨⟨k1, k2⟩, k3⟩ := ok
      refine va_put hx hb hts c4 ty c5 c6 hown hSt.1 hP sm_D hS (q - 14) he c1 b hbN (hts _ hm) (fun _ z => z) k2 k3 (v := sm_v ad fm (.ref x)) (sm_fits hfm x).1 (sm_fits hfm x).2 (by rw [sm_fs_len]; exact o2) hd (fun H1 locs1 hP1 hD1 hS1 => k H1 locs1 hwf rfl rfl ?_ hS1)
      dsimp only at hP1
      rw [sm_fs_set (ad := ad) (fm := fm) (μ := μ) (q := q) (n := n0) (rs := rs) (μ' := mm_sR μ q (va_up (μ.2.2 q) b (some x))) (rs' := rs) o2 (by rw [sm_fs_at o2, k1, sm_sR_q]; simp [va_up, va_rf]) (fun j hj => ⟨rfl, by rw [sm_sR_q]; simp [va_up, hj], rfl⟩)] at hP1
      have e1 := sm_mem (bs := bs) (cy := cy) (ad := ad) (fm := fm) (μ := μ) (μ' := mm_sR μ q (va_up (μ.2.2 q) b (some x))) hq h14 sm_sR_o
      rw [← e1]
      exact hP1
    · cases h
      try dsimp only at ok
      simp only [Bool.and_eq_true, decide_eq_true_eq, Bool.not_eq_true'] at ok
      obtain ⟨⟨k1, k2⟩, k3⟩ := ok
      refine va_put hx hb hts c4 ty c5 c6 hown hSt.1 hP sm_D hS (q - 14) he c1 b hbN (hts _ hm) (fun _ z => z) k2 k3 (v := .null) rfl rfl (by rw [sm_fs_len]; exact o2) hd (fun H1 locs1 hP1 hD1 hS1 => k H1 locs1 hwf rfl rfl ?_ hS1)
      dsimp only at hP1
      rw [sm_fs_set (ad := ad) (fm := fm) (μ := μ) (q := q) (n := n0) (rs := rs) (μ' := mm_sR μ q (va_up (μ.2.2 q) b none)) (rs' := rs) o2 (by rw [sm_fs_at o2, k1, sm_sR_q]; simp [va_up, va_rf, sm_v]) (fun j hj => ⟨rfl, by rw [sm_sR_q]; simp [va_up, hj], rfl⟩)] at hP1
      have e1 := sm_mem (bs := bs) (cy := cy) (ad := ad) (fm := fm) (μ := μ) (μ' := mm_sR μ q (va_up (μ.2.2 q) b none)) hq h14 sm_sR_o
      rw [← e1]
      exact hP1
    · rename_i x he0
      split at h
      · rename_i hbl
        cases h
        have hbl : b < rs.length := mm_blt hbl
        try dsimp only at ok
        simp only [Bool.and_eq_true, decide_eq_true_eq] at ok
        obtain ⟨⟨⟨⟨k1, k2⟩, k3⟩, k4⟩, k5⟩ := ok
        have hty : ∃ ty0, parseFieldDescriptor (T b).2.2.1 = some ty0 ∧ narrow ty0 (sm_v ad fm (.ref x)) = sm_v ad fm (.ref x) ∧ fits ty0 (sm_v ad fm (.ref x)) = true := by
          split at k5
          · rename_i C1 hp; exact ⟨_, hp, sm_fits hfm x⟩
          · rename_i C1 hp
            refine ⟨_, hp, ?_⟩
            rcases sm_vr (ad := ad) hfm x with e | ⟨t, e⟩ <;> rw [e] <;> exact ⟨rfl, rfl⟩
          · cases k5
        obtain ⟨ty0, t1, t2, t3⟩ := hty
        refine va_putF hx hb hts c4 ty c5 c6 hown hSt.1 hP sm_D hS (q - 14) he c1 b hbN (hts _ hm) (fun _ z => z) k2 (hnm k4) k3 t1 t2 t3 (by rw [sm_fs_len]; exact o2) hd (fun H1 locs1 hP1 hD1 hS1 => k H1 locs1 (hwf.set h14 ⟨by show 0 ≤ 6; decide, fun z => by rcases z with z | z <;> cases z⟩) (by rw [List.length_set]) (sm_sz_set _ _ _ _ hq rfl rfl) ?_ hS1)
        dsimp only at hP1
        rw [sm_fs_set (ad := ad) (fm := fm) (μ := μ) (q := q) (n := n0) (rs := rs) (μ' := μ) (rs' := rs.set b (some x)) o2 (by rw [sm_fs_at o2, k1]; simp [List.getD_eq_getElem?_getD, hbl, va_rf]) (fun j hj => ⟨rfl, rfl, by simp [List.getD_eq_getElem?_getD, List.getElem?_set_ne (Ne.symm hj)]⟩)] at hP1
        have e1 := sm_set (bs := bs) (cy := cy) (ad := ad) (fm := fm) (μ := μ) (μ' := μ) (D' := (0, n0, f, rs.set b (some x))) hq h14 (fun c _ => ⟨rfl, rfl, rfl⟩)
        rw [← e1]
        exact hP1
      · cases h
    · cases h
end
