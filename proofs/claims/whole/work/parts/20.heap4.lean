/-- a new cell lies where the heap ended -/
theorem sm_fresh {bs : Nat} {cy : Nat → ClassId} {ad : Nat → Nat} {fm : Value} {w : mm_W} {Dg : va_G} {H1 : Heap} {q N : Nat} {x : va_E} (hP : va_P Dg vwCl (sm_w bs cy ad fm w ++ [(q, x)]) H1) (hD : va_D (sm_A bs) (sm_w bs cy ad fm w ++ [(q, x)])) (hN : N = bs + (w.1.length - 14)) (hs : H1.size ≤ N + 1) : q = N := by
  have hl : (sm_w bs cy ad fm w).length = w.1.length - 14 := sm_len
  have g : (sm_w bs cy ad fm w ++ [(q, x)])[w.1.length - 14]? = some (q, x) := by
    rw [← hl, List.getElem?_append_right (Nat.le_refl _), Nat.sub_self]
    rfl
  have h1 : q < H1.size := (hP _ _ g).lt
  have h2 : bs ≤ q := hD.2 _ _ g
  rcases Nat.lt_or_ge q N with h3 | h3
  · exfalso
    have hj : q - bs < w.1.length - 14 := by omega
    have hE : ∃ E, w.1[14 + (q - bs)]? = some E := ⟨_, List.getElem?_eq_getElem (by omega)⟩
    obtain ⟨E, hE⟩ := hE
    have g2 := sm_get (bs := bs) (cy := cy) (ad := ad) (fm := fm) hE (by omega)
    rw [show 14 + (q - bs) - 14 = q - bs by omega] at g2
    have g3 : (sm_w bs cy ad fm w ++ [(q, x)])[q - bs]? = some (bs + (q - bs), sm_e cy ad fm w.2 (14 + (q - bs)) E) := by
      rw [List.getElem?_append_left (by rw [hl]; exact hj)]
      exact g2
    have := hD.1 _ _ _ _ g g3 (by show q = bs + (q - bs); omega)
    omega
  · omega
theorem sm_zero {Λ : List mm_D} {μ : mm_M} {d : mm_D} : ∀ c, c ≠ Λ.length → (mm_new (Λ, μ) d).2.1 c = μ.1 c ∧ (mm_new (Λ, μ) d).2.2.1 c = μ.2.1 c ∧ (mm_new (Λ, μ) d).2.2.2 c = μ.2.2 c := fun c h => by
  simp [mm_new, mm_sI, mm_sJ, mm_sR, h]
def mm_nok (ty : ArrayType) (a : Nat) : Bool := match ty with
  | .int => decide (a = 1)
  | .byte => decide (a = 2)
  | .boolean => decide (a = 3)
  | .long => decide (a = 4)
  | _ => false
section
variable {p : Program} {l : Launch} {e : Env} {R : Room} {s : State} {m : MethodId} {args : Array Value} {below : List Frame} {meth : Method} {c : Code} {H : Heap} {locs : List Loc} {cells slots : Nat} {Q : State → Prop}
variable {bs : Nat} {cy : Nat → ClassId} {ad : Nat → Nat} {fm : Value} {Dg : va_G} {Ls : Nat} {xs : Nat → Int32} {Y : MethodName × ByteArray × Option FieldType} {pc a n hh ml d q x : Nat} {ls : Array Slot} {st st' : List Value} {w w' : mm_W} {v : Value} {j : Int32} {z : Int64}
set_option maxHeartbeats 4000000 in
theorem sm_aas (hE : sm_En p R s m args meth c Y ml d) (hSt : sm_St bs cy ad fm Dg Ls xs s) (hwf : sm_wf Ls xs w.1) (had : ∀ j, 14 ≤ j → ad j = bs + (j - 14)) (hP : va_P Dg vwCl (sm_w bs cy ad fm w) H) (hS : va_S (sm_A bs) s.heap H locs) (hd : decode Y.2.1 pc = .ok (.aastore, 1))
    (h : mm_aas w q j x = some w') (k : ∀ (H1 : Heap) (locs1 : List Loc), sm_wf Ls xs w'.1 → w'.1.length = w.1.length → sm_sz w'.1 = sm_sz w.1 → va_P Dg vwCl (sm_w bs cy ad fm w') H1 → va_S (sm_A bs) s.heap H1 locs1 → W p l e R s m args below meth c H1 locs1 cells slots Q (F0 m (pc + 1) ls st)) : W p l e R s m args below meth c H locs cells slots Q (F0 m pc ls (sm_v ad fm (.ref x) :: .int j :: sm_v ad fm (.ref q) :: st)) := by
  obtain ⟨hx, hb, hr, hml, hown, hts, hlocks, hnm, hfr, hlo⟩ := hE
  obtain ⟨Λ, μ⟩ := w
  unfold mm_aas at h
  dsimp only at h hwf k
  cases hq : Λ[q]? with
  | none => rw [hq] at h; cases h
  | some D =>
    cases hq2 : Λ[x]? with
    | none => rw [hq, hq2] at h; cases h
    | some D2 =>
      obtain ⟨t, n, f, rs⟩ := D
      obtain ⟨tx, nx, fx, rx⟩ := D2
      rw [hq, hq2] at h
      dsimp only at h
      by_cases hin : j < 0 ∨ n ≤ j.toNatClampNeg ∨ rs.length ≤ j.toNatClampNeg
      · rw [if_pos hin] at h; cases h
      · rw [if_neg hin] at h
        have hin1 : ¬ (j < 0 ∨ n ≤ j.toNatClampNeg) := fun z => hin (z.elim Or.inl (fun z => Or.inr (Or.inl z)))
        have hin2 : j.toNatClampNeg < rs.length := Nat.not_le.mp (fun z => hin (Or.inr (Or.inr z)))
        split at h
        · rename_i h0
          cases h
          simp only [Bool.or_eq_true, Bool.and_eq_true, beq_iff_eq] at h0
          have hx14 : 14 ≤ x := hwf.new hq2 (by show tx ≤ 6; omega)
          have h14 : 14 ≤ q := hwf.new hq (by show t ≤ 6; omega)
          have hdk := (hwf.2 q _ h14 hq)
          have hwf' : sm_wf Ls xs (Λ.set q (t, n, f, rs.set j.toNatClampNeg (some x))) := by
            refine hwf.set h14 ⟨hdk.1, fun ht i y hy => ?_⟩
            show y ≠ 13
            dsimp only at hy
            rw [List.getD_eq_getElem?_getD, List.getElem?_set] at hy
            split at hy
            · simp only [Option.getD_some, Option.some.injEq] at hy
              omega
            · exact hdk.2 ht i y (by rw [List.getD_eq_getElem?_getD]; exact hy)
          have e1 := sm_set (bs := bs) (cy := cy) (ad := ad) (fm := fm) (μ := μ) (μ' := μ) (D' := (t, n, f, rs.set j.toNatClampNeg (some x))) hq h14 (fun c _ => ⟨rfl, rfl, rfl⟩)
          have e2 : (fun i => ((rs.set j.toNatClampNeg (some x)).getD i none).map ad) = va_up (fun i => (rs.getD i none).map ad) j.toNatClampNeg (some (ad x)) := by
            funext i
            unfold va_up
            rw [List.getD_eq_getElem?_getD, List.getElem?_set]
            by_cases hi : j.toNatClampNeg = i
            · subst hi; simp [hin2]
            · simp [hi, Ne.symm hi, List.getD_eq_getElem?_getD]
          rw [sm_ref (q := q) (by omega), had q h14, sm_ref (q := x) (by omega)]
          have ex : ad x = bs + (x - 14) := had x hx14
          rcases h0 with ⟨rfl, rfl, rfl⟩ | ⟨rfl, rfl, rfl⟩
          · refine va_astq hx hb hSt.1 hP sm_D hS (q - 14) 4 (x - 14) 6 (r := (RX6, TX6, 6)) (sm_get (w := (Λ, μ)) hq h14) rfl (by rw [ex]; exact sm_get (w := (Λ, μ)) hq2 hx14) rfl hin1 hd (fun H1 locs1 hP1 hD1 hS1 => k H1 locs1 hwf' (by rw [List.length_set]) (sm_sz_set _ _ _ _ hq rfl rfl) ?_ hS1)
            rw [← e1]
            show va_P Dg vwCl ((sm_w bs cy ad fm (Λ, μ)).set (q - 14) (bs + (q - 14), .inl (cy 5, n, .inr (.inr (.inr (.inr (fun i => ((rs.set j.toNatClampNeg (some x)).getD i none).map ad))))))) H1
            rw [e2]
            exact hP1
          · refine va_astq hx hb hSt.1 hP sm_D hS (q - 14) 5 (x - 14) 7 (r := (RX7, TX7, 3)) (sm_get (w := (Λ, μ)) hq h14) rfl (by rw [ex]; exact sm_get (w := (Λ, μ)) hq2 hx14) rfl hin1 hd (fun H1 locs1 hP1 hD1 hS1 => k H1 locs1 hwf' (by rw [List.length_set]) (sm_sz_set _ _ _ _ hq rfl rfl) ?_ hS1)
            rw [← e1]
            show va_P Dg vwCl ((sm_w bs cy ad fm (Λ, μ)).set (q - 14) (bs + (q - 14), .inl (cy 6, n, .inr (.inr (.inr (.inr (fun i => ((rs.set j.toNatClampNeg (some x)).getD i none).map ad))))))) H1
            rw [e2]
            exact hP1
        · cases h
set_option maxHeartbeats 4000000 in
theorem sm_cp (hE : sm_En p R s m args meth c Y ml d) (hSt : sm_St bs cy ad fm Dg Ls xs s) (hwf : sm_wf Ls xs w.1) (had : ∀ j, 14 ≤ j → ad j = bs + (j - 14)) (hls : c.maxLocals = ls.size) (hP : va_P Dg vwCl (sm_w bs cy ad fm w) H) (hS : va_S (sm_A bs) s.heap H locs) (hd : decode Y.2.1 pc = .ok (.invokestatic n, 3)) (ok : mm_has hh (.methodLink Y.1.cls n arraycopyName) = true)
    (h : mm_cp st w = some (st', w')) (k : ∀ (H1 : Heap) (locs1 : List Loc), w'.1 = w.1 → va_P Dg vwCl (sm_w bs cy ad fm w') H1 → va_S (sm_A bs) s.heap H1 locs1 → W p l e R s m args below meth c H1 locs1 cells slots Q (F0 m (pc + 3) ls (st'.map (sm_v ad fm)))) : W p l e R s m args below meth c H locs cells slots Q (F0 m pc ls (st.map (sm_v ad fm))) := by
  have hfc := sm_St_fm hSt
  obtain ⟨hx, hb, hr, hml, hown, hts, hlocks, hnm, hfr, hlo⟩ := hE
  obtain ⟨Λ, μ⟩ := w
  unfold mm_cp at h
  dsimp only at h hwf k
  split at h
  · rename_i n1 dp b0 sp a0 s1
    cases hqa : Λ[a0]? with
    | none => rw [hqa] at h; cases h
    | some Da =>
      cases hqb : Λ[b0]? with
      | none => rw [hqa, hqb] at h; cases h
      | some Db =>
        obtain ⟨ta, na, fa, ra⟩ := Da
        obtain ⟨tb, nb, fb, rb⟩ := Db
        rw [hqa, hqb] at h
        dsimp only at h
        split at h
        · cases h
        · rename_i hc
          have c1 : ¬ n1 < 0 := fun z => hc (Or.inl z)
          have c2 : ¬ sp < 0 := fun z => hc (Or.inr (Or.inl z))
          have c3 : ¬ dp < 0 := fun z => hc (Or.inr (Or.inr (Or.inl z)))
          have c4 : sp.toNatClampNeg + n1.toNatClampNeg ≤ na := Nat.not_lt.mp (fun z => hc (Or.inr (Or.inr (Or.inr (Or.inl z)))))
          have c5 : dp.toNatClampNeg + n1.toNatClampNeg ≤ nb := Nat.not_lt.mp (fun z => hc (Or.inr (Or.inr (Or.inr (Or.inr (Or.inl z))))))
          have c6 : mm_wd s1 ≤ 8 := Nat.not_lt.mp (fun z => hc (Or.inr (Or.inr (Or.inr (Or.inr (Or.inr z))))))
          have hfw : ((s1.map (sm_v ad fm)).map (fun v => v.category)).sum + (nativeFrameWords "java/lang/System" "arraycopy" 5 + 11) ≤ R.locals := by
            rw [sm_wdc hfc]
            have : nativeFrameWords "java/lang/System" "arraycopy" 5 ≤ 40 := by decide +kernel
            omega
          split at h
          · rename_i h0
            cases h
            simp only [Bool.and_eq_true, beq_iff_eq] at h0
            obtain ⟨rfl, rfl⟩ := h0
            have a14 : 14 ≤ a0 := hwf.new hqa (by show 1 ≤ 6; decide)
            have b14 : 14 ≤ b0 := hwf.new hqb (by show 1 ≤ 6; decide)
            simp only [List.map_cons]
            rw [sm_ref (q := a0) (Nat.ne_of_gt (Nat.lt_of_lt_of_le (by decide) a14)), sm_ref (q := b0) (Nat.ne_of_gt (Nat.lt_of_lt_of_le (by decide) b14)), had a0 a14, had b0 b14]
            refine va_copyi hx hb hls hown (hts _ (mm_has_mem ok)) (hts _ sm_wc1) (hts _ sm_wc2) (hts _ sm_wy) hSt.1 hP sm_D hS (a0 - 14) (b0 - 14) 0 0 (ty := .int) (sm_get (w := (Λ, μ)) hqa a14) (sm_get (w := (Λ, μ)) hqb b14) rfl rfl rfl c2 c3 c1 c4 c5 (fun i _ => rfl) (by omega) hfw hd (fun H1 locs1 hP1 hD1 hS1 => k H1 locs1 rfl ?_ hS1)
            have e1 := sm_mem (bs := bs) (cy := cy) (ad := ad) (fm := fm) (μ := μ) (μ' := mm_sI μ b0 (va_cpy (μ.1 a0) (μ.1 b0) sp.toNatClampNeg dp.toNatClampNeg n1.toNatClampNeg)) hqb b14 sm_sI_o
            rw [← e1, show sm_e cy ad fm (mm_sI μ b0 (va_cpy (μ.1 a0) (μ.1 b0) sp.toNatClampNeg dp.toNatClampNeg n1.toNatClampNeg)) b0 (1, nb, fb, rb) = .inl (cy 1, nb, .inl (va_cpy (μ.1 a0) (μ.1 b0) sp.toNatClampNeg dp.toNatClampNeg n1.toNatClampNeg)) by simp [sm_e, mm_sI]]
            exact hP1
          · rename_i h0 hno
            cases h
            simp only [Bool.and_eq_true, beq_iff_eq] at h0
            obtain ⟨rfl, rfl⟩ := h0
            have a14 : 14 ≤ a0 := hwf.new hqa (by show 4 ≤ 6; decide)
            have b14 : 14 ≤ b0 := hwf.new hqb (by show 4 ≤ 6; decide)
            simp only [List.map_cons]
            rw [sm_ref (q := a0) (Nat.ne_of_gt (Nat.lt_of_lt_of_le (by decide) a14)), sm_ref (q := b0) (Nat.ne_of_gt (Nat.lt_of_lt_of_le (by decide) b14)), had a0 a14, had b0 b14]
            refine va_copyl hx hb hls hown (hts _ (mm_has_mem ok)) (hts _ sm_wc1) (hts _ sm_wc2) (hts _ sm_wy) hSt.1 hP sm_D hS (a0 - 14) (b0 - 14) 3 3 (ty := .long) (sm_get (w := (Λ, μ)) hqa a14) (sm_get (w := (Λ, μ)) hqb b14) rfl rfl rfl c2 c3 c1 c4 c5 (fun i _ => rfl) (by omega) hfw hd (fun H1 locs1 hP1 hD1 hS1 => k H1 locs1 rfl ?_ hS1)
            have e1 := sm_mem (bs := bs) (cy := cy) (ad := ad) (fm := fm) (μ := μ) (μ' := mm_sJ μ b0 (va_cpy (μ.2.1 a0) (μ.2.1 b0) sp.toNatClampNeg dp.toNatClampNeg n1.toNatClampNeg)) hqb b14 sm_sJ_o
            rw [← e1, show sm_e cy ad fm (mm_sJ μ b0 (va_cpy (μ.2.1 a0) (μ.2.1 b0) sp.toNatClampNeg dp.toNatClampNeg n1.toNatClampNeg)) b0 (4, nb, fb, rb) = .inl (cy 4, nb, .inr (.inl (va_cpy (μ.2.1 a0) (μ.2.1 b0) sp.toNatClampNeg dp.toNatClampNeg n1.toNatClampNeg))) by simp [sm_e, mm_sJ]]
            exact hP1
          · cases h
  · cases h
set_option maxHeartbeats 4000000 in
theorem sm_nw (hE : sm_En p R s m args meth c Y ml d) (hSt : sm_St bs cy ad fm Dg Ls xs s) (hwf : sm_wf Ls xs w.1) (had : ∀ j, 14 ≤ j → ad j = bs + (j - 14)) (hn : s.heap.size + cells = bs + (w.1.length - 14)) (hbs : bs ≤ s.heap.size) (hP : va_P Dg vwCl (sm_w bs cy ad fm w) H) (hS : va_S (sm_A bs) s.heap H locs) (hd : decode Y.2.1 pc = .ok (.new n, 3)) (o1 : Nat.blt a 10 = true) (ok : mm_has hh (.classLink Y.1.cls n (mm_T1 a).1) = true)
    (hcl : cells + 1 ≤ R.cells) (hsl : slots + mm_N.getD a 0 ≤ R.slots)
    (k : ∀ (H1 : Heap), sm_wf Ls xs (mm_new w (0, a, (fun _ => 0), List.replicate (mm_N.getD a 0) none)).1 → va_P Dg vwCl (sm_w bs cy ad fm (mm_new w (0, a, (fun _ => 0), List.replicate (mm_N.getD a 0) none))) H1 → va_S (sm_A bs) s.heap H1 locs → W p l e R s m args below meth c H1 locs (cells + 1) (slots + mm_N.getD a 0) Q (F0 m (pc + 3) ls (sm_v ad fm (.ref w.1.length) :: st))) : W p l e R s m args below meth c H locs cells slots Q (F0 m pc ls st) := by
  obtain ⟨hx, hb, hr, hml, hown, hts, hlocks, hnm, hfr, hlo⟩ := hE
  obtain ⟨Λ, μ⟩ := w
  dsimp only at hwf hn k
  have h14 := hwf.len
  have o1 : a < 10 := mm_blt o1
  obtain ⟨C, T, N, c1, c2, c3, c4, ⟨ty, c5, c5'⟩, c6, c7, c8⟩ := sm_cls a o1
  have hm := mm_has_mem ok
  rw [c2] at hm
  dsimp only at hm
  rw [c3] at hsl k
  have hfs : ∀ j, j < N → defaultValue (ty j) = vp_V (sm_fs ad fm (mm_new (Λ, μ) (0, a, (fun _ => 0), List.replicate N none)).2 Λ.length a (List.replicate N none)) j := by
    intro j hj
    rw [c5' j hj]
    unfold vp_V
    rw [List.getD_eq_getElem?_getD, sm_fs_at (by rw [c3]; exact hj)]
    show _ = (match mm_fc a j with
      | 0 => Value.int ((mm_new (Λ, μ) (0, a, (fun _ => 0), List.replicate N none)).2.1 Λ.length j)
      | 1 => sm_v ad fm (va_rf ((mm_new (Λ, μ) (0, a, (fun _ => 0), List.replicate N none)).2.2.2 Λ.length j))
      | _ => sm_v ad fm (va_rf ((List.replicate N none).getD j none)))
    by_cases h0 : mm_fc a j = 0
    · rw [if_pos h0, h0]
      simp [mm_new, mm_sI, mm_sJ, mm_sR]
    · rw [if_neg h0]
      have e9 : (List.replicate N (none : Option Nat)).getD j none = none := by simp [List.getD_eq_getElem?_getD, List.getElem?_replicate, hj]
      rw [e9]
      split
      · rename_i h1; exact absurd h1 h0
      · simp [mm_new, mm_sI, mm_sJ, mm_sR, va_rf, sm_v]
      · rfl
  refine va_new (ci := a) hx hb hts c4 ty c5 hown (hts _ hm) (hts _ c7) (hts _ c8) hSt.1 hP sm_D hS (fun q hq => Nat.le_trans hbs hq) c1 hfs hcl hsl hd (fun q H1 hP1 hD1 hS1 => ?_)
  refine sm_sized (fun hsz => ?_)
  have hq := sm_fresh (w := (Λ, μ)) (N := s.heap.size + cells) hP1 hD1 hn (by omega)
  have h2 : q = bs + (Λ.length - 14) := by rw [hq]; exact hn
  have k1 := k H1 (hwf.push ⟨by show 0 ≤ 6; decide, fun z => by rcases z with z | z <;> cases z⟩)
  have e1 := sm_push (bs := bs) (cy := cy) (ad := ad) (fm := fm) (D := (0, a, (fun _ => 0), List.replicate N none)) (μ := μ) (μ' := (mm_new (Λ, μ) (0, a, (fun _ => 0), List.replicate N none)).2) h14 sm_zero
  rw [sm_ref (by omega), had _ h14, ← h2] at k1
  rw [← h2] at e1
  exact k1 (by rw [show mm_new (Λ, μ) (0, a, (fun _ => 0), List.replicate N none) = (Λ ++ [(0, a, (fun _ => 0), List.replicate N none)], (mm_new (Λ, μ) (0, a, (fun _ => 0), List.replicate N none)).2) from rfl, ← e1]; exact hP1) hS1
set_option maxHeartbeats 4000000 in
theorem sm_na (hE : sm_En p R s m args meth c Y ml d) (hSt : sm_St bs cy ad fm Dg Ls xs s) (hwf : sm_wf Ls xs w.1) (had : ∀ j, 14 ≤ j → ad j = bs + (j - 14)) (hn : s.heap.size + cells = bs + (w.1.length - 14)) (hbs : bs ≤ s.heap.size) (hP : va_P Dg vwCl (sm_w bs cy ad fm w) H) (hS : va_S (sm_A bs) s.heap H locs) {aty : ArrayType} (hd : decode Y.2.1 pc = .ok (.newarray aty, 2))
    (ok : mm_nok aty a = true) (hj : ¬ j < 0) (hj2 : j.toNatClampNeg ≤ 100000)
    (hcl : cells + 1 ≤ R.cells) (hsl : slots + j.toNatClampNeg ≤ R.slots)
    (k : ∀ (H1 : Heap), sm_wf Ls xs (mm_new w (a, j.toNatClampNeg, (fun _ => 0), [])).1 → va_P Dg vwCl (sm_w bs cy ad fm (mm_new w (a, j.toNatClampNeg, (fun _ => 0), []))) H1 → va_S (sm_A bs) s.heap H1 locs → W p l e R s m args below meth c H1 locs (cells + 1) (slots + j.toNatClampNeg) Q (F0 m (pc + 2) ls (sm_v ad fm (.ref w.1.length) :: st))) : W p l e R s m args below meth c H locs cells slots Q (F0 m pc ls (.int j :: st)) := by
  obtain ⟨hx, hb, hr, hml, hown, hts, hlocks, hnm, hfr, hlo⟩ := hE
  obtain ⟨Λ, μ⟩ := w
  dsimp only at hwf hn k
  have h14 := hwf.len
  have key : ∀ (ty : FieldType) (a0 : vp_A) (t0 : Nat), newarray.typeOf aty = ty → a ≤ 4 → (sm_t cy)[t0]? = some (cy a, ty) → t0 < 6 → (∀ cA : ClassId, va_RA s cA ty → s.vm.findClass ("[" ++ ty.toString) = some cA) → (∀ cA : ClassId, vp_cell cA a0 = arrV cA j.toNatClampNeg (fun _ => defaultValue ty)) → j.toNatClampNeg * componentBytes ty ≤ 536870912 → Cond.arrayClass (newarray.typeOf aty) ∈ mm_good → sm_e cy ad fm (mm_new (Λ, μ) (a, j.toNatClampNeg, (fun _ => 0), [])).2 Λ.length (a, j.toNatClampNeg, (fun _ => 0), []) = .inl (cy a, a0) → W p l e R s m args below meth c H locs cells slots Q (F0 m pc ls (.int j :: st)) := by
    intro ty a0 t0 hty ha4 ht0 ht6 hRA ha0 hby hwd hel
    refine va_newa hx hb (hts _ hwd) hty hSt.1 hP sm_D hS (fun q hq => Nat.le_trans hbs hq) ha0 hj rfl hby hcl hsl hd (fun q cA H1 hK1 hP1 hD1 hS1 => ?_)
    have r1 := hRA _ (hK1.2 6 _ rfl).2
    have r2 := hRA _ (hSt.1.2 t0 _ ht0).2
    have r3 : cA = cy a := Option.some.inj (r1.symm.trans r2)
    subst r3
    refine sm_sized (fun hsz => ?_)
    have hq := sm_fresh (w := (Λ, μ)) (N := s.heap.size + cells) hP1 hD1 hn (by omega)
    have h2 : q = bs + (Λ.length - 14) := by rw [hq]; exact hn
    have k1 := k H1 (hwf.push ⟨by show a ≤ 6; omega, fun z => by rcases z with z | z <;> (have z : a = _ := z; omega)⟩)
    have e1 := sm_push (bs := bs) (cy := cy) (ad := ad) (fm := fm) (D := (a, j.toNatClampNeg, (fun _ => 0), [])) (μ := μ) (μ' := (mm_new (Λ, μ) (a, j.toNatClampNeg, (fun _ => 0), [])).2) h14 sm_zero
    rw [sm_ref (by omega), had _ h14, ← h2] at k1
    rw [← h2, hel] at e1
    exact k1 (by rw [show mm_new (Λ, μ) (a, j.toNatClampNeg, (fun _ => 0), []) = (Λ ++ [(a, j.toNatClampNeg, (fun _ => 0), [])], (mm_new (Λ, μ) (a, j.toNatClampNeg, (fun _ => 0), [])).2) from rfl, ← e1]; exact hP1) hS1
  cases aty
  case boolean =>
    simp only [mm_nok, decide_eq_true_eq] at ok
    subst ok
    exact key .boolean (j.toNatClampNeg, .inl (fun _ => 0)) 2 rfl (by decide) rfl (by decide) (fun cA z => z) (fun cA => rfl) (by show j.toNatClampNeg * 1 ≤ _; omega) sm_wa3 (by simp [sm_e, mm_new, mm_sI, mm_sJ, mm_sR])
  case byte =>
    simp only [mm_nok, decide_eq_true_eq] at ok
    subst ok
    exact key .byte (j.toNatClampNeg, .inl (fun _ => 0)) 1 rfl (by decide) rfl (by decide) (fun cA z => z) (fun cA => rfl) (by show j.toNatClampNeg * 1 ≤ _; omega) sm_wa2 (by simp [sm_e, mm_new, mm_sI, mm_sJ, mm_sR])
  case int =>
    simp only [mm_nok, decide_eq_true_eq] at ok
    subst ok
    exact key .int (j.toNatClampNeg, .inl (fun _ => 0)) 0 rfl (by decide) rfl (by decide) (fun cA z => z) (fun cA => rfl) (by show j.toNatClampNeg * 4 ≤ _; omega) sm_wa1 (by simp [sm_e, mm_new, mm_sI, mm_sJ, mm_sR])
  case long =>
    simp only [mm_nok, decide_eq_true_eq] at ok
    subst ok
    exact key .long (j.toNatClampNeg, .inr (.inl (fun _ => 0))) 3 rfl (by decide) rfl (by decide) (fun cA z => z) (fun cA => rfl) (by show j.toNatClampNeg * 8 ≤ _; omega) sm_wa4 (by simp [sm_e, mm_new, mm_sI, mm_sJ, mm_sR])
  all_goals cases ok
set_option maxHeartbeats 4000000 in
theorem sm_nq (hE : sm_En p R s m args meth c Y ml d) (hSt : sm_St bs cy ad fm Dg Ls xs s) (hwf : sm_wf Ls xs w.1) (had : ∀ j, 14 ≤ j → ad j = bs + (j - 14)) (hn : s.heap.size + cells = bs + (w.1.length - 14)) (hbs : bs ≤ s.heap.size) (hP : va_P Dg vwCl (sm_w bs cy ad fm w) H) (hS : va_S (sm_A bs) s.heap H locs) (hd : decode Y.2.1 pc = .ok (.anewarray n, 3))
    (ok : (match a with
    | 5 => mm_has hh (.classLink Y.1.cls n RX6)
    | 6 => mm_has hh (.classLink Y.1.cls n RX7)
    | _ => false) = true) (hj : ¬ j < 0) (hj2 : j.toNatClampNeg ≤ 100000)
    (hcl : cells + 1 ≤ R.cells) (hsl : slots + j.toNatClampNeg ≤ R.slots)
    (k : ∀ (H1 : Heap), sm_wf Ls xs (mm_new w (a, j.toNatClampNeg, (fun _ => 0), List.replicate j.toNatClampNeg none)).1 → va_P Dg vwCl (sm_w bs cy ad fm (mm_new w (a, j.toNatClampNeg, (fun _ => 0), List.replicate j.toNatClampNeg none))) H1 → va_S (sm_A bs) s.heap H1 locs → W p l e R s m args below meth c H1 locs (cells + 1) (slots + j.toNatClampNeg) Q (F0 m (pc + 3) ls (sm_v ad fm (.ref w.1.length) :: st))) : W p l e R s m args below meth c H locs cells slots Q (F0 m pc ls (.int j :: st)) := by
  obtain ⟨hx, hb, hr, hml, hown, hts, hlocks, hnm, hfr, hlo⟩ := hE
  obtain ⟨Λ, μ⟩ := w
  dsimp only at hwf hn k
  have h14 := hwf.len
  have hnone : (fun i => ((List.replicate j.toNatClampNeg (none : Option Nat)).getD i none).map ad) = (fun _ => none) := by
    funext i
    have : (List.replicate j.toNatClampNeg (none : Option Nat)).getD i none = none := by
      rw [List.getD_eq_getElem?_getD, List.getElem?_replicate]
      split <;> rfl
    rw [this]
    rfl
  have key : ∀ (C : String) (t0 : Nat), (a = 5 ∨ a = 6) → va_AO C s → (sm_t cy)[t0]? = some (cy a, .object C) → Cond.classLink Y.1.cls n C ∈ mm_good → sm_e cy ad fm (mm_new (Λ, μ) (a, j.toNatClampNeg, (fun _ => 0), List.replicate j.toNatClampNeg none)).2 Λ.length (a, j.toNatClampNeg, (fun _ => 0), List.replicate j.toNatClampNeg none) = .inl (cy a, j.toNatClampNeg, .inr (.inr (.inr (.inr (fun _ => none))))) → W p l e R s m args below meth c H locs cells slots Q (F0 m pc ls (.int j :: st)) := by
    intro C t0 ha hao ht0 hwd hel
    refine va_newq hx hb hown (hts _ hwd) hao hSt.1 hP sm_D hS (fun q hq => Nat.le_trans hbs hq) hj rfl (by omega) hcl hsl hd (fun q cA H1 hK1 hP1 hD1 hS1 => ?_)
    have r1 : s.vm.findClass ("[" ++ (FieldType.object C).toString) = some cA := by
      obtain ⟨kA, comp, g1, g2, g3, g4⟩ := (hK1.2 6 _ rfl).2
      exact g4
    have r2 : s.vm.findClass ("[" ++ (FieldType.object C).toString) = some (cy a) := by
      obtain ⟨kA, comp, g1, g2, g3, g4⟩ := (hSt.1.2 t0 _ ht0).2
      exact g4
    have r3 : cA = cy a := Option.some.inj (r1.symm.trans r2)
    subst r3
    refine sm_sized (fun hsz => ?_)
    have hq := sm_fresh (w := (Λ, μ)) (N := s.heap.size + cells) hP1 hD1 hn (by omega)
    have h2 : q = bs + (Λ.length - 14) := by rw [hq]; exact hn
    have k1 := k H1 (hwf.push ⟨by show a ≤ 6; omega, fun _ i y hy => by
      dsimp only at hy
      rw [List.getD_eq_getElem?_getD, List.getElem?_replicate] at hy
      split at hy <;> cases hy⟩)
    have e1 := sm_push (bs := bs) (cy := cy) (ad := ad) (fm := fm) (D := (a, j.toNatClampNeg, (fun _ => 0), List.replicate j.toNatClampNeg none)) (μ := μ) (μ' := (mm_new (Λ, μ) (a, j.toNatClampNeg, (fun _ => 0), List.replicate j.toNatClampNeg none)).2) h14 sm_zero
    rw [sm_ref (by omega), had _ h14, ← h2] at k1
    rw [← h2, hel] at e1
    exact k1 (by rw [show mm_new (Λ, μ) (a, j.toNatClampNeg, (fun _ => 0), List.replicate j.toNatClampNeg none) = (Λ ++ [(a, j.toNatClampNeg, (fun _ => 0), List.replicate j.toNatClampNeg none)], (mm_new (Λ, μ) (a, j.toNatClampNeg, (fun _ => 0), List.replicate j.toNatClampNeg none)).2) from rfl, ← e1]; exact hP1) hS1
  split at ok
  · exact key RX6 4 (Or.inl rfl) hSt.2.1.1 rfl (mm_has_mem ok) (by
      show Sum.inl (cy 5, j.toNatClampNeg, _) = _
      rw [hnone])
  · exact key RX7 5 (Or.inr rfl) hSt.2.1.2 rfl (mm_has_mem ok) (by
      show Sum.inl (cy 6, j.toNatClampNeg, _) = _
      rw [hnone])
  · cases ok
end
