theorem sm_good_in {ws : List Cond} (h : ∀ w ∈ ws, w ∈ mm_good) : GoodIn mm_good ws := fun w hw => ⟨h w hw, good_of_word (List.mem_filter.mp (h w hw)).2⟩
def sm_rm (d mc ms : Nat) : Room := { frames := d + 1, cells := mc, slots := ms, locals := 64 * (d + 1) }
def sm_Q (bs : Nat) (cy : Nat → ClassId) (ad : Nat → Nat) (fm : Value) (Dg : va_G) (Ls : Nat) (xs : Nat → Int32) (w1 : mm_W) (v1 : Option Value) : Array Value → State → Outcome → State → Prop := fun _ st oc t => oc = .returned (v1.map (sm_v ad fm)) ∧ sm_wf Ls xs w1.1 ∧ va_P Dg vwCl (sm_w bs cy ad fm w1) t.heap ∧ va_F (sm_A bs) st t
def sm_Pc (bs : Nat) (cy : Nat → ClassId) (ad : Nat → Nat) (fm : Value) (Dg : va_G) (Ls : Nat) (xs : Nat → Int32) (as : List Value) (w : mm_W) : Array Value → State → Prop := fun v U => v = (as.map (sm_v ad fm)).toArray ∧ sm_St bs cy ad fm Dg Ls xs U ∧ U.heap.size = bs + (w.1.length - 14) ∧ va_P Dg vwCl (sm_w bs cy ad fm w) U.heap
theorem sm_ret_inv {r : mm_R} {st : List Value} {v : Option Value} (h : mm_ret r st = some v) : st = v.toList := by
  unfold mm_ret at h
  split at h
  · split at h
    · split at h
      · cases h; rfl
      · split at h
        · cases h; rfl
        · cases h
      · split at h
        · cases h; rfl
        · cases h
      · split at h
        · cases h; rfl
        · cases h
    · cases h
  · split at h
    · cases h; rfl
    · cases h
  · split at h
    · cases h; rfl
    · cases h
  · split at h
    · cases h; rfl
    · cases h
  · cases h
theorem sm_ent_ld {ad : Nat → Nat} {fm : Value} (hfc : fm.category = 1) : ∀ (as : List Value) (k i : Nat) (v : Value), mm_ld (mm_sl as) i = some v → (k + i, sm_v ad fm v) ∈ lv_args k (as.map (sm_v ad fm))
  | [], k, i, v, h => by simp [mm_sl, mm_ld] at h
  | a :: as, k, i, v, h => by
    rw [List.map_cons, lv_args, sm_v_cat hfc]
    have one : a.category = 1 → mm_ld (some a :: mm_sl as) i = some v → (k + i, sm_v ad fm v) ∈ (k, sm_v ad fm a) :: lv_args (if a.category = 2 then k + 2 else k + 1) (as.map (sm_v ad fm)) := by
      intro hc h1
      rw [if_neg (by omega)]
      cases i with
      | zero =>
        have : a = v := by simpa [mm_ld] using h1
        rw [this]
        exact List.mem_cons_self
      | succ i =>
        have h2 : mm_ld (mm_sl as) i = some v := by simpa [mm_ld] using h1
        have := sm_ent_ld (ad := ad) hfc as (k + 1) i v h2
        rw [show k + (i + 1) = k + 1 + i by omega]
        exact List.mem_cons_of_mem _ this
    have two : a.category = 2 → mm_ld (some a :: none :: mm_sl as) i = some v → (k + i, sm_v ad fm v) ∈ (k, sm_v ad fm a) :: lv_args (if a.category = 2 then k + 2 else k + 1) (as.map (sm_v ad fm)) := by
      intro hc h1
      rw [if_pos hc]
      match i, h1 with
      | 0, h1 =>
        have : a = v := by simpa [mm_ld] using h1
        rw [this]
        exact List.mem_cons_self
      | 1, h1 => simp [mm_ld] at h1
      | i + 2, h1 =>
        have h2 : mm_ld (mm_sl as) i = some v := by simpa [mm_ld] using h1
        have := sm_ent_ld (ad := ad) hfc as (k + 2) i v h2
        rw [show k + (i + 2) = k + 2 + i by omega]
        exact List.mem_cons_of_mem _ this
    cases a <;> rw [mm_sl] at h <;> first | exact one rfl h | exact two rfl h | skip
    all_goals first | (intro x y; intro hh; cases hh) | (intro x; intro hh; cases hh)
theorem sm_ent_len {ad : Nat → Nat} {fm : Value} (hfc : fm.category = 1) : ∀ (as : List Value), (lg_sl (as.map (sm_v ad fm))).length = (mm_sl as).length
  | [] => rfl
  | a :: as => by
    have ih := sm_ent_len (ad := ad) hfc as
    unfold lg_sl at ih ⊢
    rw [List.map_cons, List.flatMap_cons, List.length_append, ih, sm_v_cat hfc]
    cases a <;> simp [mm_sl, Value.category] <;> omega
section
variable {p : Program} {l : Launch} {e : Env} {R : Room} {s : State} {m : MethodId} {args : Array Value} {below : List Frame} {meth : Method} {c : Code} {H : Heap} {locs : List Loc} {cells slots : Nat} {Q : State → Prop}
variable {bs : Nat} {cy : Nat → ClassId} {ad : Nat → Nat} {fm : Value} {Dg : va_G} {Ls : Nat} {xs : Nat → Int32} {Y : MethodName × ByteArray × Option FieldType} {RR : List (List mm_R)} {i i' hh ml d : Nat} {r r' : mm_R} {ls : Array Slot} {st st' : List Value} {L L' : mm_L} {w w' : mm_W}
set_option maxHeartbeats 4000000 in
theorem sm_step (hE : sm_En p R s m args meth c Y ml d) (hSt : sm_St bs cy ad fm Dg Ls xs s) (hwf : sm_wf Ls xs w.1) (had : ∀ j, 14 ≤ j → ad j = bs + (j - 14)) (hn : s.heap.size + cells = bs + (w.1.length - 14)) (hbs : bs ≤ s.heap.size) (hls : c.maxLocals = ls.size) (hl : sm_l ad fm ls L) (hP : va_P Dg vwCl (sm_w bs cy ad fm w) H) (hS : va_S (sm_A bs) s.heap H locs) (ok : mm_ok Y RR i hh r = true) (h : mm_stp r i L st w = some (i', L', st', w')) (hr' : mm_rw RR i' = some r') (hroom : cells + (w'.1.length - w.1.length) ≤ R.cells ∧ slots + (sm_sz w'.1 - sm_sz w.1) ≤ R.slots)
    (k : ∀ (H1 : Heap) (locs1 : List Loc) (ls1 : Array Slot), sm_wf Ls xs w'.1 → sm_l ad fm ls1 L' → L'.length = L.length → va_P Dg vwCl (sm_w bs cy ad fm w') H1 → va_S (sm_A bs) s.heap H1 locs1 → W p l e R s m args below meth c H1 locs1 (cells + (w'.1.length - w.1.length)) (slots + (sm_sz w'.1 - sm_sz w.1)) Q (F0 m r'.2.1.1 ls1 (st'.map (sm_v ad fm)))) : W p l e R s m args below meth c H locs cells slots Q (F0 m r.2.1.1 ls (st.map (sm_v ad fm))) := by
  have hnx := (mm_ok_d ok).2
  have hfm := hSt.2.2.2.2.2.2.2.2.2
  unfold mm_stp at h
  split at h
  · rename_i st1 hop
    cases h
    have k1 := k H locs ls hwf hl rfl hP hS
    rw [Nat.sub_self, Nat.sub_self, Nat.add_zero, Nat.add_zero, mm_pcis_at hnx hr'] at k1
    exact sm_op hE hSt hS ok hop k1
  · split at h
    · rename_i L1 st1 hlo
      cases h
      refine sm_lo hE hfm hl ok hlo (fun ls1 g1 g2 => ?_)
      have k1 := k H locs ls1 hwf g1 g2 hP hS
      rw [Nat.sub_self, Nat.sub_self, Nat.add_zero, Nat.add_zero, mm_pcis_at hnx hr'] at k1
      exact k1
    · split at h
      · rename_i i1 st1 hjp
        cases h
        have k1 := k H locs ls hwf hl rfl hP hS
        rw [Nat.sub_self, Nat.sub_self, Nat.add_zero, Nat.add_zero] at k1
        exact sm_jp hE hfm ok hjp hr' k1
      · split at h
        · rename_i st1 w1 hhe
          cases h
          refine sm_he hE hSt hwf had hn hbs hls hP hS ok hhe hroom (fun H1 locs1 g1 g2 g3 => ?_)
          have k1 := k H1 locs1 ls g1 hl rfl g2 g3
          rw [mm_pcis_at hnx hr'] at k1
          exact k1
        · cases h
theorem sm_callg {mc ms pc : Nat} {st0 rest : List Value} {a : Array Value} {w1 : mm_W} {v1 : Option Value} (hr : va_Run p l e R s m args below meth c H locs cells slots mc ms (F0 m pc ls st0) rest (sm_Q bs cy ad fm Dg Ls xs w1 v1 a) (sm_A bs)) (hS : va_S (sm_A bs) s.heap H locs)
    (kk : ∀ (H1 : Heap) (locs1 : List Loc), sm_wf Ls xs w1.1 → va_P Dg vwCl (sm_w bs cy ad fm w1) H1 → va_S (sm_A bs) s.heap H1 locs1 → W p l e R s m args below meth c H1 locs1 (cells + mc) (slots + ms) Q (F0 m (pc + 3) ls ((v1.map (sm_v ad fm)).toList ++ rest))) : W p l e R s m args below meth c H locs cells slots Q (F0 m pc ls st0) := by
  intro T hT X
  obtain ⟨v, st₀, t, T', LL, h0, X', hL, e1, e2, ⟨hv, hwf1, hP1, hz, hk⟩, st⟩ := hr T hT X
  cases hv
  rw [h0] at hz hk
  obtain ⟨t2, a1, b1⟩ := kk T'.heap (locs ++ LL) hwf1 (by rw [e1]; exact hP1)
    ⟨Nat.le_trans hS.1 (by rw [e1]; exact hz), fun q h1 h2 => by rw [e1, hk q (Nat.lt_of_lt_of_le h1 hS.1) h2]; exact hS.2.1 q h1 h2, fun q hq => by
      rcases List.mem_append.mp hq with h | h
      · exact hS.2.2 q h
      · exact hL q h⟩ T' rfl X'
  exact ⟨t2, st t2 a1, b1⟩
/-- a method's end -/
theorem sm_end {v : Option Value} (hE : sm_En p R s m args meth c Y ml d) (hfm : fm = .null ∨ ∃ t, fm = .ref t) (hwf : sm_wf Ls xs w.1) (hP : va_P Dg vwCl (sm_w bs cy ad fm w) H) (hS : va_S (sm_A bs) s.heap H locs) (ok : mm_ok Y RR i hh r = true) (h : mm_ret r v.toList = some v) : W p l e R s m args below meth c H locs cells slots (MQ below (sm_Q bs cy ad fm Dg Ls xs w v) args s cells slots (sm_A bs)) (F0 m r.2.1.1 ls (v.toList.map (sm_v ad fm))) := by
  obtain ⟨hx, hb, hr, hml, hown, hts, hlocks, hnm, hfr, hlo⟩ := hE
  have hd := (mm_ok_d ok).1
  obtain ⟨ins, ⟨pc, len⟩, ⟨a, b, c0⟩, ⟨z, zz⟩, ts⟩ := r
  unfold mm_ok at ok
  rw [Bool.and_eq_true] at ok
  replace ok := ok.2
  unfold mm_ret at h
  dsimp only at h ok hd ⊢
  have fin : ∀ t : State, t.heap = H → s.WarmedH t.vm → sm_Q bs cy ad fm Dg Ls xs w v args s (.returned (v.map (sm_v ad fm))) t := fun t ht _ => ⟨rfl, hwf, by rw [ht]; exact hP, hS.F ht⟩
  cases ins
  case ireturn =>
    dsimp only at h ok
    rw [Bool.and_eq_true, decide_eq_true_eq] at ok
    obtain ⟨rfl, ok⟩ := ok
    split at h
    · rename_i x hst
      split at h
      · cases h
        simp only [decide_eq_true_eq] at ok
        exact W.iret hx hb (by rw [hr]; exact ok) fin hS.2.2 hd hlocks
      · split at h
        · rename_i h01
          cases h
          simp only [decide_eq_true_eq] at ok
          exact W.zret hx hb (by rw [hr]; exact ok) (by rcases h01 with rfl | rfl <;> rfl) fin hS.2.2 hd hlocks
        · cases h
      · split at h
        · rename_i h01
          cases h
          simp only [decide_eq_true_eq] at ok
          exact W.zret hx hb (by rw [hr]; exact ok) (by
            have e1 : narrow .char (.int x) = .int (vp_nar .char x) := rfl
            rw [e1, h01]) fin hS.2.2 hd hlocks
        · cases h
      · split at h
        · rename_i h01
          cases h
          simp only [decide_eq_true_eq] at ok
          exact W.zret hx hb (by rw [hr]; exact ok) (by
            have e1 : narrow .byte (.int x) = .int (vp_nar .byte x) := rfl
            rw [e1, h01]) fin hS.2.2 hd hlocks
        · cases h
    · cases h
  case lreturn =>
    dsimp only at h ok
    simp only [Bool.and_eq_true, decide_eq_true_eq] at ok
    obtain ⟨rfl, ok⟩ := ok
    split at h
    · cases h
      exact W.lret hx hb (by rw [hr]; exact ok) fin hS.2.2 hd hlocks
    · cases h
  case areturn =>
    dsimp only at h ok
    simp only [Bool.and_eq_true, decide_eq_true_eq] at ok
    obtain ⟨rfl, ok⟩ := ok
    split at h
    · rename_i x hst
      cases h
      exact W.aret hx hb (by rw [hr]; exact ok) (Or.inr ⟨_, rfl⟩) (sm_vr hfm x) fin hS.2.2 hd hlocks
    · cases h
  case return_ =>
    dsimp only at h ok
    simp only [Bool.and_eq_true, decide_eq_true_eq] at ok
    obtain ⟨rfl, ok⟩ := ok
    split at h
    · cases h
      exact W.vret hx hb (by rw [hr]; exact ok) fin hS.2.2 hd hlocks
    · cases h
  all_goals cases h
end
