theorem sm_ref {ad : Nat → Nat} {fm : Value} {q : Nat} (h : q ≠ 13) : sm_v ad fm (.ref q) = .ref (ad q) := by simp [sm_v, h]
theorem mm_pcj_at {RR : List (List mm_R)} {b : Nat} {n : Int} (h : mm_pcj RR b n = true) : ∃ r2, mm_rw RR b = some r2 ∧ (r2.2.1.1 : Int) = n := by
  unfold mm_pcj at h
  split at h
  · rename_i r2 h2
    exact ⟨r2, h2, by simpa using h⟩
  · cases h
theorem mm_pcis_at {RR : List (List mm_R)} {b n : Nat} {r2 : mm_R} (h : mm_pcis RR b (n : Int) = true) (h2 : mm_rw RR b = some r2) : r2.2.1.1 = n := by
  unfold mm_pcis at h
  rw [h2] at h
  have : (r2.2.1.1 : Int) = (n : Int) := by simpa using h
  omega
theorem mm_seq_at : ∀ (l : List Int) (lo : Int) (j : Nat), (mm_seq lo l)[j]? = (l[j]?).map (fun x => (lo + j, x))
  | [], lo, j => by simp [mm_seq]
  | x :: l, lo, 0 => by simp [mm_seq]
  | x :: l, lo, j + 1 => by
    rw [mm_seq, List.getElem?_cons_succ, List.getElem?_cons_succ, mm_seq_at l (lo + 1) j]
    congr 1
    funext y
    have : lo + 1 + (j : Int) = lo + ((j + 1 : Nat) : Int) := by omega
    rw [this]
/-- a switch's row: where a number that stands there goes on, and one that doesn't -/
theorem mm_sw_in {RR : List (List mm_R)} {pc : Int} {df : Nat} {x : Int32} : ∀ (ts : List (Int32 × Nat)) (q : List (Int × Int)), mm_swok RR pc ts q = true → (∃ (off : Int) (j : Nat) (r2 : mm_R), q[j]? = some (x.toInt, off) ∧ mm_rw RR (mm_sw ts df x) = some r2 ∧ (r2.2.1.1 : Int) = pc + off ∧ ∀ j2 off2, j2 < j → q[j2]? ≠ some (x.toInt, off2)) ∨ (mm_sw ts df x = df ∧ ∀ (j : Nat) (off : Int), q[j]? ≠ some (x.toInt, off))
  | [], [], _ => Or.inr ⟨rfl, fun j off h => by simp at h⟩
  | [], _ :: _, h => by cases h
  | _ :: _, [], h => by cases h
  | (v, t) :: ts, (k, off) :: q, h => by
    rw [mm_swok] at h
    simp only [Bool.and_eq_true, decide_eq_true_eq] at h
    obtain ⟨⟨h1, h2⟩, h3⟩ := h
    rw [mm_sw]
    by_cases hx : x = v
    · rw [if_pos hx]
      obtain ⟨r2, g1, g2⟩ := mm_pcj_at h2
      exact Or.inl ⟨off, 0, r2, by rw [List.getElem?_cons_zero, hx, h1], g1, g2, fun j2 _ hj => absurd hj (Nat.not_lt_zero _)⟩
    · rw [if_neg hx]
      have hne : ¬ k = x.toInt := fun z => hx (Int32.toInt_inj.mp (by rw [h1]; exact z.symm))
      rcases mm_sw_in ts q h3 with ⟨off', j, r2, g1, g2, g3, g4⟩ | ⟨g1, g2⟩
      · refine Or.inl ⟨off', j + 1, r2, by rw [List.getElem?_cons_succ]; exact g1, g2, g3, fun j2 o2 hj hz => ?_⟩
        cases j2 with
        | zero => rw [List.getElem?_cons_zero] at hz; cases hz; exact hne rfl
        | succ j2 => rw [List.getElem?_cons_succ] at hz; exact g4 j2 o2 (by omega) hz
      · refine Or.inr ⟨g1, fun j o hz => ?_⟩
        cases j with
        | zero => rw [List.getElem?_cons_zero] at hz; cases hz; exact hne rfl
        | succ j => rw [List.getElem?_cons_succ] at hz; exact g2 j o hz
theorem mm_lk_in {x df : Int} : ∀ (q : List (Int × Int)) (j : Nat) (off : Int), q[j]? = some (x, off) → (∀ j2 off2, j2 < j → q[j2]? ≠ some (x, off2)) → Op.lookupswitch.offset q df x = off
  | [], j, off, h, _ => by simp at h
  | (k, o) :: q, 0, off, h, _ => by
    rw [List.getElem?_cons_zero] at h
    cases h
    simp [Op.lookupswitch.offset]
  | (k, o) :: q, j + 1, off, h, h2 => by
    rw [List.getElem?_cons_succ] at h
    have hne : ¬ k = x := fun z => h2 0 o (Nat.succ_pos _) (by rw [List.getElem?_cons_zero, z])
    have := mm_lk_in (df := df) q j off h (fun j2 o2 hj hz => h2 (j2 + 1) o2 (by omega) (by rw [List.getElem?_cons_succ]; exact hz))
    simp only [Op.lookupswitch.offset] at this ⊢
    simpa [hne] using this
theorem mm_lk_out {x df : Int} : ∀ (q : List (Int × Int)), (∀ (j : Nat) (off : Int), q[j]? ≠ some (x, off)) → Op.lookupswitch.offset q df x = df
  | [], _ => by simp [Op.lookupswitch.offset]
  | (k, o) :: q, h => by
    have hne : ¬ k = x := fun z => h 0 o (by rw [List.getElem?_cons_zero, z])
    have := mm_lk_out q (df := df) (fun j off hz => h (j + 1) off (by rw [List.getElem?_cons_succ]; exact hz))
    simp only [Op.lookupswitch.offset] at this ⊢
    simpa [hne] using this
section
variable {p : Program} {l : Launch} {e : Env} {R : Room} {s : State} {m : MethodId} {args : Array Value} {below : List Frame} {meth : Method} {c : Code} {H : Heap} {locs : List Loc} {cells slots : Nat} {Q : State → Prop}
variable {bs : Nat} {cy : Nat → ClassId} {ad : Nat → Nat} {fm : Value} {Dg : va_G} {Ls : Nat} {xs : Nat → Int32} {Y : MethodName × ByteArray × Option FieldType} {RR : List (List mm_R)} {i i' hh ml d : Nat} {r r' : mm_R} {ls : Array Slot} {st st' : List Value}
set_option maxHeartbeats 4000000 in
set_option maxRecDepth 100000 in
theorem sm_jp (hE : sm_En p R s m args meth c Y ml d) (hfm : fm = .null ∨ ∃ t, fm = .ref t) (ok : mm_ok Y RR i hh r = true) (h : mm_jp r i st = some (i', st')) (hr' : mm_rw RR i' = some r') (k : W p l e R s m args below meth c H locs cells slots Q (F0 m r'.2.1.1 ls (st'.map (sm_v ad fm)))) : W p l e R s m args below meth c H locs cells slots Q (F0 m r.2.1.1 ls (st.map (sm_v ad fm))) := by
  obtain ⟨hx, hb, hr, hml, hown, hts, hlocks, hnm, hfr, hlo⟩ := hE
  obtain ⟨hd, hnx⟩ := mm_ok_d ok
  obtain ⟨ins, ⟨pc, len⟩, ⟨a, b, c0⟩, ⟨z, w⟩, ts⟩ := r
  unfold mm_ok at ok
  rw [Bool.and_eq_true] at ok
  replace ok := ok.2
  unfold mm_jp at h
  dsimp only at h ok hd hnx k ⊢
  cases ins
  case goto off =>
    dsimp only at h ok
    simp only [Bool.and_eq_true, decide_eq_true_eq] at ok
    obtain ⟨h1, rfl⟩ := ok
    obtain ⟨r2, g1, g2⟩ := mm_pcj_at h1
    cases h
    rw [g1] at hr'
    cases hr'
    exact lv_goto hx hb hd g2.symm k
  case ifCond cd off =>
    dsimp only at h ok
    simp only [Bool.and_eq_true, decide_eq_true_eq] at ok
    obtain ⟨h1, rfl⟩ := ok
    obtain ⟨r2, g1, g2⟩ := mm_pcj_at h1
    split at h
    · rename_i x s1
      have kt : mm_rw RR b = some r' → st' = s1 → W p l e R s m args below meth c H locs cells slots Q (F0 m r2.2.1.1 ls (s1.map (sm_v ad fm))) := by
        intro q1 q2
        rw [g1] at q1
        cases q1
        rw [← q2]
        exact k
      have kf : mm_rw RR (i + 1) = some r' → st' = s1 → W p l e R s m args below meth c H locs cells slots Q (F0 m (pc + 3) ls (s1.map (sm_v ad fm))) := by
        intro q1 q2
        rw [← mm_pcis_at hnx q1, ← q2]
        exact k
      cases cd
      · cases h; exact lv_if_eq hx hb hd g2.symm (fun hc => by rw [if_pos hc] at hr'; exact kt hr' rfl) (fun hc => by rw [if_neg hc] at hr'; exact kf hr' rfl)
      · cases h; exact lv_if_ne hx hb hd g2.symm (fun hc => by rw [if_neg hc] at hr'; exact kt hr' rfl) (fun hc => by rw [if_pos hc] at hr'; exact kf hr' rfl)
      · cases h; exact lv_if_lt hx hb hd g2.symm (fun hc => by rw [if_pos hc] at hr'; exact kt hr' rfl) (fun hc => by rw [if_neg hc] at hr'; exact kf hr' rfl)
      · cases h; exact lv_if_ge hx hb hd g2.symm (fun hc => by rw [if_pos hc] at hr'; exact kt hr' rfl) (fun hc => by rw [if_neg hc] at hr'; exact kf hr' rfl)
      · cases h; exact lv_if_gt hx hb hd g2.symm (fun hc => by rw [if_pos hc] at hr'; exact kt hr' rfl) (fun hc => by rw [if_neg hc] at hr'; exact kf hr' rfl)
      · cases h; exact lv_if_le hx hb hd g2.symm (fun hc => by rw [if_pos hc] at hr'; exact kt hr' rfl) (fun hc => by rw [if_neg hc] at hr'; exact kf hr' rfl)
    · cases h
  case if_icmp cd off =>
    dsimp only at h ok
    simp only [Bool.and_eq_true, decide_eq_true_eq] at ok
    obtain ⟨h1, rfl⟩ := ok
    obtain ⟨r2, g1, g2⟩ := mm_pcj_at h1
    split at h
    · rename_i y x s1
      have kt : mm_rw RR b = some r' → st' = s1 → W p l e R s m args below meth c H locs cells slots Q (F0 m r2.2.1.1 ls (s1.map (sm_v ad fm))) := by
        intro q1 q2
        rw [g1] at q1
        cases q1
        rw [← q2]
        exact k
      have kf : mm_rw RR (i + 1) = some r' → st' = s1 → W p l e R s m args below meth c H locs cells slots Q (F0 m (pc + 3) ls (s1.map (sm_v ad fm))) := by
        intro q1 q2
        rw [← mm_pcis_at hnx q1, ← q2]
        exact k
      cases cd
      · cases h; exact lv_icmp_eq hx hb hd g2.symm (fun hc => by rw [if_pos hc] at hr'; exact kt hr' rfl) (fun hc => by rw [if_neg hc] at hr'; exact kf hr' rfl)
      · cases h; exact lv_icmp_ne hx hb hd g2.symm (fun hc => by rw [if_neg hc] at hr'; exact kt hr' rfl) (fun hc => by rw [if_pos hc] at hr'; exact kf hr' rfl)
      · cases h; exact lv_icmp_lt hx hb hd g2.symm (fun hc => by rw [if_pos hc] at hr'; exact kt hr' rfl) (fun hc => by rw [if_neg hc] at hr'; exact kf hr' rfl)
      · cases h; exact lv_icmp_ge hx hb hd g2.symm (fun hc => by rw [if_pos hc] at hr'; exact kt hr' rfl) (fun hc => by rw [if_neg hc] at hr'; exact kf hr' rfl)
      · cases h; exact lv_icmp_gt hx hb hd g2.symm (fun hc => by rw [if_pos hc] at hr'; exact kt hr' rfl) (fun hc => by rw [if_neg hc] at hr'; exact kf hr' rfl)
      · cases h; exact lv_icmp_le hx hb hd g2.symm (fun hc => by rw [if_pos hc] at hr'; exact kt hr' rfl) (fun hc => by rw [if_neg hc] at hr'; exact kf hr' rfl)
    · cases h
  case ifnonnull off =>
    dsimp only at h ok
    simp only [Bool.and_eq_true, decide_eq_true_eq] at ok
    obtain ⟨h1, rfl⟩ := ok
    obtain ⟨r2, g1, g2⟩ := mm_pcj_at h1
    split at h
    · rename_i x s1
      split at h
      · rename_i h13
        cases h
        rw [g1] at hr'
        cases hr'
        rw [List.map_cons, sm_ref (by simpa using h13)]
        exact lv_ifnonnull hx hb hd g2.symm k
      · cases h
    · cases h
      rw [mm_pcis_at hnx hr'] at k
      exact lv_ifnonnullN hx hb hd k
    · cases h
  case tableswitch df lo hi offs =>
    dsimp only at h ok
    simp only [Bool.and_eq_true, decide_eq_true_eq] at ok
    obtain ⟨⟨⟨⟨h1, h2⟩, h3⟩, h4⟩, h5⟩ := ok
    obtain ⟨r2, g1, g2⟩ := mm_pcj_at h1
    split at h
    · rename_i x s1
      cases h
      rcases mm_sw_in (df := b) (x := x) ts _ h5 with ⟨off, j, r3, q1, q2, q3, -⟩ | ⟨q1, q2⟩
      · rw [q2] at hr'
        cases hr'
        rw [mm_seq_at] at q1
        cases hj : offs.toList[j]? with
        | none => rw [hj] at q1; cases q1
        | some o =>
          rw [hj] at q1
          have q4 := Option.some.inj q1
          have e1 : lo + (j : Int) = x.toInt := congrArg Prod.fst q4
          have e2 : o = off := congrArg Prod.snd q4
          have hjl : j < offs.size := by
            have := (List.getElem?_eq_some_iff.mp hj).1
            simpa using this
          refine lv_tableIn hx hb hd (by omega) (by omega) (off := off) ?_ q3.symm k
          rw [show (x.toInt - lo).toNat = j by omega, ← e2, ← hj, Array.getElem?_toList]
      · rw [q1, g1] at hr'
        cases hr'
        refine lv_tableOut hx hb hd ?_ g2.symm k
        by_cases hlt : x.toInt < lo
        · exact Or.inl hlt
        · refine Or.inr ?_
          rcases Int.lt_or_le hi x.toInt with h6 | h6
          · exact h6
          · exfalso
            have hjl : (x.toInt - lo).toNat < offs.toList.length := by rw [Array.length_toList]; omega
            refine q2 (x.toInt - lo).toNat (offs.toList[(x.toInt - lo).toNat]) ?_
            rw [mm_seq_at, List.getElem?_eq_getElem hjl]
            show some (lo + ((x.toInt - lo).toNat : Int), _) = _
            rw [show lo + ((x.toInt - lo).toNat : Int) = x.toInt by omega]
    · cases h
  case lookupswitch df ps =>
    dsimp only at h ok
    simp only [Bool.and_eq_true, decide_eq_true_eq] at ok
    obtain ⟨⟨h1, h2⟩, h5⟩ := ok
    obtain ⟨r2, g1, g2⟩ := mm_pcj_at h1
    split at h
    · rename_i x s1
      cases h
      rcases mm_sw_in (df := b) (x := x) ts _ h5 with ⟨off, j, r3, q1, q2, q3, q4⟩ | ⟨q1, q2⟩
      · rw [q2] at hr'
        cases hr'
        exact lv_lookup hx hb hd h2 (mm_lk_in _ j off q1 q4) q3.symm k
      · rw [q1, g1] at hr'
        cases hr'
        exact lv_lookup hx hb hd h2 (mm_lk_out _ q2) g2.symm k
    · cases h
  all_goals cases h
end
