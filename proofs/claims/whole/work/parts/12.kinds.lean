/-- words by their places -/
def mm_all : List Nat → List Cond → Bool
  | _, [] => true
  | [], _ :: _ => false
  | h :: hs, w :: ws => mm_has h w && mm_all hs ws
theorem mm_all_mem : ∀ (hs : List Nat) (ws : List Cond), mm_all hs ws = true → ∀ w ∈ ws, w ∈ mm_good
  | _, [], _, w, hw => absurd hw List.not_mem_nil
  | [], _ :: _, h, _, _ => by cases h
  | h :: hs, v :: ws, e, w, hw => by
    rw [mm_all, Bool.and_eq_true] at e
    rcases List.mem_cons.mp hw with rfl | h1
    · exact mm_has_mem e.1
    · exact mm_all_mem hs ws e.2 w h1
/-- what the tables say of the kind a -/
def sm_cl (a : Nat) (C : String) (T : u_T) (N : Nat) : Prop := vwCl[a]? = some (C, T, N) ∧ mm_T1 a = (C, T, N) ∧ mm_N.getD a 0 = N ∧ (∀ w ∈ u_ws C T N, w ∈ mm_good) ∧ (∃ ty : Nat → FieldType, (∀ k, k < N → parseFieldDescriptor (T k).2.2.1 = some (ty k)) ∧ ∀ k, k < N → defaultValue (ty k) = (if mm_fc a k = 0 then .int 0 else .null)) ∧ (∀ x, x < N → ∀ y, y < N → x ≠ y → (T x).2.1 ≠ (T y).2.1) ∧ Cond.instantiable C N ∈ mm_good ∧ Cond.initialized C ∈ mm_good
theorem sm_cl0 : sm_cl 0 RX0 TX0 5 := ⟨rfl, rfl, rfl, mm_all_mem [1184, 1186, 1188, 1190, 1192] _ (by decide +kernel), ⟨tyX0, tyX0_ok, by decide +kernel⟩, nmX0, mm_has_mem (h := 1172) (by decide +kernel), mm_has_mem (h := 1008) (by decide +kernel)⟩
theorem sm_cl1 : sm_cl 1 RX1 TX1 4 := ⟨rfl, rfl, rfl, mm_all_mem [1121, 1123, 1125, 1127] _ (by decide +kernel), ⟨tyX1, tyX1_ok, by decide +kernel⟩, nmX1, mm_has_mem (h := 1029) (by decide +kernel), mm_has_mem (h := 1002) (by decide +kernel)⟩
theorem sm_cl2 : sm_cl 2 RX2 TX2 10 := ⟨rfl, rfl, rfl, mm_all_mem [1065, 1067, 1069, 1071, 1073, 1075, 1077, 1079, 1081, 1083] _ (by decide +kernel), ⟨tyX2, tyX2_ok, by decide +kernel⟩, nmX2, mm_has_mem (h := 1035) (by decide +kernel), mm_has_mem (h := 1003) (by decide +kernel)⟩
theorem sm_cl3 : sm_cl 3 RX3 TX3 2 := ⟨rfl, rfl, rfl, mm_all_mem [1166, 1168] _ (by decide +kernel), ⟨tyX3, tyX3_ok, by decide +kernel⟩, nmX3, mm_has_mem (h := 1159) (by decide +kernel), mm_has_mem (h := 1007) (by decide +kernel)⟩
theorem sm_cl4 : sm_cl 4 RX4 TX4 5 := ⟨rfl, rfl, rfl, mm_all_mem [1146, 1148, 1150, 1152, 1154] _ (by decide +kernel), ⟨tyX4, tyX4_ok, by decide +kernel⟩, nmX4, mm_has_mem (h := 1135) (by decide +kernel), mm_has_mem (h := 1006) (by decide +kernel)⟩
theorem sm_cl5 : sm_cl 5 RX5 TX5 4 := ⟨rfl, rfl, rfl, mm_all_mem [1104, 1106, 1108, 1110] _ (by decide +kernel), ⟨tyX5, tyX5_ok, by decide +kernel⟩, nmX5, mm_has_mem (h := 1088) (by decide +kernel), mm_has_mem (h := 1005) (by decide +kernel)⟩
theorem sm_cl6 : sm_cl 6 RX6 TX6 6 := ⟨rfl, rfl, rfl, mm_all_mem [1210, 1212, 1214, 1216, 1218, 1220] _ (by decide +kernel), ⟨tyX6, tyX6_ok, by decide +kernel⟩, nmX6, mm_has_mem (h := 1197) (by decide +kernel), mm_has_mem (h := 1009) (by decide +kernel)⟩
theorem sm_cl7 : sm_cl 7 RX7 TX7 3 := ⟨rfl, rfl, rfl, mm_all_mem [1234, 1236, 1238] _ (by decide +kernel), ⟨tyX7, tyX7_ok, by decide +kernel⟩, nmX7, mm_has_mem (h := 1223) (by decide +kernel), mm_has_mem (h := 1010) (by decide +kernel)⟩
theorem sm_cl8 : sm_cl 8 RX8 TX8 10 := ⟨rfl, rfl, rfl, mm_all_mem [2012, 2014, 2016, 2018, 2020, 2022, 2024, 2026, 2028, 2030] _ (by decide +kernel), ⟨tyX8, tyX8_ok, by decide +kernel⟩, nmX8, mm_has_mem (h := 1021) (by decide +kernel), mm_has_mem (h := 1001) (by decide +kernel)⟩
theorem sm_cl9 : sm_cl 9 RX9 TX9 47 := ⟨rfl, rfl, rfl, mm_all_mem [4139, 4141, 4143, 4145, 4147, 4149, 4151, 4153, 4155, 4157, 4159, 4161, 4163, 4165, 4167, 4169, 4171, 4173, 4175, 4177, 4179, 4181, 4183, 4185, 4187, 4189, 4191, 4193, 4195, 4197, 4199, 4201, 4203, 4205, 4207, 4209, 4211, 4213, 4215, 4217, 4219, 4221, 4223, 4225, 4227, 4229, 4231] _ (by decide +kernel), ⟨tyX9, tyX9_ok, by decide +kernel⟩, nmX9, mm_has_mem (h := 4087) (by decide +kernel), mm_has_mem (h := 1011) (by decide +kernel)⟩
theorem sm_cls : ∀ a, a < 10 → ∃ C T N, sm_cl a C T N := by
  intro a h
  match a, h with
  | 0, _ => exact ⟨_, _, _, sm_cl0⟩
  | 1, _ => exact ⟨_, _, _, sm_cl1⟩
  | 2, _ => exact ⟨_, _, _, sm_cl2⟩
  | 3, _ => exact ⟨_, _, _, sm_cl3⟩
  | 4, _ => exact ⟨_, _, _, sm_cl4⟩
  | 5, _ => exact ⟨_, _, _, sm_cl5⟩
  | 6, _ => exact ⟨_, _, _, sm_cl6⟩
  | 7, _ => exact ⟨_, _, _, sm_cl7⟩
  | 8, _ => exact ⟨_, _, _, sm_cl8⟩
  | 9, _ => exact ⟨_, _, _, sm_cl9⟩
/-- every row of every method is the code's -/
theorem mm_a0 : ∀ (i : Nat) (r : mm_R), mm_rw (mm_rows 0) i = some r → ∃ h, mm_ok (mm_I 0) (mm_rows 0) i h r = true := by
  intro i r hr
  have e : mm_rows 0 = mm_r0 := rfl
  rw [e] at hr ⊢
  unfold mm_rw at hr
  have hd : i = 32 * (i / 32) + i % 32 := by omega
  generalize i / 32 = a at hr hd
  generalize i % 32 = b at hr hd
  subst hd
  match a with
  | 0 => exact mm_okc_at _ _ _ mm_k0_0 b r hr
  | a + 1 => exact absurd hr (by simp [mm_r0])
theorem mm_a1 : ∀ (i : Nat) (r : mm_R), mm_rw (mm_rows 1) i = some r → ∃ h, mm_ok (mm_I 1) (mm_rows 1) i h r = true := by
  intro i r hr
  have e : mm_rows 1 = mm_r1 := rfl
  rw [e] at hr ⊢
  unfold mm_rw at hr
  have hd : i = 32 * (i / 32) + i % 32 := by omega
  generalize i / 32 = a at hr hd
  generalize i % 32 = b at hr hd
  subst hd
  match a with
  | 0 => exact mm_okc_at _ _ _ mm_k1_0 b r hr
  | a + 1 => exact absurd hr (by simp [mm_r1])
theorem mm_a2 : ∀ (i : Nat) (r : mm_R), mm_rw (mm_rows 2) i = some r → ∃ h, mm_ok (mm_I 2) (mm_rows 2) i h r = true := by
  intro i r hr
  have e : mm_rows 2 = mm_r2 := rfl
  rw [e] at hr ⊢
  unfold mm_rw at hr
  have hd : i = 32 * (i / 32) + i % 32 := by omega
  generalize i / 32 = a at hr hd
  generalize i % 32 = b at hr hd
  subst hd
  match a with
  | 0 => exact mm_okc_at _ _ _ mm_k2_0 b r hr
  | a + 1 => exact absurd hr (by simp [mm_r2])
theorem mm_a3 : ∀ (i : Nat) (r : mm_R), mm_rw (mm_rows 3) i = some r → ∃ h, mm_ok (mm_I 3) (mm_rows 3) i h r = true := by
  intro i r hr
  have e : mm_rows 3 = mm_r3 := rfl
  rw [e] at hr ⊢
  unfold mm_rw at hr
  have hd : i = 32 * (i / 32) + i % 32 := by omega
  generalize i / 32 = a at hr hd
  generalize i % 32 = b at hr hd
  subst hd
  match a with
  | 0 => exact mm_okc_at _ _ _ mm_k3_0 b r hr
  | a + 1 => exact absurd hr (by simp [mm_r3])
theorem mm_a4 : ∀ (i : Nat) (r : mm_R), mm_rw (mm_rows 4) i = some r → ∃ h, mm_ok (mm_I 4) (mm_rows 4) i h r = true := by
  intro i r hr
  have e : mm_rows 4 = mm_r4 := rfl
  rw [e] at hr ⊢
  unfold mm_rw at hr
  have hd : i = 32 * (i / 32) + i % 32 := by omega
  generalize i / 32 = a at hr hd
  generalize i % 32 = b at hr hd
  subst hd
  match a with
  | 0 => exact mm_okc_at _ _ _ mm_k4_0 b r hr
  | a + 1 => exact absurd hr (by simp [mm_r4])
theorem mm_a5 : ∀ (i : Nat) (r : mm_R), mm_rw (mm_rows 5) i = some r → ∃ h, mm_ok (mm_I 5) (mm_rows 5) i h r = true := by
  intro i r hr
  have e : mm_rows 5 = mm_r5 := rfl
  rw [e] at hr ⊢
  unfold mm_rw at hr
  have hd : i = 32 * (i / 32) + i % 32 := by omega
  generalize i / 32 = a at hr hd
  generalize i % 32 = b at hr hd
  subst hd
  match a with
  | 0 => exact mm_okc_at _ _ _ mm_k5_0 b r hr
  | 1 => exact mm_okc_at _ _ _ mm_k5_1 b r hr
  | a + 2 => exact absurd hr (by simp [mm_r5])
theorem mm_a6 : ∀ (i : Nat) (r : mm_R), mm_rw (mm_rows 6) i = some r → ∃ h, mm_ok (mm_I 6) (mm_rows 6) i h r = true := by
  intro i r hr
  have e : mm_rows 6 = mm_r6 := rfl
  rw [e] at hr ⊢
  unfold mm_rw at hr
  have hd : i = 32 * (i / 32) + i % 32 := by omega
  generalize i / 32 = a at hr hd
  generalize i % 32 = b at hr hd
  subst hd
  match a with
  | 0 => exact mm_okc_at _ _ _ mm_k6_0 b r hr
  | a + 1 => exact absurd hr (by simp [mm_r6])
theorem mm_a7 : ∀ (i : Nat) (r : mm_R), mm_rw (mm_rows 7) i = some r → ∃ h, mm_ok (mm_I 7) (mm_rows 7) i h r = true := by
  intro i r hr
  have e : mm_rows 7 = mm_r7 := rfl
  rw [e] at hr ⊢
  unfold mm_rw at hr
  have hd : i = 32 * (i / 32) + i % 32 := by omega
  generalize i / 32 = a at hr hd
  generalize i % 32 = b at hr hd
  subst hd
  match a with
  | 0 => exact mm_okc_at _ _ _ mm_k7_0 b r hr
  | a + 1 => exact absurd hr (by simp [mm_r7])
theorem mm_a8 : ∀ (i : Nat) (r : mm_R), mm_rw (mm_rows 8) i = some r → ∃ h, mm_ok (mm_I 8) (mm_rows 8) i h r = true := by
  intro i r hr
  have e : mm_rows 8 = mm_r8 := rfl
  rw [e] at hr ⊢
  unfold mm_rw at hr
  have hd : i = 32 * (i / 32) + i % 32 := by omega
  generalize i / 32 = a at hr hd
  generalize i % 32 = b at hr hd
  subst hd
  match a with
  | 0 => exact mm_okc_at _ _ _ mm_k8_0 b r hr
  | a + 1 => exact absurd hr (by simp [mm_r8])
theorem mm_a9 : ∀ (i : Nat) (r : mm_R), mm_rw (mm_rows 9) i = some r → ∃ h, mm_ok (mm_I 9) (mm_rows 9) i h r = true := by
  intro i r hr
  have e : mm_rows 9 = mm_r9 := rfl
  rw [e] at hr ⊢
  unfold mm_rw at hr
  have hd : i = 32 * (i / 32) + i % 32 := by omega
  generalize i / 32 = a at hr hd
  generalize i % 32 = b at hr hd
  subst hd
  match a with
  | 0 => exact mm_okc_at _ _ _ mm_k9_0 b r hr
  | a + 1 => exact absurd hr (by simp [mm_r9])
theorem mm_a10 : ∀ (i : Nat) (r : mm_R), mm_rw (mm_rows 10) i = some r → ∃ h, mm_ok (mm_I 10) (mm_rows 10) i h r = true := by
  intro i r hr
  have e : mm_rows 10 = mm_r10 := rfl
  rw [e] at hr ⊢
  unfold mm_rw at hr
  have hd : i = 32 * (i / 32) + i % 32 := by omega
  generalize i / 32 = a at hr hd
  generalize i % 32 = b at hr hd
  subst hd
  match a with
  | 0 => exact mm_okc_at _ _ _ mm_k10_0 b r hr
  | a + 1 => exact absurd hr (by simp [mm_r10])
theorem mm_a11 : ∀ (i : Nat) (r : mm_R), mm_rw (mm_rows 11) i = some r → ∃ h, mm_ok (mm_I 11) (mm_rows 11) i h r = true := by
  intro i r hr
  have e : mm_rows 11 = mm_r11 := rfl
  rw [e] at hr ⊢
  unfold mm_rw at hr
  have hd : i = 32 * (i / 32) + i % 32 := by omega
  generalize i / 32 = a at hr hd
  generalize i % 32 = b at hr hd
  subst hd
  match a with
  | 0 => exact mm_okc_at _ _ _ mm_k11_0 b r hr
  | a + 1 => exact absurd hr (by simp [mm_r11])
theorem mm_a12 : ∀ (i : Nat) (r : mm_R), mm_rw (mm_rows 12) i = some r → ∃ h, mm_ok (mm_I 12) (mm_rows 12) i h r = true := by
  intro i r hr
  have e : mm_rows 12 = mm_r12 := rfl
  rw [e] at hr ⊢
  unfold mm_rw at hr
  have hd : i = 32 * (i / 32) + i % 32 := by omega
  generalize i / 32 = a at hr hd
  generalize i % 32 = b at hr hd
  subst hd
  match a with
  | 0 => exact mm_okc_at _ _ _ mm_k12_0 b r hr
  | a + 1 => exact absurd hr (by simp [mm_r12])
theorem mm_a13 : ∀ (i : Nat) (r : mm_R), mm_rw (mm_rows 13) i = some r → ∃ h, mm_ok (mm_I 13) (mm_rows 13) i h r = true := by
  intro i r hr
  have e : mm_rows 13 = mm_r13 := rfl
  rw [e] at hr ⊢
  unfold mm_rw at hr
  have hd : i = 32 * (i / 32) + i % 32 := by omega
  generalize i / 32 = a at hr hd
  generalize i % 32 = b at hr hd
  subst hd
  match a with
  | 0 => exact mm_okc_at _ _ _ mm_k13_0 b r hr
  | a + 1 => exact absurd hr (by simp [mm_r13])
theorem mm_a14 : ∀ (i : Nat) (r : mm_R), mm_rw (mm_rows 14) i = some r → ∃ h, mm_ok (mm_I 14) (mm_rows 14) i h r = true := by
  intro i r hr
  have e : mm_rows 14 = mm_r14 := rfl
  rw [e] at hr ⊢
  unfold mm_rw at hr
  have hd : i = 32 * (i / 32) + i % 32 := by omega
  generalize i / 32 = a at hr hd
  generalize i % 32 = b at hr hd
  subst hd
  match a with
  | 0 => exact mm_okc_at _ _ _ mm_k14_0 b r hr
  | a + 1 => exact absurd hr (by simp [mm_r14])
theorem mm_a15 : ∀ (i : Nat) (r : mm_R), mm_rw (mm_rows 15) i = some r → ∃ h, mm_ok (mm_I 15) (mm_rows 15) i h r = true := by
  intro i r hr
  have e : mm_rows 15 = mm_r15 := rfl
  rw [e] at hr ⊢
  unfold mm_rw at hr
  have hd : i = 32 * (i / 32) + i % 32 := by omega
  generalize i / 32 = a at hr hd
  generalize i % 32 = b at hr hd
  subst hd
  match a with
  | 0 => exact mm_okc_at _ _ _ mm_k15_0 b r hr
  | a + 1 => exact absurd hr (by simp [mm_r15])
theorem mm_a16 : ∀ (i : Nat) (r : mm_R), mm_rw (mm_rows 16) i = some r → ∃ h, mm_ok (mm_I 16) (mm_rows 16) i h r = true := by
  intro i r hr
  have e : mm_rows 16 = mm_r16 := rfl
  rw [e] at hr ⊢
  unfold mm_rw at hr
  have hd : i = 32 * (i / 32) + i % 32 := by omega
  generalize i / 32 = a at hr hd
  generalize i % 32 = b at hr hd
  subst hd
  match a with
  | 0 => exact mm_okc_at _ _ _ mm_k16_0 b r hr
  | a + 1 => exact absurd hr (by simp [mm_r16])
theorem mm_a17 : ∀ (i : Nat) (r : mm_R), mm_rw (mm_rows 17) i = some r → ∃ h, mm_ok (mm_I 17) (mm_rows 17) i h r = true := by
  intro i r hr
  have e : mm_rows 17 = mm_r17 := rfl
  rw [e] at hr ⊢
  unfold mm_rw at hr
  have hd : i = 32 * (i / 32) + i % 32 := by omega
  generalize i / 32 = a at hr hd
  generalize i % 32 = b at hr hd
  subst hd
  match a with
  | 0 => exact mm_okc_at _ _ _ mm_k17_0 b r hr
  | a + 1 => exact absurd hr (by simp [mm_r17])
theorem mm_a18 : ∀ (i : Nat) (r : mm_R), mm_rw (mm_rows 18) i = some r → ∃ h, mm_ok (mm_I 18) (mm_rows 18) i h r = true := by
  intro i r hr
  have e : mm_rows 18 = mm_r18 := rfl
  rw [e] at hr ⊢
  unfold mm_rw at hr
  have hd : i = 32 * (i / 32) + i % 32 := by omega
  generalize i / 32 = a at hr hd
  generalize i % 32 = b at hr hd
  subst hd
  match a with
  | 0 => exact mm_okc_at _ _ _ mm_k18_0 b r hr
  | a + 1 => exact absurd hr (by simp [mm_r18])
theorem mm_a19 : ∀ (i : Nat) (r : mm_R), mm_rw (mm_rows 19) i = some r → ∃ h, mm_ok (mm_I 19) (mm_rows 19) i h r = true := by
  intro i r hr
  have e : mm_rows 19 = mm_r19 := rfl
  rw [e] at hr ⊢
  unfold mm_rw at hr
  have hd : i = 32 * (i / 32) + i % 32 := by omega
  generalize i / 32 = a at hr hd
  generalize i % 32 = b at hr hd
  subst hd
  match a with
  | 0 => exact mm_okc_at _ _ _ mm_k19_0 b r hr
  | a + 1 => exact absurd hr (by simp [mm_r19])
theorem mm_a20 : ∀ (i : Nat) (r : mm_R), mm_rw (mm_rows 20) i = some r → ∃ h, mm_ok (mm_I 20) (mm_rows 20) i h r = true := by
  intro i r hr
  have e : mm_rows 20 = mm_r20 := rfl
  rw [e] at hr ⊢
  unfold mm_rw at hr
  have hd : i = 32 * (i / 32) + i % 32 := by omega
  generalize i / 32 = a at hr hd
  generalize i % 32 = b at hr hd
  subst hd
  match a with
  | 0 => exact mm_okc_at _ _ _ mm_k20_0 b r hr
  | a + 1 => exact absurd hr (by simp [mm_r20])
theorem mm_a21 : ∀ (i : Nat) (r : mm_R), mm_rw (mm_rows 21) i = some r → ∃ h, mm_ok (mm_I 21) (mm_rows 21) i h r = true := by
  intro i r hr
  have e : mm_rows 21 = mm_r21 := rfl
  rw [e] at hr ⊢
  unfold mm_rw at hr
  have hd : i = 32 * (i / 32) + i % 32 := by omega
  generalize i / 32 = a at hr hd
  generalize i % 32 = b at hr hd
  subst hd
  match a with
  | 0 => exact mm_okc_at _ _ _ mm_k21_0 b r hr
  | 1 => exact mm_okc_at _ _ _ mm_k21_1 b r hr
  | 2 => exact mm_okc_at _ _ _ mm_k21_2 b r hr
  | a + 3 => exact absurd hr (by simp [mm_r21])
theorem mm_a22 : ∀ (i : Nat) (r : mm_R), mm_rw (mm_rows 22) i = some r → ∃ h, mm_ok (mm_I 22) (mm_rows 22) i h r = true := by
  intro i r hr
  have e : mm_rows 22 = mm_r22 := rfl
  rw [e] at hr ⊢
  unfold mm_rw at hr
  have hd : i = 32 * (i / 32) + i % 32 := by omega
  generalize i / 32 = a at hr hd
  generalize i % 32 = b at hr hd
  subst hd
  match a with
  | 0 => exact mm_okc_at _ _ _ mm_k22_0 b r hr
  | 1 => exact mm_okc_at _ _ _ mm_k22_1 b r hr
  | 2 => exact mm_okc_at _ _ _ mm_k22_2 b r hr
  | 3 => exact mm_okc_at _ _ _ mm_k22_3 b r hr
  | a + 4 => exact absurd hr (by simp [mm_r22])
theorem mm_a23 : ∀ (i : Nat) (r : mm_R), mm_rw (mm_rows 23) i = some r → ∃ h, mm_ok (mm_I 23) (mm_rows 23) i h r = true := by
  intro i r hr
  have e : mm_rows 23 = mm_r23 := rfl
  rw [e] at hr ⊢
  unfold mm_rw at hr
  have hd : i = 32 * (i / 32) + i % 32 := by omega
  generalize i / 32 = a at hr hd
  generalize i % 32 = b at hr hd
  subst hd
  match a with
  | 0 => exact mm_okc_at _ _ _ mm_k23_0 b r hr
  | a + 1 => exact absurd hr (by simp [mm_r23])
theorem mm_a24 : ∀ (i : Nat) (r : mm_R), mm_rw (mm_rows 24) i = some r → ∃ h, mm_ok (mm_I 24) (mm_rows 24) i h r = true := by
  intro i r hr
  have e : mm_rows 24 = mm_r24 := rfl
  rw [e] at hr ⊢
  unfold mm_rw at hr
  have hd : i = 32 * (i / 32) + i % 32 := by omega
  generalize i / 32 = a at hr hd
  generalize i % 32 = b at hr hd
  subst hd
  match a with
  | 0 => exact mm_okc_at _ _ _ mm_k24_0 b r hr
  | a + 1 => exact absurd hr (by simp [mm_r24])
theorem mm_a25 : ∀ (i : Nat) (r : mm_R), mm_rw (mm_rows 25) i = some r → ∃ h, mm_ok (mm_I 25) (mm_rows 25) i h r = true := by
  intro i r hr
  have e : mm_rows 25 = mm_r25 := rfl
  rw [e] at hr ⊢
  unfold mm_rw at hr
  have hd : i = 32 * (i / 32) + i % 32 := by omega
  generalize i / 32 = a at hr hd
  generalize i % 32 = b at hr hd
  subst hd
  match a with
  | 0 => exact mm_okc_at _ _ _ mm_k25_0 b r hr
  | a + 1 => exact absurd hr (by simp [mm_r25])
theorem mm_a26 : ∀ (i : Nat) (r : mm_R), mm_rw (mm_rows 26) i = some r → ∃ h, mm_ok (mm_I 26) (mm_rows 26) i h r = true := by
  intro i r hr
  have e : mm_rows 26 = mm_r26 := rfl
  rw [e] at hr ⊢
  unfold mm_rw at hr
  have hd : i = 32 * (i / 32) + i % 32 := by omega
  generalize i / 32 = a at hr hd
  generalize i % 32 = b at hr hd
  subst hd
  match a with
  | 0 => exact mm_okc_at _ _ _ mm_k26_0 b r hr
  | 1 => exact mm_okc_at _ _ _ mm_k26_1 b r hr
  | a + 2 => exact absurd hr (by simp [mm_r26])
theorem mm_a27 : ∀ (i : Nat) (r : mm_R), mm_rw (mm_rows 27) i = some r → ∃ h, mm_ok (mm_I 27) (mm_rows 27) i h r = true := by
  intro i r hr
  have e : mm_rows 27 = mm_r27 := rfl
  rw [e] at hr ⊢
  unfold mm_rw at hr
  have hd : i = 32 * (i / 32) + i % 32 := by omega
  generalize i / 32 = a at hr hd
  generalize i % 32 = b at hr hd
  subst hd
  match a with
  | 0 => exact mm_okc_at _ _ _ mm_k27_0 b r hr
  | 1 => exact mm_okc_at _ _ _ mm_k27_1 b r hr
  | a + 2 => exact absurd hr (by simp [mm_r27])
theorem mm_a28 : ∀ (i : Nat) (r : mm_R), mm_rw (mm_rows 28) i = some r → ∃ h, mm_ok (mm_I 28) (mm_rows 28) i h r = true := by
  intro i r hr
  have e : mm_rows 28 = mm_r28 := rfl
  rw [e] at hr ⊢
  unfold mm_rw at hr
  have hd : i = 32 * (i / 32) + i % 32 := by omega
  generalize i / 32 = a at hr hd
  generalize i % 32 = b at hr hd
  subst hd
  match a with
  | 0 => exact mm_okc_at _ _ _ mm_k28_0 b r hr
  | a + 1 => exact absurd hr (by simp [mm_r28])
theorem mm_a29 : ∀ (i : Nat) (r : mm_R), mm_rw (mm_rows 29) i = some r → ∃ h, mm_ok (mm_I 29) (mm_rows 29) i h r = true := by
  intro i r hr
  have e : mm_rows 29 = mm_r29 := rfl
  rw [e] at hr ⊢
  unfold mm_rw at hr
  have hd : i = 32 * (i / 32) + i % 32 := by omega
  generalize i / 32 = a at hr hd
  generalize i % 32 = b at hr hd
  subst hd
  match a with
  | 0 => exact mm_okc_at _ _ _ mm_k29_0 b r hr
  | a + 1 => exact absurd hr (by simp [mm_r29])
theorem mm_a30 : ∀ (i : Nat) (r : mm_R), mm_rw (mm_rows 30) i = some r → ∃ h, mm_ok (mm_I 30) (mm_rows 30) i h r = true := by
  intro i r hr
  have e : mm_rows 30 = mm_r30 := rfl
  rw [e] at hr ⊢
  unfold mm_rw at hr
  have hd : i = 32 * (i / 32) + i % 32 := by omega
  generalize i / 32 = a at hr hd
  generalize i % 32 = b at hr hd
  subst hd
  match a with
  | 0 => exact mm_okc_at _ _ _ mm_k30_0 b r hr
  | 1 => exact mm_okc_at _ _ _ mm_k30_1 b r hr
  | 2 => exact mm_okc_at _ _ _ mm_k30_2 b r hr
  | a + 3 => exact absurd hr (by simp [mm_r30])
theorem mm_a31 : ∀ (i : Nat) (r : mm_R), mm_rw (mm_rows 31) i = some r → ∃ h, mm_ok (mm_I 31) (mm_rows 31) i h r = true := by
  intro i r hr
  have e : mm_rows 31 = mm_r31 := rfl
  rw [e] at hr ⊢
  unfold mm_rw at hr
  have hd : i = 32 * (i / 32) + i % 32 := by omega
  generalize i / 32 = a at hr hd
  generalize i % 32 = b at hr hd
  subst hd
  match a with
  | 0 => exact mm_okc_at _ _ _ mm_k31_0 b r hr
  | 1 => exact mm_okc_at _ _ _ mm_k31_1 b r hr
  | a + 2 => exact absurd hr (by simp [mm_r31])
theorem mm_a32 : ∀ (i : Nat) (r : mm_R), mm_rw (mm_rows 32) i = some r → ∃ h, mm_ok (mm_I 32) (mm_rows 32) i h r = true := by
  intro i r hr
  have e : mm_rows 32 = mm_r32 := rfl
  rw [e] at hr ⊢
  unfold mm_rw at hr
  have hd : i = 32 * (i / 32) + i % 32 := by omega
  generalize i / 32 = a at hr hd
  generalize i % 32 = b at hr hd
  subst hd
  match a with
  | 0 => exact mm_okc_at _ _ _ mm_k32_0 b r hr
  | a + 1 => exact absurd hr (by simp [mm_r32])
theorem mm_a33 : ∀ (i : Nat) (r : mm_R), mm_rw (mm_rows 33) i = some r → ∃ h, mm_ok (mm_I 33) (mm_rows 33) i h r = true := by
  intro i r hr
  have e : mm_rows 33 = mm_r33 := rfl
  rw [e] at hr ⊢
  unfold mm_rw at hr
  have hd : i = 32 * (i / 32) + i % 32 := by omega
  generalize i / 32 = a at hr hd
  generalize i % 32 = b at hr hd
  subst hd
  match a with
  | 0 => exact mm_okc_at _ _ _ mm_k33_0 b r hr
  | 1 => exact mm_okc_at _ _ _ mm_k33_1 b r hr
  | a + 2 => exact absurd hr (by simp [mm_r33])
theorem mm_a34 : ∀ (i : Nat) (r : mm_R), mm_rw (mm_rows 34) i = some r → ∃ h, mm_ok (mm_I 34) (mm_rows 34) i h r = true := by
  intro i r hr
  have e : mm_rows 34 = mm_r34 := rfl
  rw [e] at hr ⊢
  unfold mm_rw at hr
  have hd : i = 32 * (i / 32) + i % 32 := by omega
  generalize i / 32 = a at hr hd
  generalize i % 32 = b at hr hd
  subst hd
  match a with
  | 0 => exact mm_okc_at _ _ _ mm_k34_0 b r hr
  | a + 1 => exact absurd hr (by simp [mm_r34])
theorem mm_a35 : ∀ (i : Nat) (r : mm_R), mm_rw (mm_rows 35) i = some r → ∃ h, mm_ok (mm_I 35) (mm_rows 35) i h r = true := by
  intro i r hr
  have e : mm_rows 35 = mm_r35 := rfl
  rw [e] at hr ⊢
  unfold mm_rw at hr
  have hd : i = 32 * (i / 32) + i % 32 := by omega
  generalize i / 32 = a at hr hd
  generalize i % 32 = b at hr hd
  subst hd
  match a with
  | 0 => exact mm_okc_at _ _ _ mm_k35_0 b r hr
  | a + 1 => exact absurd hr (by simp [mm_r35])
theorem mm_a36 : ∀ (i : Nat) (r : mm_R), mm_rw (mm_rows 36) i = some r → ∃ h, mm_ok (mm_I 36) (mm_rows 36) i h r = true := by
  intro i r hr
  have e : mm_rows 36 = mm_r36 := rfl
  rw [e] at hr ⊢
  unfold mm_rw at hr
  have hd : i = 32 * (i / 32) + i % 32 := by omega
  generalize i / 32 = a at hr hd
  generalize i % 32 = b at hr hd
  subst hd
  match a with
  | 0 => exact mm_okc_at _ _ _ mm_k36_0 b r hr
  | 1 => exact mm_okc_at _ _ _ mm_k36_1 b r hr
  | a + 2 => exact absurd hr (by simp [mm_r36])
theorem mm_a37 : ∀ (i : Nat) (r : mm_R), mm_rw (mm_rows 37) i = some r → ∃ h, mm_ok (mm_I 37) (mm_rows 37) i h r = true := by
  intro i r hr
  have e : mm_rows 37 = mm_r37 := rfl
  rw [e] at hr ⊢
  unfold mm_rw at hr
  have hd : i = 32 * (i / 32) + i % 32 := by omega
  generalize i / 32 = a at hr hd
  generalize i % 32 = b at hr hd
  subst hd
  match a with
  | 0 => exact mm_okc_at _ _ _ mm_k37_0 b r hr
  | a + 1 => exact absurd hr (by simp [mm_r37])
theorem mm_a38 : ∀ (i : Nat) (r : mm_R), mm_rw (mm_rows 38) i = some r → ∃ h, mm_ok (mm_I 38) (mm_rows 38) i h r = true := by
  intro i r hr
  have e : mm_rows 38 = mm_r38 := rfl
  rw [e] at hr ⊢
  unfold mm_rw at hr
  have hd : i = 32 * (i / 32) + i % 32 := by omega
  generalize i / 32 = a at hr hd
  generalize i % 32 = b at hr hd
  subst hd
  match a with
  | 0 => exact mm_okc_at _ _ _ mm_k38_0 b r hr
  | 1 => exact mm_okc_at _ _ _ mm_k38_1 b r hr
  | 2 => exact mm_okc_at _ _ _ mm_k38_2 b r hr
  | a + 3 => exact absurd hr (by simp [mm_r38])
theorem mm_a39 : ∀ (i : Nat) (r : mm_R), mm_rw (mm_rows 39) i = some r → ∃ h, mm_ok (mm_I 39) (mm_rows 39) i h r = true := by
  intro i r hr
  have e : mm_rows 39 = mm_r39 := rfl
  rw [e] at hr ⊢
  unfold mm_rw at hr
  have hd : i = 32 * (i / 32) + i % 32 := by omega
  generalize i / 32 = a at hr hd
  generalize i % 32 = b at hr hd
  subst hd
  match a with
  | 0 => exact mm_okc_at _ _ _ mm_k39_0 b r hr
  | a + 1 => exact absurd hr (by simp [mm_r39])
theorem mm_a40 : ∀ (i : Nat) (r : mm_R), mm_rw (mm_rows 40) i = some r → ∃ h, mm_ok (mm_I 40) (mm_rows 40) i h r = true := by
  intro i r hr
  have e : mm_rows 40 = mm_r40 := rfl
  rw [e] at hr ⊢
  unfold mm_rw at hr
  have hd : i = 32 * (i / 32) + i % 32 := by omega
  generalize i / 32 = a at hr hd
  generalize i % 32 = b at hr hd
  subst hd
  match a with
  | 0 => exact mm_okc_at _ _ _ mm_k40_0 b r hr
  | a + 1 => exact absurd hr (by simp [mm_r40])
theorem mm_a41 : ∀ (i : Nat) (r : mm_R), mm_rw (mm_rows 41) i = some r → ∃ h, mm_ok (mm_I 41) (mm_rows 41) i h r = true := by
  intro i r hr
  have e : mm_rows 41 = mm_r41 := rfl
  rw [e] at hr ⊢
  unfold mm_rw at hr
  have hd : i = 32 * (i / 32) + i % 32 := by omega
  generalize i / 32 = a at hr hd
  generalize i % 32 = b at hr hd
  subst hd
  match a with
  | 0 => exact mm_okc_at _ _ _ mm_k41_0 b r hr
  | a + 1 => exact absurd hr (by simp [mm_r41])
theorem mm_a42 : ∀ (i : Nat) (r : mm_R), mm_rw (mm_rows 42) i = some r → ∃ h, mm_ok (mm_I 42) (mm_rows 42) i h r = true := by
  intro i r hr
  have e : mm_rows 42 = mm_r42 := rfl
  rw [e] at hr ⊢
  unfold mm_rw at hr
  have hd : i = 32 * (i / 32) + i % 32 := by omega
  generalize i / 32 = a at hr hd
  generalize i % 32 = b at hr hd
  subst hd
  match a with
  | 0 => exact mm_okc_at _ _ _ mm_k42_0 b r hr
  | a + 1 => exact absurd hr (by simp [mm_r42])
theorem mm_a43 : ∀ (i : Nat) (r : mm_R), mm_rw (mm_rows 43) i = some r → ∃ h, mm_ok (mm_I 43) (mm_rows 43) i h r = true := by
  intro i r hr
  have e : mm_rows 43 = mm_r43 := rfl
  rw [e] at hr ⊢
  unfold mm_rw at hr
  have hd : i = 32 * (i / 32) + i % 32 := by omega
  generalize i / 32 = a at hr hd
  generalize i % 32 = b at hr hd
  subst hd
  match a with
  | 0 => exact mm_okc_at _ _ _ mm_k43_0 b r hr
  | a + 1 => exact absurd hr (by simp [mm_r43])
theorem mm_a44 : ∀ (i : Nat) (r : mm_R), mm_rw (mm_rows 44) i = some r → ∃ h, mm_ok (mm_I 44) (mm_rows 44) i h r = true := by
  intro i r hr
  have e : mm_rows 44 = mm_r44 := rfl
  rw [e] at hr ⊢
  unfold mm_rw at hr
  have hd : i = 32 * (i / 32) + i % 32 := by omega
  generalize i / 32 = a at hr hd
  generalize i % 32 = b at hr hd
  subst hd
  match a with
  | 0 => exact mm_okc_at _ _ _ mm_k44_0 b r hr
  | 1 => exact mm_okc_at _ _ _ mm_k44_1 b r hr
  | a + 2 => exact absurd hr (by simp [mm_r44])
theorem mm_a45 : ∀ (i : Nat) (r : mm_R), mm_rw (mm_rows 45) i = some r → ∃ h, mm_ok (mm_I 45) (mm_rows 45) i h r = true := by
  intro i r hr
  have e : mm_rows 45 = mm_r45 := rfl
  rw [e] at hr ⊢
  unfold mm_rw at hr
  have hd : i = 32 * (i / 32) + i % 32 := by omega
  generalize i / 32 = a at hr hd
  generalize i % 32 = b at hr hd
  subst hd
  match a with
  | 0 => exact mm_okc_at _ _ _ mm_k45_0 b r hr
  | a + 1 => exact absurd hr (by simp [mm_r45])
theorem mm_a46 : ∀ (i : Nat) (r : mm_R), mm_rw (mm_rows 46) i = some r → ∃ h, mm_ok (mm_I 46) (mm_rows 46) i h r = true := by
  intro i r hr
  have e : mm_rows 46 = mm_r46 := rfl
  rw [e] at hr ⊢
  unfold mm_rw at hr
  have hd : i = 32 * (i / 32) + i % 32 := by omega
  generalize i / 32 = a at hr hd
  generalize i % 32 = b at hr hd
  subst hd
  match a with
  | 0 => exact mm_okc_at _ _ _ mm_k46_0 b r hr
  | a + 1 => exact absurd hr (by simp [mm_r46])
theorem mm_a47 : ∀ (i : Nat) (r : mm_R), mm_rw (mm_rows 47) i = some r → ∃ h, mm_ok (mm_I 47) (mm_rows 47) i h r = true := by
  intro i r hr
  have e : mm_rows 47 = mm_r47 := rfl
  rw [e] at hr ⊢
  unfold mm_rw at hr
  have hd : i = 32 * (i / 32) + i % 32 := by omega
  generalize i / 32 = a at hr hd
  generalize i % 32 = b at hr hd
  subst hd
  match a with
  | 0 => exact mm_okc_at _ _ _ mm_k47_0 b r hr
  | a + 1 => exact absurd hr (by simp [mm_r47])
theorem mm_a48 : ∀ (i : Nat) (r : mm_R), mm_rw (mm_rows 48) i = some r → ∃ h, mm_ok (mm_I 48) (mm_rows 48) i h r = true := by
  intro i r hr
  have e : mm_rows 48 = mm_r48 := rfl
  rw [e] at hr ⊢
  unfold mm_rw at hr
  have hd : i = 32 * (i / 32) + i % 32 := by omega
  generalize i / 32 = a at hr hd
  generalize i % 32 = b at hr hd
  subst hd
  match a with
  | 0 => exact mm_okc_at _ _ _ mm_k48_0 b r hr
  | a + 1 => exact absurd hr (by simp [mm_r48])
theorem mm_a49 : ∀ (i : Nat) (r : mm_R), mm_rw (mm_rows 49) i = some r → ∃ h, mm_ok (mm_I 49) (mm_rows 49) i h r = true := by
  intro i r hr
  have e : mm_rows 49 = mm_r49 := rfl
  rw [e] at hr ⊢
  unfold mm_rw at hr
  have hd : i = 32 * (i / 32) + i % 32 := by omega
  generalize i / 32 = a at hr hd
  generalize i % 32 = b at hr hd
  subst hd
  match a with
  | 0 => exact mm_okc_at _ _ _ mm_k49_0 b r hr
  | a + 1 => exact absurd hr (by simp [mm_r49])
theorem mm_a50 : ∀ (i : Nat) (r : mm_R), mm_rw (mm_rows 50) i = some r → ∃ h, mm_ok (mm_I 50) (mm_rows 50) i h r = true := by
  intro i r hr
  have e : mm_rows 50 = mm_r50 := rfl
  rw [e] at hr ⊢
  unfold mm_rw at hr
  have hd : i = 32 * (i / 32) + i % 32 := by omega
  generalize i / 32 = a at hr hd
  generalize i % 32 = b at hr hd
  subst hd
  match a with
  | 0 => exact mm_okc_at _ _ _ mm_k50_0 b r hr
  | 1 => exact mm_okc_at _ _ _ mm_k50_1 b r hr
  | 2 => exact mm_okc_at _ _ _ mm_k50_2 b r hr
  | a + 3 => exact absurd hr (by simp [mm_r50])
theorem mm_a51 : ∀ (i : Nat) (r : mm_R), mm_rw (mm_rows 51) i = some r → ∃ h, mm_ok (mm_I 51) (mm_rows 51) i h r = true := by
  intro i r hr
  have e : mm_rows 51 = mm_r51 := rfl
  rw [e] at hr ⊢
  unfold mm_rw at hr
  have hd : i = 32 * (i / 32) + i % 32 := by omega
  generalize i / 32 = a at hr hd
  generalize i % 32 = b at hr hd
  subst hd
  match a with
  | 0 => exact mm_okc_at _ _ _ mm_k51_0 b r hr
  | a + 1 => exact absurd hr (by simp [mm_r51])
theorem mm_a52 : ∀ (i : Nat) (r : mm_R), mm_rw (mm_rows 52) i = some r → ∃ h, mm_ok (mm_I 52) (mm_rows 52) i h r = true := by
  intro i r hr
  have e : mm_rows 52 = mm_r52 := rfl
  rw [e] at hr ⊢
  unfold mm_rw at hr
  have hd : i = 32 * (i / 32) + i % 32 := by omega
  generalize i / 32 = a at hr hd
  generalize i % 32 = b at hr hd
  subst hd
  match a with
  | 0 => exact mm_okc_at _ _ _ mm_k52_0 b r hr
  | a + 1 => exact absurd hr (by simp [mm_r52])
theorem mm_a53 : ∀ (i : Nat) (r : mm_R), mm_rw (mm_rows 53) i = some r → ∃ h, mm_ok (mm_I 53) (mm_rows 53) i h r = true := by
  intro i r hr
  have e : mm_rows 53 = mm_r53 := rfl
  rw [e] at hr ⊢
  unfold mm_rw at hr
  have hd : i = 32 * (i / 32) + i % 32 := by omega
  generalize i / 32 = a at hr hd
  generalize i % 32 = b at hr hd
  subst hd
  match a with
  | 0 => exact mm_okc_at _ _ _ mm_k53_0 b r hr
  | a + 1 => exact absurd hr (by simp [mm_r53])
theorem mm_a54 : ∀ (i : Nat) (r : mm_R), mm_rw (mm_rows 54) i = some r → ∃ h, mm_ok (mm_I 54) (mm_rows 54) i h r = true := by
  intro i r hr
  have e : mm_rows 54 = mm_r54 := rfl
  rw [e] at hr ⊢
  unfold mm_rw at hr
  have hd : i = 32 * (i / 32) + i % 32 := by omega
  generalize i / 32 = a at hr hd
  generalize i % 32 = b at hr hd
  subst hd
  match a with
  | 0 => exact mm_okc_at _ _ _ mm_k54_0 b r hr
  | a + 1 => exact absurd hr (by simp [mm_r54])
theorem mm_a55 : ∀ (i : Nat) (r : mm_R), mm_rw (mm_rows 55) i = some r → ∃ h, mm_ok (mm_I 55) (mm_rows 55) i h r = true := by
  intro i r hr
  have e : mm_rows 55 = mm_r55 := rfl
  rw [e] at hr ⊢
  unfold mm_rw at hr
  have hd : i = 32 * (i / 32) + i % 32 := by omega
  generalize i / 32 = a at hr hd
  generalize i % 32 = b at hr hd
  subst hd
  match a with
  | 0 => exact mm_okc_at _ _ _ mm_k55_0 b r hr
  | a + 1 => exact absurd hr (by simp [mm_r55])
theorem mm_a56 : ∀ (i : Nat) (r : mm_R), mm_rw (mm_rows 56) i = some r → ∃ h, mm_ok (mm_I 56) (mm_rows 56) i h r = true := by
  intro i r hr
  have e : mm_rows 56 = mm_r56 := rfl
  rw [e] at hr ⊢
  unfold mm_rw at hr
  have hd : i = 32 * (i / 32) + i % 32 := by omega
  generalize i / 32 = a at hr hd
  generalize i % 32 = b at hr hd
  subst hd
  match a with
  | 0 => exact mm_okc_at _ _ _ mm_k56_0 b r hr
  | a + 1 => exact absurd hr (by simp [mm_r56])
theorem mm_a57 : ∀ (i : Nat) (r : mm_R), mm_rw (mm_rows 57) i = some r → ∃ h, mm_ok (mm_I 57) (mm_rows 57) i h r = true := by
  intro i r hr
  have e : mm_rows 57 = mm_r57 := rfl
  rw [e] at hr ⊢
  unfold mm_rw at hr
  have hd : i = 32 * (i / 32) + i % 32 := by omega
  generalize i / 32 = a at hr hd
  generalize i % 32 = b at hr hd
  subst hd
  match a with
  | 0 => exact mm_okc_at _ _ _ mm_k57_0 b r hr
  | 1 => exact mm_okc_at _ _ _ mm_k57_1 b r hr
  | a + 2 => exact absurd hr (by simp [mm_r57])
theorem mm_a58 : ∀ (i : Nat) (r : mm_R), mm_rw (mm_rows 58) i = some r → ∃ h, mm_ok (mm_I 58) (mm_rows 58) i h r = true := by
  intro i r hr
  have e : mm_rows 58 = mm_r58 := rfl
  rw [e] at hr ⊢
  unfold mm_rw at hr
  have hd : i = 32 * (i / 32) + i % 32 := by omega
  generalize i / 32 = a at hr hd
  generalize i % 32 = b at hr hd
  subst hd
  match a with
  | 0 => exact mm_okc_at _ _ _ mm_k58_0 b r hr
  | 1 => exact mm_okc_at _ _ _ mm_k58_1 b r hr
  | a + 2 => exact absurd hr (by simp [mm_r58])
theorem mm_a59 : ∀ (i : Nat) (r : mm_R), mm_rw (mm_rows 59) i = some r → ∃ h, mm_ok (mm_I 59) (mm_rows 59) i h r = true := by
  intro i r hr
  have e : mm_rows 59 = mm_r59 := rfl
  rw [e] at hr ⊢
  unfold mm_rw at hr
  have hd : i = 32 * (i / 32) + i % 32 := by omega
  generalize i / 32 = a at hr hd
  generalize i % 32 = b at hr hd
  subst hd
  match a with
  | 0 => exact mm_okc_at _ _ _ mm_k59_0 b r hr
  | a + 1 => exact absurd hr (by simp [mm_r59])
theorem mm_a60 : ∀ (i : Nat) (r : mm_R), mm_rw (mm_rows 60) i = some r → ∃ h, mm_ok (mm_I 60) (mm_rows 60) i h r = true := by
  intro i r hr
  have e : mm_rows 60 = mm_r60 := rfl
  rw [e] at hr ⊢
  unfold mm_rw at hr
  have hd : i = 32 * (i / 32) + i % 32 := by omega
  generalize i / 32 = a at hr hd
  generalize i % 32 = b at hr hd
  subst hd
  match a with
  | 0 => exact mm_okc_at _ _ _ mm_k60_0 b r hr
  | a + 1 => exact absurd hr (by simp [mm_r60])
theorem mm_a61 : ∀ (i : Nat) (r : mm_R), mm_rw (mm_rows 61) i = some r → ∃ h, mm_ok (mm_I 61) (mm_rows 61) i h r = true := by
  intro i r hr
  have e : mm_rows 61 = mm_r61 := rfl
  rw [e] at hr ⊢
  unfold mm_rw at hr
  have hd : i = 32 * (i / 32) + i % 32 := by omega
  generalize i / 32 = a at hr hd
  generalize i % 32 = b at hr hd
  subst hd
  match a with
  | 0 => exact mm_okc_at _ _ _ mm_k61_0 b r hr
  | a + 1 => exact absurd hr (by simp [mm_r61])
theorem mm_a62 : ∀ (i : Nat) (r : mm_R), mm_rw (mm_rows 62) i = some r → ∃ h, mm_ok (mm_I 62) (mm_rows 62) i h r = true := by
  intro i r hr
  have e : mm_rows 62 = mm_r62 := rfl
  rw [e] at hr ⊢
  unfold mm_rw at hr
  have hd : i = 32 * (i / 32) + i % 32 := by omega
  generalize i / 32 = a at hr hd
  generalize i % 32 = b at hr hd
  subst hd
  match a with
  | 0 => exact mm_okc_at _ _ _ mm_k62_0 b r hr
  | a + 1 => exact absurd hr (by simp [mm_r62])
theorem mm_a63 : ∀ (i : Nat) (r : mm_R), mm_rw (mm_rows 63) i = some r → ∃ h, mm_ok (mm_I 63) (mm_rows 63) i h r = true := by
  intro i r hr
  have e : mm_rows 63 = mm_r63 := rfl
  rw [e] at hr ⊢
  unfold mm_rw at hr
  have hd : i = 32 * (i / 32) + i % 32 := by omega
  generalize i / 32 = a at hr hd
  generalize i % 32 = b at hr hd
  subst hd
  match a with
  | 0 => exact mm_okc_at _ _ _ mm_k63_0 b r hr
  | 1 => exact mm_okc_at _ _ _ mm_k63_1 b r hr
  | a + 2 => exact absurd hr (by simp [mm_r63])
theorem mm_a64 : ∀ (i : Nat) (r : mm_R), mm_rw (mm_rows 64) i = some r → ∃ h, mm_ok (mm_I 64) (mm_rows 64) i h r = true := by
  intro i r hr
  have e : mm_rows 64 = mm_r64 := rfl
  rw [e] at hr ⊢
  unfold mm_rw at hr
  have hd : i = 32 * (i / 32) + i % 32 := by omega
  generalize i / 32 = a at hr hd
  generalize i % 32 = b at hr hd
  subst hd
  match a with
  | 0 => exact mm_okc_at _ _ _ mm_k64_0 b r hr
  | 1 => exact mm_okc_at _ _ _ mm_k64_1 b r hr
  | a + 2 => exact absurd hr (by simp [mm_r64])
theorem mm_a65 : ∀ (i : Nat) (r : mm_R), mm_rw (mm_rows 65) i = some r → ∃ h, mm_ok (mm_I 65) (mm_rows 65) i h r = true := by
  intro i r hr
  have e : mm_rows 65 = mm_r65 := rfl
  rw [e] at hr ⊢
  unfold mm_rw at hr
  have hd : i = 32 * (i / 32) + i % 32 := by omega
  generalize i / 32 = a at hr hd
  generalize i % 32 = b at hr hd
  subst hd
  match a with
  | 0 => exact mm_okc_at _ _ _ mm_k65_0 b r hr
  | 1 => exact mm_okc_at _ _ _ mm_k65_1 b r hr
  | a + 2 => exact absurd hr (by simp [mm_r65])
theorem mm_a66 : ∀ (i : Nat) (r : mm_R), mm_rw (mm_rows 66) i = some r → ∃ h, mm_ok (mm_I 66) (mm_rows 66) i h r = true := by
  intro i r hr
  have e : mm_rows 66 = mm_r66 := rfl
  rw [e] at hr ⊢
  unfold mm_rw at hr
  have hd : i = 32 * (i / 32) + i % 32 := by omega
  generalize i / 32 = a at hr hd
  generalize i % 32 = b at hr hd
  subst hd
  match a with
  | 0 => exact mm_okc_at _ _ _ mm_k66_0 b r hr
  | 1 => exact mm_okc_at _ _ _ mm_k66_1 b r hr
  | a + 2 => exact absurd hr (by simp [mm_r66])
theorem mm_a67 : ∀ (i : Nat) (r : mm_R), mm_rw (mm_rows 67) i = some r → ∃ h, mm_ok (mm_I 67) (mm_rows 67) i h r = true := by
  intro i r hr
  have e : mm_rows 67 = mm_r67 := rfl
  rw [e] at hr ⊢
  unfold mm_rw at hr
  have hd : i = 32 * (i / 32) + i % 32 := by omega
  generalize i / 32 = a at hr hd
  generalize i % 32 = b at hr hd
  subst hd
  match a with
  | 0 => exact mm_okc_at _ _ _ mm_k67_0 b r hr
  | 1 => exact mm_okc_at _ _ _ mm_k67_1 b r hr
  | a + 2 => exact absurd hr (by simp [mm_r67])
theorem mm_a68 : ∀ (i : Nat) (r : mm_R), mm_rw (mm_rows 68) i = some r → ∃ h, mm_ok (mm_I 68) (mm_rows 68) i h r = true := by
  intro i r hr
  have e : mm_rows 68 = mm_r68 := rfl
  rw [e] at hr ⊢
  unfold mm_rw at hr
  have hd : i = 32 * (i / 32) + i % 32 := by omega
  generalize i / 32 = a at hr hd
  generalize i % 32 = b at hr hd
  subst hd
  match a with
  | 0 => exact mm_okc_at _ _ _ mm_k68_0 b r hr
  | a + 1 => exact absurd hr (by simp [mm_r68])
theorem mm_a69 : ∀ (i : Nat) (r : mm_R), mm_rw (mm_rows 69) i = some r → ∃ h, mm_ok (mm_I 69) (mm_rows 69) i h r = true := by
  intro i r hr
  have e : mm_rows 69 = mm_r69 := rfl
  rw [e] at hr ⊢
  unfold mm_rw at hr
  have hd : i = 32 * (i / 32) + i % 32 := by omega
  generalize i / 32 = a at hr hd
  generalize i % 32 = b at hr hd
  subst hd
  match a with
  | 0 => exact mm_okc_at _ _ _ mm_k69_0 b r hr
  | a + 1 => exact absurd hr (by simp [mm_r69])
theorem mm_a70 : ∀ (i : Nat) (r : mm_R), mm_rw (mm_rows 70) i = some r → ∃ h, mm_ok (mm_I 70) (mm_rows 70) i h r = true := by
  intro i r hr
  have e : mm_rows 70 = mm_r70 := rfl
  rw [e] at hr ⊢
  unfold mm_rw at hr
  have hd : i = 32 * (i / 32) + i % 32 := by omega
  generalize i / 32 = a at hr hd
  generalize i % 32 = b at hr hd
  subst hd
  match a with
  | 0 => exact mm_okc_at _ _ _ mm_k70_0 b r hr
  | a + 1 => exact absurd hr (by simp [mm_r70])
theorem mm_a71 : ∀ (i : Nat) (r : mm_R), mm_rw (mm_rows 71) i = some r → ∃ h, mm_ok (mm_I 71) (mm_rows 71) i h r = true := by
  intro i r hr
  have e : mm_rows 71 = mm_r71 := rfl
  rw [e] at hr ⊢
  unfold mm_rw at hr
  have hd : i = 32 * (i / 32) + i % 32 := by omega
  generalize i / 32 = a at hr hd
  generalize i % 32 = b at hr hd
  subst hd
  match a with
  | 0 => exact mm_okc_at _ _ _ mm_k71_0 b r hr
  | 1 => exact mm_okc_at _ _ _ mm_k71_1 b r hr
  | a + 2 => exact absurd hr (by simp [mm_r71])
theorem mm_a72 : ∀ (i : Nat) (r : mm_R), mm_rw (mm_rows 72) i = some r → ∃ h, mm_ok (mm_I 72) (mm_rows 72) i h r = true := by
  intro i r hr
  have e : mm_rows 72 = mm_r72 := rfl
  rw [e] at hr ⊢
  unfold mm_rw at hr
  have hd : i = 32 * (i / 32) + i % 32 := by omega
  generalize i / 32 = a at hr hd
  generalize i % 32 = b at hr hd
  subst hd
  match a with
  | 0 => exact mm_okc_at _ _ _ mm_k72_0 b r hr
  | 1 => exact mm_okc_at _ _ _ mm_k72_1 b r hr
  | a + 2 => exact absurd hr (by simp [mm_r72])
theorem mm_a73 : ∀ (i : Nat) (r : mm_R), mm_rw (mm_rows 73) i = some r → ∃ h, mm_ok (mm_I 73) (mm_rows 73) i h r = true := by
  intro i r hr
  have e : mm_rows 73 = mm_r73 := rfl
  rw [e] at hr ⊢
  unfold mm_rw at hr
  have hd : i = 32 * (i / 32) + i % 32 := by omega
  generalize i / 32 = a at hr hd
  generalize i % 32 = b at hr hd
  subst hd
  match a with
  | 0 => exact mm_okc_at _ _ _ mm_k73_0 b r hr
  | a + 1 => exact absurd hr (by simp [mm_r73])
theorem mm_a74 : ∀ (i : Nat) (r : mm_R), mm_rw (mm_rows 74) i = some r → ∃ h, mm_ok (mm_I 74) (mm_rows 74) i h r = true := by
  intro i r hr
  have e : mm_rows 74 = mm_r74 := rfl
  rw [e] at hr ⊢
  unfold mm_rw at hr
  have hd : i = 32 * (i / 32) + i % 32 := by omega
  generalize i / 32 = a at hr hd
  generalize i % 32 = b at hr hd
  subst hd
  match a with
  | 0 => exact mm_okc_at _ _ _ mm_k74_0 b r hr
  | 1 => exact mm_okc_at _ _ _ mm_k74_1 b r hr
  | a + 2 => exact absurd hr (by simp [mm_r74])
theorem mm_a75 : ∀ (i : Nat) (r : mm_R), mm_rw (mm_rows 75) i = some r → ∃ h, mm_ok (mm_I 75) (mm_rows 75) i h r = true := by
  intro i r hr
  have e : mm_rows 75 = mm_r75 := rfl
  rw [e] at hr ⊢
  unfold mm_rw at hr
  have hd : i = 32 * (i / 32) + i % 32 := by omega
  generalize i / 32 = a at hr hd
  generalize i % 32 = b at hr hd
  subst hd
  match a with
  | 0 => exact mm_okc_at _ _ _ mm_k75_0 b r hr
  | 1 => exact mm_okc_at _ _ _ mm_k75_1 b r hr
  | 2 => exact mm_okc_at _ _ _ mm_k75_2 b r hr
  | 3 => exact mm_okc_at _ _ _ mm_k75_3 b r hr
  | a + 4 => exact absurd hr (by simp [mm_r75])
theorem mm_a76 : ∀ (i : Nat) (r : mm_R), mm_rw (mm_rows 76) i = some r → ∃ h, mm_ok (mm_I 76) (mm_rows 76) i h r = true := by
  intro i r hr
  have e : mm_rows 76 = mm_r76 := rfl
  rw [e] at hr ⊢
  unfold mm_rw at hr
  have hd : i = 32 * (i / 32) + i % 32 := by omega
  generalize i / 32 = a at hr hd
  generalize i % 32 = b at hr hd
  subst hd
  match a with
  | 0 => exact mm_okc_at _ _ _ mm_k76_0 b r hr
  | a + 1 => exact absurd hr (by simp [mm_r76])
theorem mm_a77 : ∀ (i : Nat) (r : mm_R), mm_rw (mm_rows 77) i = some r → ∃ h, mm_ok (mm_I 77) (mm_rows 77) i h r = true := by
  intro i r hr
  have e : mm_rows 77 = mm_r77 := rfl
  rw [e] at hr ⊢
  unfold mm_rw at hr
  have hd : i = 32 * (i / 32) + i % 32 := by omega
  generalize i / 32 = a at hr hd
  generalize i % 32 = b at hr hd
  subst hd
  match a with
  | 0 => exact mm_okc_at _ _ _ mm_k77_0 b r hr
  | a + 1 => exact absurd hr (by simp [mm_r77])
theorem mm_a78 : ∀ (i : Nat) (r : mm_R), mm_rw (mm_rows 78) i = some r → ∃ h, mm_ok (mm_I 78) (mm_rows 78) i h r = true := by
  intro i r hr
  have e : mm_rows 78 = mm_r78 := rfl
  rw [e] at hr ⊢
  unfold mm_rw at hr
  have hd : i = 32 * (i / 32) + i % 32 := by omega
  generalize i / 32 = a at hr hd
  generalize i % 32 = b at hr hd
  subst hd
  match a with
  | 0 => exact mm_okc_at _ _ _ mm_k78_0 b r hr
  | a + 1 => exact absurd hr (by simp [mm_r78])
theorem mm_a79 : ∀ (i : Nat) (r : mm_R), mm_rw (mm_rows 79) i = some r → ∃ h, mm_ok (mm_I 79) (mm_rows 79) i h r = true := by
  intro i r hr
  have e : mm_rows 79 = mm_r79 := rfl
  rw [e] at hr ⊢
  unfold mm_rw at hr
  have hd : i = 32 * (i / 32) + i % 32 := by omega
  generalize i / 32 = a at hr hd
  generalize i % 32 = b at hr hd
  subst hd
  match a with
  | 0 => exact mm_okc_at _ _ _ mm_k79_0 b r hr
  | a + 1 => exact absurd hr (by simp [mm_r79])
theorem mm_a80 : ∀ (i : Nat) (r : mm_R), mm_rw (mm_rows 80) i = some r → ∃ h, mm_ok (mm_I 80) (mm_rows 80) i h r = true := by
  intro i r hr
  have e : mm_rows 80 = mm_r80 := rfl
  rw [e] at hr ⊢
  unfold mm_rw at hr
  have hd : i = 32 * (i / 32) + i % 32 := by omega
  generalize i / 32 = a at hr hd
  generalize i % 32 = b at hr hd
  subst hd
  match a with
  | 0 => exact mm_okc_at _ _ _ mm_k80_0 b r hr
  | a + 1 => exact absurd hr (by simp [mm_r80])
theorem mm_a81 : ∀ (i : Nat) (r : mm_R), mm_rw (mm_rows 81) i = some r → ∃ h, mm_ok (mm_I 81) (mm_rows 81) i h r = true := by
  intro i r hr
  have e : mm_rows 81 = mm_r81 := rfl
  rw [e] at hr ⊢
  unfold mm_rw at hr
  have hd : i = 32 * (i / 32) + i % 32 := by omega
  generalize i / 32 = a at hr hd
  generalize i % 32 = b at hr hd
  subst hd
  match a with
  | 0 => exact mm_okc_at _ _ _ mm_k81_0 b r hr
  | a + 1 => exact absurd hr (by simp [mm_r81])
theorem mm_a82 : ∀ (i : Nat) (r : mm_R), mm_rw (mm_rows 82) i = some r → ∃ h, mm_ok (mm_I 82) (mm_rows 82) i h r = true := by
  intro i r hr
  have e : mm_rows 82 = mm_r82 := rfl
  rw [e] at hr ⊢
  unfold mm_rw at hr
  have hd : i = 32 * (i / 32) + i % 32 := by omega
  generalize i / 32 = a at hr hd
  generalize i % 32 = b at hr hd
  subst hd
  match a with
  | 0 => exact mm_okc_at _ _ _ mm_k82_0 b r hr
  | a + 1 => exact absurd hr (by simp [mm_r82])
theorem mm_a83 : ∀ (i : Nat) (r : mm_R), mm_rw (mm_rows 83) i = some r → ∃ h, mm_ok (mm_I 83) (mm_rows 83) i h r = true := by
  intro i r hr
  have e : mm_rows 83 = mm_r83 := rfl
  rw [e] at hr ⊢
  unfold mm_rw at hr
  have hd : i = 32 * (i / 32) + i % 32 := by omega
  generalize i / 32 = a at hr hd
  generalize i % 32 = b at hr hd
  subst hd
  match a with
  | 0 => exact mm_okc_at _ _ _ mm_k83_0 b r hr
  | a + 1 => exact absurd hr (by simp [mm_r83])
theorem mm_a84 : ∀ (i : Nat) (r : mm_R), mm_rw (mm_rows 84) i = some r → ∃ h, mm_ok (mm_I 84) (mm_rows 84) i h r = true := by
  intro i r hr
  have e : mm_rows 84 = mm_r84 := rfl
  rw [e] at hr ⊢
  unfold mm_rw at hr
  have hd : i = 32 * (i / 32) + i % 32 := by omega
  generalize i / 32 = a at hr hd
  generalize i % 32 = b at hr hd
  subst hd
  match a with
  | 0 => exact mm_okc_at _ _ _ mm_k84_0 b r hr
  | 1 => exact mm_okc_at _ _ _ mm_k84_1 b r hr
  | 2 => exact mm_okc_at _ _ _ mm_k84_2 b r hr
  | a + 3 => exact absurd hr (by simp [mm_r84])
theorem mm_a85 : ∀ (i : Nat) (r : mm_R), mm_rw (mm_rows 85) i = some r → ∃ h, mm_ok (mm_I 85) (mm_rows 85) i h r = true := by
  intro i r hr
  have e : mm_rows 85 = mm_r85 := rfl
  rw [e] at hr ⊢
  unfold mm_rw at hr
  have hd : i = 32 * (i / 32) + i % 32 := by omega
  generalize i / 32 = a at hr hd
  generalize i % 32 = b at hr hd
  subst hd
  match a with
  | 0 => exact mm_okc_at _ _ _ mm_k85_0 b r hr
  | a + 1 => exact absurd hr (by simp [mm_r85])
theorem mm_a86 : ∀ (i : Nat) (r : mm_R), mm_rw (mm_rows 86) i = some r → ∃ h, mm_ok (mm_I 86) (mm_rows 86) i h r = true := by
  intro i r hr
  have e : mm_rows 86 = mm_r86 := rfl
  rw [e] at hr ⊢
  unfold mm_rw at hr
  have hd : i = 32 * (i / 32) + i % 32 := by omega
  generalize i / 32 = a at hr hd
  generalize i % 32 = b at hr hd
  subst hd
  match a with
  | 0 => exact mm_okc_at _ _ _ mm_k86_0 b r hr
  | a + 1 => exact absurd hr (by simp [mm_r86])
theorem mm_a87 : ∀ (i : Nat) (r : mm_R), mm_rw (mm_rows 87) i = some r → ∃ h, mm_ok (mm_I 87) (mm_rows 87) i h r = true := by
  intro i r hr
  have e : mm_rows 87 = mm_r87 := rfl
  rw [e] at hr ⊢
  unfold mm_rw at hr
  have hd : i = 32 * (i / 32) + i % 32 := by omega
  generalize i / 32 = a at hr hd
  generalize i % 32 = b at hr hd
  subst hd
  match a with
  | 0 => exact mm_okc_at _ _ _ mm_k87_0 b r hr
  | 1 => exact mm_okc_at _ _ _ mm_k87_1 b r hr
  | a + 2 => exact absurd hr (by simp [mm_r87])
theorem mm_a88 : ∀ (i : Nat) (r : mm_R), mm_rw (mm_rows 88) i = some r → ∃ h, mm_ok (mm_I 88) (mm_rows 88) i h r = true := by
  intro i r hr
  have e : mm_rows 88 = mm_r88 := rfl
  rw [e] at hr ⊢
  unfold mm_rw at hr
  have hd : i = 32 * (i / 32) + i % 32 := by omega
  generalize i / 32 = a at hr hd
  generalize i % 32 = b at hr hd
  subst hd
  match a with
  | 0 => exact mm_okc_at _ _ _ mm_k88_0 b r hr
  | a + 1 => exact absurd hr (by simp [mm_r88])
theorem mm_a89 : ∀ (i : Nat) (r : mm_R), mm_rw (mm_rows 89) i = some r → ∃ h, mm_ok (mm_I 89) (mm_rows 89) i h r = true := by
  intro i r hr
  have e : mm_rows 89 = mm_r89 := rfl
  rw [e] at hr ⊢
  unfold mm_rw at hr
  have hd : i = 32 * (i / 32) + i % 32 := by omega
  generalize i / 32 = a at hr hd
  generalize i % 32 = b at hr hd
  subst hd
  match a with
  | 0 => exact mm_okc_at _ _ _ mm_k89_0 b r hr
  | a + 1 => exact absurd hr (by simp [mm_r89])
theorem mm_a90 : ∀ (i : Nat) (r : mm_R), mm_rw (mm_rows 90) i = some r → ∃ h, mm_ok (mm_I 90) (mm_rows 90) i h r = true := by
  intro i r hr
  have e : mm_rows 90 = mm_r90 := rfl
  rw [e] at hr ⊢
  unfold mm_rw at hr
  have hd : i = 32 * (i / 32) + i % 32 := by omega
  generalize i / 32 = a at hr hd
  generalize i % 32 = b at hr hd
  subst hd
  match a with
  | 0 => exact mm_okc_at _ _ _ mm_k90_0 b r hr
  | a + 1 => exact absurd hr (by simp [mm_r90])
theorem mm_a91 : ∀ (i : Nat) (r : mm_R), mm_rw (mm_rows 91) i = some r → ∃ h, mm_ok (mm_I 91) (mm_rows 91) i h r = true := by
  intro i r hr
  have e : mm_rows 91 = mm_r91 := rfl
  rw [e] at hr ⊢
  unfold mm_rw at hr
  have hd : i = 32 * (i / 32) + i % 32 := by omega
  generalize i / 32 = a at hr hd
  generalize i % 32 = b at hr hd
  subst hd
  match a with
  | 0 => exact mm_okc_at _ _ _ mm_k91_0 b r hr
  | a + 1 => exact absurd hr (by simp [mm_r91])
theorem mm_a92 : ∀ (i : Nat) (r : mm_R), mm_rw (mm_rows 92) i = some r → ∃ h, mm_ok (mm_I 92) (mm_rows 92) i h r = true := by
  intro i r hr
  have e : mm_rows 92 = mm_r92 := rfl
  rw [e] at hr ⊢
  unfold mm_rw at hr
  have hd : i = 32 * (i / 32) + i % 32 := by omega
  generalize i / 32 = a at hr hd
  generalize i % 32 = b at hr hd
  subst hd
  match a with
  | 0 => exact mm_okc_at _ _ _ mm_k92_0 b r hr
  | 1 => exact mm_okc_at _ _ _ mm_k92_1 b r hr
  | a + 2 => exact absurd hr (by simp [mm_r92])
theorem mm_a93 : ∀ (i : Nat) (r : mm_R), mm_rw (mm_rows 93) i = some r → ∃ h, mm_ok (mm_I 93) (mm_rows 93) i h r = true := by
  intro i r hr
  have e : mm_rows 93 = mm_r93 := rfl
  rw [e] at hr ⊢
  unfold mm_rw at hr
  have hd : i = 32 * (i / 32) + i % 32 := by omega
  generalize i / 32 = a at hr hd
  generalize i % 32 = b at hr hd
  subst hd
  match a with
  | 0 => exact mm_okc_at _ _ _ mm_k93_0 b r hr
  | 1 => exact mm_okc_at _ _ _ mm_k93_1 b r hr
  | a + 2 => exact absurd hr (by simp [mm_r93])
theorem mm_a94 : ∀ (i : Nat) (r : mm_R), mm_rw (mm_rows 94) i = some r → ∃ h, mm_ok (mm_I 94) (mm_rows 94) i h r = true := by
  intro i r hr
  have e : mm_rows 94 = mm_r94 := rfl
  rw [e] at hr ⊢
  unfold mm_rw at hr
  have hd : i = 32 * (i / 32) + i % 32 := by omega
  generalize i / 32 = a at hr hd
  generalize i % 32 = b at hr hd
  subst hd
  match a with
  | 0 => exact mm_okc_at _ _ _ mm_k94_0 b r hr
  | a + 1 => exact absurd hr (by simp [mm_r94])
theorem mm_a95 : ∀ (i : Nat) (r : mm_R), mm_rw (mm_rows 95) i = some r → ∃ h, mm_ok (mm_I 95) (mm_rows 95) i h r = true := by
  intro i r hr
  have e : mm_rows 95 = mm_r95 := rfl
  rw [e] at hr ⊢
  unfold mm_rw at hr
  have hd : i = 32 * (i / 32) + i % 32 := by omega
  generalize i / 32 = a at hr hd
  generalize i % 32 = b at hr hd
  subst hd
  match a with
  | 0 => exact mm_okc_at _ _ _ mm_k95_0 b r hr
  | a + 1 => exact absurd hr (by simp [mm_r95])
theorem mm_a96 : ∀ (i : Nat) (r : mm_R), mm_rw (mm_rows 96) i = some r → ∃ h, mm_ok (mm_I 96) (mm_rows 96) i h r = true := by
  intro i r hr
  have e : mm_rows 96 = mm_r96 := rfl
  rw [e] at hr ⊢
  unfold mm_rw at hr
  have hd : i = 32 * (i / 32) + i % 32 := by omega
  generalize i / 32 = a at hr hd
  generalize i % 32 = b at hr hd
  subst hd
  match a with
  | 0 => exact mm_okc_at _ _ _ mm_k96_0 b r hr
  | a + 1 => exact absurd hr (by simp [mm_r96])
theorem mm_a97 : ∀ (i : Nat) (r : mm_R), mm_rw (mm_rows 97) i = some r → ∃ h, mm_ok (mm_I 97) (mm_rows 97) i h r = true := by
  intro i r hr
  have e : mm_rows 97 = mm_r97 := rfl
  rw [e] at hr ⊢
  unfold mm_rw at hr
  have hd : i = 32 * (i / 32) + i % 32 := by omega
  generalize i / 32 = a at hr hd
  generalize i % 32 = b at hr hd
  subst hd
  match a with
  | 0 => exact mm_okc_at _ _ _ mm_k97_0 b r hr
  | 1 => exact mm_okc_at _ _ _ mm_k97_1 b r hr
  | a + 2 => exact absurd hr (by simp [mm_r97])
theorem mm_a98 : ∀ (i : Nat) (r : mm_R), mm_rw (mm_rows 98) i = some r → ∃ h, mm_ok (mm_I 98) (mm_rows 98) i h r = true := by
  intro i r hr
  have e : mm_rows 98 = mm_r98 := rfl
  rw [e] at hr ⊢
  unfold mm_rw at hr
  have hd : i = 32 * (i / 32) + i % 32 := by omega
  generalize i / 32 = a at hr hd
  generalize i % 32 = b at hr hd
  subst hd
  match a with
  | 0 => exact mm_okc_at _ _ _ mm_k98_0 b r hr
  | a + 1 => exact absurd hr (by simp [mm_r98])
theorem mm_a99 : ∀ (i : Nat) (r : mm_R), mm_rw (mm_rows 99) i = some r → ∃ h, mm_ok (mm_I 99) (mm_rows 99) i h r = true := by
  intro i r hr
  have e : mm_rows 99 = mm_r99 := rfl
  rw [e] at hr ⊢
  unfold mm_rw at hr
  have hd : i = 32 * (i / 32) + i % 32 := by omega
  generalize i / 32 = a at hr hd
  generalize i % 32 = b at hr hd
  subst hd
  match a with
  | 0 => exact mm_okc_at _ _ _ mm_k99_0 b r hr
  | 1 => exact mm_okc_at _ _ _ mm_k99_1 b r hr
  | a + 2 => exact absurd hr (by simp [mm_r99])
theorem mm_a100 : ∀ (i : Nat) (r : mm_R), mm_rw (mm_rows 100) i = some r → ∃ h, mm_ok (mm_I 100) (mm_rows 100) i h r = true := by
  intro i r hr
  have e : mm_rows 100 = mm_r100 := rfl
  rw [e] at hr ⊢
  unfold mm_rw at hr
  have hd : i = 32 * (i / 32) + i % 32 := by omega
  generalize i / 32 = a at hr hd
  generalize i % 32 = b at hr hd
  subst hd
  match a with
  | 0 => exact mm_okc_at _ _ _ mm_k100_0 b r hr
  | 1 => exact mm_okc_at _ _ _ mm_k100_1 b r hr
  | a + 2 => exact absurd hr (by simp [mm_r100])
theorem mm_a101 : ∀ (i : Nat) (r : mm_R), mm_rw (mm_rows 101) i = some r → ∃ h, mm_ok (mm_I 101) (mm_rows 101) i h r = true := by
  intro i r hr
  have e : mm_rows 101 = mm_r101 := rfl
  rw [e] at hr ⊢
  unfold mm_rw at hr
  have hd : i = 32 * (i / 32) + i % 32 := by omega
  generalize i / 32 = a at hr hd
  generalize i % 32 = b at hr hd
  subst hd
  match a with
  | 0 => exact mm_okc_at _ _ _ mm_k101_0 b r hr
  | 1 => exact mm_okc_at _ _ _ mm_k101_1 b r hr
  | a + 2 => exact absurd hr (by simp [mm_r101])
theorem mm_a102 : ∀ (i : Nat) (r : mm_R), mm_rw (mm_rows 102) i = some r → ∃ h, mm_ok (mm_I 102) (mm_rows 102) i h r = true := by
  intro i r hr
  have e : mm_rows 102 = mm_r102 := rfl
  rw [e] at hr ⊢
  unfold mm_rw at hr
  have hd : i = 32 * (i / 32) + i % 32 := by omega
  generalize i / 32 = a at hr hd
  generalize i % 32 = b at hr hd
  subst hd
  match a with
  | 0 => exact mm_okc_at _ _ _ mm_k102_0 b r hr
  | 1 => exact mm_okc_at _ _ _ mm_k102_1 b r hr
  | a + 2 => exact absurd hr (by simp [mm_r102])
theorem mm_a103 : ∀ (i : Nat) (r : mm_R), mm_rw (mm_rows 103) i = some r → ∃ h, mm_ok (mm_I 103) (mm_rows 103) i h r = true := by
  intro i r hr
  have e : mm_rows 103 = mm_r103 := rfl
  rw [e] at hr ⊢
  unfold mm_rw at hr
  have hd : i = 32 * (i / 32) + i % 32 := by omega
  generalize i / 32 = a at hr hd
  generalize i % 32 = b at hr hd
  subst hd
  match a with
  | 0 => exact mm_okc_at _ _ _ mm_k103_0 b r hr
  | 1 => exact mm_okc_at _ _ _ mm_k103_1 b r hr
  | a + 2 => exact absurd hr (by simp [mm_r103])
theorem mm_a104 : ∀ (i : Nat) (r : mm_R), mm_rw (mm_rows 104) i = some r → ∃ h, mm_ok (mm_I 104) (mm_rows 104) i h r = true := by
  intro i r hr
  have e : mm_rows 104 = mm_r104 := rfl
  rw [e] at hr ⊢
  unfold mm_rw at hr
  have hd : i = 32 * (i / 32) + i % 32 := by omega
  generalize i / 32 = a at hr hd
  generalize i % 32 = b at hr hd
  subst hd
  match a with
  | 0 => exact mm_okc_at _ _ _ mm_k104_0 b r hr
  | 1 => exact mm_okc_at _ _ _ mm_k104_1 b r hr
  | a + 2 => exact absurd hr (by simp [mm_r104])
theorem mm_a105 : ∀ (i : Nat) (r : mm_R), mm_rw (mm_rows 105) i = some r → ∃ h, mm_ok (mm_I 105) (mm_rows 105) i h r = true := by
  intro i r hr
  have e : mm_rows 105 = mm_r105 := rfl
  rw [e] at hr ⊢
  unfold mm_rw at hr
  have hd : i = 32 * (i / 32) + i % 32 := by omega
  generalize i / 32 = a at hr hd
  generalize i % 32 = b at hr hd
  subst hd
  match a with
  | 0 => exact mm_okc_at _ _ _ mm_k105_0 b r hr
  | 1 => exact mm_okc_at _ _ _ mm_k105_1 b r hr
  | a + 2 => exact absurd hr (by simp [mm_r105])
theorem mm_a106 : ∀ (i : Nat) (r : mm_R), mm_rw (mm_rows 106) i = some r → ∃ h, mm_ok (mm_I 106) (mm_rows 106) i h r = true := by
  intro i r hr
  have e : mm_rows 106 = mm_r106 := rfl
  rw [e] at hr ⊢
  unfold mm_rw at hr
  have hd : i = 32 * (i / 32) + i % 32 := by omega
  generalize i / 32 = a at hr hd
  generalize i % 32 = b at hr hd
  subst hd
  match a with
  | 0 => exact mm_okc_at _ _ _ mm_k106_0 b r hr
  | 1 => exact mm_okc_at _ _ _ mm_k106_1 b r hr
  | a + 2 => exact absurd hr (by simp [mm_r106])
theorem mm_a107 : ∀ (i : Nat) (r : mm_R), mm_rw (mm_rows 107) i = some r → ∃ h, mm_ok (mm_I 107) (mm_rows 107) i h r = true := by
  intro i r hr
  have e : mm_rows 107 = mm_r107 := rfl
  rw [e] at hr ⊢
  unfold mm_rw at hr
  have hd : i = 32 * (i / 32) + i % 32 := by omega
  generalize i / 32 = a at hr hd
  generalize i % 32 = b at hr hd
  subst hd
  match a with
  | 0 => exact mm_okc_at _ _ _ mm_k107_0 b r hr
  | 1 => exact mm_okc_at _ _ _ mm_k107_1 b r hr
  | a + 2 => exact absurd hr (by simp [mm_r107])
theorem mm_a108 : ∀ (i : Nat) (r : mm_R), mm_rw (mm_rows 108) i = some r → ∃ h, mm_ok (mm_I 108) (mm_rows 108) i h r = true := by
  intro i r hr
  have e : mm_rows 108 = mm_r108 := rfl
  rw [e] at hr ⊢
  unfold mm_rw at hr
  have hd : i = 32 * (i / 32) + i % 32 := by omega
  generalize i / 32 = a at hr hd
  generalize i % 32 = b at hr hd
  subst hd
  match a with
  | 0 => exact mm_okc_at _ _ _ mm_k108_0 b r hr
  | a + 1 => exact absurd hr (by simp [mm_r108])
theorem mm_a109 : ∀ (i : Nat) (r : mm_R), mm_rw (mm_rows 109) i = some r → ∃ h, mm_ok (mm_I 109) (mm_rows 109) i h r = true := by
  intro i r hr
  have e : mm_rows 109 = mm_r109 := rfl
  rw [e] at hr ⊢
  unfold mm_rw at hr
  have hd : i = 32 * (i / 32) + i % 32 := by omega
  generalize i / 32 = a at hr hd
  generalize i % 32 = b at hr hd
  subst hd
  match a with
  | 0 => exact mm_okc_at _ _ _ mm_k109_0 b r hr
  | a + 1 => exact absurd hr (by simp [mm_r109])
theorem mm_a110 : ∀ (i : Nat) (r : mm_R), mm_rw (mm_rows 110) i = some r → ∃ h, mm_ok (mm_I 110) (mm_rows 110) i h r = true := by
  intro i r hr
  have e : mm_rows 110 = mm_r110 := rfl
  rw [e] at hr ⊢
  unfold mm_rw at hr
  have hd : i = 32 * (i / 32) + i % 32 := by omega
  generalize i / 32 = a at hr hd
  generalize i % 32 = b at hr hd
  subst hd
  match a with
  | 0 => exact mm_okc_at _ _ _ mm_k110_0 b r hr
  | 1 => exact mm_okc_at _ _ _ mm_k110_1 b r hr
  | a + 2 => exact absurd hr (by simp [mm_r110])
theorem mm_a111 : ∀ (i : Nat) (r : mm_R), mm_rw (mm_rows 111) i = some r → ∃ h, mm_ok (mm_I 111) (mm_rows 111) i h r = true := by
  intro i r hr
  have e : mm_rows 111 = mm_r111 := rfl
  rw [e] at hr ⊢
  unfold mm_rw at hr
  have hd : i = 32 * (i / 32) + i % 32 := by omega
  generalize i / 32 = a at hr hd
  generalize i % 32 = b at hr hd
  subst hd
  match a with
  | 0 => exact mm_okc_at _ _ _ mm_k111_0 b r hr
  | 1 => exact mm_okc_at _ _ _ mm_k111_1 b r hr
  | a + 2 => exact absurd hr (by simp [mm_r111])
theorem mm_a112 : ∀ (i : Nat) (r : mm_R), mm_rw (mm_rows 112) i = some r → ∃ h, mm_ok (mm_I 112) (mm_rows 112) i h r = true := by
  intro i r hr
  have e : mm_rows 112 = mm_r112 := rfl
  rw [e] at hr ⊢
  unfold mm_rw at hr
  have hd : i = 32 * (i / 32) + i % 32 := by omega
  generalize i / 32 = a at hr hd
  generalize i % 32 = b at hr hd
  subst hd
  match a with
  | 0 => exact mm_okc_at _ _ _ mm_k112_0 b r hr
  | a + 1 => exact absurd hr (by simp [mm_r112])
theorem mm_a113 : ∀ (i : Nat) (r : mm_R), mm_rw (mm_rows 113) i = some r → ∃ h, mm_ok (mm_I 113) (mm_rows 113) i h r = true := by
  intro i r hr
  have e : mm_rows 113 = mm_r113 := rfl
  rw [e] at hr ⊢
  unfold mm_rw at hr
  have hd : i = 32 * (i / 32) + i % 32 := by omega
  generalize i / 32 = a at hr hd
  generalize i % 32 = b at hr hd
  subst hd
  match a with
  | 0 => exact mm_okc_at _ _ _ mm_k113_0 b r hr
  | a + 1 => exact absurd hr (by simp [mm_r113])
theorem mm_a114 : ∀ (i : Nat) (r : mm_R), mm_rw (mm_rows 114) i = some r → ∃ h, mm_ok (mm_I 114) (mm_rows 114) i h r = true := by
  intro i r hr
  have e : mm_rows 114 = mm_r114 := rfl
  rw [e] at hr ⊢
  unfold mm_rw at hr
  have hd : i = 32 * (i / 32) + i % 32 := by omega
  generalize i / 32 = a at hr hd
  generalize i % 32 = b at hr hd
  subst hd
  match a with
  | 0 => exact mm_okc_at _ _ _ mm_k114_0 b r hr
  | 1 => exact mm_okc_at _ _ _ mm_k114_1 b r hr
  | a + 2 => exact absurd hr (by simp [mm_r114])
theorem mm_a115 : ∀ (i : Nat) (r : mm_R), mm_rw (mm_rows 115) i = some r → ∃ h, mm_ok (mm_I 115) (mm_rows 115) i h r = true := by
  intro i r hr
  have e : mm_rows 115 = mm_r115 := rfl
  rw [e] at hr ⊢
  unfold mm_rw at hr
  have hd : i = 32 * (i / 32) + i % 32 := by omega
  generalize i / 32 = a at hr hd
  generalize i % 32 = b at hr hd
  subst hd
  match a with
  | 0 => exact mm_okc_at _ _ _ mm_k115_0 b r hr
  | a + 1 => exact absurd hr (by simp [mm_r115])
theorem mm_a116 : ∀ (i : Nat) (r : mm_R), mm_rw (mm_rows 116) i = some r → ∃ h, mm_ok (mm_I 116) (mm_rows 116) i h r = true := by
  intro i r hr
  have e : mm_rows 116 = mm_r116 := rfl
  rw [e] at hr ⊢
  unfold mm_rw at hr
  have hd : i = 32 * (i / 32) + i % 32 := by omega
  generalize i / 32 = a at hr hd
  generalize i % 32 = b at hr hd
  subst hd
  match a with
  | 0 => exact mm_okc_at _ _ _ mm_k116_0 b r hr
  | a + 1 => exact absurd hr (by simp [mm_r116])
theorem mm_a117 : ∀ (i : Nat) (r : mm_R), mm_rw (mm_rows 117) i = some r → ∃ h, mm_ok (mm_I 117) (mm_rows 117) i h r = true := by
  intro i r hr
  have e : mm_rows 117 = mm_r117 := rfl
  rw [e] at hr ⊢
  unfold mm_rw at hr
  have hd : i = 32 * (i / 32) + i % 32 := by omega
  generalize i / 32 = a at hr hd
  generalize i % 32 = b at hr hd
  subst hd
  match a with
  | 0 => exact mm_okc_at _ _ _ mm_k117_0 b r hr
  | a + 1 => exact absurd hr (by simp [mm_r117])
theorem mm_a118 : ∀ (i : Nat) (r : mm_R), mm_rw (mm_rows 118) i = some r → ∃ h, mm_ok (mm_I 118) (mm_rows 118) i h r = true := by
  intro i r hr
  have e : mm_rows 118 = mm_r118 := rfl
  rw [e] at hr ⊢
  unfold mm_rw at hr
  have hd : i = 32 * (i / 32) + i % 32 := by omega
  generalize i / 32 = a at hr hd
  generalize i % 32 = b at hr hd
  subst hd
  match a with
  | 0 => exact mm_okc_at _ _ _ mm_k118_0 b r hr
  | a + 1 => exact absurd hr (by simp [mm_r118])
theorem mm_a119 : ∀ (i : Nat) (r : mm_R), mm_rw (mm_rows 119) i = some r → ∃ h, mm_ok (mm_I 119) (mm_rows 119) i h r = true := by
  intro i r hr
  have e : mm_rows 119 = mm_r119 := rfl
  rw [e] at hr ⊢
  unfold mm_rw at hr
  have hd : i = 32 * (i / 32) + i % 32 := by omega
  generalize i / 32 = a at hr hd
  generalize i % 32 = b at hr hd
  subst hd
  match a with
  | 0 => exact mm_okc_at _ _ _ mm_k119_0 b r hr
  | a + 1 => exact absurd hr (by simp [mm_r119])
theorem mm_a120 : ∀ (i : Nat) (r : mm_R), mm_rw (mm_rows 120) i = some r → ∃ h, mm_ok (mm_I 120) (mm_rows 120) i h r = true := by
  intro i r hr
  have e : mm_rows 120 = mm_r120 := rfl
  rw [e] at hr ⊢
  unfold mm_rw at hr
  have hd : i = 32 * (i / 32) + i % 32 := by omega
  generalize i / 32 = a at hr hd
  generalize i % 32 = b at hr hd
  subst hd
  match a with
  | 0 => exact mm_okc_at _ _ _ mm_k120_0 b r hr
  | 1 => exact mm_okc_at _ _ _ mm_k120_1 b r hr
  | a + 2 => exact absurd hr (by simp [mm_r120])
theorem mm_a121 : ∀ (i : Nat) (r : mm_R), mm_rw (mm_rows 121) i = some r → ∃ h, mm_ok (mm_I 121) (mm_rows 121) i h r = true := by
  intro i r hr
  have e : mm_rows 121 = mm_r121 := rfl
  rw [e] at hr ⊢
  unfold mm_rw at hr
  have hd : i = 32 * (i / 32) + i % 32 := by omega
  generalize i / 32 = a at hr hd
  generalize i % 32 = b at hr hd
  subst hd
  match a with
  | 0 => exact mm_okc_at _ _ _ mm_k121_0 b r hr
  | 1 => exact mm_okc_at _ _ _ mm_k121_1 b r hr
  | a + 2 => exact absurd hr (by simp [mm_r121])
theorem mm_a122 : ∀ (i : Nat) (r : mm_R), mm_rw (mm_rows 122) i = some r → ∃ h, mm_ok (mm_I 122) (mm_rows 122) i h r = true := by
  intro i r hr
  have e : mm_rows 122 = mm_r122 := rfl
  rw [e] at hr ⊢
  unfold mm_rw at hr
  have hd : i = 32 * (i / 32) + i % 32 := by omega
  generalize i / 32 = a at hr hd
  generalize i % 32 = b at hr hd
  subst hd
  match a with
  | 0 => exact mm_okc_at _ _ _ mm_k122_0 b r hr
  | 1 => exact mm_okc_at _ _ _ mm_k122_1 b r hr
  | a + 2 => exact absurd hr (by simp [mm_r122])
theorem mm_a123 : ∀ (i : Nat) (r : mm_R), mm_rw (mm_rows 123) i = some r → ∃ h, mm_ok (mm_I 123) (mm_rows 123) i h r = true := by
  intro i r hr
  have e : mm_rows 123 = mm_r123 := rfl
  rw [e] at hr ⊢
  unfold mm_rw at hr
  have hd : i = 32 * (i / 32) + i % 32 := by omega
  generalize i / 32 = a at hr hd
  generalize i % 32 = b at hr hd
  subst hd
  match a with
  | 0 => exact mm_okc_at _ _ _ mm_k123_0 b r hr
  | 1 => exact mm_okc_at _ _ _ mm_k123_1 b r hr
  | a + 2 => exact absurd hr (by simp [mm_r123])
theorem mm_a124 : ∀ (i : Nat) (r : mm_R), mm_rw (mm_rows 124) i = some r → ∃ h, mm_ok (mm_I 124) (mm_rows 124) i h r = true := by
  intro i r hr
  have e : mm_rows 124 = mm_r124 := rfl
  rw [e] at hr ⊢
  unfold mm_rw at hr
  have hd : i = 32 * (i / 32) + i % 32 := by omega
  generalize i / 32 = a at hr hd
  generalize i % 32 = b at hr hd
  subst hd
  match a with
  | 0 => exact mm_okc_at _ _ _ mm_k124_0 b r hr
  | a + 1 => exact absurd hr (by simp [mm_r124])
theorem mm_a125 : ∀ (i : Nat) (r : mm_R), mm_rw (mm_rows 125) i = some r → ∃ h, mm_ok (mm_I 125) (mm_rows 125) i h r = true := by
  intro i r hr
  have e : mm_rows 125 = mm_r125 := rfl
  rw [e] at hr ⊢
  unfold mm_rw at hr
  have hd : i = 32 * (i / 32) + i % 32 := by omega
  generalize i / 32 = a at hr hd
  generalize i % 32 = b at hr hd
  subst hd
  match a with
  | 0 => exact mm_okc_at _ _ _ mm_k125_0 b r hr
  | 1 => exact mm_okc_at _ _ _ mm_k125_1 b r hr
  | a + 2 => exact absurd hr (by simp [mm_r125])
theorem mm_a126 : ∀ (i : Nat) (r : mm_R), mm_rw (mm_rows 126) i = some r → ∃ h, mm_ok (mm_I 126) (mm_rows 126) i h r = true := by
  intro i r hr
  have e : mm_rows 126 = mm_r126 := rfl
  rw [e] at hr ⊢
  unfold mm_rw at hr
  have hd : i = 32 * (i / 32) + i % 32 := by omega
  generalize i / 32 = a at hr hd
  generalize i % 32 = b at hr hd
  subst hd
  match a with
  | 0 => exact mm_okc_at _ _ _ mm_k126_0 b r hr
  | 1 => exact mm_okc_at _ _ _ mm_k126_1 b r hr
  | 2 => exact mm_okc_at _ _ _ mm_k126_2 b r hr
  | 3 => exact mm_okc_at _ _ _ mm_k126_3 b r hr
  | 4 => exact mm_okc_at _ _ _ mm_k126_4 b r hr
  | a + 5 => exact absurd hr (by simp [mm_r126])
theorem mm_a127 : ∀ (i : Nat) (r : mm_R), mm_rw (mm_rows 127) i = some r → ∃ h, mm_ok (mm_I 127) (mm_rows 127) i h r = true := by
  intro i r hr
  have e : mm_rows 127 = mm_r127 := rfl
  rw [e] at hr ⊢
  unfold mm_rw at hr
  have hd : i = 32 * (i / 32) + i % 32 := by omega
  generalize i / 32 = a at hr hd
  generalize i % 32 = b at hr hd
  subst hd
  match a with
  | 0 => exact mm_okc_at _ _ _ mm_k127_0 b r hr
  | 1 => exact mm_okc_at _ _ _ mm_k127_1 b r hr
  | 2 => exact mm_okc_at _ _ _ mm_k127_2 b r hr
  | a + 3 => exact absurd hr (by simp [mm_r127])
theorem mm_a128 : ∀ (i : Nat) (r : mm_R), mm_rw (mm_rows 128) i = some r → ∃ h, mm_ok (mm_I 128) (mm_rows 128) i h r = true := by
  intro i r hr
  have e : mm_rows 128 = mm_r128 := rfl
  rw [e] at hr ⊢
  unfold mm_rw at hr
  have hd : i = 32 * (i / 32) + i % 32 := by omega
  generalize i / 32 = a at hr hd
  generalize i % 32 = b at hr hd
  subst hd
  match a with
  | 0 => exact mm_okc_at _ _ _ mm_k128_0 b r hr
  | a + 1 => exact absurd hr (by simp [mm_r128])
theorem mm_a129 : ∀ (i : Nat) (r : mm_R), mm_rw (mm_rows 129) i = some r → ∃ h, mm_ok (mm_I 129) (mm_rows 129) i h r = true := by
  intro i r hr
  have e : mm_rows 129 = mm_r129 := rfl
  rw [e] at hr ⊢
  unfold mm_rw at hr
  have hd : i = 32 * (i / 32) + i % 32 := by omega
  generalize i / 32 = a at hr hd
  generalize i % 32 = b at hr hd
  subst hd
  match a with
  | 0 => exact mm_okc_at _ _ _ mm_k129_0 b r hr
  | 1 => exact mm_okc_at _ _ _ mm_k129_1 b r hr
  | a + 2 => exact absurd hr (by simp [mm_r129])
theorem mm_a130 : ∀ (i : Nat) (r : mm_R), mm_rw (mm_rows 130) i = some r → ∃ h, mm_ok (mm_I 130) (mm_rows 130) i h r = true := by
  intro i r hr
  have e : mm_rows 130 = mm_r130 := rfl
  rw [e] at hr ⊢
  unfold mm_rw at hr
  have hd : i = 32 * (i / 32) + i % 32 := by omega
  generalize i / 32 = a at hr hd
  generalize i % 32 = b at hr hd
  subst hd
  match a with
  | 0 => exact mm_okc_at _ _ _ mm_k130_0 b r hr
  | a + 1 => exact absurd hr (by simp [mm_r130])
theorem mm_a131 : ∀ (i : Nat) (r : mm_R), mm_rw (mm_rows 131) i = some r → ∃ h, mm_ok (mm_I 131) (mm_rows 131) i h r = true := by
  intro i r hr
  have e : mm_rows 131 = mm_r131 := rfl
  rw [e] at hr ⊢
  unfold mm_rw at hr
  have hd : i = 32 * (i / 32) + i % 32 := by omega
  generalize i / 32 = a at hr hd
  generalize i % 32 = b at hr hd
  subst hd
  match a with
  | 0 => exact mm_okc_at _ _ _ mm_k131_0 b r hr
  | a + 1 => exact absurd hr (by simp [mm_r131])
theorem mm_a132 : ∀ (i : Nat) (r : mm_R), mm_rw (mm_rows 132) i = some r → ∃ h, mm_ok (mm_I 132) (mm_rows 132) i h r = true := by
  intro i r hr
  have e : mm_rows 132 = mm_r132 := rfl
  rw [e] at hr ⊢
  unfold mm_rw at hr
  have hd : i = 32 * (i / 32) + i % 32 := by omega
  generalize i / 32 = a at hr hd
  generalize i % 32 = b at hr hd
  subst hd
  match a with
  | 0 => exact mm_okc_at _ _ _ mm_k132_0 b r hr
  | a + 1 => exact absurd hr (by simp [mm_r132])
theorem mm_a133 : ∀ (i : Nat) (r : mm_R), mm_rw (mm_rows 133) i = some r → ∃ h, mm_ok (mm_I 133) (mm_rows 133) i h r = true := by
  intro i r hr
  have e : mm_rows 133 = mm_r133 := rfl
  rw [e] at hr ⊢
  unfold mm_rw at hr
  have hd : i = 32 * (i / 32) + i % 32 := by omega
  generalize i / 32 = a at hr hd
  generalize i % 32 = b at hr hd
  subst hd
  match a with
  | 0 => exact mm_okc_at _ _ _ mm_k133_0 b r hr
  | 1 => exact mm_okc_at _ _ _ mm_k133_1 b r hr
  | 2 => exact mm_okc_at _ _ _ mm_k133_2 b r hr
  | a + 3 => exact absurd hr (by simp [mm_r133])
theorem mm_a134 : ∀ (i : Nat) (r : mm_R), mm_rw (mm_rows 134) i = some r → ∃ h, mm_ok (mm_I 134) (mm_rows 134) i h r = true := by
  intro i r hr
  have e : mm_rows 134 = mm_r134 := rfl
  rw [e] at hr ⊢
  unfold mm_rw at hr
  have hd : i = 32 * (i / 32) + i % 32 := by omega
  generalize i / 32 = a at hr hd
  generalize i % 32 = b at hr hd
  subst hd
  match a with
  | 0 => exact mm_okc_at _ _ _ mm_k134_0 b r hr
  | 1 => exact mm_okc_at _ _ _ mm_k134_1 b r hr
  | a + 2 => exact absurd hr (by simp [mm_r134])
theorem mm_a135 : ∀ (i : Nat) (r : mm_R), mm_rw (mm_rows 135) i = some r → ∃ h, mm_ok (mm_I 135) (mm_rows 135) i h r = true := by
  intro i r hr
  have e : mm_rows 135 = mm_r135 := rfl
  rw [e] at hr ⊢
  unfold mm_rw at hr
  have hd : i = 32 * (i / 32) + i % 32 := by omega
  generalize i / 32 = a at hr hd
  generalize i % 32 = b at hr hd
  subst hd
  match a with
  | 0 => exact mm_okc_at _ _ _ mm_k135_0 b r hr
  | 1 => exact mm_okc_at _ _ _ mm_k135_1 b r hr
  | 2 => exact mm_okc_at _ _ _ mm_k135_2 b r hr
  | 3 => exact mm_okc_at _ _ _ mm_k135_3 b r hr
  | 4 => exact mm_okc_at _ _ _ mm_k135_4 b r hr
  | a + 5 => exact absurd hr (by simp [mm_r135])
theorem mm_a136 : ∀ (i : Nat) (r : mm_R), mm_rw (mm_rows 136) i = some r → ∃ h, mm_ok (mm_I 136) (mm_rows 136) i h r = true := by
  intro i r hr
  have e : mm_rows 136 = mm_r136 := rfl
  rw [e] at hr ⊢
  unfold mm_rw at hr
  have hd : i = 32 * (i / 32) + i % 32 := by omega
  generalize i / 32 = a at hr hd
  generalize i % 32 = b at hr hd
  subst hd
  match a with
  | 0 => exact mm_okc_at _ _ _ mm_k136_0 b r hr
  | a + 1 => exact absurd hr (by simp [mm_r136])
theorem mm_a137 : ∀ (i : Nat) (r : mm_R), mm_rw (mm_rows 137) i = some r → ∃ h, mm_ok (mm_I 137) (mm_rows 137) i h r = true := by
  intro i r hr
  have e : mm_rows 137 = mm_r137 := rfl
  rw [e] at hr ⊢
  unfold mm_rw at hr
  have hd : i = 32 * (i / 32) + i % 32 := by omega
  generalize i / 32 = a at hr hd
  generalize i % 32 = b at hr hd
  subst hd
  match a with
  | 0 => exact mm_okc_at _ _ _ mm_k137_0 b r hr
  | a + 1 => exact absurd hr (by simp [mm_r137])
theorem mm_a138 : ∀ (i : Nat) (r : mm_R), mm_rw (mm_rows 138) i = some r → ∃ h, mm_ok (mm_I 138) (mm_rows 138) i h r = true := by
  intro i r hr
  have e : mm_rows 138 = mm_r138 := rfl
  rw [e] at hr ⊢
  unfold mm_rw at hr
  have hd : i = 32 * (i / 32) + i % 32 := by omega
  generalize i / 32 = a at hr hd
  generalize i % 32 = b at hr hd
  subst hd
  match a with
  | 0 => exact mm_okc_at _ _ _ mm_k138_0 b r hr
  | 1 => exact mm_okc_at _ _ _ mm_k138_1 b r hr
  | a + 2 => exact absurd hr (by simp [mm_r138])
theorem mm_a139 : ∀ (i : Nat) (r : mm_R), mm_rw (mm_rows 139) i = some r → ∃ h, mm_ok (mm_I 139) (mm_rows 139) i h r = true := by
  intro i r hr
  have e : mm_rows 139 = mm_r139 := rfl
  rw [e] at hr ⊢
  unfold mm_rw at hr
  have hd : i = 32 * (i / 32) + i % 32 := by omega
  generalize i / 32 = a at hr hd
  generalize i % 32 = b at hr hd
  subst hd
  match a with
  | 0 => exact mm_okc_at _ _ _ mm_k139_0 b r hr
  | 1 => exact mm_okc_at _ _ _ mm_k139_1 b r hr
  | 2 => exact mm_okc_at _ _ _ mm_k139_2 b r hr
  | 3 => exact mm_okc_at _ _ _ mm_k139_3 b r hr
  | 4 => exact mm_okc_at _ _ _ mm_k139_4 b r hr
  | 5 => exact mm_okc_at _ _ _ mm_k139_5 b r hr
  | a + 6 => exact absurd hr (by simp [mm_r139])
theorem mm_a140 : ∀ (i : Nat) (r : mm_R), mm_rw (mm_rows 140) i = some r → ∃ h, mm_ok (mm_I 140) (mm_rows 140) i h r = true := by
  intro i r hr
  have e : mm_rows 140 = mm_r140 := rfl
  rw [e] at hr ⊢
  unfold mm_rw at hr
  have hd : i = 32 * (i / 32) + i % 32 := by omega
  generalize i / 32 = a at hr hd
  generalize i % 32 = b at hr hd
  subst hd
  match a with
  | 0 => exact mm_okc_at _ _ _ mm_k140_0 b r hr
  | 1 => exact mm_okc_at _ _ _ mm_k140_1 b r hr
  | 2 => exact mm_okc_at _ _ _ mm_k140_2 b r hr
  | 3 => exact mm_okc_at _ _ _ mm_k140_3 b r hr
  | a + 4 => exact absurd hr (by simp [mm_r140])
theorem mm_a141 : ∀ (i : Nat) (r : mm_R), mm_rw (mm_rows 141) i = some r → ∃ h, mm_ok (mm_I 141) (mm_rows 141) i h r = true := by
  intro i r hr
  have e : mm_rows 141 = mm_r141 := rfl
  rw [e] at hr ⊢
  unfold mm_rw at hr
  have hd : i = 32 * (i / 32) + i % 32 := by omega
  generalize i / 32 = a at hr hd
  generalize i % 32 = b at hr hd
  subst hd
  match a with
  | 0 => exact mm_okc_at _ _ _ mm_k141_0 b r hr
  | 1 => exact mm_okc_at _ _ _ mm_k141_1 b r hr
  | a + 2 => exact absurd hr (by simp [mm_r141])
theorem mm_a142 : ∀ (i : Nat) (r : mm_R), mm_rw (mm_rows 142) i = some r → ∃ h, mm_ok (mm_I 142) (mm_rows 142) i h r = true := by
  intro i r hr
  have e : mm_rows 142 = mm_r142 := rfl
  rw [e] at hr ⊢
  unfold mm_rw at hr
  have hd : i = 32 * (i / 32) + i % 32 := by omega
  generalize i / 32 = a at hr hd
  generalize i % 32 = b at hr hd
  subst hd
  match a with
  | 0 => exact mm_okc_at _ _ _ mm_k142_0 b r hr
  | 1 => exact mm_okc_at _ _ _ mm_k142_1 b r hr
  | 2 => exact mm_okc_at _ _ _ mm_k142_2 b r hr
  | 3 => exact mm_okc_at _ _ _ mm_k142_3 b r hr
  | 4 => exact mm_okc_at _ _ _ mm_k142_4 b r hr
  | 5 => exact mm_okc_at _ _ _ mm_k142_5 b r hr
  | a + 6 => exact absurd hr (by simp [mm_r142])
theorem mm_a143 : ∀ (i : Nat) (r : mm_R), mm_rw (mm_rows 143) i = some r → ∃ h, mm_ok (mm_I 143) (mm_rows 143) i h r = true := by
  intro i r hr
  have e : mm_rows 143 = mm_r143 := rfl
  rw [e] at hr ⊢
  unfold mm_rw at hr
  have hd : i = 32 * (i / 32) + i % 32 := by omega
  generalize i / 32 = a at hr hd
  generalize i % 32 = b at hr hd
  subst hd
  match a with
  | 0 => exact mm_okc_at _ _ _ mm_k143_0 b r hr
  | 1 => exact mm_okc_at _ _ _ mm_k143_1 b r hr
  | a + 2 => exact absurd hr (by simp [mm_r143])
theorem mm_a144 : ∀ (i : Nat) (r : mm_R), mm_rw (mm_rows 144) i = some r → ∃ h, mm_ok (mm_I 144) (mm_rows 144) i h r = true := by
  intro i r hr
  have e : mm_rows 144 = mm_r144 := rfl
  rw [e] at hr ⊢
  unfold mm_rw at hr
  have hd : i = 32 * (i / 32) + i % 32 := by omega
  generalize i / 32 = a at hr hd
  generalize i % 32 = b at hr hd
  subst hd
  match a with
  | 0 => exact mm_okc_at _ _ _ mm_k144_0 b r hr
  | 1 => exact mm_okc_at _ _ _ mm_k144_1 b r hr
  | a + 2 => exact absurd hr (by simp [mm_r144])
theorem mm_a145 : ∀ (i : Nat) (r : mm_R), mm_rw (mm_rows 145) i = some r → ∃ h, mm_ok (mm_I 145) (mm_rows 145) i h r = true := by
  intro i r hr
  have e : mm_rows 145 = mm_r145 := rfl
  rw [e] at hr ⊢
  unfold mm_rw at hr
  have hd : i = 32 * (i / 32) + i % 32 := by omega
  generalize i / 32 = a at hr hd
  generalize i % 32 = b at hr hd
  subst hd
  match a with
  | 0 => exact mm_okc_at _ _ _ mm_k145_0 b r hr
  | a + 1 => exact absurd hr (by simp [mm_r145])
theorem mm_a146 : ∀ (i : Nat) (r : mm_R), mm_rw (mm_rows 146) i = some r → ∃ h, mm_ok (mm_I 146) (mm_rows 146) i h r = true := by
  intro i r hr
  have e : mm_rows 146 = mm_r146 := rfl
  rw [e] at hr ⊢
  unfold mm_rw at hr
  have hd : i = 32 * (i / 32) + i % 32 := by omega
  generalize i / 32 = a at hr hd
  generalize i % 32 = b at hr hd
  subst hd
  match a with
  | 0 => exact mm_okc_at _ _ _ mm_k146_0 b r hr
  | a + 1 => exact absurd hr (by simp [mm_r146])
theorem mm_a147 : ∀ (i : Nat) (r : mm_R), mm_rw (mm_rows 147) i = some r → ∃ h, mm_ok (mm_I 147) (mm_rows 147) i h r = true := by
  intro i r hr
  have e : mm_rows 147 = mm_r147 := rfl
  rw [e] at hr ⊢
  unfold mm_rw at hr
  have hd : i = 32 * (i / 32) + i % 32 := by omega
  generalize i / 32 = a at hr hd
  generalize i % 32 = b at hr hd
  subst hd
  match a with
  | 0 => exact mm_okc_at _ _ _ mm_k147_0 b r hr
  | a + 1 => exact absurd hr (by simp [mm_r147])
theorem mm_a148 : ∀ (i : Nat) (r : mm_R), mm_rw (mm_rows 148) i = some r → ∃ h, mm_ok (mm_I 148) (mm_rows 148) i h r = true := by
  intro i r hr
  have e : mm_rows 148 = mm_r148 := rfl
  rw [e] at hr ⊢
  unfold mm_rw at hr
  have hd : i = 32 * (i / 32) + i % 32 := by omega
  generalize i / 32 = a at hr hd
  generalize i % 32 = b at hr hd
  subst hd
  match a with
  | 0 => exact mm_okc_at _ _ _ mm_k148_0 b r hr
  | a + 1 => exact absurd hr (by simp [mm_r148])
theorem mm_a149 : ∀ (i : Nat) (r : mm_R), mm_rw (mm_rows 149) i = some r → ∃ h, mm_ok (mm_I 149) (mm_rows 149) i h r = true := by
  intro i r hr
  have e : mm_rows 149 = mm_r149 := rfl
  rw [e] at hr ⊢
  unfold mm_rw at hr
  have hd : i = 32 * (i / 32) + i % 32 := by omega
  generalize i / 32 = a at hr hd
  generalize i % 32 = b at hr hd
  subst hd
  match a with
  | 0 => exact mm_okc_at _ _ _ mm_k149_0 b r hr
  | a + 1 => exact absurd hr (by simp [mm_r149])
theorem mm_a150 : ∀ (i : Nat) (r : mm_R), mm_rw (mm_rows 150) i = some r → ∃ h, mm_ok (mm_I 150) (mm_rows 150) i h r = true := by
  intro i r hr
  have e : mm_rows 150 = mm_r150 := rfl
  rw [e] at hr ⊢
  unfold mm_rw at hr
  have hd : i = 32 * (i / 32) + i % 32 := by omega
  generalize i / 32 = a at hr hd
  generalize i % 32 = b at hr hd
  subst hd
  match a with
  | 0 => exact mm_okc_at _ _ _ mm_k150_0 b r hr
  | a + 1 => exact absurd hr (by simp [mm_r150])
theorem mm_a151 : ∀ (i : Nat) (r : mm_R), mm_rw (mm_rows 151) i = some r → ∃ h, mm_ok (mm_I 151) (mm_rows 151) i h r = true := by
  intro i r hr
  have e : mm_rows 151 = mm_r151 := rfl
  rw [e] at hr ⊢
  unfold mm_rw at hr
  have hd : i = 32 * (i / 32) + i % 32 := by omega
  generalize i / 32 = a at hr hd
  generalize i % 32 = b at hr hd
  subst hd
  match a with
  | 0 => exact mm_okc_at _ _ _ mm_k151_0 b r hr
  | a + 1 => exact absurd hr (by simp [mm_r151])
theorem mm_a152 : ∀ (i : Nat) (r : mm_R), mm_rw (mm_rows 152) i = some r → ∃ h, mm_ok (mm_I 152) (mm_rows 152) i h r = true := by
  intro i r hr
  have e : mm_rows 152 = mm_r152 := rfl
  rw [e] at hr ⊢
  unfold mm_rw at hr
  have hd : i = 32 * (i / 32) + i % 32 := by omega
  generalize i / 32 = a at hr hd
  generalize i % 32 = b at hr hd
  subst hd
  match a with
  | 0 => exact mm_okc_at _ _ _ mm_k152_0 b r hr
  | 1 => exact mm_okc_at _ _ _ mm_k152_1 b r hr
  | a + 2 => exact absurd hr (by simp [mm_r152])
theorem mm_a153 : ∀ (i : Nat) (r : mm_R), mm_rw (mm_rows 153) i = some r → ∃ h, mm_ok (mm_I 153) (mm_rows 153) i h r = true := by
  intro i r hr
  have e : mm_rows 153 = mm_r153 := rfl
  rw [e] at hr ⊢
  unfold mm_rw at hr
  have hd : i = 32 * (i / 32) + i % 32 := by omega
  generalize i / 32 = a at hr hd
  generalize i % 32 = b at hr hd
  subst hd
  match a with
  | 0 => exact mm_okc_at _ _ _ mm_k153_0 b r hr
  | a + 1 => exact absurd hr (by simp [mm_r153])
theorem mm_a154 : ∀ (i : Nat) (r : mm_R), mm_rw (mm_rows 154) i = some r → ∃ h, mm_ok (mm_I 154) (mm_rows 154) i h r = true := by
  intro i r hr
  have e : mm_rows 154 = mm_r154 := rfl
  rw [e] at hr ⊢
  unfold mm_rw at hr
  have hd : i = 32 * (i / 32) + i % 32 := by omega
  generalize i / 32 = a at hr hd
  generalize i % 32 = b at hr hd
  subst hd
  match a with
  | 0 => exact mm_okc_at _ _ _ mm_k154_0 b r hr
  | 1 => exact mm_okc_at _ _ _ mm_k154_1 b r hr
  | 2 => exact mm_okc_at _ _ _ mm_k154_2 b r hr
  | a + 3 => exact absurd hr (by simp [mm_r154])
theorem mm_a155 : ∀ (i : Nat) (r : mm_R), mm_rw (mm_rows 155) i = some r → ∃ h, mm_ok (mm_I 155) (mm_rows 155) i h r = true := by
  intro i r hr
  have e : mm_rows 155 = mm_r155 := rfl
  rw [e] at hr ⊢
  unfold mm_rw at hr
  have hd : i = 32 * (i / 32) + i % 32 := by omega
  generalize i / 32 = a at hr hd
  generalize i % 32 = b at hr hd
  subst hd
  match a with
  | 0 => exact mm_okc_at _ _ _ mm_k155_0 b r hr
  | 1 => exact mm_okc_at _ _ _ mm_k155_1 b r hr
  | 2 => exact mm_okc_at _ _ _ mm_k155_2 b r hr
  | 3 => exact mm_okc_at _ _ _ mm_k155_3 b r hr
  | a + 4 => exact absurd hr (by simp [mm_r155])
theorem mm_a156 : ∀ (i : Nat) (r : mm_R), mm_rw (mm_rows 156) i = some r → ∃ h, mm_ok (mm_I 156) (mm_rows 156) i h r = true := by
  intro i r hr
  have e : mm_rows 156 = mm_r156 := rfl
  rw [e] at hr ⊢
  unfold mm_rw at hr
  have hd : i = 32 * (i / 32) + i % 32 := by omega
  generalize i / 32 = a at hr hd
  generalize i % 32 = b at hr hd
  subst hd
  match a with
  | 0 => exact mm_okc_at _ _ _ mm_k156_0 b r hr
  | a + 1 => exact absurd hr (by simp [mm_r156])
theorem mm_a157 : ∀ (i : Nat) (r : mm_R), mm_rw (mm_rows 157) i = some r → ∃ h, mm_ok (mm_I 157) (mm_rows 157) i h r = true := by
  intro i r hr
  have e : mm_rows 157 = mm_r157 := rfl
  rw [e] at hr ⊢
  unfold mm_rw at hr
  have hd : i = 32 * (i / 32) + i % 32 := by omega
  generalize i / 32 = a at hr hd
  generalize i % 32 = b at hr hd
  subst hd
  match a with
  | 0 => exact mm_okc_at _ _ _ mm_k157_0 b r hr
  | a + 1 => exact absurd hr (by simp [mm_r157])
theorem mm_a158 : ∀ (i : Nat) (r : mm_R), mm_rw (mm_rows 158) i = some r → ∃ h, mm_ok (mm_I 158) (mm_rows 158) i h r = true := by
  intro i r hr
  have e : mm_rows 158 = mm_r158 := rfl
  rw [e] at hr ⊢
  unfold mm_rw at hr
  have hd : i = 32 * (i / 32) + i % 32 := by omega
  generalize i / 32 = a at hr hd
  generalize i % 32 = b at hr hd
  subst hd
  match a with
  | 0 => exact mm_okc_at _ _ _ mm_k158_0 b r hr
  | 1 => exact mm_okc_at _ _ _ mm_k158_1 b r hr
  | a + 2 => exact absurd hr (by simp [mm_r158])
theorem mm_a159 : ∀ (i : Nat) (r : mm_R), mm_rw (mm_rows 159) i = some r → ∃ h, mm_ok (mm_I 159) (mm_rows 159) i h r = true := by
  intro i r hr
  have e : mm_rows 159 = mm_r159 := rfl
  rw [e] at hr ⊢
  unfold mm_rw at hr
  have hd : i = 32 * (i / 32) + i % 32 := by omega
  generalize i / 32 = a at hr hd
  generalize i % 32 = b at hr hd
  subst hd
  match a with
  | 0 => exact mm_okc_at _ _ _ mm_k159_0 b r hr
  | a + 1 => exact absurd hr (by simp [mm_r159])
theorem mm_a160 : ∀ (i : Nat) (r : mm_R), mm_rw (mm_rows 160) i = some r → ∃ h, mm_ok (mm_I 160) (mm_rows 160) i h r = true := by
  intro i r hr
  have e : mm_rows 160 = mm_r160 := rfl
  rw [e] at hr ⊢
  unfold mm_rw at hr
  have hd : i = 32 * (i / 32) + i % 32 := by omega
  generalize i / 32 = a at hr hd
  generalize i % 32 = b at hr hd
  subst hd
  match a with
  | 0 => exact mm_okc_at _ _ _ mm_k160_0 b r hr
  | a + 1 => exact absurd hr (by simp [mm_r160])
theorem mm_a161 : ∀ (i : Nat) (r : mm_R), mm_rw (mm_rows 161) i = some r → ∃ h, mm_ok (mm_I 161) (mm_rows 161) i h r = true := by
  intro i r hr
  have e : mm_rows 161 = mm_r161 := rfl
  rw [e] at hr ⊢
  unfold mm_rw at hr
  have hd : i = 32 * (i / 32) + i % 32 := by omega
  generalize i / 32 = a at hr hd
  generalize i % 32 = b at hr hd
  subst hd
  match a with
  | 0 => exact mm_okc_at _ _ _ mm_k161_0 b r hr
  | a + 1 => exact absurd hr (by simp [mm_r161])
theorem mm_a162 : ∀ (i : Nat) (r : mm_R), mm_rw (mm_rows 162) i = some r → ∃ h, mm_ok (mm_I 162) (mm_rows 162) i h r = true := by
  intro i r hr
  have e : mm_rows 162 = mm_r162 := rfl
  rw [e] at hr ⊢
  unfold mm_rw at hr
  have hd : i = 32 * (i / 32) + i % 32 := by omega
  generalize i / 32 = a at hr hd
  generalize i % 32 = b at hr hd
  subst hd
  match a with
  | 0 => exact mm_okc_at _ _ _ mm_k162_0 b r hr
  | 1 => exact mm_okc_at _ _ _ mm_k162_1 b r hr
  | a + 2 => exact absurd hr (by simp [mm_r162])
theorem mm_a163 : ∀ (i : Nat) (r : mm_R), mm_rw (mm_rows 163) i = some r → ∃ h, mm_ok (mm_I 163) (mm_rows 163) i h r = true := by
  intro i r hr
  have e : mm_rows 163 = mm_r163 := rfl
  rw [e] at hr ⊢
  unfold mm_rw at hr
  have hd : i = 32 * (i / 32) + i % 32 := by omega
  generalize i / 32 = a at hr hd
  generalize i % 32 = b at hr hd
  subst hd
  match a with
  | 0 => exact mm_okc_at _ _ _ mm_k163_0 b r hr
  | a + 1 => exact absurd hr (by simp [mm_r163])
theorem mm_a164 : ∀ (i : Nat) (r : mm_R), mm_rw (mm_rows 164) i = some r → ∃ h, mm_ok (mm_I 164) (mm_rows 164) i h r = true := by
  intro i r hr
  have e : mm_rows 164 = mm_r164 := rfl
  rw [e] at hr ⊢
  unfold mm_rw at hr
  have hd : i = 32 * (i / 32) + i % 32 := by omega
  generalize i / 32 = a at hr hd
  generalize i % 32 = b at hr hd
  subst hd
  match a with
  | 0 => exact mm_okc_at _ _ _ mm_k164_0 b r hr
  | a + 1 => exact absurd hr (by simp [mm_r164])
theorem mm_a165 : ∀ (i : Nat) (r : mm_R), mm_rw (mm_rows 165) i = some r → ∃ h, mm_ok (mm_I 165) (mm_rows 165) i h r = true := by
  intro i r hr
  have e : mm_rows 165 = mm_r165 := rfl
  rw [e] at hr ⊢
  unfold mm_rw at hr
  have hd : i = 32 * (i / 32) + i % 32 := by omega
  generalize i / 32 = a at hr hd
  generalize i % 32 = b at hr hd
  subst hd
  match a with
  | 0 => exact mm_okc_at _ _ _ mm_k165_0 b r hr
  | 1 => exact mm_okc_at _ _ _ mm_k165_1 b r hr
  | 2 => exact mm_okc_at _ _ _ mm_k165_2 b r hr
  | a + 3 => exact absurd hr (by simp [mm_r165])
theorem mm_a166 : ∀ (i : Nat) (r : mm_R), mm_rw (mm_rows 166) i = some r → ∃ h, mm_ok (mm_I 166) (mm_rows 166) i h r = true := by
  intro i r hr
  have e : mm_rows 166 = mm_r166 := rfl
  rw [e] at hr ⊢
  unfold mm_rw at hr
  have hd : i = 32 * (i / 32) + i % 32 := by omega
  generalize i / 32 = a at hr hd
  generalize i % 32 = b at hr hd
  subst hd
  match a with
  | 0 => exact mm_okc_at _ _ _ mm_k166_0 b r hr
  | 1 => exact mm_okc_at _ _ _ mm_k166_1 b r hr
  | a + 2 => exact absurd hr (by simp [mm_r166])
theorem mm_a167 : ∀ (i : Nat) (r : mm_R), mm_rw (mm_rows 167) i = some r → ∃ h, mm_ok (mm_I 167) (mm_rows 167) i h r = true := by
  intro i r hr
  have e : mm_rows 167 = mm_r167 := rfl
  rw [e] at hr ⊢
  unfold mm_rw at hr
  have hd : i = 32 * (i / 32) + i % 32 := by omega
  generalize i / 32 = a at hr hd
  generalize i % 32 = b at hr hd
  subst hd
  match a with
  | 0 => exact mm_okc_at _ _ _ mm_k167_0 b r hr
  | 1 => exact mm_okc_at _ _ _ mm_k167_1 b r hr
  | a + 2 => exact absurd hr (by simp [mm_r167])
theorem mm_a168 : ∀ (i : Nat) (r : mm_R), mm_rw (mm_rows 168) i = some r → ∃ h, mm_ok (mm_I 168) (mm_rows 168) i h r = true := by
  intro i r hr
  have e : mm_rows 168 = mm_r168 := rfl
  rw [e] at hr ⊢
  unfold mm_rw at hr
  have hd : i = 32 * (i / 32) + i % 32 := by omega
  generalize i / 32 = a at hr hd
  generalize i % 32 = b at hr hd
  subst hd
  match a with
  | 0 => exact mm_okc_at _ _ _ mm_k168_0 b r hr
  | 1 => exact mm_okc_at _ _ _ mm_k168_1 b r hr
  | 2 => exact mm_okc_at _ _ _ mm_k168_2 b r hr
  | a + 3 => exact absurd hr (by simp [mm_r168])
theorem mm_a169 : ∀ (i : Nat) (r : mm_R), mm_rw (mm_rows 169) i = some r → ∃ h, mm_ok (mm_I 169) (mm_rows 169) i h r = true := by
  intro i r hr
  have e : mm_rows 169 = mm_r169 := rfl
  rw [e] at hr ⊢
  unfold mm_rw at hr
  have hd : i = 32 * (i / 32) + i % 32 := by omega
  generalize i / 32 = a at hr hd
  generalize i % 32 = b at hr hd
  subst hd
  match a with
  | 0 => exact mm_okc_at _ _ _ mm_k169_0 b r hr
  | a + 1 => exact absurd hr (by simp [mm_r169])
theorem mm_a170 : ∀ (i : Nat) (r : mm_R), mm_rw (mm_rows 170) i = some r → ∃ h, mm_ok (mm_I 170) (mm_rows 170) i h r = true := by
  intro i r hr
  have e : mm_rows 170 = mm_r170 := rfl
  rw [e] at hr ⊢
  unfold mm_rw at hr
  have hd : i = 32 * (i / 32) + i % 32 := by omega
  generalize i / 32 = a at hr hd
  generalize i % 32 = b at hr hd
  subst hd
  match a with
  | 0 => exact mm_okc_at _ _ _ mm_k170_0 b r hr
  | a + 1 => exact absurd hr (by simp [mm_r170])
theorem mm_a171 : ∀ (i : Nat) (r : mm_R), mm_rw (mm_rows 171) i = some r → ∃ h, mm_ok (mm_I 171) (mm_rows 171) i h r = true := by
  intro i r hr
  have e : mm_rows 171 = mm_r171 := rfl
  rw [e] at hr ⊢
  unfold mm_rw at hr
  have hd : i = 32 * (i / 32) + i % 32 := by omega
  generalize i / 32 = a at hr hd
  generalize i % 32 = b at hr hd
  subst hd
  match a with
  | 0 => exact mm_okc_at _ _ _ mm_k171_0 b r hr
  | 1 => exact mm_okc_at _ _ _ mm_k171_1 b r hr
  | a + 2 => exact absurd hr (by simp [mm_r171])
theorem mm_a172 : ∀ (i : Nat) (r : mm_R), mm_rw (mm_rows 172) i = some r → ∃ h, mm_ok (mm_I 172) (mm_rows 172) i h r = true := by
  intro i r hr
  have e : mm_rows 172 = mm_r172 := rfl
  rw [e] at hr ⊢
  unfold mm_rw at hr
  have hd : i = 32 * (i / 32) + i % 32 := by omega
  generalize i / 32 = a at hr hd
  generalize i % 32 = b at hr hd
  subst hd
  match a with
  | 0 => exact mm_okc_at _ _ _ mm_k172_0 b r hr
  | 1 => exact mm_okc_at _ _ _ mm_k172_1 b r hr
  | a + 2 => exact absurd hr (by simp [mm_r172])
theorem mm_a173 : ∀ (i : Nat) (r : mm_R), mm_rw (mm_rows 173) i = some r → ∃ h, mm_ok (mm_I 173) (mm_rows 173) i h r = true := by
  intro i r hr
  have e : mm_rows 173 = mm_r173 := rfl
  rw [e] at hr ⊢
  unfold mm_rw at hr
  have hd : i = 32 * (i / 32) + i % 32 := by omega
  generalize i / 32 = a at hr hd
  generalize i % 32 = b at hr hd
  subst hd
  match a with
  | 0 => exact mm_okc_at _ _ _ mm_k173_0 b r hr
  | 1 => exact mm_okc_at _ _ _ mm_k173_1 b r hr
  | 2 => exact mm_okc_at _ _ _ mm_k173_2 b r hr
  | a + 3 => exact absurd hr (by simp [mm_r173])
theorem mm_a174 : ∀ (i : Nat) (r : mm_R), mm_rw (mm_rows 174) i = some r → ∃ h, mm_ok (mm_I 174) (mm_rows 174) i h r = true := by
  intro i r hr
  have e : mm_rows 174 = mm_r174 := rfl
  rw [e] at hr ⊢
  unfold mm_rw at hr
  have hd : i = 32 * (i / 32) + i % 32 := by omega
  generalize i / 32 = a at hr hd
  generalize i % 32 = b at hr hd
  subst hd
  match a with
  | 0 => exact mm_okc_at _ _ _ mm_k174_0 b r hr
  | 1 => exact mm_okc_at _ _ _ mm_k174_1 b r hr
  | a + 2 => exact absurd hr (by simp [mm_r174])
theorem mm_a175 : ∀ (i : Nat) (r : mm_R), mm_rw (mm_rows 175) i = some r → ∃ h, mm_ok (mm_I 175) (mm_rows 175) i h r = true := by
  intro i r hr
  have e : mm_rows 175 = mm_r175 := rfl
  rw [e] at hr ⊢
  unfold mm_rw at hr
  have hd : i = 32 * (i / 32) + i % 32 := by omega
  generalize i / 32 = a at hr hd
  generalize i % 32 = b at hr hd
  subst hd
  match a with
  | 0 => exact mm_okc_at _ _ _ mm_k175_0 b r hr
  | 1 => exact mm_okc_at _ _ _ mm_k175_1 b r hr
  | a + 2 => exact absurd hr (by simp [mm_r175])
theorem mm_a176 : ∀ (i : Nat) (r : mm_R), mm_rw (mm_rows 176) i = some r → ∃ h, mm_ok (mm_I 176) (mm_rows 176) i h r = true := by
  intro i r hr
  have e : mm_rows 176 = mm_r176 := rfl
  rw [e] at hr ⊢
  unfold mm_rw at hr
  have hd : i = 32 * (i / 32) + i % 32 := by omega
  generalize i / 32 = a at hr hd
  generalize i % 32 = b at hr hd
  subst hd
  match a with
  | 0 => exact mm_okc_at _ _ _ mm_k176_0 b r hr
  | 1 => exact mm_okc_at _ _ _ mm_k176_1 b r hr
  | a + 2 => exact absurd hr (by simp [mm_r176])
theorem mm_a177 : ∀ (i : Nat) (r : mm_R), mm_rw (mm_rows 177) i = some r → ∃ h, mm_ok (mm_I 177) (mm_rows 177) i h r = true := by
  intro i r hr
  have e : mm_rows 177 = mm_r177 := rfl
  rw [e] at hr ⊢
  unfold mm_rw at hr
  have hd : i = 32 * (i / 32) + i % 32 := by omega
  generalize i / 32 = a at hr hd
  generalize i % 32 = b at hr hd
  subst hd
  match a with
  | 0 => exact mm_okc_at _ _ _ mm_k177_0 b r hr
  | 1 => exact mm_okc_at _ _ _ mm_k177_1 b r hr
  | a + 2 => exact absurd hr (by simp [mm_r177])
theorem mm_a178 : ∀ (i : Nat) (r : mm_R), mm_rw (mm_rows 178) i = some r → ∃ h, mm_ok (mm_I 178) (mm_rows 178) i h r = true := by
  intro i r hr
  have e : mm_rows 178 = mm_r178 := rfl
  rw [e] at hr ⊢
  unfold mm_rw at hr
  have hd : i = 32 * (i / 32) + i % 32 := by omega
  generalize i / 32 = a at hr hd
  generalize i % 32 = b at hr hd
  subst hd
  match a with
  | 0 => exact mm_okc_at _ _ _ mm_k178_0 b r hr
  | a + 1 => exact absurd hr (by simp [mm_r178])
theorem mm_a179 : ∀ (i : Nat) (r : mm_R), mm_rw (mm_rows 179) i = some r → ∃ h, mm_ok (mm_I 179) (mm_rows 179) i h r = true := by
  intro i r hr
  have e : mm_rows 179 = mm_r179 := rfl
  rw [e] at hr ⊢
  unfold mm_rw at hr
  have hd : i = 32 * (i / 32) + i % 32 := by omega
  generalize i / 32 = a at hr hd
  generalize i % 32 = b at hr hd
  subst hd
  match a with
  | 0 => exact mm_okc_at _ _ _ mm_k179_0 b r hr
  | a + 1 => exact absurd hr (by simp [mm_r179])
theorem mm_a180 : ∀ (i : Nat) (r : mm_R), mm_rw (mm_rows 180) i = some r → ∃ h, mm_ok (mm_I 180) (mm_rows 180) i h r = true := by
  intro i r hr
  have e : mm_rows 180 = mm_r180 := rfl
  rw [e] at hr ⊢
  unfold mm_rw at hr
  have hd : i = 32 * (i / 32) + i % 32 := by omega
  generalize i / 32 = a at hr hd
  generalize i % 32 = b at hr hd
  subst hd
  match a with
  | 0 => exact mm_okc_at _ _ _ mm_k180_0 b r hr
  | 1 => exact mm_okc_at _ _ _ mm_k180_1 b r hr
  | 2 => exact mm_okc_at _ _ _ mm_k180_2 b r hr
  | a + 3 => exact absurd hr (by simp [mm_r180])
theorem mm_a181 : ∀ (i : Nat) (r : mm_R), mm_rw (mm_rows 181) i = some r → ∃ h, mm_ok (mm_I 181) (mm_rows 181) i h r = true := by
  intro i r hr
  have e : mm_rows 181 = mm_r181 := rfl
  rw [e] at hr ⊢
  unfold mm_rw at hr
  have hd : i = 32 * (i / 32) + i % 32 := by omega
  generalize i / 32 = a at hr hd
  generalize i % 32 = b at hr hd
  subst hd
  match a with
  | 0 => exact mm_okc_at _ _ _ mm_k181_0 b r hr
  | 1 => exact mm_okc_at _ _ _ mm_k181_1 b r hr
  | 2 => exact mm_okc_at _ _ _ mm_k181_2 b r hr
  | a + 3 => exact absurd hr (by simp [mm_r181])
theorem mm_a182 : ∀ (i : Nat) (r : mm_R), mm_rw (mm_rows 182) i = some r → ∃ h, mm_ok (mm_I 182) (mm_rows 182) i h r = true := by
  intro i r hr
  have e : mm_rows 182 = mm_r182 := rfl
  rw [e] at hr ⊢
  unfold mm_rw at hr
  have hd : i = 32 * (i / 32) + i % 32 := by omega
  generalize i / 32 = a at hr hd
  generalize i % 32 = b at hr hd
  subst hd
  match a with
  | 0 => exact mm_okc_at _ _ _ mm_k182_0 b r hr
  | a + 1 => exact absurd hr (by simp [mm_r182])
theorem mm_a183 : ∀ (i : Nat) (r : mm_R), mm_rw (mm_rows 183) i = some r → ∃ h, mm_ok (mm_I 183) (mm_rows 183) i h r = true := by
  intro i r hr
  have e : mm_rows 183 = mm_r183 := rfl
  rw [e] at hr ⊢
  unfold mm_rw at hr
  have hd : i = 32 * (i / 32) + i % 32 := by omega
  generalize i / 32 = a at hr hd
  generalize i % 32 = b at hr hd
  subst hd
  match a with
  | 0 => exact mm_okc_at _ _ _ mm_k183_0 b r hr
  | 1 => exact mm_okc_at _ _ _ mm_k183_1 b r hr
  | a + 2 => exact absurd hr (by simp [mm_r183])
theorem mm_a184 : ∀ (i : Nat) (r : mm_R), mm_rw (mm_rows 184) i = some r → ∃ h, mm_ok (mm_I 184) (mm_rows 184) i h r = true := by
  intro i r hr
  have e : mm_rows 184 = mm_r184 := rfl
  rw [e] at hr ⊢
  unfold mm_rw at hr
  have hd : i = 32 * (i / 32) + i % 32 := by omega
  generalize i / 32 = a at hr hd
  generalize i % 32 = b at hr hd
  subst hd
  match a with
  | 0 => exact mm_okc_at _ _ _ mm_k184_0 b r hr
  | a + 1 => exact absurd hr (by simp [mm_r184])
theorem mm_a185 : ∀ (i : Nat) (r : mm_R), mm_rw (mm_rows 185) i = some r → ∃ h, mm_ok (mm_I 185) (mm_rows 185) i h r = true := by
  intro i r hr
  have e : mm_rows 185 = mm_r185 := rfl
  rw [e] at hr ⊢
  unfold mm_rw at hr
  have hd : i = 32 * (i / 32) + i % 32 := by omega
  generalize i / 32 = a at hr hd
  generalize i % 32 = b at hr hd
  subst hd
  match a with
  | 0 => exact mm_okc_at _ _ _ mm_k185_0 b r hr
  | 1 => exact mm_okc_at _ _ _ mm_k185_1 b r hr
  | 2 => exact mm_okc_at _ _ _ mm_k185_2 b r hr
  | a + 3 => exact absurd hr (by simp [mm_r185])
theorem mm_a186 : ∀ (i : Nat) (r : mm_R), mm_rw (mm_rows 186) i = some r → ∃ h, mm_ok (mm_I 186) (mm_rows 186) i h r = true := by
  intro i r hr
  have e : mm_rows 186 = mm_r186 := rfl
  rw [e] at hr ⊢
  unfold mm_rw at hr
  have hd : i = 32 * (i / 32) + i % 32 := by omega
  generalize i / 32 = a at hr hd
  generalize i % 32 = b at hr hd
  subst hd
  match a with
  | 0 => exact mm_okc_at _ _ _ mm_k186_0 b r hr
  | a + 1 => exact absurd hr (by simp [mm_r186])
theorem mm_a187 : ∀ (i : Nat) (r : mm_R), mm_rw (mm_rows 187) i = some r → ∃ h, mm_ok (mm_I 187) (mm_rows 187) i h r = true := by
  intro i r hr
  have e : mm_rows 187 = mm_r187 := rfl
  rw [e] at hr ⊢
  unfold mm_rw at hr
  have hd : i = 32 * (i / 32) + i % 32 := by omega
  generalize i / 32 = a at hr hd
  generalize i % 32 = b at hr hd
  subst hd
  match a with
  | 0 => exact mm_okc_at _ _ _ mm_k187_0 b r hr
  | a + 1 => exact absurd hr (by simp [mm_r187])
theorem mm_a188 : ∀ (i : Nat) (r : mm_R), mm_rw (mm_rows 188) i = some r → ∃ h, mm_ok (mm_I 188) (mm_rows 188) i h r = true := by
  intro i r hr
  have e : mm_rows 188 = mm_r188 := rfl
  rw [e] at hr ⊢
  unfold mm_rw at hr
  have hd : i = 32 * (i / 32) + i % 32 := by omega
  generalize i / 32 = a at hr hd
  generalize i % 32 = b at hr hd
  subst hd
  match a with
  | 0 => exact mm_okc_at _ _ _ mm_k188_0 b r hr
  | 1 => exact mm_okc_at _ _ _ mm_k188_1 b r hr
  | a + 2 => exact absurd hr (by simp [mm_r188])
theorem mm_a189 : ∀ (i : Nat) (r : mm_R), mm_rw (mm_rows 189) i = some r → ∃ h, mm_ok (mm_I 189) (mm_rows 189) i h r = true := by
  intro i r hr
  have e : mm_rows 189 = mm_r189 := rfl
  rw [e] at hr ⊢
  unfold mm_rw at hr
  have hd : i = 32 * (i / 32) + i % 32 := by omega
  generalize i / 32 = a at hr hd
  generalize i % 32 = b at hr hd
  subst hd
  match a with
  | 0 => exact mm_okc_at _ _ _ mm_k189_0 b r hr
  | 1 => exact mm_okc_at _ _ _ mm_k189_1 b r hr
  | a + 2 => exact absurd hr (by simp [mm_r189])
theorem mm_a190 : ∀ (i : Nat) (r : mm_R), mm_rw (mm_rows 190) i = some r → ∃ h, mm_ok (mm_I 190) (mm_rows 190) i h r = true := by
  intro i r hr
  have e : mm_rows 190 = mm_r190 := rfl
  rw [e] at hr ⊢
  unfold mm_rw at hr
  have hd : i = 32 * (i / 32) + i % 32 := by omega
  generalize i / 32 = a at hr hd
  generalize i % 32 = b at hr hd
  subst hd
  match a with
  | 0 => exact mm_okc_at _ _ _ mm_k190_0 b r hr
  | a + 1 => exact absurd hr (by simp [mm_r190])
theorem mm_a191 : ∀ (i : Nat) (r : mm_R), mm_rw (mm_rows 191) i = some r → ∃ h, mm_ok (mm_I 191) (mm_rows 191) i h r = true := by
  intro i r hr
  have e : mm_rows 191 = mm_r191 := rfl
  rw [e] at hr ⊢
  unfold mm_rw at hr
  have hd : i = 32 * (i / 32) + i % 32 := by omega
  generalize i / 32 = a at hr hd
  generalize i % 32 = b at hr hd
  subst hd
  match a with
  | 0 => exact mm_okc_at _ _ _ mm_k191_0 b r hr
  | a + 1 => exact absurd hr (by simp [mm_r191])
theorem mm_a192 : ∀ (i : Nat) (r : mm_R), mm_rw (mm_rows 192) i = some r → ∃ h, mm_ok (mm_I 192) (mm_rows 192) i h r = true := by
  intro i r hr
  have e : mm_rows 192 = mm_r192 := rfl
  rw [e] at hr ⊢
  unfold mm_rw at hr
  have hd : i = 32 * (i / 32) + i % 32 := by omega
  generalize i / 32 = a at hr hd
  generalize i % 32 = b at hr hd
  subst hd
  match a with
  | 0 => exact mm_okc_at _ _ _ mm_k192_0 b r hr
  | 1 => exact mm_okc_at _ _ _ mm_k192_1 b r hr
  | 2 => exact mm_okc_at _ _ _ mm_k192_2 b r hr
  | a + 3 => exact absurd hr (by simp [mm_r192])
theorem mm_a193 : ∀ (i : Nat) (r : mm_R), mm_rw (mm_rows 193) i = some r → ∃ h, mm_ok (mm_I 193) (mm_rows 193) i h r = true := by
  intro i r hr
  have e : mm_rows 193 = mm_r193 := rfl
  rw [e] at hr ⊢
  unfold mm_rw at hr
  have hd : i = 32 * (i / 32) + i % 32 := by omega
  generalize i / 32 = a at hr hd
  generalize i % 32 = b at hr hd
  subst hd
  match a with
  | 0 => exact mm_okc_at _ _ _ mm_k193_0 b r hr
  | 1 => exact mm_okc_at _ _ _ mm_k193_1 b r hr
  | a + 2 => exact absurd hr (by simp [mm_r193])
theorem mm_a194 : ∀ (i : Nat) (r : mm_R), mm_rw (mm_rows 194) i = some r → ∃ h, mm_ok (mm_I 194) (mm_rows 194) i h r = true := by
  intro i r hr
  have e : mm_rows 194 = mm_r194 := rfl
  rw [e] at hr ⊢
  unfold mm_rw at hr
  have hd : i = 32 * (i / 32) + i % 32 := by omega
  generalize i / 32 = a at hr hd
  generalize i % 32 = b at hr hd
  subst hd
  match a with
  | 0 => exact mm_okc_at _ _ _ mm_k194_0 b r hr
  | a + 1 => exact absurd hr (by simp [mm_r194])
theorem mm_a195 : ∀ (i : Nat) (r : mm_R), mm_rw (mm_rows 195) i = some r → ∃ h, mm_ok (mm_I 195) (mm_rows 195) i h r = true := by
  intro i r hr
  have e : mm_rows 195 = mm_r195 := rfl
  rw [e] at hr ⊢
  unfold mm_rw at hr
  have hd : i = 32 * (i / 32) + i % 32 := by omega
  generalize i / 32 = a at hr hd
  generalize i % 32 = b at hr hd
  subst hd
  match a with
  | 0 => exact mm_okc_at _ _ _ mm_k195_0 b r hr
  | 1 => exact mm_okc_at _ _ _ mm_k195_1 b r hr
  | a + 2 => exact absurd hr (by simp [mm_r195])
theorem mm_a196 : ∀ (i : Nat) (r : mm_R), mm_rw (mm_rows 196) i = some r → ∃ h, mm_ok (mm_I 196) (mm_rows 196) i h r = true := by
  intro i r hr
  have e : mm_rows 196 = mm_r196 := rfl
  rw [e] at hr ⊢
  unfold mm_rw at hr
  have hd : i = 32 * (i / 32) + i % 32 := by omega
  generalize i / 32 = a at hr hd
  generalize i % 32 = b at hr hd
  subst hd
  match a with
  | 0 => exact mm_okc_at _ _ _ mm_k196_0 b r hr
  | a + 1 => exact absurd hr (by simp [mm_r196])
theorem mm_a197 : ∀ (i : Nat) (r : mm_R), mm_rw (mm_rows 197) i = some r → ∃ h, mm_ok (mm_I 197) (mm_rows 197) i h r = true := by
  intro i r hr
  have e : mm_rows 197 = mm_r197 := rfl
  rw [e] at hr ⊢
  unfold mm_rw at hr
  have hd : i = 32 * (i / 32) + i % 32 := by omega
  generalize i / 32 = a at hr hd
  generalize i % 32 = b at hr hd
  subst hd
  match a with
  | 0 => exact mm_okc_at _ _ _ mm_k197_0 b r hr
  | 1 => exact mm_okc_at _ _ _ mm_k197_1 b r hr
  | a + 2 => exact absurd hr (by simp [mm_r197])
theorem mm_a198 : ∀ (i : Nat) (r : mm_R), mm_rw (mm_rows 198) i = some r → ∃ h, mm_ok (mm_I 198) (mm_rows 198) i h r = true := by
  intro i r hr
  have e : mm_rows 198 = mm_r198 := rfl
  rw [e] at hr ⊢
  unfold mm_rw at hr
  have hd : i = 32 * (i / 32) + i % 32 := by omega
  generalize i / 32 = a at hr hd
  generalize i % 32 = b at hr hd
  subst hd
  match a with
  | 0 => exact mm_okc_at _ _ _ mm_k198_0 b r hr
  | a + 1 => exact absurd hr (by simp [mm_r198])
theorem mm_a199 : ∀ (i : Nat) (r : mm_R), mm_rw (mm_rows 199) i = some r → ∃ h, mm_ok (mm_I 199) (mm_rows 199) i h r = true := by
  intro i r hr
  have e : mm_rows 199 = mm_r199 := rfl
  rw [e] at hr ⊢
  unfold mm_rw at hr
  have hd : i = 32 * (i / 32) + i % 32 := by omega
  generalize i / 32 = a at hr hd
  generalize i % 32 = b at hr hd
  subst hd
  match a with
  | 0 => exact mm_okc_at _ _ _ mm_k199_0 b r hr
  | 1 => exact mm_okc_at _ _ _ mm_k199_1 b r hr
  | a + 2 => exact absurd hr (by simp [mm_r199])
theorem mm_a200 : ∀ (i : Nat) (r : mm_R), mm_rw (mm_rows 200) i = some r → ∃ h, mm_ok (mm_I 200) (mm_rows 200) i h r = true := by
  intro i r hr
  have e : mm_rows 200 = mm_r200 := rfl
  rw [e] at hr ⊢
  unfold mm_rw at hr
  have hd : i = 32 * (i / 32) + i % 32 := by omega
  generalize i / 32 = a at hr hd
  generalize i % 32 = b at hr hd
  subst hd
  match a with
  | 0 => exact mm_okc_at _ _ _ mm_k200_0 b r hr
  | a + 1 => exact absurd hr (by simp [mm_r200])
theorem mm_a201 : ∀ (i : Nat) (r : mm_R), mm_rw (mm_rows 201) i = some r → ∃ h, mm_ok (mm_I 201) (mm_rows 201) i h r = true := by
  intro i r hr
  have e : mm_rows 201 = mm_r201 := rfl
  rw [e] at hr ⊢
  unfold mm_rw at hr
  have hd : i = 32 * (i / 32) + i % 32 := by omega
  generalize i / 32 = a at hr hd
  generalize i % 32 = b at hr hd
  subst hd
  match a with
  | 0 => exact mm_okc_at _ _ _ mm_k201_0 b r hr
  | a + 1 => exact absurd hr (by simp [mm_r201])
theorem mm_a202 : ∀ (i : Nat) (r : mm_R), mm_rw (mm_rows 202) i = some r → ∃ h, mm_ok (mm_I 202) (mm_rows 202) i h r = true := by
  intro i r hr
  have e : mm_rows 202 = mm_r202 := rfl
  rw [e] at hr ⊢
  unfold mm_rw at hr
  have hd : i = 32 * (i / 32) + i % 32 := by omega
  generalize i / 32 = a at hr hd
  generalize i % 32 = b at hr hd
  subst hd
  match a with
  | 0 => exact mm_okc_at _ _ _ mm_k202_0 b r hr
  | 1 => exact mm_okc_at _ _ _ mm_k202_1 b r hr
  | 2 => exact mm_okc_at _ _ _ mm_k202_2 b r hr
  | 3 => exact mm_okc_at _ _ _ mm_k202_3 b r hr
  | a + 4 => exact absurd hr (by simp [mm_r202])
theorem mm_a203 : ∀ (i : Nat) (r : mm_R), mm_rw (mm_rows 203) i = some r → ∃ h, mm_ok (mm_I 203) (mm_rows 203) i h r = true := by
  intro i r hr
  have e : mm_rows 203 = mm_r203 := rfl
  rw [e] at hr ⊢
  unfold mm_rw at hr
  have hd : i = 32 * (i / 32) + i % 32 := by omega
  generalize i / 32 = a at hr hd
  generalize i % 32 = b at hr hd
  subst hd
  match a with
  | 0 => exact mm_okc_at _ _ _ mm_k203_0 b r hr
  | 1 => exact mm_okc_at _ _ _ mm_k203_1 b r hr
  | 2 => exact mm_okc_at _ _ _ mm_k203_2 b r hr
  | 3 => exact mm_okc_at _ _ _ mm_k203_3 b r hr
  | 4 => exact mm_okc_at _ _ _ mm_k203_4 b r hr
  | 5 => exact mm_okc_at _ _ _ mm_k203_5 b r hr
  | 6 => exact mm_okc_at _ _ _ mm_k203_6 b r hr
  | 7 => exact mm_okc_at _ _ _ mm_k203_7 b r hr
  | 8 => exact mm_okc_at _ _ _ mm_k203_8 b r hr
  | 9 => exact mm_okc_at _ _ _ mm_k203_9 b r hr
  | 10 => exact mm_okc_at _ _ _ mm_k203_10 b r hr
  | 11 => exact mm_okc_at _ _ _ mm_k203_11 b r hr
  | 12 => exact mm_okc_at _ _ _ mm_k203_12 b r hr
  | 13 => exact mm_okc_at _ _ _ mm_k203_13 b r hr
  | 14 => exact mm_okc_at _ _ _ mm_k203_14 b r hr
  | 15 => exact mm_okc_at _ _ _ mm_k203_15 b r hr
  | 16 => exact mm_okc_at _ _ _ mm_k203_16 b r hr
  | 17 => exact mm_okc_at _ _ _ mm_k203_17 b r hr
  | 18 => exact mm_okc_at _ _ _ mm_k203_18 b r hr
  | 19 => exact mm_okc_at _ _ _ mm_k203_19 b r hr
  | 20 => exact mm_okc_at _ _ _ mm_k203_20 b r hr
  | 21 => exact mm_okc_at _ _ _ mm_k203_21 b r hr
  | 22 => exact mm_okc_at _ _ _ mm_k203_22 b r hr
  | 23 => exact mm_okc_at _ _ _ mm_k203_23 b r hr
  | 24 => exact mm_okc_at _ _ _ mm_k203_24 b r hr
  | 25 => exact mm_okc_at _ _ _ mm_k203_25 b r hr
  | 26 => exact mm_okc_at _ _ _ mm_k203_26 b r hr
  | 27 => exact mm_okc_at _ _ _ mm_k203_27 b r hr
  | a + 28 => exact absurd hr (by simp [mm_r203])
theorem mm_aall : ∀ (y i : Nat) (r : mm_R), mm_rw (mm_rows y) i = some r → ∃ h, mm_ok (mm_I y) (mm_rows y) i h r = true := by
  intro y i r hr
  match y with
  | 0 => exact mm_a0 i r hr
  | 1 => exact mm_a1 i r hr
  | 2 => exact mm_a2 i r hr
  | 3 => exact mm_a3 i r hr
  | 4 => exact mm_a4 i r hr
  | 5 => exact mm_a5 i r hr
  | 6 => exact mm_a6 i r hr
  | 7 => exact mm_a7 i r hr
  | 8 => exact mm_a8 i r hr
  | 9 => exact mm_a9 i r hr
  | 10 => exact mm_a10 i r hr
  | 11 => exact mm_a11 i r hr
  | 12 => exact mm_a12 i r hr
  | 13 => exact mm_a13 i r hr
  | 14 => exact mm_a14 i r hr
  | 15 => exact mm_a15 i r hr
  | 16 => exact mm_a16 i r hr
  | 17 => exact mm_a17 i r hr
  | 18 => exact mm_a18 i r hr
  | 19 => exact mm_a19 i r hr
  | 20 => exact mm_a20 i r hr
  | 21 => exact mm_a21 i r hr
  | 22 => exact mm_a22 i r hr
  | 23 => exact mm_a23 i r hr
  | 24 => exact mm_a24 i r hr
  | 25 => exact mm_a25 i r hr
  | 26 => exact mm_a26 i r hr
  | 27 => exact mm_a27 i r hr
  | 28 => exact mm_a28 i r hr
  | 29 => exact mm_a29 i r hr
  | 30 => exact mm_a30 i r hr
  | 31 => exact mm_a31 i r hr
  | 32 => exact mm_a32 i r hr
  | 33 => exact mm_a33 i r hr
  | 34 => exact mm_a34 i r hr
  | 35 => exact mm_a35 i r hr
  | 36 => exact mm_a36 i r hr
  | 37 => exact mm_a37 i r hr
  | 38 => exact mm_a38 i r hr
  | 39 => exact mm_a39 i r hr
  | 40 => exact mm_a40 i r hr
  | 41 => exact mm_a41 i r hr
  | 42 => exact mm_a42 i r hr
  | 43 => exact mm_a43 i r hr
  | 44 => exact mm_a44 i r hr
  | 45 => exact mm_a45 i r hr
  | 46 => exact mm_a46 i r hr
  | 47 => exact mm_a47 i r hr
  | 48 => exact mm_a48 i r hr
  | 49 => exact mm_a49 i r hr
  | 50 => exact mm_a50 i r hr
  | 51 => exact mm_a51 i r hr
  | 52 => exact mm_a52 i r hr
  | 53 => exact mm_a53 i r hr
  | 54 => exact mm_a54 i r hr
  | 55 => exact mm_a55 i r hr
  | 56 => exact mm_a56 i r hr
  | 57 => exact mm_a57 i r hr
  | 58 => exact mm_a58 i r hr
  | 59 => exact mm_a59 i r hr
  | 60 => exact mm_a60 i r hr
  | 61 => exact mm_a61 i r hr
  | 62 => exact mm_a62 i r hr
  | 63 => exact mm_a63 i r hr
  | 64 => exact mm_a64 i r hr
  | 65 => exact mm_a65 i r hr
  | 66 => exact mm_a66 i r hr
  | 67 => exact mm_a67 i r hr
  | 68 => exact mm_a68 i r hr
  | 69 => exact mm_a69 i r hr
  | 70 => exact mm_a70 i r hr
  | 71 => exact mm_a71 i r hr
  | 72 => exact mm_a72 i r hr
  | 73 => exact mm_a73 i r hr
  | 74 => exact mm_a74 i r hr
  | 75 => exact mm_a75 i r hr
  | 76 => exact mm_a76 i r hr
  | 77 => exact mm_a77 i r hr
  | 78 => exact mm_a78 i r hr
  | 79 => exact mm_a79 i r hr
  | 80 => exact mm_a80 i r hr
  | 81 => exact mm_a81 i r hr
  | 82 => exact mm_a82 i r hr
  | 83 => exact mm_a83 i r hr
  | 84 => exact mm_a84 i r hr
  | 85 => exact mm_a85 i r hr
  | 86 => exact mm_a86 i r hr
  | 87 => exact mm_a87 i r hr
  | 88 => exact mm_a88 i r hr
  | 89 => exact mm_a89 i r hr
  | 90 => exact mm_a90 i r hr
  | 91 => exact mm_a91 i r hr
  | 92 => exact mm_a92 i r hr
  | 93 => exact mm_a93 i r hr
  | 94 => exact mm_a94 i r hr
  | 95 => exact mm_a95 i r hr
  | 96 => exact mm_a96 i r hr
  | 97 => exact mm_a97 i r hr
  | 98 => exact mm_a98 i r hr
  | 99 => exact mm_a99 i r hr
  | 100 => exact mm_a100 i r hr
  | 101 => exact mm_a101 i r hr
  | 102 => exact mm_a102 i r hr
  | 103 => exact mm_a103 i r hr
  | 104 => exact mm_a104 i r hr
  | 105 => exact mm_a105 i r hr
  | 106 => exact mm_a106 i r hr
  | 107 => exact mm_a107 i r hr
  | 108 => exact mm_a108 i r hr
  | 109 => exact mm_a109 i r hr
  | 110 => exact mm_a110 i r hr
  | 111 => exact mm_a111 i r hr
  | 112 => exact mm_a112 i r hr
  | 113 => exact mm_a113 i r hr
  | 114 => exact mm_a114 i r hr
  | 115 => exact mm_a115 i r hr
  | 116 => exact mm_a116 i r hr
  | 117 => exact mm_a117 i r hr
  | 118 => exact mm_a118 i r hr
  | 119 => exact mm_a119 i r hr
  | 120 => exact mm_a120 i r hr
  | 121 => exact mm_a121 i r hr
  | 122 => exact mm_a122 i r hr
  | 123 => exact mm_a123 i r hr
  | 124 => exact mm_a124 i r hr
  | 125 => exact mm_a125 i r hr
  | 126 => exact mm_a126 i r hr
  | 127 => exact mm_a127 i r hr
  | 128 => exact mm_a128 i r hr
  | 129 => exact mm_a129 i r hr
  | 130 => exact mm_a130 i r hr
  | 131 => exact mm_a131 i r hr
  | 132 => exact mm_a132 i r hr
  | 133 => exact mm_a133 i r hr
  | 134 => exact mm_a134 i r hr
  | 135 => exact mm_a135 i r hr
  | 136 => exact mm_a136 i r hr
  | 137 => exact mm_a137 i r hr
  | 138 => exact mm_a138 i r hr
  | 139 => exact mm_a139 i r hr
  | 140 => exact mm_a140 i r hr
  | 141 => exact mm_a141 i r hr
  | 142 => exact mm_a142 i r hr
  | 143 => exact mm_a143 i r hr
  | 144 => exact mm_a144 i r hr
  | 145 => exact mm_a145 i r hr
  | 146 => exact mm_a146 i r hr
  | 147 => exact mm_a147 i r hr
  | 148 => exact mm_a148 i r hr
  | 149 => exact mm_a149 i r hr
  | 150 => exact mm_a150 i r hr
  | 151 => exact mm_a151 i r hr
  | 152 => exact mm_a152 i r hr
  | 153 => exact mm_a153 i r hr
  | 154 => exact mm_a154 i r hr
  | 155 => exact mm_a155 i r hr
  | 156 => exact mm_a156 i r hr
  | 157 => exact mm_a157 i r hr
  | 158 => exact mm_a158 i r hr
  | 159 => exact mm_a159 i r hr
  | 160 => exact mm_a160 i r hr
  | 161 => exact mm_a161 i r hr
  | 162 => exact mm_a162 i r hr
  | 163 => exact mm_a163 i r hr
  | 164 => exact mm_a164 i r hr
  | 165 => exact mm_a165 i r hr
  | 166 => exact mm_a166 i r hr
  | 167 => exact mm_a167 i r hr
  | 168 => exact mm_a168 i r hr
  | 169 => exact mm_a169 i r hr
  | 170 => exact mm_a170 i r hr
  | 171 => exact mm_a171 i r hr
  | 172 => exact mm_a172 i r hr
  | 173 => exact mm_a173 i r hr
  | 174 => exact mm_a174 i r hr
  | 175 => exact mm_a175 i r hr
  | 176 => exact mm_a176 i r hr
  | 177 => exact mm_a177 i r hr
  | 178 => exact mm_a178 i r hr
  | 179 => exact mm_a179 i r hr
  | 180 => exact mm_a180 i r hr
  | 181 => exact mm_a181 i r hr
  | 182 => exact mm_a182 i r hr
  | 183 => exact mm_a183 i r hr
  | 184 => exact mm_a184 i r hr
  | 185 => exact mm_a185 i r hr
  | 186 => exact mm_a186 i r hr
  | 187 => exact mm_a187 i r hr
  | 188 => exact mm_a188 i r hr
  | 189 => exact mm_a189 i r hr
  | 190 => exact mm_a190 i r hr
  | 191 => exact mm_a191 i r hr
  | 192 => exact mm_a192 i r hr
  | 193 => exact mm_a193 i r hr
  | 194 => exact mm_a194 i r hr
  | 195 => exact mm_a195 i r hr
  | 196 => exact mm_a196 i r hr
  | 197 => exact mm_a197 i r hr
  | 198 => exact mm_a198 i r hr
  | 199 => exact mm_a199 i r hr
  | 200 => exact mm_a200 i r hr
  | 201 => exact mm_a201 i r hr
  | 202 => exact mm_a202 i r hr
  | 203 => exact mm_a203 i r hr
  | y + 204 =>
    exfalso
    have e : mm_rows (y + 204) = [] := by
      unfold mm_rows mm_T
      have h1 : (y + 204) / 16 ≥ 12 := by omega
      have h2 : (y + 204) / 16 = 12 → (y + 204) % 16 ≥ 12 := by omega
      generalize (y + 204) / 16 = a at h1 h2
      generalize (y + 204) % 16 = b at h2
      match a, h1, h2 with
      | 12, _, h2 =>
        have h3 := h2 rfl
        match b, h3 with
        | b + 12, _ => simp [mm_T_12]
      | a + 13, _, _ => simp
    rw [e] at hr
    simp [mm_rw] at hr
theorem mm_mall : ∀ y, y < 203 → (y < 2 ∨ 4 < y) → ∃ h1 h2 h3 h4, mm_okm y h1 h2 h3 h4 = true := by
  intro y h1 h2
  match y, h1, h2 with
  | 0, _, _ => exact ⟨_, _, _, _, mm_m0⟩
  | 1, _, _ => exact ⟨_, _, _, _, mm_m1⟩
  | 2, _, h => exact absurd h (by decide)
  | 3, _, h => exact absurd h (by decide)
  | 4, _, h => exact absurd h (by decide)
  | 5, _, _ => exact ⟨_, _, _, _, mm_m5⟩
  | 6, _, _ => exact ⟨_, _, _, _, mm_m6⟩
  | 7, _, _ => exact ⟨_, _, _, _, mm_m7⟩
  | 8, _, _ => exact ⟨_, _, _, _, mm_m8⟩
  | 9, _, _ => exact ⟨_, _, _, _, mm_m9⟩
  | 10, _, _ => exact ⟨_, _, _, _, mm_m10⟩
  | 11, _, _ => exact ⟨_, _, _, _, mm_m11⟩
  | 12, _, _ => exact ⟨_, _, _, _, mm_m12⟩
  | 13, _, _ => exact ⟨_, _, _, _, mm_m13⟩
  | 14, _, _ => exact ⟨_, _, _, _, mm_m14⟩
  | 15, _, _ => exact ⟨_, _, _, _, mm_m15⟩
  | 16, _, _ => exact ⟨_, _, _, _, mm_m16⟩
  | 17, _, _ => exact ⟨_, _, _, _, mm_m17⟩
  | 18, _, _ => exact ⟨_, _, _, _, mm_m18⟩
  | 19, _, _ => exact ⟨_, _, _, _, mm_m19⟩
  | 20, _, _ => exact ⟨_, _, _, _, mm_m20⟩
  | 21, _, _ => exact ⟨_, _, _, _, mm_m21⟩
  | 22, _, _ => exact ⟨_, _, _, _, mm_m22⟩
  | 23, _, _ => exact ⟨_, _, _, _, mm_m23⟩
  | 24, _, _ => exact ⟨_, _, _, _, mm_m24⟩
  | 25, _, _ => exact ⟨_, _, _, _, mm_m25⟩
  | 26, _, _ => exact ⟨_, _, _, _, mm_m26⟩
  | 27, _, _ => exact ⟨_, _, _, _, mm_m27⟩
  | 28, _, _ => exact ⟨_, _, _, _, mm_m28⟩
  | 29, _, _ => exact ⟨_, _, _, _, mm_m29⟩
  | 30, _, _ => exact ⟨_, _, _, _, mm_m30⟩
  | 31, _, _ => exact ⟨_, _, _, _, mm_m31⟩
  | 32, _, _ => exact ⟨_, _, _, _, mm_m32⟩
  | 33, _, _ => exact ⟨_, _, _, _, mm_m33⟩
  | 34, _, _ => exact ⟨_, _, _, _, mm_m34⟩
  | 35, _, _ => exact ⟨_, _, _, _, mm_m35⟩
  | 36, _, _ => exact ⟨_, _, _, _, mm_m36⟩
  | 37, _, _ => exact ⟨_, _, _, _, mm_m37⟩
  | 38, _, _ => exact ⟨_, _, _, _, mm_m38⟩
  | 39, _, _ => exact ⟨_, _, _, _, mm_m39⟩
  | 40, _, _ => exact ⟨_, _, _, _, mm_m40⟩
  | 41, _, _ => exact ⟨_, _, _, _, mm_m41⟩
  | 42, _, _ => exact ⟨_, _, _, _, mm_m42⟩
  | 43, _, _ => exact ⟨_, _, _, _, mm_m43⟩
  | 44, _, _ => exact ⟨_, _, _, _, mm_m44⟩
  | 45, _, _ => exact ⟨_, _, _, _, mm_m45⟩
  | 46, _, _ => exact ⟨_, _, _, _, mm_m46⟩
  | 47, _, _ => exact ⟨_, _, _, _, mm_m47⟩
  | 48, _, _ => exact ⟨_, _, _, _, mm_m48⟩
  | 49, _, _ => exact ⟨_, _, _, _, mm_m49⟩
  | 50, _, _ => exact ⟨_, _, _, _, mm_m50⟩
  | 51, _, _ => exact ⟨_, _, _, _, mm_m51⟩
  | 52, _, _ => exact ⟨_, _, _, _, mm_m52⟩
  | 53, _, _ => exact ⟨_, _, _, _, mm_m53⟩
  | 54, _, _ => exact ⟨_, _, _, _, mm_m54⟩
  | 55, _, _ => exact ⟨_, _, _, _, mm_m55⟩
  | 56, _, _ => exact ⟨_, _, _, _, mm_m56⟩
  | 57, _, _ => exact ⟨_, _, _, _, mm_m57⟩
  | 58, _, _ => exact ⟨_, _, _, _, mm_m58⟩
  | 59, _, _ => exact ⟨_, _, _, _, mm_m59⟩
  | 60, _, _ => exact ⟨_, _, _, _, mm_m60⟩
  | 61, _, _ => exact ⟨_, _, _, _, mm_m61⟩
  | 62, _, _ => exact ⟨_, _, _, _, mm_m62⟩
  | 63, _, _ => exact ⟨_, _, _, _, mm_m63⟩
  | 64, _, _ => exact ⟨_, _, _, _, mm_m64⟩
  | 65, _, _ => exact ⟨_, _, _, _, mm_m65⟩
  | 66, _, _ => exact ⟨_, _, _, _, mm_m66⟩
  | 67, _, _ => exact ⟨_, _, _, _, mm_m67⟩
  | 68, _, _ => exact ⟨_, _, _, _, mm_m68⟩
  | 69, _, _ => exact ⟨_, _, _, _, mm_m69⟩
  | 70, _, _ => exact ⟨_, _, _, _, mm_m70⟩
  | 71, _, _ => exact ⟨_, _, _, _, mm_m71⟩
  | 72, _, _ => exact ⟨_, _, _, _, mm_m72⟩
  | 73, _, _ => exact ⟨_, _, _, _, mm_m73⟩
  | 74, _, _ => exact ⟨_, _, _, _, mm_m74⟩
  | 75, _, _ => exact ⟨_, _, _, _, mm_m75⟩
  | 76, _, _ => exact ⟨_, _, _, _, mm_m76⟩
  | 77, _, _ => exact ⟨_, _, _, _, mm_m77⟩
  | 78, _, _ => exact ⟨_, _, _, _, mm_m78⟩
  | 79, _, _ => exact ⟨_, _, _, _, mm_m79⟩
  | 80, _, _ => exact ⟨_, _, _, _, mm_m80⟩
  | 81, _, _ => exact ⟨_, _, _, _, mm_m81⟩
  | 82, _, _ => exact ⟨_, _, _, _, mm_m82⟩
  | 83, _, _ => exact ⟨_, _, _, _, mm_m83⟩
  | 84, _, _ => exact ⟨_, _, _, _, mm_m84⟩
  | 85, _, _ => exact ⟨_, _, _, _, mm_m85⟩
  | 86, _, _ => exact ⟨_, _, _, _, mm_m86⟩
  | 87, _, _ => exact ⟨_, _, _, _, mm_m87⟩
  | 88, _, _ => exact ⟨_, _, _, _, mm_m88⟩
  | 89, _, _ => exact ⟨_, _, _, _, mm_m89⟩
  | 90, _, _ => exact ⟨_, _, _, _, mm_m90⟩
  | 91, _, _ => exact ⟨_, _, _, _, mm_m91⟩
  | 92, _, _ => exact ⟨_, _, _, _, mm_m92⟩
  | 93, _, _ => exact ⟨_, _, _, _, mm_m93⟩
  | 94, _, _ => exact ⟨_, _, _, _, mm_m94⟩
  | 95, _, _ => exact ⟨_, _, _, _, mm_m95⟩
  | 96, _, _ => exact ⟨_, _, _, _, mm_m96⟩
  | 97, _, _ => exact ⟨_, _, _, _, mm_m97⟩
  | 98, _, _ => exact ⟨_, _, _, _, mm_m98⟩
  | 99, _, _ => exact ⟨_, _, _, _, mm_m99⟩
  | 100, _, _ => exact ⟨_, _, _, _, mm_m100⟩
  | 101, _, _ => exact ⟨_, _, _, _, mm_m101⟩
  | 102, _, _ => exact ⟨_, _, _, _, mm_m102⟩
  | 103, _, _ => exact ⟨_, _, _, _, mm_m103⟩
  | 104, _, _ => exact ⟨_, _, _, _, mm_m104⟩
  | 105, _, _ => exact ⟨_, _, _, _, mm_m105⟩
  | 106, _, _ => exact ⟨_, _, _, _, mm_m106⟩
  | 107, _, _ => exact ⟨_, _, _, _, mm_m107⟩
  | 108, _, _ => exact ⟨_, _, _, _, mm_m108⟩
  | 109, _, _ => exact ⟨_, _, _, _, mm_m109⟩
  | 110, _, _ => exact ⟨_, _, _, _, mm_m110⟩
  | 111, _, _ => exact ⟨_, _, _, _, mm_m111⟩
  | 112, _, _ => exact ⟨_, _, _, _, mm_m112⟩
  | 113, _, _ => exact ⟨_, _, _, _, mm_m113⟩
  | 114, _, _ => exact ⟨_, _, _, _, mm_m114⟩
  | 115, _, _ => exact ⟨_, _, _, _, mm_m115⟩
  | 116, _, _ => exact ⟨_, _, _, _, mm_m116⟩
  | 117, _, _ => exact ⟨_, _, _, _, mm_m117⟩
  | 118, _, _ => exact ⟨_, _, _, _, mm_m118⟩
  | 119, _, _ => exact ⟨_, _, _, _, mm_m119⟩
  | 120, _, _ => exact ⟨_, _, _, _, mm_m120⟩
  | 121, _, _ => exact ⟨_, _, _, _, mm_m121⟩
  | 122, _, _ => exact ⟨_, _, _, _, mm_m122⟩
  | 123, _, _ => exact ⟨_, _, _, _, mm_m123⟩
  | 124, _, _ => exact ⟨_, _, _, _, mm_m124⟩
  | 125, _, _ => exact ⟨_, _, _, _, mm_m125⟩
  | 126, _, _ => exact ⟨_, _, _, _, mm_m126⟩
  | 127, _, _ => exact ⟨_, _, _, _, mm_m127⟩
  | 128, _, _ => exact ⟨_, _, _, _, mm_m128⟩
  | 129, _, _ => exact ⟨_, _, _, _, mm_m129⟩
  | 130, _, _ => exact ⟨_, _, _, _, mm_m130⟩
  | 131, _, _ => exact ⟨_, _, _, _, mm_m131⟩
  | 132, _, _ => exact ⟨_, _, _, _, mm_m132⟩
  | 133, _, _ => exact ⟨_, _, _, _, mm_m133⟩
  | 134, _, _ => exact ⟨_, _, _, _, mm_m134⟩
  | 135, _, _ => exact ⟨_, _, _, _, mm_m135⟩
  | 136, _, _ => exact ⟨_, _, _, _, mm_m136⟩
  | 137, _, _ => exact ⟨_, _, _, _, mm_m137⟩
  | 138, _, _ => exact ⟨_, _, _, _, mm_m138⟩
  | 139, _, _ => exact ⟨_, _, _, _, mm_m139⟩
  | 140, _, _ => exact ⟨_, _, _, _, mm_m140⟩
  | 141, _, _ => exact ⟨_, _, _, _, mm_m141⟩
  | 142, _, _ => exact ⟨_, _, _, _, mm_m142⟩
  | 143, _, _ => exact ⟨_, _, _, _, mm_m143⟩
  | 144, _, _ => exact ⟨_, _, _, _, mm_m144⟩
  | 145, _, _ => exact ⟨_, _, _, _, mm_m145⟩
  | 146, _, _ => exact ⟨_, _, _, _, mm_m146⟩
  | 147, _, _ => exact ⟨_, _, _, _, mm_m147⟩
  | 148, _, _ => exact ⟨_, _, _, _, mm_m148⟩
  | 149, _, _ => exact ⟨_, _, _, _, mm_m149⟩
  | 150, _, _ => exact ⟨_, _, _, _, mm_m150⟩
  | 151, _, _ => exact ⟨_, _, _, _, mm_m151⟩
  | 152, _, _ => exact ⟨_, _, _, _, mm_m152⟩
  | 153, _, _ => exact ⟨_, _, _, _, mm_m153⟩
  | 154, _, _ => exact ⟨_, _, _, _, mm_m154⟩
  | 155, _, _ => exact ⟨_, _, _, _, mm_m155⟩
  | 156, _, _ => exact ⟨_, _, _, _, mm_m156⟩
  | 157, _, _ => exact ⟨_, _, _, _, mm_m157⟩
  | 158, _, _ => exact ⟨_, _, _, _, mm_m158⟩
  | 159, _, _ => exact ⟨_, _, _, _, mm_m159⟩
  | 160, _, _ => exact ⟨_, _, _, _, mm_m160⟩
  | 161, _, _ => exact ⟨_, _, _, _, mm_m161⟩
  | 162, _, _ => exact ⟨_, _, _, _, mm_m162⟩
  | 163, _, _ => exact ⟨_, _, _, _, mm_m163⟩
  | 164, _, _ => exact ⟨_, _, _, _, mm_m164⟩
  | 165, _, _ => exact ⟨_, _, _, _, mm_m165⟩
  | 166, _, _ => exact ⟨_, _, _, _, mm_m166⟩
  | 167, _, _ => exact ⟨_, _, _, _, mm_m167⟩
  | 168, _, _ => exact ⟨_, _, _, _, mm_m168⟩
  | 169, _, _ => exact ⟨_, _, _, _, mm_m169⟩
  | 170, _, _ => exact ⟨_, _, _, _, mm_m170⟩
  | 171, _, _ => exact ⟨_, _, _, _, mm_m171⟩
  | 172, _, _ => exact ⟨_, _, _, _, mm_m172⟩
  | 173, _, _ => exact ⟨_, _, _, _, mm_m173⟩
  | 174, _, _ => exact ⟨_, _, _, _, mm_m174⟩
  | 175, _, _ => exact ⟨_, _, _, _, mm_m175⟩
  | 176, _, _ => exact ⟨_, _, _, _, mm_m176⟩
  | 177, _, _ => exact ⟨_, _, _, _, mm_m177⟩
  | 178, _, _ => exact ⟨_, _, _, _, mm_m178⟩
  | 179, _, _ => exact ⟨_, _, _, _, mm_m179⟩
  | 180, _, _ => exact ⟨_, _, _, _, mm_m180⟩
  | 181, _, _ => exact ⟨_, _, _, _, mm_m181⟩
  | 182, _, _ => exact ⟨_, _, _, _, mm_m182⟩
  | 183, _, _ => exact ⟨_, _, _, _, mm_m183⟩
  | 184, _, _ => exact ⟨_, _, _, _, mm_m184⟩
  | 185, _, _ => exact ⟨_, _, _, _, mm_m185⟩
  | 186, _, _ => exact ⟨_, _, _, _, mm_m186⟩
  | 187, _, _ => exact ⟨_, _, _, _, mm_m187⟩
  | 188, _, _ => exact ⟨_, _, _, _, mm_m188⟩
  | 189, _, _ => exact ⟨_, _, _, _, mm_m189⟩
  | 190, _, _ => exact ⟨_, _, _, _, mm_m190⟩
  | 191, _, _ => exact ⟨_, _, _, _, mm_m191⟩
  | 192, _, _ => exact ⟨_, _, _, _, mm_m192⟩
  | 193, _, _ => exact ⟨_, _, _, _, mm_m193⟩
  | 194, _, _ => exact ⟨_, _, _, _, mm_m194⟩
  | 195, _, _ => exact ⟨_, _, _, _, mm_m195⟩
  | 196, _, _ => exact ⟨_, _, _, _, mm_m196⟩
  | 197, _, _ => exact ⟨_, _, _, _, mm_m197⟩
  | 198, _, _ => exact ⟨_, _, _, _, mm_m198⟩
  | 199, _, _ => exact ⟨_, _, _, _, mm_m199⟩
  | 200, _, _ => exact ⟨_, _, _, _, mm_m200⟩
  | 201, _, _ => exact ⟨_, _, _, _, mm_m201⟩
  | 202, _, _ => exact ⟨_, _, _, _, mm_m202⟩
  | y + 203, h, _ => exact absurd h (by omega)
/-- how a method is chosen -/
def sm_kd (y : Nat) : Prop := (mm_rk y = 20 → Cond.static (mm_I y).1 ∈ mm_good) ∧ (30 ≤ mm_rk y → Cond.instanceMethod (mm_I y).1 ∈ mm_good ∧ (mm_I y).1.name = "<init>") ∧ (mm_rk y ≤ 10 → Cond.instanceMethod (mm_I y).1 ∈ mm_good ∧ Cond.selects (mm_I y).1.cls (mm_I y).1 (mm_I y).1 ∈ mm_good)
theorem sm_kd0 : sm_kd 0 := ⟨fun _ => mm_has_mem (h := 1041) (by decide +kernel), fun h => absurd h (by decide +kernel), fun h => absurd h (by decide +kernel)⟩
theorem sm_kd1 : sm_kd 1 := ⟨fun _ => mm_has_mem (h := 4063) (by decide +kernel), fun h => absurd h (by decide +kernel), fun h => absurd h (by decide +kernel)⟩
theorem sm_kd5 : sm_kd 5 := ⟨fun _ => mm_has_mem (h := 3126) (by decide +kernel), fun h => absurd h (by decide +kernel), fun h => absurd h (by decide +kernel)⟩
theorem sm_kd6 : sm_kd 6 := ⟨fun h => absurd h (by decide +kernel), fun h => absurd h (by decide +kernel), fun _ => ⟨mm_has_mem (h := 2194) (by decide +kernel), mm_has_mem (h := 2195) (by decide +kernel)⟩⟩
theorem sm_kd7 : sm_kd 7 := ⟨fun h => absurd h (by decide +kernel), fun h => absurd h (by decide +kernel), fun _ => ⟨mm_has_mem (h := 2198) (by decide +kernel), mm_has_mem (h := 2199) (by decide +kernel)⟩⟩
theorem sm_kd8 : sm_kd 8 := ⟨fun h => absurd h (by decide +kernel), fun h => absurd h (by decide +kernel), fun _ => ⟨mm_has_mem (h := 2204) (by decide +kernel), mm_has_mem (h := 2205) (by decide +kernel)⟩⟩
theorem sm_kd9 : sm_kd 9 := ⟨fun h => absurd h (by decide +kernel), fun h => absurd h (by decide +kernel), fun _ => ⟨mm_has_mem (h := 2208) (by decide +kernel), mm_has_mem (h := 2209) (by decide +kernel)⟩⟩
theorem sm_kd10 : sm_kd 10 := ⟨fun _ => mm_has_mem (h := 2215) (by decide +kernel), fun h => absurd h (by decide +kernel), fun h => absurd h (by decide +kernel)⟩
theorem sm_kd11 : sm_kd 11 := ⟨fun h => absurd h (by decide +kernel), fun h => absurd h (by decide +kernel), fun _ => ⟨mm_has_mem (h := 3029) (by decide +kernel), mm_has_mem (h := 3030) (by decide +kernel)⟩⟩
theorem sm_kd12 : sm_kd 12 := ⟨fun h => absurd h (by decide +kernel), fun h => absurd h (by decide +kernel), fun _ => ⟨mm_has_mem (h := 3033) (by decide +kernel), mm_has_mem (h := 3034) (by decide +kernel)⟩⟩
theorem sm_kd13 : sm_kd 13 := ⟨fun _ => mm_has_mem (h := 2212) (by decide +kernel), fun h => absurd h (by decide +kernel), fun h => absurd h (by decide +kernel)⟩
theorem sm_kd14 : sm_kd 14 := ⟨fun _ => mm_has_mem (h := 3038) (by decide +kernel), fun h => absurd h (by decide +kernel), fun h => absurd h (by decide +kernel)⟩
theorem sm_kd15 : sm_kd 15 := ⟨fun _ => mm_has_mem (h := 3041) (by decide +kernel), fun h => absurd h (by decide +kernel), fun h => absurd h (by decide +kernel)⟩
theorem sm_kd16 : sm_kd 16 := ⟨fun _ => mm_has_mem (h := 3046) (by decide +kernel), fun h => absurd h (by decide +kernel), fun h => absurd h (by decide +kernel)⟩
theorem sm_kd17 : sm_kd 17 := ⟨fun _ => mm_has_mem (h := 2220) (by decide +kernel), fun h => absurd h (by decide +kernel), fun h => absurd h (by decide +kernel)⟩
theorem sm_kd18 : sm_kd 18 := ⟨fun h => absurd h (by decide +kernel), fun _ => ⟨mm_has_mem (h := 1174) (by decide +kernel), rfl⟩, fun h => absurd h (by decide +kernel)⟩
theorem sm_kd19 : sm_kd 19 := ⟨fun h => absurd h (by decide +kernel), fun h => absurd h (by decide +kernel), fun _ => ⟨mm_has_mem (h := 4017) (by decide +kernel), mm_has_mem (h := 4018) (by decide +kernel)⟩⟩
theorem sm_kd20 : sm_kd 20 := ⟨fun h => absurd h (by decide +kernel), fun h => absurd h (by decide +kernel), fun _ => ⟨mm_has_mem (h := 4021) (by decide +kernel), mm_has_mem (h := 4022) (by decide +kernel)⟩⟩
theorem sm_kd21 : sm_kd 21 := ⟨fun h => absurd h (by decide +kernel), fun h => absurd h (by decide +kernel), fun _ => ⟨mm_has_mem (h := 4026) (by decide +kernel), mm_has_mem (h := 20) (by decide +kernel)⟩⟩
theorem sm_kd22 : sm_kd 22 := ⟨fun h => absurd h (by decide +kernel), fun h => absurd h (by decide +kernel), fun _ => ⟨mm_has_mem (h := 4034) (by decide +kernel), mm_has_mem (h := 21) (by decide +kernel)⟩⟩
theorem sm_kd23 : sm_kd 23 := ⟨fun h => absurd h (by decide +kernel), fun h => absurd h (by decide +kernel), fun _ => ⟨mm_has_mem (h := 4041) (by decide +kernel), mm_has_mem (h := 4042) (by decide +kernel)⟩⟩
theorem sm_kd24 : sm_kd 24 := ⟨fun h => absurd h (by decide +kernel), fun _ => ⟨mm_has_mem (h := 1031) (by decide +kernel), rfl⟩, fun h => absurd h (by decide +kernel)⟩
theorem sm_kd25 : sm_kd 25 := ⟨fun h => absurd h (by decide +kernel), fun h => absurd h (by decide +kernel), fun _ => ⟨mm_has_mem (h := 3239) (by decide +kernel), mm_has_mem (h := 4000) (by decide +kernel)⟩⟩
theorem sm_kd26 : sm_kd 26 := ⟨fun h => absurd h (by decide +kernel), fun _ => ⟨mm_has_mem (h := 1037) (by decide +kernel), rfl⟩, fun h => absurd h (by decide +kernel)⟩
theorem sm_kd27 : sm_kd 27 := ⟨fun h => absurd h (by decide +kernel), fun h => absurd h (by decide +kernel), fun _ => ⟨mm_has_mem (h := 2041) (by decide +kernel), mm_has_mem (h := 2042) (by decide +kernel)⟩⟩
theorem sm_kd28 : sm_kd 28 := ⟨fun h => absurd h (by decide +kernel), fun h => absurd h (by decide +kernel), fun _ => ⟨mm_has_mem (h := 2056) (by decide +kernel), mm_has_mem (h := 2057) (by decide +kernel)⟩⟩
theorem sm_kd29 : sm_kd 29 := ⟨fun h => absurd h (by decide +kernel), fun h => absurd h (by decide +kernel), fun _ => ⟨mm_has_mem (h := 2060) (by decide +kernel), mm_has_mem (h := 2061) (by decide +kernel)⟩⟩
theorem sm_kd30 : sm_kd 30 := ⟨fun h => absurd h (by decide +kernel), fun h => absurd h (by decide +kernel), fun _ => ⟨mm_has_mem (h := 2065) (by decide +kernel), mm_has_mem (h := 1) (by decide +kernel)⟩⟩
theorem sm_kd31 : sm_kd 31 := ⟨fun h => absurd h (by decide +kernel), fun h => absurd h (by decide +kernel), fun _ => ⟨mm_has_mem (h := 2069) (by decide +kernel), mm_has_mem (h := 2) (by decide +kernel)⟩⟩
theorem sm_kd32 : sm_kd 32 := ⟨fun h => absurd h (by decide +kernel), fun h => absurd h (by decide +kernel), fun _ => ⟨mm_has_mem (h := 2089) (by decide +kernel), mm_has_mem (h := 2090) (by decide +kernel)⟩⟩
theorem sm_kd33 : sm_kd 33 := ⟨fun h => absurd h (by decide +kernel), fun h => absurd h (by decide +kernel), fun _ => ⟨mm_has_mem (h := 2094) (by decide +kernel), mm_has_mem (h := 3) (by decide +kernel)⟩⟩
theorem sm_kd34 : sm_kd 34 := ⟨fun h => absurd h (by decide +kernel), fun h => absurd h (by decide +kernel), fun _ => ⟨mm_has_mem (h := 2097) (by decide +kernel), mm_has_mem (h := 2098) (by decide +kernel)⟩⟩
theorem sm_kd35 : sm_kd 35 := ⟨fun h => absurd h (by decide +kernel), fun h => absurd h (by decide +kernel), fun _ => ⟨mm_has_mem (h := 2102) (by decide +kernel), mm_has_mem (h := 4) (by decide +kernel)⟩⟩
theorem sm_kd36 : sm_kd 36 := ⟨fun h => absurd h (by decide +kernel), fun h => absurd h (by decide +kernel), fun _ => ⟨mm_has_mem (h := 2112) (by decide +kernel), mm_has_mem (h := 2113) (by decide +kernel)⟩⟩
theorem sm_kd37 : sm_kd 37 := ⟨fun h => absurd h (by decide +kernel), fun h => absurd h (by decide +kernel), fun _ => ⟨mm_has_mem (h := 2119) (by decide +kernel), mm_has_mem (h := 2120) (by decide +kernel)⟩⟩
theorem sm_kd38 : sm_kd 38 := ⟨fun h => absurd h (by decide +kernel), fun h => absurd h (by decide +kernel), fun _ => ⟨mm_has_mem (h := 2123) (by decide +kernel), mm_has_mem (h := 2124) (by decide +kernel)⟩⟩
theorem sm_kd39 : sm_kd 39 := ⟨fun h => absurd h (by decide +kernel), fun h => absurd h (by decide +kernel), fun _ => ⟨mm_has_mem (h := 2140) (by decide +kernel), mm_has_mem (h := 2141) (by decide +kernel)⟩⟩
theorem sm_kd40 : sm_kd 40 := ⟨fun h => absurd h (by decide +kernel), fun h => absurd h (by decide +kernel), fun _ => ⟨mm_has_mem (h := 2144) (by decide +kernel), mm_has_mem (h := 2145) (by decide +kernel)⟩⟩
theorem sm_kd41 : sm_kd 41 := ⟨fun h => absurd h (by decide +kernel), fun h => absurd h (by decide +kernel), fun _ => ⟨mm_has_mem (h := 3103) (by decide +kernel), mm_has_mem (h := 3104) (by decide +kernel)⟩⟩
theorem sm_kd42 : sm_kd 42 := ⟨fun h => absurd h (by decide +kernel), fun h => absurd h (by decide +kernel), fun _ => ⟨mm_has_mem (h := 3107) (by decide +kernel), mm_has_mem (h := 3108) (by decide +kernel)⟩⟩
theorem sm_kd43 : sm_kd 43 := ⟨fun h => absurd h (by decide +kernel), fun h => absurd h (by decide +kernel), fun _ => ⟨mm_has_mem (h := 3111) (by decide +kernel), mm_has_mem (h := 3112) (by decide +kernel)⟩⟩
theorem sm_kd44 : sm_kd 44 := ⟨fun h => absurd h (by decide +kernel), fun h => absurd h (by decide +kernel), fun _ => ⟨mm_has_mem (h := 3152) (by decide +kernel), mm_has_mem (h := 3153) (by decide +kernel)⟩⟩
theorem sm_kd45 : sm_kd 45 := ⟨fun h => absurd h (by decide +kernel), fun h => absurd h (by decide +kernel), fun _ => ⟨mm_has_mem (h := 3166) (by decide +kernel), mm_has_mem (h := 3167) (by decide +kernel)⟩⟩
theorem sm_kd46 : sm_kd 46 := ⟨fun h => absurd h (by decide +kernel), fun h => absurd h (by decide +kernel), fun _ => ⟨mm_has_mem (h := 3210) (by decide +kernel), mm_has_mem (h := 3211) (by decide +kernel)⟩⟩
theorem sm_kd47 : sm_kd 47 := ⟨fun h => absurd h (by decide +kernel), fun h => absurd h (by decide +kernel), fun _ => ⟨mm_has_mem (h := 3216) (by decide +kernel), mm_has_mem (h := 3217) (by decide +kernel)⟩⟩
theorem sm_kd48 : sm_kd 48 := ⟨fun h => absurd h (by decide +kernel), fun _ => ⟨mm_has_mem (h := 1161) (by decide +kernel), rfl⟩, fun h => absurd h (by decide +kernel)⟩
theorem sm_kd49 : sm_kd 49 := ⟨fun h => absurd h (by decide +kernel), fun h => absurd h (by decide +kernel), fun _ => ⟨mm_has_mem (h := 3115) (by decide +kernel), mm_has_mem (h := 3116) (by decide +kernel)⟩⟩
theorem sm_kd50 : sm_kd 50 := ⟨fun h => absurd h (by decide +kernel), fun h => absurd h (by decide +kernel), fun _ => ⟨mm_has_mem (h := 3120) (by decide +kernel), mm_has_mem (h := 16) (by decide +kernel)⟩⟩
theorem sm_kd51 : sm_kd 51 := ⟨fun h => absurd h (by decide +kernel), fun h => absurd h (by decide +kernel), fun _ => ⟨mm_has_mem (h := 3133) (by decide +kernel), mm_has_mem (h := 17) (by decide +kernel)⟩⟩
theorem sm_kd52 : sm_kd 52 := ⟨fun h => absurd h (by decide +kernel), fun h => absurd h (by decide +kernel), fun _ => ⟨mm_has_mem (h := 3137) (by decide +kernel), mm_has_mem (h := 18) (by decide +kernel)⟩⟩
theorem sm_kd53 : sm_kd 53 := ⟨fun h => absurd h (by decide +kernel), fun h => absurd h (by decide +kernel), fun _ => ⟨mm_has_mem (h := 3140) (by decide +kernel), mm_has_mem (h := 3141) (by decide +kernel)⟩⟩
theorem sm_kd54 : sm_kd 54 := ⟨fun h => absurd h (by decide +kernel), fun h => absurd h (by decide +kernel), fun _ => ⟨mm_has_mem (h := 3145) (by decide +kernel), mm_has_mem (h := 19) (by decide +kernel)⟩⟩
theorem sm_kd55 : sm_kd 55 := ⟨fun h => absurd h (by decide +kernel), fun _ => ⟨mm_has_mem (h := 1137) (by decide +kernel), rfl⟩, fun h => absurd h (by decide +kernel)⟩
theorem sm_kd56 : sm_kd 56 := ⟨fun h => absurd h (by decide +kernel), fun h => absurd h (by decide +kernel), fun _ => ⟨mm_has_mem (h := 2161) (by decide +kernel), mm_has_mem (h := 2162) (by decide +kernel)⟩⟩
theorem sm_kd57 : sm_kd 57 := ⟨fun h => absurd h (by decide +kernel), fun h => absurd h (by decide +kernel), fun _ => ⟨mm_has_mem (h := 2169) (by decide +kernel), mm_has_mem (h := 2170) (by decide +kernel)⟩⟩
theorem sm_kd58 : sm_kd 58 := ⟨fun h => absurd h (by decide +kernel), fun h => absurd h (by decide +kernel), fun _ => ⟨mm_has_mem (h := 2178) (by decide +kernel), mm_has_mem (h := 6) (by decide +kernel)⟩⟩
theorem sm_kd59 : sm_kd 59 := ⟨fun h => absurd h (by decide +kernel), fun h => absurd h (by decide +kernel), fun _ => ⟨mm_has_mem (h := 2182) (by decide +kernel), mm_has_mem (h := 7) (by decide +kernel)⟩⟩
theorem sm_kd60 : sm_kd 60 := ⟨fun h => absurd h (by decide +kernel), fun h => absurd h (by decide +kernel), fun _ => ⟨mm_has_mem (h := 2186) (by decide +kernel), mm_has_mem (h := 8) (by decide +kernel)⟩⟩
theorem sm_kd61 : sm_kd 61 := ⟨fun h => absurd h (by decide +kernel), fun h => absurd h (by decide +kernel), fun _ => ⟨mm_has_mem (h := 2191) (by decide +kernel), mm_has_mem (h := 9) (by decide +kernel)⟩⟩
theorem sm_kd62 : sm_kd 62 := ⟨fun h => absurd h (by decide +kernel), fun h => absurd h (by decide +kernel), fun _ => ⟨mm_has_mem (h := 3003) (by decide +kernel), mm_has_mem (h := 10) (by decide +kernel)⟩⟩
theorem sm_kd63 : sm_kd 63 := ⟨fun h => absurd h (by decide +kernel), fun h => absurd h (by decide +kernel), fun _ => ⟨mm_has_mem (h := 3007) (by decide +kernel), mm_has_mem (h := 11) (by decide +kernel)⟩⟩
theorem sm_kd64 : sm_kd 64 := ⟨fun h => absurd h (by decide +kernel), fun h => absurd h (by decide +kernel), fun _ => ⟨mm_has_mem (h := 3013) (by decide +kernel), mm_has_mem (h := 12) (by decide +kernel)⟩⟩
theorem sm_kd65 : sm_kd 65 := ⟨fun h => absurd h (by decide +kernel), fun h => absurd h (by decide +kernel), fun _ => ⟨mm_has_mem (h := 3017) (by decide +kernel), mm_has_mem (h := 13) (by decide +kernel)⟩⟩
theorem sm_kd66 : sm_kd 66 := ⟨fun h => absurd h (by decide +kernel), fun h => absurd h (by decide +kernel), fun _ => ⟨mm_has_mem (h := 3021) (by decide +kernel), mm_has_mem (h := 14) (by decide +kernel)⟩⟩
theorem sm_kd67 : sm_kd 67 := ⟨fun h => absurd h (by decide +kernel), fun h => absurd h (by decide +kernel), fun _ => ⟨mm_has_mem (h := 3025) (by decide +kernel), mm_has_mem (h := 15) (by decide +kernel)⟩⟩
theorem sm_kd68 : sm_kd 68 := ⟨fun _ => mm_has_mem (h := 3084) (by decide +kernel), fun h => absurd h (by decide +kernel), fun h => absurd h (by decide +kernel)⟩
theorem sm_kd69 : sm_kd 69 := ⟨fun h => absurd h (by decide +kernel), fun _ => ⟨mm_has_mem (h := 1090) (by decide +kernel), rfl⟩, fun h => absurd h (by decide +kernel)⟩
theorem sm_kd70 : sm_kd 70 := ⟨fun h => absurd h (by decide +kernel), fun h => absurd h (by decide +kernel), fun _ => ⟨mm_has_mem (h := 3178) (by decide +kernel), mm_has_mem (h := 3179) (by decide +kernel)⟩⟩
theorem sm_kd71 : sm_kd 71 := ⟨fun h => absurd h (by decide +kernel), fun h => absurd h (by decide +kernel), fun _ => ⟨mm_has_mem (h := 3182) (by decide +kernel), mm_has_mem (h := 3183) (by decide +kernel)⟩⟩
theorem sm_kd72 : sm_kd 72 := ⟨fun h => absurd h (by decide +kernel), fun h => absurd h (by decide +kernel), fun _ => ⟨mm_has_mem (h := 4004) (by decide +kernel), mm_has_mem (h := 4005) (by decide +kernel)⟩⟩
theorem sm_kd73 : sm_kd 73 := ⟨fun h => absurd h (by decide +kernel), fun _ => ⟨mm_has_mem (h := 1199) (by decide +kernel), rfl⟩, fun h => absurd h (by decide +kernel)⟩
theorem sm_kd74 : sm_kd 74 := ⟨fun h => absurd h (by decide +kernel), fun h => absurd h (by decide +kernel), fun _ => ⟨mm_has_mem (h := 2072) (by decide +kernel), mm_has_mem (h := 2073) (by decide +kernel)⟩⟩
theorem sm_kd75 : sm_kd 75 := ⟨fun _ => mm_has_mem (h := 2076) (by decide +kernel), fun h => absurd h (by decide +kernel), fun h => absurd h (by decide +kernel)⟩
theorem sm_kd76 : sm_kd 76 := ⟨fun h => absurd h (by decide +kernel), fun h => absurd h (by decide +kernel), fun _ => ⟨mm_has_mem (h := 2173) (by decide +kernel), mm_has_mem (h := 2174) (by decide +kernel)⟩⟩
theorem sm_kd77 : sm_kd 77 := ⟨fun _ => mm_has_mem (h := 3087) (by decide +kernel), fun h => absurd h (by decide +kernel), fun h => absurd h (by decide +kernel)⟩
theorem sm_kd78 : sm_kd 78 := ⟨fun h => absurd h (by decide +kernel), fun h => absurd h (by decide +kernel), fun _ => ⟨mm_has_mem (h := 3090) (by decide +kernel), mm_has_mem (h := 3091) (by decide +kernel)⟩⟩
theorem sm_kd79 : sm_kd 79 := ⟨fun h => absurd h (by decide +kernel), fun h => absurd h (by decide +kernel), fun _ => ⟨mm_has_mem (h := 3094) (by decide +kernel), mm_has_mem (h := 3095) (by decide +kernel)⟩⟩
theorem sm_kd80 : sm_kd 80 := ⟨fun h => absurd h (by decide +kernel), fun _ => ⟨mm_has_mem (h := 1225) (by decide +kernel), rfl⟩, fun h => absurd h (by decide +kernel)⟩
theorem sm_kd81 : sm_kd 81 := ⟨fun h => absurd h (by decide +kernel), fun h => absurd h (by decide +kernel), fun _ => ⟨mm_has_mem (h := 4059) (by decide +kernel), mm_has_mem (h := 4060) (by decide +kernel)⟩⟩
theorem sm_kd82 : sm_kd 82 := ⟨fun h => absurd h (by decide +kernel), fun h => absurd h (by decide +kernel), fun _ => ⟨mm_has_mem (h := 4070) (by decide +kernel), mm_has_mem (h := 4071) (by decide +kernel)⟩⟩
theorem sm_kd83 : sm_kd 83 := ⟨fun h => absurd h (by decide +kernel), fun h => absurd h (by decide +kernel), fun _ => ⟨mm_has_mem (h := 4082) (by decide +kernel), mm_has_mem (h := 4083) (by decide +kernel)⟩⟩
theorem sm_kd84 : sm_kd 84 := ⟨fun h => absurd h (by decide +kernel), fun _ => ⟨mm_has_mem (h := 1023) (by decide +kernel), rfl⟩, fun h => absurd h (by decide +kernel)⟩
theorem sm_kd85 : sm_kd 85 := ⟨fun h => absurd h (by decide +kernel), fun h => absurd h (by decide +kernel), fun _ => ⟨mm_has_mem (h := 2034) (by decide +kernel), mm_has_mem (h := 2035) (by decide +kernel)⟩⟩
theorem sm_kd86 : sm_kd 86 := ⟨fun _ => mm_has_mem (h := 2038) (by decide +kernel), fun h => absurd h (by decide +kernel), fun h => absurd h (by decide +kernel)⟩
theorem sm_kd87 : sm_kd 87 := ⟨fun h => absurd h (by decide +kernel), fun h => absurd h (by decide +kernel), fun _ => ⟨mm_has_mem (h := 2045) (by decide +kernel), mm_has_mem (h := 2046) (by decide +kernel)⟩⟩
theorem sm_kd88 : sm_kd 88 := ⟨fun h => absurd h (by decide +kernel), fun h => absurd h (by decide +kernel), fun _ => ⟨mm_has_mem (h := 2050) (by decide +kernel), mm_has_mem (h := 0) (by decide +kernel)⟩⟩
theorem sm_kd89 : sm_kd 89 := ⟨fun _ => mm_has_mem (h := 2053) (by decide +kernel), fun h => absurd h (by decide +kernel), fun h => absurd h (by decide +kernel)⟩
theorem sm_kd90 : sm_kd 90 := ⟨fun h => absurd h (by decide +kernel), fun h => absurd h (by decide +kernel), fun _ => ⟨mm_has_mem (h := 2082) (by decide +kernel), mm_has_mem (h := 2083) (by decide +kernel)⟩⟩
theorem sm_kd91 : sm_kd 91 := ⟨fun _ => mm_has_mem (h := 2086) (by decide +kernel), fun h => absurd h (by decide +kernel), fun h => absurd h (by decide +kernel)⟩
theorem sm_kd92 : sm_kd 92 := ⟨fun h => absurd h (by decide +kernel), fun h => absurd h (by decide +kernel), fun _ => ⟨mm_has_mem (h := 2109) (by decide +kernel), mm_has_mem (h := 5) (by decide +kernel)⟩⟩
theorem sm_kd93 : sm_kd 93 := ⟨fun h => absurd h (by decide +kernel), fun h => absurd h (by decide +kernel), fun _ => ⟨mm_has_mem (h := 2128) (by decide +kernel), mm_has_mem (h := 2129) (by decide +kernel)⟩⟩
theorem sm_kd94 : sm_kd 94 := ⟨fun h => absurd h (by decide +kernel), fun h => absurd h (by decide +kernel), fun _ => ⟨mm_has_mem (h := 2132) (by decide +kernel), mm_has_mem (h := 2133) (by decide +kernel)⟩⟩
theorem sm_kd95 : sm_kd 95 := ⟨fun h => absurd h (by decide +kernel), fun h => absurd h (by decide +kernel), fun _ => ⟨mm_has_mem (h := 2136) (by decide +kernel), mm_has_mem (h := 2137) (by decide +kernel)⟩⟩
theorem sm_kd96 : sm_kd 96 := ⟨fun h => absurd h (by decide +kernel), fun h => absurd h (by decide +kernel), fun _ => ⟨mm_has_mem (h := 2148) (by decide +kernel), mm_has_mem (h := 2149) (by decide +kernel)⟩⟩
theorem sm_kd97 : sm_kd 97 := ⟨fun h => absurd h (by decide +kernel), fun h => absurd h (by decide +kernel), fun _ => ⟨mm_has_mem (h := 2153) (by decide +kernel), mm_has_mem (h := 2154) (by decide +kernel)⟩⟩
theorem sm_kd98 : sm_kd 98 := ⟨fun h => absurd h (by decide +kernel), fun h => absurd h (by decide +kernel), fun _ => ⟨mm_has_mem (h := 2157) (by decide +kernel), mm_has_mem (h := 2158) (by decide +kernel)⟩⟩
theorem sm_kd99 : sm_kd 99 := ⟨fun h => absurd h (by decide +kernel), fun h => absurd h (by decide +kernel), fun _ => ⟨mm_has_mem (h := 2165) (by decide +kernel), mm_has_mem (h := 2166) (by decide +kernel)⟩⟩
theorem sm_kd100 : sm_kd 100 := ⟨fun h => absurd h (by decide +kernel), fun h => absurd h (by decide +kernel), fun _ => ⟨mm_has_mem (h := 3098) (by decide +kernel), mm_has_mem (h := 3099) (by decide +kernel)⟩⟩
theorem sm_kd101 : sm_kd 101 := ⟨fun h => absurd h (by decide +kernel), fun h => absurd h (by decide +kernel), fun _ => ⟨mm_has_mem (h := 3148) (by decide +kernel), mm_has_mem (h := 3149) (by decide +kernel)⟩⟩
theorem sm_kd102 : sm_kd 102 := ⟨fun h => absurd h (by decide +kernel), fun h => absurd h (by decide +kernel), fun _ => ⟨mm_has_mem (h := 3156) (by decide +kernel), mm_has_mem (h := 3157) (by decide +kernel)⟩⟩
theorem sm_kd103 : sm_kd 103 := ⟨fun h => absurd h (by decide +kernel), fun h => absurd h (by decide +kernel), fun _ => ⟨mm_has_mem (h := 3161) (by decide +kernel), mm_has_mem (h := 3162) (by decide +kernel)⟩⟩
theorem sm_kd104 : sm_kd 104 := ⟨fun h => absurd h (by decide +kernel), fun h => absurd h (by decide +kernel), fun _ => ⟨mm_has_mem (h := 3170) (by decide +kernel), mm_has_mem (h := 3171) (by decide +kernel)⟩⟩
theorem sm_kd105 : sm_kd 105 := ⟨fun h => absurd h (by decide +kernel), fun h => absurd h (by decide +kernel), fun _ => ⟨mm_has_mem (h := 3174) (by decide +kernel), mm_has_mem (h := 3175) (by decide +kernel)⟩⟩
theorem sm_kd106 : sm_kd 106 := ⟨fun h => absurd h (by decide +kernel), fun h => absurd h (by decide +kernel), fun _ => ⟨mm_has_mem (h := 3186) (by decide +kernel), mm_has_mem (h := 3187) (by decide +kernel)⟩⟩
theorem sm_kd107 : sm_kd 107 := ⟨fun h => absurd h (by decide +kernel), fun h => absurd h (by decide +kernel), fun _ => ⟨mm_has_mem (h := 3190) (by decide +kernel), mm_has_mem (h := 3191) (by decide +kernel)⟩⟩
theorem sm_kd108 : sm_kd 108 := ⟨fun _ => mm_has_mem (h := 3195) (by decide +kernel), fun h => absurd h (by decide +kernel), fun h => absurd h (by decide +kernel)⟩
theorem sm_kd109 : sm_kd 109 := ⟨fun h => absurd h (by decide +kernel), fun h => absurd h (by decide +kernel), fun _ => ⟨mm_has_mem (h := 3198) (by decide +kernel), mm_has_mem (h := 3199) (by decide +kernel)⟩⟩
theorem sm_kd110 : sm_kd 110 := ⟨fun h => absurd h (by decide +kernel), fun h => absurd h (by decide +kernel), fun _ => ⟨mm_has_mem (h := 3202) (by decide +kernel), mm_has_mem (h := 3203) (by decide +kernel)⟩⟩
theorem sm_kd111 : sm_kd 111 := ⟨fun h => absurd h (by decide +kernel), fun h => absurd h (by decide +kernel), fun _ => ⟨mm_has_mem (h := 3206) (by decide +kernel), mm_has_mem (h := 3207) (by decide +kernel)⟩⟩
theorem sm_kd112 : sm_kd 112 := ⟨fun h => absurd h (by decide +kernel), fun h => absurd h (by decide +kernel), fun _ => ⟨mm_has_mem (h := 3220) (by decide +kernel), mm_has_mem (h := 3221) (by decide +kernel)⟩⟩
theorem sm_kd113 : sm_kd 113 := ⟨fun h => absurd h (by decide +kernel), fun h => absurd h (by decide +kernel), fun _ => ⟨mm_has_mem (h := 3224) (by decide +kernel), mm_has_mem (h := 3225) (by decide +kernel)⟩⟩
theorem sm_kd114 : sm_kd 114 := ⟨fun h => absurd h (by decide +kernel), fun h => absurd h (by decide +kernel), fun _ => ⟨mm_has_mem (h := 3228) (by decide +kernel), mm_has_mem (h := 3229) (by decide +kernel)⟩⟩
theorem sm_kd115 : sm_kd 115 := ⟨fun _ => mm_has_mem (h := 3232) (by decide +kernel), fun h => absurd h (by decide +kernel), fun h => absurd h (by decide +kernel)⟩
theorem sm_kd116 : sm_kd 116 := ⟨fun h => absurd h (by decide +kernel), fun h => absurd h (by decide +kernel), fun _ => ⟨mm_has_mem (h := 3235) (by decide +kernel), mm_has_mem (h := 3236) (by decide +kernel)⟩⟩
theorem sm_kd117 : sm_kd 117 := ⟨fun h => absurd h (by decide +kernel), fun h => absurd h (by decide +kernel), fun _ => ⟨mm_has_mem (h := 4009) (by decide +kernel), mm_has_mem (h := 4010) (by decide +kernel)⟩⟩
theorem sm_kd118 : sm_kd 118 := ⟨fun h => absurd h (by decide +kernel), fun h => absurd h (by decide +kernel), fun _ => ⟨mm_has_mem (h := 4013) (by decide +kernel), mm_has_mem (h := 4014) (by decide +kernel)⟩⟩
theorem sm_kd119 : sm_kd 119 := ⟨fun h => absurd h (by decide +kernel), fun h => absurd h (by decide +kernel), fun _ => ⟨mm_has_mem (h := 4037) (by decide +kernel), mm_has_mem (h := 4038) (by decide +kernel)⟩⟩
theorem sm_kd120 : sm_kd 120 := ⟨fun h => absurd h (by decide +kernel), fun h => absurd h (by decide +kernel), fun _ => ⟨mm_has_mem (h := 4046) (by decide +kernel), mm_has_mem (h := 4047) (by decide +kernel)⟩⟩
theorem sm_kd121 : sm_kd 121 := ⟨fun h => absurd h (by decide +kernel), fun h => absurd h (by decide +kernel), fun _ => ⟨mm_has_mem (h := 4051) (by decide +kernel), mm_has_mem (h := 4052) (by decide +kernel)⟩⟩
theorem sm_kd122 : sm_kd 122 := ⟨fun h => absurd h (by decide +kernel), fun h => absurd h (by decide +kernel), fun _ => ⟨mm_has_mem (h := 4055) (by decide +kernel), mm_has_mem (h := 4056) (by decide +kernel)⟩⟩
theorem sm_kd123 : sm_kd 123 := ⟨fun h => absurd h (by decide +kernel), fun h => absurd h (by decide +kernel), fun _ => ⟨mm_has_mem (h := 4066) (by decide +kernel), mm_has_mem (h := 4067) (by decide +kernel)⟩⟩
theorem sm_kd124 : sm_kd 124 := ⟨fun h => absurd h (by decide +kernel), fun h => absurd h (by decide +kernel), fun _ => ⟨mm_has_mem (h := 4074) (by decide +kernel), mm_has_mem (h := 4075) (by decide +kernel)⟩⟩
theorem sm_kd125 : sm_kd 125 := ⟨fun h => absurd h (by decide +kernel), fun h => absurd h (by decide +kernel), fun _ => ⟨mm_has_mem (h := 4078) (by decide +kernel), mm_has_mem (h := 4079) (by decide +kernel)⟩⟩
theorem sm_kd126 : sm_kd 126 := ⟨fun h => absurd h (by decide +kernel), fun _ => ⟨mm_has_mem (h := 4089) (by decide +kernel), rfl⟩, fun h => absurd h (by decide +kernel)⟩
theorem sm_kd127 : sm_kd 127 := ⟨fun h => absurd h (by decide +kernel), fun h => absurd h (by decide +kernel), fun _ => ⟨mm_has_mem (h := 4236) (by decide +kernel), mm_has_mem (h := 4237) (by decide +kernel)⟩⟩
theorem sm_kd128 : sm_kd 128 := ⟨fun _ => mm_has_mem (h := 5000) (by decide +kernel), fun h => absurd h (by decide +kernel), fun h => absurd h (by decide +kernel)⟩
theorem sm_kd129 : sm_kd 129 := ⟨fun h => absurd h (by decide +kernel), fun h => absurd h (by decide +kernel), fun _ => ⟨mm_has_mem (h := 5003) (by decide +kernel), mm_has_mem (h := 5004) (by decide +kernel)⟩⟩
theorem sm_kd130 : sm_kd 130 := ⟨fun h => absurd h (by decide +kernel), fun h => absurd h (by decide +kernel), fun _ => ⟨mm_has_mem (h := 5008) (by decide +kernel), mm_has_mem (h := 22) (by decide +kernel)⟩⟩
theorem sm_kd131 : sm_kd 131 := ⟨fun _ => mm_has_mem (h := 5011) (by decide +kernel), fun h => absurd h (by decide +kernel), fun h => absurd h (by decide +kernel)⟩
theorem sm_kd132 : sm_kd 132 := ⟨fun h => absurd h (by decide +kernel), fun h => absurd h (by decide +kernel), fun _ => ⟨mm_has_mem (h := 5015) (by decide +kernel), mm_has_mem (h := 23) (by decide +kernel)⟩⟩
theorem sm_kd133 : sm_kd 133 := ⟨fun h => absurd h (by decide +kernel), fun h => absurd h (by decide +kernel), fun _ => ⟨mm_has_mem (h := 5019) (by decide +kernel), mm_has_mem (h := 24) (by decide +kernel)⟩⟩
theorem sm_kd134 : sm_kd 134 := ⟨fun h => absurd h (by decide +kernel), fun h => absurd h (by decide +kernel), fun _ => ⟨mm_has_mem (h := 5023) (by decide +kernel), mm_has_mem (h := 25) (by decide +kernel)⟩⟩
theorem sm_kd135 : sm_kd 135 := ⟨fun h => absurd h (by decide +kernel), fun h => absurd h (by decide +kernel), fun _ => ⟨mm_has_mem (h := 5027) (by decide +kernel), mm_has_mem (h := 26) (by decide +kernel)⟩⟩
theorem sm_kd136 : sm_kd 136 := ⟨fun h => absurd h (by decide +kernel), fun h => absurd h (by decide +kernel), fun _ => ⟨mm_has_mem (h := 5031) (by decide +kernel), mm_has_mem (h := 27) (by decide +kernel)⟩⟩
theorem sm_kd137 : sm_kd 137 := ⟨fun h => absurd h (by decide +kernel), fun h => absurd h (by decide +kernel), fun _ => ⟨mm_has_mem (h := 5035) (by decide +kernel), mm_has_mem (h := 5036) (by decide +kernel)⟩⟩
theorem sm_kd138 : sm_kd 138 := ⟨fun h => absurd h (by decide +kernel), fun h => absurd h (by decide +kernel), fun _ => ⟨mm_has_mem (h := 5040) (by decide +kernel), mm_has_mem (h := 28) (by decide +kernel)⟩⟩
theorem sm_kd139 : sm_kd 139 := ⟨fun h => absurd h (by decide +kernel), fun h => absurd h (by decide +kernel), fun _ => ⟨mm_has_mem (h := 5044) (by decide +kernel), mm_has_mem (h := 29) (by decide +kernel)⟩⟩
theorem sm_kd140 : sm_kd 140 := ⟨fun h => absurd h (by decide +kernel), fun h => absurd h (by decide +kernel), fun _ => ⟨mm_has_mem (h := 5048) (by decide +kernel), mm_has_mem (h := 30) (by decide +kernel)⟩⟩
theorem sm_kd141 : sm_kd 141 := ⟨fun h => absurd h (by decide +kernel), fun h => absurd h (by decide +kernel), fun _ => ⟨mm_has_mem (h := 5052) (by decide +kernel), mm_has_mem (h := 31) (by decide +kernel)⟩⟩
theorem sm_kd142 : sm_kd 142 := ⟨fun h => absurd h (by decide +kernel), fun h => absurd h (by decide +kernel), fun _ => ⟨mm_has_mem (h := 5057) (by decide +kernel), mm_has_mem (h := 32) (by decide +kernel)⟩⟩
theorem sm_kd143 : sm_kd 143 := ⟨fun h => absurd h (by decide +kernel), fun h => absurd h (by decide +kernel), fun _ => ⟨mm_has_mem (h := 5061) (by decide +kernel), mm_has_mem (h := 33) (by decide +kernel)⟩⟩
theorem sm_kd144 : sm_kd 144 := ⟨fun h => absurd h (by decide +kernel), fun h => absurd h (by decide +kernel), fun _ => ⟨mm_has_mem (h := 5065) (by decide +kernel), mm_has_mem (h := 34) (by decide +kernel)⟩⟩
theorem sm_kd145 : sm_kd 145 := ⟨fun h => absurd h (by decide +kernel), fun h => absurd h (by decide +kernel), fun _ => ⟨mm_has_mem (h := 5068) (by decide +kernel), mm_has_mem (h := 5069) (by decide +kernel)⟩⟩
theorem sm_kd146 : sm_kd 146 := ⟨fun h => absurd h (by decide +kernel), fun h => absurd h (by decide +kernel), fun _ => ⟨mm_has_mem (h := 5072) (by decide +kernel), mm_has_mem (h := 5073) (by decide +kernel)⟩⟩
theorem sm_kd147 : sm_kd 147 := ⟨fun _ => mm_has_mem (h := 5076) (by decide +kernel), fun h => absurd h (by decide +kernel), fun h => absurd h (by decide +kernel)⟩
theorem sm_kd148 : sm_kd 148 := ⟨fun h => absurd h (by decide +kernel), fun h => absurd h (by decide +kernel), fun _ => ⟨mm_has_mem (h := 5079) (by decide +kernel), mm_has_mem (h := 5080) (by decide +kernel)⟩⟩
theorem sm_kd149 : sm_kd 149 := ⟨fun h => absurd h (by decide +kernel), fun h => absurd h (by decide +kernel), fun _ => ⟨mm_has_mem (h := 5084) (by decide +kernel), mm_has_mem (h := 35) (by decide +kernel)⟩⟩
theorem sm_kd150 : sm_kd 150 := ⟨fun h => absurd h (by decide +kernel), fun h => absurd h (by decide +kernel), fun _ => ⟨mm_has_mem (h := 5088) (by decide +kernel), mm_has_mem (h := 36) (by decide +kernel)⟩⟩
theorem sm_kd151 : sm_kd 151 := ⟨fun h => absurd h (by decide +kernel), fun h => absurd h (by decide +kernel), fun _ => ⟨mm_has_mem (h := 5091) (by decide +kernel), mm_has_mem (h := 5092) (by decide +kernel)⟩⟩
theorem sm_kd152 : sm_kd 152 := ⟨fun h => absurd h (by decide +kernel), fun h => absurd h (by decide +kernel), fun _ => ⟨mm_has_mem (h := 5095) (by decide +kernel), mm_has_mem (h := 5096) (by decide +kernel)⟩⟩
theorem sm_kd153 : sm_kd 153 := ⟨fun h => absurd h (by decide +kernel), fun h => absurd h (by decide +kernel), fun _ => ⟨mm_has_mem (h := 5099) (by decide +kernel), mm_has_mem (h := 5100) (by decide +kernel)⟩⟩
theorem sm_kd154 : sm_kd 154 := ⟨fun h => absurd h (by decide +kernel), fun h => absurd h (by decide +kernel), fun _ => ⟨mm_has_mem (h := 5103) (by decide +kernel), mm_has_mem (h := 5104) (by decide +kernel)⟩⟩
theorem sm_kd155 : sm_kd 155 := ⟨fun h => absurd h (by decide +kernel), fun h => absurd h (by decide +kernel), fun _ => ⟨mm_has_mem (h := 5108) (by decide +kernel), mm_has_mem (h := 37) (by decide +kernel)⟩⟩
theorem sm_kd156 : sm_kd 156 := ⟨fun h => absurd h (by decide +kernel), fun h => absurd h (by decide +kernel), fun _ => ⟨mm_has_mem (h := 5113) (by decide +kernel), mm_has_mem (h := 38) (by decide +kernel)⟩⟩
theorem sm_kd157 : sm_kd 157 := ⟨fun h => absurd h (by decide +kernel), fun h => absurd h (by decide +kernel), fun _ => ⟨mm_has_mem (h := 5119) (by decide +kernel), mm_has_mem (h := 39) (by decide +kernel)⟩⟩
theorem sm_kd158 : sm_kd 158 := ⟨fun h => absurd h (by decide +kernel), fun h => absurd h (by decide +kernel), fun _ => ⟨mm_has_mem (h := 5125) (by decide +kernel), mm_has_mem (h := 40) (by decide +kernel)⟩⟩
theorem sm_kd159 : sm_kd 159 := ⟨fun h => absurd h (by decide +kernel), fun h => absurd h (by decide +kernel), fun _ => ⟨mm_has_mem (h := 5129) (by decide +kernel), mm_has_mem (h := 41) (by decide +kernel)⟩⟩
theorem sm_kd160 : sm_kd 160 := ⟨fun h => absurd h (by decide +kernel), fun h => absurd h (by decide +kernel), fun _ => ⟨mm_has_mem (h := 5133) (by decide +kernel), mm_has_mem (h := 42) (by decide +kernel)⟩⟩
theorem sm_kd161 : sm_kd 161 := ⟨fun h => absurd h (by decide +kernel), fun h => absurd h (by decide +kernel), fun _ => ⟨mm_has_mem (h := 5137) (by decide +kernel), mm_has_mem (h := 43) (by decide +kernel)⟩⟩
theorem sm_kd162 : sm_kd 162 := ⟨fun h => absurd h (by decide +kernel), fun h => absurd h (by decide +kernel), fun _ => ⟨mm_has_mem (h := 5141) (by decide +kernel), mm_has_mem (h := 44) (by decide +kernel)⟩⟩
theorem sm_kd163 : sm_kd 163 := ⟨fun h => absurd h (by decide +kernel), fun h => absurd h (by decide +kernel), fun _ => ⟨mm_has_mem (h := 5145) (by decide +kernel), mm_has_mem (h := 45) (by decide +kernel)⟩⟩
theorem sm_kd164 : sm_kd 164 := ⟨fun h => absurd h (by decide +kernel), fun h => absurd h (by decide +kernel), fun _ => ⟨mm_has_mem (h := 5149) (by decide +kernel), mm_has_mem (h := 46) (by decide +kernel)⟩⟩
theorem sm_kd165 : sm_kd 165 := ⟨fun h => absurd h (by decide +kernel), fun h => absurd h (by decide +kernel), fun _ => ⟨mm_has_mem (h := 5153) (by decide +kernel), mm_has_mem (h := 47) (by decide +kernel)⟩⟩
theorem sm_kd166 : sm_kd 166 := ⟨fun h => absurd h (by decide +kernel), fun h => absurd h (by decide +kernel), fun _ => ⟨mm_has_mem (h := 5159) (by decide +kernel), mm_has_mem (h := 5160) (by decide +kernel)⟩⟩
theorem sm_kd167 : sm_kd 167 := ⟨fun h => absurd h (by decide +kernel), fun h => absurd h (by decide +kernel), fun _ => ⟨mm_has_mem (h := 5164) (by decide +kernel), mm_has_mem (h := 48) (by decide +kernel)⟩⟩
theorem sm_kd168 : sm_kd 168 := ⟨fun h => absurd h (by decide +kernel), fun h => absurd h (by decide +kernel), fun _ => ⟨mm_has_mem (h := 5168) (by decide +kernel), mm_has_mem (h := 49) (by decide +kernel)⟩⟩
theorem sm_kd169 : sm_kd 169 := ⟨fun h => absurd h (by decide +kernel), fun h => absurd h (by decide +kernel), fun _ => ⟨mm_has_mem (h := 5172) (by decide +kernel), mm_has_mem (h := 50) (by decide +kernel)⟩⟩
theorem sm_kd170 : sm_kd 170 := ⟨fun h => absurd h (by decide +kernel), fun h => absurd h (by decide +kernel), fun _ => ⟨mm_has_mem (h := 5176) (by decide +kernel), mm_has_mem (h := 51) (by decide +kernel)⟩⟩
theorem sm_kd171 : sm_kd 171 := ⟨fun h => absurd h (by decide +kernel), fun h => absurd h (by decide +kernel), fun _ => ⟨mm_has_mem (h := 5179) (by decide +kernel), mm_has_mem (h := 5180) (by decide +kernel)⟩⟩
theorem sm_kd172 : sm_kd 172 := ⟨fun h => absurd h (by decide +kernel), fun h => absurd h (by decide +kernel), fun _ => ⟨mm_has_mem (h := 5183) (by decide +kernel), mm_has_mem (h := 5184) (by decide +kernel)⟩⟩
theorem sm_kd173 : sm_kd 173 := ⟨fun h => absurd h (by decide +kernel), fun h => absurd h (by decide +kernel), fun _ => ⟨mm_has_mem (h := 5187) (by decide +kernel), mm_has_mem (h := 5188) (by decide +kernel)⟩⟩
theorem sm_kd174 : sm_kd 174 := ⟨fun h => absurd h (by decide +kernel), fun h => absurd h (by decide +kernel), fun _ => ⟨mm_has_mem (h := 5192) (by decide +kernel), mm_has_mem (h := 5193) (by decide +kernel)⟩⟩
theorem sm_kd175 : sm_kd 175 := ⟨fun h => absurd h (by decide +kernel), fun h => absurd h (by decide +kernel), fun _ => ⟨mm_has_mem (h := 5197) (by decide +kernel), mm_has_mem (h := 5198) (by decide +kernel)⟩⟩
theorem sm_kd176 : sm_kd 176 := ⟨fun h => absurd h (by decide +kernel), fun h => absurd h (by decide +kernel), fun _ => ⟨mm_has_mem (h := 5201) (by decide +kernel), mm_has_mem (h := 5202) (by decide +kernel)⟩⟩
theorem sm_kd177 : sm_kd 177 := ⟨fun h => absurd h (by decide +kernel), fun h => absurd h (by decide +kernel), fun _ => ⟨mm_has_mem (h := 5205) (by decide +kernel), mm_has_mem (h := 5206) (by decide +kernel)⟩⟩
theorem sm_kd178 : sm_kd 178 := ⟨fun _ => mm_has_mem (h := 5211) (by decide +kernel), fun h => absurd h (by decide +kernel), fun h => absurd h (by decide +kernel)⟩
theorem sm_kd179 : sm_kd 179 := ⟨fun h => absurd h (by decide +kernel), fun h => absurd h (by decide +kernel), fun _ => ⟨mm_has_mem (h := 5217) (by decide +kernel), mm_has_mem (h := 5218) (by decide +kernel)⟩⟩
theorem sm_kd180 : sm_kd 180 := ⟨fun h => absurd h (by decide +kernel), fun h => absurd h (by decide +kernel), fun _ => ⟨mm_has_mem (h := 5222) (by decide +kernel), mm_has_mem (h := 5223) (by decide +kernel)⟩⟩
theorem sm_kd181 : sm_kd 181 := ⟨fun h => absurd h (by decide +kernel), fun h => absurd h (by decide +kernel), fun _ => ⟨mm_has_mem (h := 5226) (by decide +kernel), mm_has_mem (h := 5227) (by decide +kernel)⟩⟩
theorem sm_kd182 : sm_kd 182 := ⟨fun h => absurd h (by decide +kernel), fun h => absurd h (by decide +kernel), fun _ => ⟨mm_has_mem (h := 5231) (by decide +kernel), mm_has_mem (h := 52) (by decide +kernel)⟩⟩
theorem sm_kd183 : sm_kd 183 := ⟨fun h => absurd h (by decide +kernel), fun h => absurd h (by decide +kernel), fun _ => ⟨mm_has_mem (h := 5234) (by decide +kernel), mm_has_mem (h := 5235) (by decide +kernel)⟩⟩
theorem sm_kd184 : sm_kd 184 := ⟨fun h => absurd h (by decide +kernel), fun h => absurd h (by decide +kernel), fun _ => ⟨mm_has_mem (h := 5238) (by decide +kernel), mm_has_mem (h := 5239) (by decide +kernel)⟩⟩
theorem sm_kd185 : sm_kd 185 := ⟨fun h => absurd h (by decide +kernel), fun h => absurd h (by decide +kernel), fun _ => ⟨mm_has_mem (h := 6002) (by decide +kernel), mm_has_mem (h := 6003) (by decide +kernel)⟩⟩
theorem sm_kd186 : sm_kd 186 := ⟨fun h => absurd h (by decide +kernel), fun h => absurd h (by decide +kernel), fun _ => ⟨mm_has_mem (h := 6006) (by decide +kernel), mm_has_mem (h := 6007) (by decide +kernel)⟩⟩
theorem sm_kd187 : sm_kd 187 := ⟨fun h => absurd h (by decide +kernel), fun h => absurd h (by decide +kernel), fun _ => ⟨mm_has_mem (h := 6010) (by decide +kernel), mm_has_mem (h := 6011) (by decide +kernel)⟩⟩
theorem sm_kd188 : sm_kd 188 := ⟨fun h => absurd h (by decide +kernel), fun h => absurd h (by decide +kernel), fun _ => ⟨mm_has_mem (h := 6014) (by decide +kernel), mm_has_mem (h := 6015) (by decide +kernel)⟩⟩
theorem sm_kd189 : sm_kd 189 := ⟨fun h => absurd h (by decide +kernel), fun h => absurd h (by decide +kernel), fun _ => ⟨mm_has_mem (h := 6019) (by decide +kernel), mm_has_mem (h := 53) (by decide +kernel)⟩⟩
theorem sm_kd190 : sm_kd 190 := ⟨fun h => absurd h (by decide +kernel), fun h => absurd h (by decide +kernel), fun _ => ⟨mm_has_mem (h := 6023) (by decide +kernel), mm_has_mem (h := 54) (by decide +kernel)⟩⟩
theorem sm_kd191 : sm_kd 191 := ⟨fun _ => mm_has_mem (h := 6026) (by decide +kernel), fun h => absurd h (by decide +kernel), fun h => absurd h (by decide +kernel)⟩
theorem sm_kd192 : sm_kd 192 := ⟨fun h => absurd h (by decide +kernel), fun h => absurd h (by decide +kernel), fun _ => ⟨mm_has_mem (h := 6030) (by decide +kernel), mm_has_mem (h := 55) (by decide +kernel)⟩⟩
theorem sm_kd193 : sm_kd 193 := ⟨fun h => absurd h (by decide +kernel), fun h => absurd h (by decide +kernel), fun _ => ⟨mm_has_mem (h := 6034) (by decide +kernel), mm_has_mem (h := 56) (by decide +kernel)⟩⟩
theorem sm_kd194 : sm_kd 194 := ⟨fun h => absurd h (by decide +kernel), fun h => absurd h (by decide +kernel), fun _ => ⟨mm_has_mem (h := 6037) (by decide +kernel), mm_has_mem (h := 6038) (by decide +kernel)⟩⟩
theorem sm_kd195 : sm_kd 195 := ⟨fun h => absurd h (by decide +kernel), fun h => absurd h (by decide +kernel), fun _ => ⟨mm_has_mem (h := 6041) (by decide +kernel), mm_has_mem (h := 6042) (by decide +kernel)⟩⟩
theorem sm_kd196 : sm_kd 196 := ⟨fun h => absurd h (by decide +kernel), fun h => absurd h (by decide +kernel), fun _ => ⟨mm_has_mem (h := 6045) (by decide +kernel), mm_has_mem (h := 6046) (by decide +kernel)⟩⟩
theorem sm_kd197 : sm_kd 197 := ⟨fun h => absurd h (by decide +kernel), fun h => absurd h (by decide +kernel), fun _ => ⟨mm_has_mem (h := 6049) (by decide +kernel), mm_has_mem (h := 6050) (by decide +kernel)⟩⟩
theorem sm_kd198 : sm_kd 198 := ⟨fun _ => mm_has_mem (h := 6053) (by decide +kernel), fun h => absurd h (by decide +kernel), fun h => absurd h (by decide +kernel)⟩
theorem sm_kd199 : sm_kd 199 := ⟨fun h => absurd h (by decide +kernel), fun h => absurd h (by decide +kernel), fun _ => ⟨mm_has_mem (h := 6056) (by decide +kernel), mm_has_mem (h := 6057) (by decide +kernel)⟩⟩
theorem sm_kd200 : sm_kd 200 := ⟨fun _ => mm_has_mem (h := 6060) (by decide +kernel), fun h => absurd h (by decide +kernel), fun h => absurd h (by decide +kernel)⟩
theorem sm_kd201 : sm_kd 201 := ⟨fun h => absurd h (by decide +kernel), fun h => absurd h (by decide +kernel), fun _ => ⟨mm_has_mem (h := 6063) (by decide +kernel), mm_has_mem (h := 6064) (by decide +kernel)⟩⟩
theorem sm_kd202 : sm_kd 202 := ⟨fun h => absurd h (by decide +kernel), fun h => absurd h (by decide +kernel), fun _ => ⟨mm_has_mem (h := 6067) (by decide +kernel), mm_has_mem (h := 6068) (by decide +kernel)⟩⟩
theorem sm_kda : ∀ y, y < 203 → (y < 2 ∨ 4 < y) → sm_kd y := by
  intro y h1 h2
  match y, h1, h2 with
  | 0, _, _ => exact sm_kd0
  | 1, _, _ => exact sm_kd1
  | 2, _, h => exact absurd h (by decide)
  | 3, _, h => exact absurd h (by decide)
  | 4, _, h => exact absurd h (by decide)
  | 5, _, _ => exact sm_kd5
  | 6, _, _ => exact sm_kd6
  | 7, _, _ => exact sm_kd7
  | 8, _, _ => exact sm_kd8
  | 9, _, _ => exact sm_kd9
  | 10, _, _ => exact sm_kd10
  | 11, _, _ => exact sm_kd11
  | 12, _, _ => exact sm_kd12
  | 13, _, _ => exact sm_kd13
  | 14, _, _ => exact sm_kd14
  | 15, _, _ => exact sm_kd15
  | 16, _, _ => exact sm_kd16
  | 17, _, _ => exact sm_kd17
  | 18, _, _ => exact sm_kd18
  | 19, _, _ => exact sm_kd19
  | 20, _, _ => exact sm_kd20
  | 21, _, _ => exact sm_kd21
  | 22, _, _ => exact sm_kd22
  | 23, _, _ => exact sm_kd23
  | 24, _, _ => exact sm_kd24
  | 25, _, _ => exact sm_kd25
  | 26, _, _ => exact sm_kd26
  | 27, _, _ => exact sm_kd27
  | 28, _, _ => exact sm_kd28
  | 29, _, _ => exact sm_kd29
  | 30, _, _ => exact sm_kd30
  | 31, _, _ => exact sm_kd31
  | 32, _, _ => exact sm_kd32
  | 33, _, _ => exact sm_kd33
  | 34, _, _ => exact sm_kd34
  | 35, _, _ => exact sm_kd35
  | 36, _, _ => exact sm_kd36
  | 37, _, _ => exact sm_kd37
  | 38, _, _ => exact sm_kd38
  | 39, _, _ => exact sm_kd39
  | 40, _, _ => exact sm_kd40
  | 41, _, _ => exact sm_kd41
  | 42, _, _ => exact sm_kd42
  | 43, _, _ => exact sm_kd43
  | 44, _, _ => exact sm_kd44
  | 45, _, _ => exact sm_kd45
  | 46, _, _ => exact sm_kd46
  | 47, _, _ => exact sm_kd47
  | 48, _, _ => exact sm_kd48
  | 49, _, _ => exact sm_kd49
  | 50, _, _ => exact sm_kd50
  | 51, _, _ => exact sm_kd51
  | 52, _, _ => exact sm_kd52
  | 53, _, _ => exact sm_kd53
  | 54, _, _ => exact sm_kd54
  | 55, _, _ => exact sm_kd55
  | 56, _, _ => exact sm_kd56
  | 57, _, _ => exact sm_kd57
  | 58, _, _ => exact sm_kd58
  | 59, _, _ => exact sm_kd59
  | 60, _, _ => exact sm_kd60
  | 61, _, _ => exact sm_kd61
  | 62, _, _ => exact sm_kd62
  | 63, _, _ => exact sm_kd63
  | 64, _, _ => exact sm_kd64
  | 65, _, _ => exact sm_kd65
  | 66, _, _ => exact sm_kd66
  | 67, _, _ => exact sm_kd67
  | 68, _, _ => exact sm_kd68
  | 69, _, _ => exact sm_kd69
  | 70, _, _ => exact sm_kd70
  | 71, _, _ => exact sm_kd71
  | 72, _, _ => exact sm_kd72
  | 73, _, _ => exact sm_kd73
  | 74, _, _ => exact sm_kd74
  | 75, _, _ => exact sm_kd75
  | 76, _, _ => exact sm_kd76
  | 77, _, _ => exact sm_kd77
  | 78, _, _ => exact sm_kd78
  | 79, _, _ => exact sm_kd79
  | 80, _, _ => exact sm_kd80
  | 81, _, _ => exact sm_kd81
  | 82, _, _ => exact sm_kd82
  | 83, _, _ => exact sm_kd83
  | 84, _, _ => exact sm_kd84
  | 85, _, _ => exact sm_kd85
  | 86, _, _ => exact sm_kd86
  | 87, _, _ => exact sm_kd87
  | 88, _, _ => exact sm_kd88
  | 89, _, _ => exact sm_kd89
  | 90, _, _ => exact sm_kd90
  | 91, _, _ => exact sm_kd91
  | 92, _, _ => exact sm_kd92
  | 93, _, _ => exact sm_kd93
  | 94, _, _ => exact sm_kd94
  | 95, _, _ => exact sm_kd95
  | 96, _, _ => exact sm_kd96
  | 97, _, _ => exact sm_kd97
  | 98, _, _ => exact sm_kd98
  | 99, _, _ => exact sm_kd99
  | 100, _, _ => exact sm_kd100
  | 101, _, _ => exact sm_kd101
  | 102, _, _ => exact sm_kd102
  | 103, _, _ => exact sm_kd103
  | 104, _, _ => exact sm_kd104
  | 105, _, _ => exact sm_kd105
  | 106, _, _ => exact sm_kd106
  | 107, _, _ => exact sm_kd107
  | 108, _, _ => exact sm_kd108
  | 109, _, _ => exact sm_kd109
  | 110, _, _ => exact sm_kd110
  | 111, _, _ => exact sm_kd111
  | 112, _, _ => exact sm_kd112
  | 113, _, _ => exact sm_kd113
  | 114, _, _ => exact sm_kd114
  | 115, _, _ => exact sm_kd115
  | 116, _, _ => exact sm_kd116
  | 117, _, _ => exact sm_kd117
  | 118, _, _ => exact sm_kd118
  | 119, _, _ => exact sm_kd119
  | 120, _, _ => exact sm_kd120
  | 121, _, _ => exact sm_kd121
  | 122, _, _ => exact sm_kd122
  | 123, _, _ => exact sm_kd123
  | 124, _, _ => exact sm_kd124
  | 125, _, _ => exact sm_kd125
  | 126, _, _ => exact sm_kd126
  | 127, _, _ => exact sm_kd127
  | 128, _, _ => exact sm_kd128
  | 129, _, _ => exact sm_kd129
  | 130, _, _ => exact sm_kd130
  | 131, _, _ => exact sm_kd131
  | 132, _, _ => exact sm_kd132
  | 133, _, _ => exact sm_kd133
  | 134, _, _ => exact sm_kd134
  | 135, _, _ => exact sm_kd135
  | 136, _, _ => exact sm_kd136
  | 137, _, _ => exact sm_kd137
  | 138, _, _ => exact sm_kd138
  | 139, _, _ => exact sm_kd139
  | 140, _, _ => exact sm_kd140
  | 141, _, _ => exact sm_kd141
  | 142, _, _ => exact sm_kd142
  | 143, _, _ => exact sm_kd143
  | 144, _, _ => exact sm_kd144
  | 145, _, _ => exact sm_kd145
  | 146, _, _ => exact sm_kd146
  | 147, _, _ => exact sm_kd147
  | 148, _, _ => exact sm_kd148
  | 149, _, _ => exact sm_kd149
  | 150, _, _ => exact sm_kd150
  | 151, _, _ => exact sm_kd151
  | 152, _, _ => exact sm_kd152
  | 153, _, _ => exact sm_kd153
  | 154, _, _ => exact sm_kd154
  | 155, _, _ => exact sm_kd155
  | 156, _, _ => exact sm_kd156
  | 157, _, _ => exact sm_kd157
  | 158, _, _ => exact sm_kd158
  | 159, _, _ => exact sm_kd159
  | 160, _, _ => exact sm_kd160
  | 161, _, _ => exact sm_kd161
  | 162, _, _ => exact sm_kd162
  | 163, _, _ => exact sm_kd163
  | 164, _, _ => exact sm_kd164
  | 165, _, _ => exact sm_kd165
  | 166, _, _ => exact sm_kd166
  | 167, _, _ => exact sm_kd167
  | 168, _, _ => exact sm_kd168
  | 169, _, _ => exact sm_kd169
  | 170, _, _ => exact sm_kd170
  | 171, _, _ => exact sm_kd171
  | 172, _, _ => exact sm_kd172
  | 173, _, _ => exact sm_kd173
  | 174, _, _ => exact sm_kd174
  | 175, _, _ => exact sm_kd175
  | 176, _, _ => exact sm_kd176
  | 177, _, _ => exact sm_kd177
  | 178, _, _ => exact sm_kd178
  | 179, _, _ => exact sm_kd179
  | 180, _, _ => exact sm_kd180
  | 181, _, _ => exact sm_kd181
  | 182, _, _ => exact sm_kd182
  | 183, _, _ => exact sm_kd183
  | 184, _, _ => exact sm_kd184
  | 185, _, _ => exact sm_kd185
  | 186, _, _ => exact sm_kd186
  | 187, _, _ => exact sm_kd187
  | 188, _, _ => exact sm_kd188
  | 189, _, _ => exact sm_kd189
  | 190, _, _ => exact sm_kd190
  | 191, _, _ => exact sm_kd191
  | 192, _, _ => exact sm_kd192
  | 193, _, _ => exact sm_kd193
  | 194, _, _ => exact sm_kd194
  | 195, _, _ => exact sm_kd195
  | 196, _, _ => exact sm_kd196
  | 197, _, _ => exact sm_kd197
  | 198, _, _ => exact sm_kd198
  | 199, _, _ => exact sm_kd199
  | 200, _, _ => exact sm_kd200
  | 201, _, _ => exact sm_kd201
  | 202, _, _ => exact sm_kd202
  | y + 203, h, _ => exact absurd h (by omega)
