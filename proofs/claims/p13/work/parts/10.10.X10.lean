def kX10 (σ : pzS) (i : Nat) : pzS :=
  let S1 := pz_new σ (9, 0)
  let S2 := kX6 S1 (σ.1)
  let S3 := pz_pR S2 i 0 (σ.1)
  let S4 := pz_new S3 (12, 0)
  let S5 := kX9 S4 (S3.1) (σ.1)
  let S6 := pz_pR S5 i 1 (S3.1)
  let S7 := pz_new S6 (8, 0)
  let S8 := kX5 S7 (S6.1) (σ.1) (S3.1)
  let S9 := pz_pR S8 i 2 (S6.1)
  let S10 := pz_new S9 (7, 0)
  let S11 := kX4 S10 (S9.1) (σ.1) (S6.1)
  let S12 := pz_pR S11 i 3 (S9.1)
  S12
set_option maxHeartbeats 4000000 in
set_option maxRecDepth 100000 in
theorem kX10_n (σ : pzS) (i : Nat) : (kX10 σ i).1 = σ.1 + 44 := by
  unfold kX10
  simp only [pz_pR, pz_new, kX1_n, kX2_n, kX8_n, kX7_n, kX3_n, kX9_n, kX6_n, kX5_n, kX4_n]
set_option maxHeartbeats 4000000 in
set_option maxRecDepth 100000 in
theorem kX10_wf {σ : pzS} {i : Nat} (wf : pz_wf σ) (hi : i < σ.1) : pz_wf (kX10 σ i) := by
  obtain ⟨S1, hS1⟩ : ∃ z : pzS, z = pz_new σ (9, 0) := ⟨_, rfl⟩
  have nS1 : S1.1 = σ.1 + 1 := pz_n1 (Nat.add_zero σ.1).symm hS1
  have wS1 : pz_wf S1 := by rw [hS1]; exact pz_wf_new wf
  obtain ⟨S2, hS2⟩ : ∃ z : pzS, z = kX6 S1 (σ.1) := ⟨_, rfl⟩
  have nS2 : S2.1 = σ.1 + 12 := by rw [hS2, kX6_n, nS1]
  have wS2 : pz_wf S2 := by rw [hS2]; exact kX6_wf wS1 (pz_lt2 nS1 (Nat.add_zero σ.1).symm rfl)
  obtain ⟨S3, hS3⟩ : ∃ z : pzS, z = pz_pR S2 i 0 (σ.1) := ⟨_, rfl⟩
  have nS3 : S3.1 = σ.1 + 12 := by rw [hS3]; exact nS2
  have wS3 : pz_wf S3 := by rw [hS3]; exact pz_wf_put wS2 (pz_lt2 nS2 (Nat.add_zero σ.1).symm rfl)
  obtain ⟨S4, hS4⟩ : ∃ z : pzS, z = pz_new S3 (12, 0) := ⟨_, rfl⟩
  have nS4 : S4.1 = σ.1 + 13 := pz_n1 nS3 hS4
  have wS4 : pz_wf S4 := by rw [hS4]; exact pz_wf_new wS3
  obtain ⟨S5, hS5⟩ : ∃ z : pzS, z = kX9 S4 (S3.1) (σ.1) := ⟨_, rfl⟩
  have nS5 : S5.1 = σ.1 + 15 := by rw [hS5, kX9_n, nS4]
  have wS5 : pz_wf S5 := by rw [hS5]; exact kX9_wf wS4 (pz_lt2 nS4 nS3 rfl) (pz_lt2 nS4 (Nat.add_zero σ.1).symm rfl)
  obtain ⟨S6, hS6⟩ : ∃ z : pzS, z = pz_pR S5 i 1 (S3.1) := ⟨_, rfl⟩
  have nS6 : S6.1 = σ.1 + 15 := by rw [hS6]; exact nS5
  have wS6 : pz_wf S6 := by rw [hS6]; exact pz_wf_put wS5 (pz_lt2 nS5 nS3 rfl)
  obtain ⟨S7, hS7⟩ : ∃ z : pzS, z = pz_new S6 (8, 0) := ⟨_, rfl⟩
  have nS7 : S7.1 = σ.1 + 16 := pz_n1 nS6 hS7
  have wS7 : pz_wf S7 := by rw [hS7]; exact pz_wf_new wS6
  obtain ⟨S8, hS8⟩ : ∃ z : pzS, z = kX5 S7 (S6.1) (σ.1) (S3.1) := ⟨_, rfl⟩
  have nS8 : S8.1 = σ.1 + 27 := by rw [hS8, kX5_n, nS7]
  have wS8 : pz_wf S8 := by rw [hS8]; exact kX5_wf wS7 (pz_lt2 nS7 nS6 rfl) (pz_lt2 nS7 (Nat.add_zero σ.1).symm rfl) (pz_lt2 nS7 nS3 rfl)
  obtain ⟨S9, hS9⟩ : ∃ z : pzS, z = pz_pR S8 i 2 (S6.1) := ⟨_, rfl⟩
  have nS9 : S9.1 = σ.1 + 27 := by rw [hS9]; exact nS8
  have wS9 : pz_wf S9 := by rw [hS9]; exact pz_wf_put wS8 (pz_lt2 nS8 nS6 rfl)
  obtain ⟨S10, hS10⟩ : ∃ z : pzS, z = pz_new S9 (7, 0) := ⟨_, rfl⟩
  have nS10 : S10.1 = σ.1 + 28 := pz_n1 nS9 hS10
  have wS10 : pz_wf S10 := by rw [hS10]; exact pz_wf_new wS9
  obtain ⟨S11, hS11⟩ : ∃ z : pzS, z = kX4 S10 (S9.1) (σ.1) (S6.1) := ⟨_, rfl⟩
  have nS11 : S11.1 = σ.1 + 44 := by rw [hS11, kX4_n, nS10]
  have wS11 : pz_wf S11 := by rw [hS11]; exact kX4_wf wS10 (pz_lt2 nS10 nS9 rfl) (pz_lt2 nS10 (Nat.add_zero σ.1).symm rfl) (pz_lt2 nS10 nS6 rfl)
  obtain ⟨S12, hS12⟩ : ∃ z : pzS, z = pz_pR S11 i 3 (S9.1) := ⟨_, rfl⟩
  have nS12 : S12.1 = σ.1 + 44 := by rw [hS12]; exact nS11
  have wS12 : pz_wf S12 := by rw [hS12]; exact pz_wf_put wS11 (pz_lt2 nS11 nS9 rfl)
  have e9 : kX10 σ i = S12 := by rw [hS12, hS11, hS10, hS9, hS8, hS7, hS6, hS5, hS4, hS3, hS2, hS1]; rfl
  rw [e9]; exact wS12
set_option maxHeartbeats 4000000 in
set_option maxRecDepth 100000 in
theorem kX10_K {σ : pzS} {j : Nat} {i : Nat} (hj0 : j < σ.1) : (kX10 σ i).2.1 j = σ.2.1 j := by
  obtain ⟨S1, hS1⟩ : ∃ z : pzS, z = pz_new σ (9, 0) := ⟨_, rfl⟩
  have nS1 : S1.1 = σ.1 + 1 := pz_n1 (Nat.add_zero σ.1).symm hS1
  have wS1 : S1.2.1 j = σ.2.1 j := by rw [hS1, pz_new_K hj0] <;> exact rfl
  obtain ⟨S2, hS2⟩ : ∃ z : pzS, z = kX6 S1 (σ.1) := ⟨_, rfl⟩
  have nS2 : S2.1 = σ.1 + 12 := by rw [hS2, kX6_n, nS1]
  have wS2 : S2.2.1 j = σ.2.1 j := by rw [hS2, kX6_K (pz_lt0 nS1 hj0)]; exact wS1
  obtain ⟨S3, hS3⟩ : ∃ z : pzS, z = pz_pR S2 i 0 (σ.1) := ⟨_, rfl⟩
  have nS3 : S3.1 = σ.1 + 12 := by rw [hS3]; exact nS2
  have wS3 : S3.2.1 j = σ.2.1 j := by rw [hS3]; exact wS2
  obtain ⟨S4, hS4⟩ : ∃ z : pzS, z = pz_new S3 (12, 0) := ⟨_, rfl⟩
  have nS4 : S4.1 = σ.1 + 13 := pz_n1 nS3 hS4
  have wS4 : S4.2.1 j = σ.2.1 j := by rw [hS4, pz_new_K (pz_lt0 nS3 hj0)] <;> exact wS3
  obtain ⟨S5, hS5⟩ : ∃ z : pzS, z = kX9 S4 (S3.1) (σ.1) := ⟨_, rfl⟩
  have nS5 : S5.1 = σ.1 + 15 := by rw [hS5, kX9_n, nS4]
  have wS5 : S5.2.1 j = σ.2.1 j := by rw [hS5, kX9_K (pz_lt0 nS4 hj0)]; exact wS4
  obtain ⟨S6, hS6⟩ : ∃ z : pzS, z = pz_pR S5 i 1 (S3.1) := ⟨_, rfl⟩
  have nS6 : S6.1 = σ.1 + 15 := by rw [hS6]; exact nS5
  have wS6 : S6.2.1 j = σ.2.1 j := by rw [hS6]; exact wS5
  obtain ⟨S7, hS7⟩ : ∃ z : pzS, z = pz_new S6 (8, 0) := ⟨_, rfl⟩
  have nS7 : S7.1 = σ.1 + 16 := pz_n1 nS6 hS7
  have wS7 : S7.2.1 j = σ.2.1 j := by rw [hS7, pz_new_K (pz_lt0 nS6 hj0)] <;> exact wS6
  obtain ⟨S8, hS8⟩ : ∃ z : pzS, z = kX5 S7 (S6.1) (σ.1) (S3.1) := ⟨_, rfl⟩
  have nS8 : S8.1 = σ.1 + 27 := by rw [hS8, kX5_n, nS7]
  have wS8 : S8.2.1 j = σ.2.1 j := by rw [hS8, kX5_K (pz_lt0 nS7 hj0)]; exact wS7
  obtain ⟨S9, hS9⟩ : ∃ z : pzS, z = pz_pR S8 i 2 (S6.1) := ⟨_, rfl⟩
  have nS9 : S9.1 = σ.1 + 27 := by rw [hS9]; exact nS8
  have wS9 : S9.2.1 j = σ.2.1 j := by rw [hS9]; exact wS8
  obtain ⟨S10, hS10⟩ : ∃ z : pzS, z = pz_new S9 (7, 0) := ⟨_, rfl⟩
  have nS10 : S10.1 = σ.1 + 28 := pz_n1 nS9 hS10
  have wS10 : S10.2.1 j = σ.2.1 j := by rw [hS10, pz_new_K (pz_lt0 nS9 hj0)] <;> exact wS9
  obtain ⟨S11, hS11⟩ : ∃ z : pzS, z = kX4 S10 (S9.1) (σ.1) (S6.1) := ⟨_, rfl⟩
  have nS11 : S11.1 = σ.1 + 44 := by rw [hS11, kX4_n, nS10]
  have wS11 : S11.2.1 j = σ.2.1 j := by rw [hS11, kX4_K (pz_lt0 nS10 hj0)]; exact wS10
  obtain ⟨S12, hS12⟩ : ∃ z : pzS, z = pz_pR S11 i 3 (S9.1) := ⟨_, rfl⟩
  have nS12 : S12.1 = σ.1 + 44 := by rw [hS12]; exact nS11
  have wS12 : S12.2.1 j = σ.2.1 j := by rw [hS12]; exact wS11
  have e9 : kX10 σ i = S12 := by rw [hS12, hS11, hS10, hS9, hS8, hS7, hS6, hS5, hS4, hS3, hS2, hS1]; rfl
  rw [e9]; exact wS12
set_option maxHeartbeats 4000000 in
set_option maxRecDepth 100000 in
theorem kX10_R {σ : pzS} {j : Nat} {i : Nat} (hj0 : j < σ.1) (hj : j ≠ i) : (kX10 σ i).2.2 j = σ.2.2 j := by
  obtain ⟨S1, hS1⟩ : ∃ z : pzS, z = pz_new σ (9, 0) := ⟨_, rfl⟩
  have nS1 : S1.1 = σ.1 + 1 := pz_n1 (Nat.add_zero σ.1).symm hS1
  have wS1 : S1.2.2 j = σ.2.2 j := by rw [hS1, pz_new_R hj0] <;> exact rfl
  obtain ⟨S2, hS2⟩ : ∃ z : pzS, z = kX6 S1 (σ.1) := ⟨_, rfl⟩
  have nS2 : S2.1 = σ.1 + 12 := by rw [hS2, kX6_n, nS1]
  have wS2 : S2.2.2 j = σ.2.2 j := by rw [hS2, kX6_R (pz_lt0 nS1 hj0) (pz_ne0 hj0 (Nat.add_zero σ.1).symm)]; exact wS1
  obtain ⟨S3, hS3⟩ : ∃ z : pzS, z = pz_pR S2 i 0 (σ.1) := ⟨_, rfl⟩
  have nS3 : S3.1 = σ.1 + 12 := by rw [hS3]; exact nS2
  have wS3 : S3.2.2 j = σ.2.2 j := by rw [hS3]; exact (pz_u_off _ _ _ hj).trans wS2
  obtain ⟨S4, hS4⟩ : ∃ z : pzS, z = pz_new S3 (12, 0) := ⟨_, rfl⟩
  have nS4 : S4.1 = σ.1 + 13 := pz_n1 nS3 hS4
  have wS4 : S4.2.2 j = σ.2.2 j := by rw [hS4, pz_new_R (pz_lt0 nS3 hj0)] <;> exact wS3
  obtain ⟨S5, hS5⟩ : ∃ z : pzS, z = kX9 S4 (S3.1) (σ.1) := ⟨_, rfl⟩
  have nS5 : S5.1 = σ.1 + 15 := by rw [hS5, kX9_n, nS4]
  have wS5 : S5.2.2 j = σ.2.2 j := by rw [hS5, kX9_R (pz_lt0 nS4 hj0) (pz_ne0 hj0 nS3)]; exact wS4
  obtain ⟨S6, hS6⟩ : ∃ z : pzS, z = pz_pR S5 i 1 (S3.1) := ⟨_, rfl⟩
  have nS6 : S6.1 = σ.1 + 15 := by rw [hS6]; exact nS5
  have wS6 : S6.2.2 j = σ.2.2 j := by rw [hS6]; exact (pz_u_off _ _ _ hj).trans wS5
  obtain ⟨S7, hS7⟩ : ∃ z : pzS, z = pz_new S6 (8, 0) := ⟨_, rfl⟩
  have nS7 : S7.1 = σ.1 + 16 := pz_n1 nS6 hS7
  have wS7 : S7.2.2 j = σ.2.2 j := by rw [hS7, pz_new_R (pz_lt0 nS6 hj0)] <;> exact wS6
  obtain ⟨S8, hS8⟩ : ∃ z : pzS, z = kX5 S7 (S6.1) (σ.1) (S3.1) := ⟨_, rfl⟩
  have nS8 : S8.1 = σ.1 + 27 := by rw [hS8, kX5_n, nS7]
  have wS8 : S8.2.2 j = σ.2.2 j := by rw [hS8, kX5_R (pz_lt0 nS7 hj0) (pz_ne0 hj0 nS6)]; exact wS7
  obtain ⟨S9, hS9⟩ : ∃ z : pzS, z = pz_pR S8 i 2 (S6.1) := ⟨_, rfl⟩
  have nS9 : S9.1 = σ.1 + 27 := by rw [hS9]; exact nS8
  have wS9 : S9.2.2 j = σ.2.2 j := by rw [hS9]; exact (pz_u_off _ _ _ hj).trans wS8
  obtain ⟨S10, hS10⟩ : ∃ z : pzS, z = pz_new S9 (7, 0) := ⟨_, rfl⟩
  have nS10 : S10.1 = σ.1 + 28 := pz_n1 nS9 hS10
  have wS10 : S10.2.2 j = σ.2.2 j := by rw [hS10, pz_new_R (pz_lt0 nS9 hj0)] <;> exact wS9
  obtain ⟨S11, hS11⟩ : ∃ z : pzS, z = kX4 S10 (S9.1) (σ.1) (S6.1) := ⟨_, rfl⟩
  have nS11 : S11.1 = σ.1 + 44 := by rw [hS11, kX4_n, nS10]
  have wS11 : S11.2.2 j = σ.2.2 j := by rw [hS11, kX4_R (pz_lt0 nS10 hj0) (pz_ne0 hj0 nS9)]; exact wS10
  obtain ⟨S12, hS12⟩ : ∃ z : pzS, z = pz_pR S11 i 3 (S9.1) := ⟨_, rfl⟩
  have nS12 : S12.1 = σ.1 + 44 := by rw [hS12]; exact nS11
  have wS12 : S12.2.2 j = σ.2.2 j := by rw [hS12]; exact (pz_u_off _ _ _ hj).trans wS11
  have e9 : kX10 σ i = S12 := by rw [hS12, hS11, hS10, hS9, hS8, hS7, hS6, hS5, hS4, hS3, hS2, hS1]; rfl
  rw [e9]; exact wS12
set_option maxHeartbeats 4000000 in
set_option maxRecDepth 100000 in
theorem c_X10_init (l : Launch) (D : va_G) (cy : Nat → ClassId) {σ : pzS} {i : Nat} (wf : pz_wf σ) (hi : i < σ.1) (hK : (σ.2.1 i).1 = 13) : pz_Met l yX10_init cX10_init 1 none 3 54 44 9167 D cy σ pz_z [.ref i] (fun r σ' M' => r = none ∧ σ' = kX10 σ i ∧ M' = pz_z) := by
  refine pz_ofW (by decide) (Nat.le_of_ble_eq_true rfl) (fun p e s m args below meth c ad A C hr hnm => ?_)
  refine pz_aload_n C 0 dX10_init_0 rfl ?_
  refine pz_objInit C ml_X10_3 im_objectInit wco dX10_init_1 (by decide) (Nat.le_of_ble_eq_true rfl) ?_
  refine pz_aload_n C 0 dX10_init_4 rfl ?_
  refine pz_newobj C (ci := 5) dX10_init_5 gwX6 tyX6_ok cl_X10_9 inst_X6 ini_X6 rfl dfX6 wf (Nat.le_refl _) (And.intro hi (True.intro)) (And.intro hi (True.intro)) (Nat.le_of_ble_eq_true rfl) (Nat.le_of_ble_eq_true rfl) ?_
  rw [pz_nz]
  refine pz_nmS (fun S1 hS1 => ?_)
  have nS1 : S1.1 = σ.1 + 1 := pz_n1 (Nat.add_zero σ.1).symm hS1
  have wfS1 : pz_wf S1 := by rw [hS1]; exact pz_wf_new wf
  have KS1 : (S1.2.1 i).1 = 13 := by rw [hS1, pz_new_K hi]; exact hK
  refine pz_dup C dX10_init_8 rfl ?_
  have Kc : (S1.2.1 (σ.1)).1 = 9 := by rw [hS1, pz_new_k]
  refine pz_callIN C (As := []) (rest := [.ref (σ.1), .ref (i)]) (b := (σ.1)) (c_X6_init l D cy (σ := S1) wfS1 (pz_lt2 nS1 (Nat.add_zero σ.1).symm rfl) Kc) wB_yX6_init (show (RX10, 11, yX6_init, "FeatureDesugarer") ∈ pz_nests by decide +kernel) im_yX6_init rfl rfl rfl (Nat.le_of_ble_eq_true rfl) ⟨(Nat.le_of_ble_eq_true rfl), (Nat.le_of_ble_eq_true rfl)⟩ ⟨(Nat.le_of_ble_eq_true rfl), (Nat.le_of_ble_eq_true rfl)⟩ dX10_init_9 (pz_le0 nS1) (And.intro (pz_lt2 nS1 (Nat.add_zero σ.1).symm rfl) (And.intro (pz_lt0 nS1 hi) (True.intro))) (And.intro (pz_lt0 nS1 hi) (True.intro)) (fun r9 S2 M9 hp9 => ?_)
  obtain ⟨rfl, hS2, rfl⟩ := hp9
  have nS2 : S2.1 = σ.1 + 12 := by rw [hS2, kX6_n, nS1]
  have wfS2 : pz_wf S2 := by rw [hS2]; exact kX6_wf wfS1 (pz_lt2 nS1 (Nat.add_zero σ.1).symm rfl)
  have KS2 : (S2.2.1 i).1 = 13 := by rw [hS2, kX6_K (pz_lt0 nS1 hi)]; exact KS1
  refine pz_putRF C (ci := 9) (k := 0) (ty := .object "FeatureDesugarer$Program") gwX10 rfl (Nat.le_of_ble_eq_true rfl) fl_X10_12 (pz_lt0 nS2 hi) KS2 tyX10_ok nmX10 rfl rfl hnm rfl (by decide +kernel) (fun _ => rfl) (fun _ => rfl) dX10_init_12 ?_
  refine pz_nmS (fun S3 hS3 => ?_)
  have hS3 : S3 = pz_pR S2 i 0 (σ.1) := hS3
  have nS3 : S3.1 = σ.1 + 12 := by rw [hS3]; exact nS2
  have wfS3 : pz_wf S3 := by rw [hS3]; exact pz_wf_put wfS2 (pz_lt2 nS2 (Nat.add_zero σ.1).symm rfl)
  have KS3 : (S3.2.1 i).1 = 13 := by rw [hS3]; exact KS2
  have f0_S3 : S3.2.2 i 0 = some (σ.1) := by rw [hS3]; exact pz_u_eq _ _ _ _
  refine pz_aload_n C 0 dX10_init_15 rfl ?_
  refine pz_newobj C (ci := 8) dX10_init_16 gwX9 tyX9_ok cl_X10_16 inst_X9 ini_X9 rfl dfX9 wfS3 (pz_le0 nS3) (And.intro (pz_lt0 nS3 hi) (True.intro)) (And.intro (pz_lt0 nS3 hi) (True.intro)) (Nat.le_of_ble_eq_true rfl) (Nat.le_of_ble_eq_true rfl) ?_
  rw [pz_nz]
  refine pz_nmS (fun S4 hS4 => ?_)
  have nS4 : S4.1 = σ.1 + 13 := pz_n1 nS3 hS4
  have wfS4 : pz_wf S4 := by rw [hS4]; exact pz_wf_new wfS3
  have KS4 : (S4.2.1 i).1 = 13 := by rw [hS4, pz_new_K (pz_lt0 nS3 hi)]; exact KS3
  have f0_S4 : S4.2.2 i 0 = some (σ.1) := by rw [hS4, pz_new_R (pz_lt0 nS3 hi)]; exact f0_S3
  refine pz_dup C dX10_init_19 rfl ?_
  refine pz_aload_n C 0 dX10_init_20 rfl ?_
  refine pz_getR C (ci := 9) (k := 0) gwX10 rfl (Nat.le_of_ble_eq_true rfl) fl_X10_12 (pz_lt0 nS4 hi) KS4 rfl f0_S4 dX10_init_21 ?_
  have Kc : (S4.2.1 (S3.1)).1 = 12 := by rw [hS4, pz_new_k]
  refine pz_callI C (As := [.ref (σ.1)]) (rest := [.ref (S3.1), .ref (i)]) (b := (S3.1)) (c_X9_init l D cy (σ := S4) wfS4 (pz_lt2 nS4 nS3 rfl) (pz_lt2 nS4 (Nat.add_zero σ.1).symm rfl) Kc) wB_yX9_init ml_X10_18 im_yX9_init rfl rfl rfl (Nat.le_of_ble_eq_true rfl) ⟨(Nat.le_of_ble_eq_true rfl), (Nat.le_of_ble_eq_true rfl)⟩ ⟨(Nat.le_of_ble_eq_true rfl), (Nat.le_of_ble_eq_true rfl)⟩ dX10_init_24 (pz_le0 nS4) (And.intro (pz_lt2 nS4 nS3 rfl) (And.intro (pz_lt0 nS4 hi) (True.intro))) (And.intro (pz_lt0 nS4 hi) (True.intro)) (fun r9 S5 M9 hp9 => ?_)
  obtain ⟨rfl, hS5, rfl⟩ := hp9
  have nS5 : S5.1 = σ.1 + 15 := by rw [hS5, kX9_n, nS4]
  have wfS5 : pz_wf S5 := by rw [hS5]; exact kX9_wf wfS4 (pz_lt2 nS4 nS3 rfl) (pz_lt2 nS4 (Nat.add_zero σ.1).symm rfl)
  have KS5 : (S5.2.1 i).1 = 13 := by rw [hS5, kX9_K (pz_lt0 nS4 hi)]; exact KS4
  have f0_S5 : S5.2.2 i 0 = some (σ.1) := by rw [hS5, kX9_R (pz_lt0 nS4 hi) (pz_ne0 hi nS3)]; exact f0_S4
  refine pz_putRF C (ci := 9) (k := 1) (ty := .object "FeatureDesugarer$Ways") gwX10 rfl (Nat.le_of_ble_eq_true rfl) fl_X10_21 (pz_lt0 nS5 hi) KS5 tyX10_ok nmX10 rfl rfl hnm rfl (by decide +kernel) (fun _ => rfl) (fun _ => rfl) dX10_init_27 ?_
  refine pz_nmS (fun S6 hS6 => ?_)
  have hS6 : S6 = pz_pR S5 i 1 (S3.1) := hS6
  have nS6 : S6.1 = σ.1 + 15 := by rw [hS6]; exact nS5
  have wfS6 : pz_wf S6 := by rw [hS6]; exact pz_wf_put wfS5 (pz_lt2 nS5 nS3 rfl)
  have KS6 : (S6.2.1 i).1 = 13 := by rw [hS6]; exact KS5
  have f0_S6 : S6.2.2 i 0 = some (σ.1) := by rw [hS6]; exact (pz_u_ne _ _ (Or.inr (by decide))).trans f0_S5
  have f1_S6 : S6.2.2 i 1 = some (S3.1) := by rw [hS6]; exact pz_u_eq _ _ _ _
  refine pz_aload_n C 0 dX10_init_30 rfl ?_
  refine pz_newobj C (ci := 4) dX10_init_31 gwX5 tyX5_ok cl_X10_25 inst_X5 ini_X5 rfl dfX5 wfS6 (pz_le0 nS6) (And.intro (pz_lt0 nS6 hi) (True.intro)) (And.intro (pz_lt0 nS6 hi) (True.intro)) (Nat.le_of_ble_eq_true rfl) (Nat.le_of_ble_eq_true rfl) ?_
  rw [pz_nz]
  refine pz_nmS (fun S7 hS7 => ?_)
  have nS7 : S7.1 = σ.1 + 16 := pz_n1 nS6 hS7
  have wfS7 : pz_wf S7 := by rw [hS7]; exact pz_wf_new wfS6
  have KS7 : (S7.2.1 i).1 = 13 := by rw [hS7, pz_new_K (pz_lt0 nS6 hi)]; exact KS6
  have f0_S7 : S7.2.2 i 0 = some (σ.1) := by rw [hS7, pz_new_R (pz_lt0 nS6 hi)]; exact f0_S6
  have f1_S7 : S7.2.2 i 1 = some (S3.1) := by rw [hS7, pz_new_R (pz_lt0 nS6 hi)]; exact f1_S6
  refine pz_dup C dX10_init_34 rfl ?_
  refine pz_aload_n C 0 dX10_init_35 rfl ?_
  refine pz_getR C (ci := 9) (k := 0) gwX10 rfl (Nat.le_of_ble_eq_true rfl) fl_X10_12 (pz_lt0 nS7 hi) KS7 rfl f0_S7 dX10_init_36 ?_
  refine pz_aload_n C 0 dX10_init_39 rfl ?_
  refine pz_getR C (ci := 9) (k := 1) gwX10 rfl (Nat.le_of_ble_eq_true rfl) fl_X10_21 (pz_lt0 nS7 hi) KS7 rfl f1_S7 dX10_init_40 ?_
  have Kc : (S7.2.1 (S6.1)).1 = 8 := by rw [hS7, pz_new_k]
  refine pz_callI C (As := [.ref (σ.1), .ref (S3.1)]) (rest := [.ref (S6.1), .ref (i)]) (b := (S6.1)) (c_X5_init l D cy (σ := S7) wfS7 (pz_lt2 nS7 nS6 rfl) (pz_lt2 nS7 (Nat.add_zero σ.1).symm rfl) (pz_lt2 nS7 nS3 rfl) Kc) wB_yX5_init ml_X10_27 im_yX5_init rfl rfl rfl (Nat.le_of_ble_eq_true rfl) ⟨(Nat.le_of_ble_eq_true rfl), (Nat.le_of_ble_eq_true rfl)⟩ ⟨(Nat.le_of_ble_eq_true rfl), (Nat.le_of_ble_eq_true rfl)⟩ dX10_init_43 (pz_le0 nS7) (And.intro (pz_lt2 nS7 nS6 rfl) (And.intro (pz_lt0 nS7 hi) (True.intro))) (And.intro (pz_lt0 nS7 hi) (True.intro)) (fun r9 S8 M9 hp9 => ?_)
  obtain ⟨rfl, hS8, rfl⟩ := hp9
  have nS8 : S8.1 = σ.1 + 27 := by rw [hS8, kX5_n, nS7]
  have wfS8 : pz_wf S8 := by rw [hS8]; exact kX5_wf wfS7 (pz_lt2 nS7 nS6 rfl) (pz_lt2 nS7 (Nat.add_zero σ.1).symm rfl) (pz_lt2 nS7 nS3 rfl)
  have KS8 : (S8.2.1 i).1 = 13 := by rw [hS8, kX5_K (pz_lt0 nS7 hi)]; exact KS7
  have f0_S8 : S8.2.2 i 0 = some (σ.1) := by rw [hS8, kX5_R (pz_lt0 nS7 hi) (pz_ne0 hi nS6)]; exact f0_S7
  have f1_S8 : S8.2.2 i 1 = some (S3.1) := by rw [hS8, kX5_R (pz_lt0 nS7 hi) (pz_ne0 hi nS6)]; exact f1_S7
  refine pz_putRF C (ci := 9) (k := 2) (ty := .object "FeatureDesugarer$PlainCode") gwX10 rfl (Nat.le_of_ble_eq_true rfl) fl_X10_30 (pz_lt0 nS8 hi) KS8 tyX10_ok nmX10 rfl rfl hnm rfl (by decide +kernel) (fun _ => rfl) (fun _ => rfl) dX10_init_46 ?_
  refine pz_nmS (fun S9 hS9 => ?_)
  have hS9 : S9 = pz_pR S8 i 2 (S6.1) := hS9
  have nS9 : S9.1 = σ.1 + 27 := by rw [hS9]; exact nS8
  have wfS9 : pz_wf S9 := by rw [hS9]; exact pz_wf_put wfS8 (pz_lt2 nS8 nS6 rfl)
  have KS9 : (S9.2.1 i).1 = 13 := by rw [hS9]; exact KS8
  have f0_S9 : S9.2.2 i 0 = some (σ.1) := by rw [hS9]; exact (pz_u_ne _ _ (Or.inr (by decide))).trans f0_S8
  have f1_S9 : S9.2.2 i 1 = some (S3.1) := by rw [hS9]; exact (pz_u_ne _ _ (Or.inr (by decide))).trans f1_S8
  have f2_S9 : S9.2.2 i 2 = some (S6.1) := by rw [hS9]; exact pz_u_eq _ _ _ _
  refine pz_aload_n C 0 dX10_init_49 rfl ?_
  refine pz_newobj C (ci := 3) dX10_init_50 gwX4 tyX4_ok cl_X10_34 inst_X4 ini_X4 rfl dfX4 wfS9 (pz_le0 nS9) (And.intro (pz_lt0 nS9 hi) (True.intro)) (And.intro (pz_lt0 nS9 hi) (True.intro)) (Nat.le_of_ble_eq_true rfl) (Nat.le_of_ble_eq_true rfl) ?_
  rw [pz_nz]
  refine pz_nmS (fun S10 hS10 => ?_)
  have nS10 : S10.1 = σ.1 + 28 := pz_n1 nS9 hS10
  have wfS10 : pz_wf S10 := by rw [hS10]; exact pz_wf_new wfS9
  have KS10 : (S10.2.1 i).1 = 13 := by rw [hS10, pz_new_K (pz_lt0 nS9 hi)]; exact KS9
  have f0_S10 : S10.2.2 i 0 = some (σ.1) := by rw [hS10, pz_new_R (pz_lt0 nS9 hi)]; exact f0_S9
  have f1_S10 : S10.2.2 i 1 = some (S3.1) := by rw [hS10, pz_new_R (pz_lt0 nS9 hi)]; exact f1_S9
  have f2_S10 : S10.2.2 i 2 = some (S6.1) := by rw [hS10, pz_new_R (pz_lt0 nS9 hi)]; exact f2_S9
  refine pz_dup C dX10_init_53 rfl ?_
  refine pz_aload_n C 0 dX10_init_54 rfl ?_
  refine pz_getR C (ci := 9) (k := 0) gwX10 rfl (Nat.le_of_ble_eq_true rfl) fl_X10_12 (pz_lt0 nS10 hi) KS10 rfl f0_S10 dX10_init_55 ?_
  refine pz_aload_n C 0 dX10_init_58 rfl ?_
  refine pz_getR C (ci := 9) (k := 2) gwX10 rfl (Nat.le_of_ble_eq_true rfl) fl_X10_30 (pz_lt0 nS10 hi) KS10 rfl f2_S10 dX10_init_59 ?_
  have Kc : (S10.2.1 (S9.1)).1 = 7 := by rw [hS10, pz_new_k]
  refine pz_callI C (As := [.ref (σ.1), .ref (S6.1)]) (rest := [.ref (S9.1), .ref (i)]) (b := (S9.1)) (c_X4_init l D cy (σ := S10) wfS10 (pz_lt2 nS10 nS9 rfl) (pz_lt2 nS10 (Nat.add_zero σ.1).symm rfl) (pz_lt2 nS10 nS6 rfl) Kc) wB_yX4_init ml_X10_36 im_yX4_init rfl rfl rfl (Nat.le_of_ble_eq_true rfl) ⟨(Nat.le_of_ble_eq_true rfl), (Nat.le_of_ble_eq_true rfl)⟩ ⟨(Nat.le_of_ble_eq_true rfl), (Nat.le_of_ble_eq_true rfl)⟩ dX10_init_62 (pz_le0 nS10) (And.intro (pz_lt2 nS10 nS9 rfl) (And.intro (pz_lt0 nS10 hi) (True.intro))) (And.intro (pz_lt0 nS10 hi) (True.intro)) (fun r9 S11 M9 hp9 => ?_)
  obtain ⟨rfl, hS11, rfl⟩ := hp9
  have nS11 : S11.1 = σ.1 + 44 := by rw [hS11, kX4_n, nS10]
  have wfS11 : pz_wf S11 := by rw [hS11]; exact kX4_wf wfS10 (pz_lt2 nS10 nS9 rfl) (pz_lt2 nS10 (Nat.add_zero σ.1).symm rfl) (pz_lt2 nS10 nS6 rfl)
  have KS11 : (S11.2.1 i).1 = 13 := by rw [hS11, kX4_K (pz_lt0 nS10 hi)]; exact KS10
  have f0_S11 : S11.2.2 i 0 = some (σ.1) := by rw [hS11, kX4_R (pz_lt0 nS10 hi) (pz_ne0 hi nS9)]; exact f0_S10
  have f1_S11 : S11.2.2 i 1 = some (S3.1) := by rw [hS11, kX4_R (pz_lt0 nS10 hi) (pz_ne0 hi nS9)]; exact f1_S10
  have f2_S11 : S11.2.2 i 2 = some (S6.1) := by rw [hS11, kX4_R (pz_lt0 nS10 hi) (pz_ne0 hi nS9)]; exact f2_S10
  refine pz_putRF C (ci := 9) (k := 3) (ty := .object "FeatureDesugarer$Machine") gwX10 rfl (Nat.le_of_ble_eq_true rfl) fl_X10_39 (pz_lt0 nS11 hi) KS11 tyX10_ok nmX10 rfl rfl hnm rfl (by decide +kernel) (fun _ => rfl) (fun _ => rfl) dX10_init_65 ?_
  refine pz_nmS (fun S12 hS12 => ?_)
  have hS12 : S12 = pz_pR S11 i 3 (S9.1) := hS12
  have nS12 : S12.1 = σ.1 + 44 := by rw [hS12]; exact nS11
  have wfS12 : pz_wf S12 := by rw [hS12]; exact pz_wf_put wfS11 (pz_lt2 nS11 nS9 rfl)
  have KS12 : (S12.2.1 i).1 = 13 := by rw [hS12]; exact KS11
  have f0_S12 : S12.2.2 i 0 = some (σ.1) := by rw [hS12]; exact (pz_u_ne _ _ (Or.inr (by decide))).trans f0_S11
  have f1_S12 : S12.2.2 i 1 = some (S3.1) := by rw [hS12]; exact (pz_u_ne _ _ (Or.inr (by decide))).trans f1_S11
  have f2_S12 : S12.2.2 i 2 = some (S6.1) := by rw [hS12]; exact (pz_u_ne _ _ (Or.inr (by decide))).trans f2_S11
  have f3_S12 : S12.2.2 i 3 = some (S9.1) := by rw [hS12]; exact pz_u_eq _ _ _ _
  refine pz_vret C hr (Nat.le_of_ble_eq_true rfl) (Nat.le_of_ble_eq_true rfl) dX10_init_68 ⟨rfl, ?_, rfl⟩
  have e9 : kX10 σ i = S12 := by rw [hS12, hS11, hS10, hS9, hS8, hS7, hS6, hS5, hS4, hS3, hS2, hS1]; rfl
  exact e9.symm
