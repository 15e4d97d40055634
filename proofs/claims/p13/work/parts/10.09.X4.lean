def kX4 (σ : pzS) (i : Nat) (a1 : Nat) (a2 : Nat) : pzS :=
  let S1 := pz_new σ (4, 0)
  let S2 := kX1 S1 (σ.1)
  let S3 := pz_pR S2 i 2 (σ.1)
  let S4 := pz_new S3 (5, 0)
  let S5 := kX2 S4 (S3.1)
  let S6 := pz_pR S5 i 3 (S3.1)
  let S7 := pz_new S6 (11, 0)
  let S8 := kX8 S7 (S6.1)
  let S9 := pz_pR S8 i 4 (S6.1)
  let S10 := pz_pR S9 i 0 (a1)
  let S11 := pz_pR S10 i 1 (a2)
  let S12 := pz_pR S11 i 5 (a1)
  S12
set_option maxHeartbeats 4000000 in
set_option maxRecDepth 100000 in
theorem kX4_n (σ : pzS) (i : Nat) (a1 : Nat) (a2 : Nat) : (kX4 σ i a1 a2).1 = σ.1 + 16 := by
  unfold kX4
  simp only [pz_pR, pz_new, kX1_n, kX2_n, kX8_n, kX7_n, kX3_n, kX9_n, kX6_n, kX5_n]
set_option maxHeartbeats 4000000 in
set_option maxRecDepth 100000 in
theorem kX4_wf {σ : pzS} {i a1 a2 : Nat} (wf : pz_wf σ) (hi : i < σ.1) (ha1 : a1 < σ.1) (ha2 : a2 < σ.1) : pz_wf (kX4 σ i a1 a2) := by
  obtain ⟨S1, hS1⟩ : ∃ z : pzS, z = pz_new σ (4, 0) := ⟨_, rfl⟩
  have nS1 : S1.1 = σ.1 + 1 := pz_n1 (Nat.add_zero σ.1).symm hS1
  have wS1 : pz_wf S1 := by rw [hS1]; exact pz_wf_new wf
  obtain ⟨S2, hS2⟩ : ∃ z : pzS, z = kX1 S1 (σ.1) := ⟨_, rfl⟩
  have nS2 : S2.1 = σ.1 + 6 := by rw [hS2, kX1_n, nS1]
  have wS2 : pz_wf S2 := by rw [hS2]; exact kX1_wf wS1 (pz_lt2 nS1 (Nat.add_zero σ.1).symm rfl)
  obtain ⟨S3, hS3⟩ : ∃ z : pzS, z = pz_pR S2 i 2 (σ.1) := ⟨_, rfl⟩
  have nS3 : S3.1 = σ.1 + 6 := by rw [hS3]; exact nS2
  have wS3 : pz_wf S3 := by rw [hS3]; exact pz_wf_put wS2 (pz_lt2 nS2 (Nat.add_zero σ.1).symm rfl)
  obtain ⟨S4, hS4⟩ : ∃ z : pzS, z = pz_new S3 (5, 0) := ⟨_, rfl⟩
  have nS4 : S4.1 = σ.1 + 7 := pz_n1 nS3 hS4
  have wS4 : pz_wf S4 := by rw [hS4]; exact pz_wf_new wS3
  obtain ⟨S5, hS5⟩ : ∃ z : pzS, z = kX2 S4 (S3.1) := ⟨_, rfl⟩
  have nS5 : S5.1 = σ.1 + 10 := by rw [hS5, kX2_n, nS4]
  have wS5 : pz_wf S5 := by rw [hS5]; exact kX2_wf wS4 (pz_lt2 nS4 nS3 rfl)
  obtain ⟨S6, hS6⟩ : ∃ z : pzS, z = pz_pR S5 i 3 (S3.1) := ⟨_, rfl⟩
  have nS6 : S6.1 = σ.1 + 10 := by rw [hS6]; exact nS5
  have wS6 : pz_wf S6 := by rw [hS6]; exact pz_wf_put wS5 (pz_lt2 nS5 nS3 rfl)
  obtain ⟨S7, hS7⟩ : ∃ z : pzS, z = pz_new S6 (11, 0) := ⟨_, rfl⟩
  have nS7 : S7.1 = σ.1 + 11 := pz_n1 nS6 hS7
  have wS7 : pz_wf S7 := by rw [hS7]; exact pz_wf_new wS6
  obtain ⟨S8, hS8⟩ : ∃ z : pzS, z = kX8 S7 (S6.1) := ⟨_, rfl⟩
  have nS8 : S8.1 = σ.1 + 16 := by rw [hS8, kX8_n, nS7]
  have wS8 : pz_wf S8 := by rw [hS8]; exact kX8_wf wS7 (pz_lt2 nS7 nS6 rfl)
  obtain ⟨S9, hS9⟩ : ∃ z : pzS, z = pz_pR S8 i 4 (S6.1) := ⟨_, rfl⟩
  have nS9 : S9.1 = σ.1 + 16 := by rw [hS9]; exact nS8
  have wS9 : pz_wf S9 := by rw [hS9]; exact pz_wf_put wS8 (pz_lt2 nS8 nS6 rfl)
  obtain ⟨S10, hS10⟩ : ∃ z : pzS, z = pz_pR S9 i 0 (a1) := ⟨_, rfl⟩
  have nS10 : S10.1 = σ.1 + 16 := by rw [hS10]; exact nS9
  have wS10 : pz_wf S10 := by rw [hS10]; exact pz_wf_put wS9 (pz_lt0 nS9 ha1)
  obtain ⟨S11, hS11⟩ : ∃ z : pzS, z = pz_pR S10 i 1 (a2) := ⟨_, rfl⟩
  have nS11 : S11.1 = σ.1 + 16 := by rw [hS11]; exact nS10
  have wS11 : pz_wf S11 := by rw [hS11]; exact pz_wf_put wS10 (pz_lt0 nS10 ha2)
  obtain ⟨S12, hS12⟩ : ∃ z : pzS, z = pz_pR S11 i 5 (a1) := ⟨_, rfl⟩
  have nS12 : S12.1 = σ.1 + 16 := by rw [hS12]; exact nS11
  have wS12 : pz_wf S12 := by rw [hS12]; exact pz_wf_put wS11 (pz_lt0 nS11 ha1)
  have e9 : kX4 σ i a1 a2 = S12 := by rw [hS12, hS11, hS10, hS9, hS8, hS7, hS6, hS5, hS4, hS3, hS2, hS1]; rfl
  rw [e9]; exact wS12
set_option maxHeartbeats 4000000 in
set_option maxRecDepth 100000 in
theorem kX4_K {σ : pzS} {j : Nat} {i a1 a2 : Nat} (hj0 : j < σ.1) : (kX4 σ i a1 a2).2.1 j = σ.2.1 j := by
  obtain ⟨S1, hS1⟩ : ∃ z : pzS, z = pz_new σ (4, 0) := ⟨_, rfl⟩
  have nS1 : S1.1 = σ.1 + 1 := pz_n1 (Nat.add_zero σ.1).symm hS1
  have wS1 : S1.2.1 j = σ.2.1 j := by rw [hS1, pz_new_K hj0] <;> exact rfl
  obtain ⟨S2, hS2⟩ : ∃ z : pzS, z = kX1 S1 (σ.1) := ⟨_, rfl⟩
  have nS2 : S2.1 = σ.1 + 6 := by rw [hS2, kX1_n, nS1]
  have wS2 : S2.2.1 j = σ.2.1 j := by rw [hS2, kX1_K (pz_lt0 nS1 hj0)]; exact wS1
  obtain ⟨S3, hS3⟩ : ∃ z : pzS, z = pz_pR S2 i 2 (σ.1) := ⟨_, rfl⟩
  have nS3 : S3.1 = σ.1 + 6 := by rw [hS3]; exact nS2
  have wS3 : S3.2.1 j = σ.2.1 j := by rw [hS3]; exact wS2
  obtain ⟨S4, hS4⟩ : ∃ z : pzS, z = pz_new S3 (5, 0) := ⟨_, rfl⟩
  have nS4 : S4.1 = σ.1 + 7 := pz_n1 nS3 hS4
  have wS4 : S4.2.1 j = σ.2.1 j := by rw [hS4, pz_new_K (pz_lt0 nS3 hj0)] <;> exact wS3
  obtain ⟨S5, hS5⟩ : ∃ z : pzS, z = kX2 S4 (S3.1) := ⟨_, rfl⟩
  have nS5 : S5.1 = σ.1 + 10 := by rw [hS5, kX2_n, nS4]
  have wS5 : S5.2.1 j = σ.2.1 j := by rw [hS5, kX2_K (pz_lt0 nS4 hj0)]; exact wS4
  obtain ⟨S6, hS6⟩ : ∃ z : pzS, z = pz_pR S5 i 3 (S3.1) := ⟨_, rfl⟩
  have nS6 : S6.1 = σ.1 + 10 := by rw [hS6]; exact nS5
  have wS6 : S6.2.1 j = σ.2.1 j := by rw [hS6]; exact wS5
  obtain ⟨S7, hS7⟩ : ∃ z : pzS, z = pz_new S6 (11, 0) := ⟨_, rfl⟩
  have nS7 : S7.1 = σ.1 + 11 := pz_n1 nS6 hS7
  have wS7 : S7.2.1 j = σ.2.1 j := by rw [hS7, pz_new_K (pz_lt0 nS6 hj0)] <;> exact wS6
  obtain ⟨S8, hS8⟩ : ∃ z : pzS, z = kX8 S7 (S6.1) := ⟨_, rfl⟩
  have nS8 : S8.1 = σ.1 + 16 := by rw [hS8, kX8_n, nS7]
  have wS8 : S8.2.1 j = σ.2.1 j := by rw [hS8, kX8_K (pz_lt0 nS7 hj0)]; exact wS7
  obtain ⟨S9, hS9⟩ : ∃ z : pzS, z = pz_pR S8 i 4 (S6.1) := ⟨_, rfl⟩
  have nS9 : S9.1 = σ.1 + 16 := by rw [hS9]; exact nS8
  have wS9 : S9.2.1 j = σ.2.1 j := by rw [hS9]; exact wS8
  obtain ⟨S10, hS10⟩ : ∃ z : pzS, z = pz_pR S9 i 0 (a1) := ⟨_, rfl⟩
  have nS10 : S10.1 = σ.1 + 16 := by rw [hS10]; exact nS9
  have wS10 : S10.2.1 j = σ.2.1 j := by rw [hS10]; exact wS9
  obtain ⟨S11, hS11⟩ : ∃ z : pzS, z = pz_pR S10 i 1 (a2) := ⟨_, rfl⟩
  have nS11 : S11.1 = σ.1 + 16 := by rw [hS11]; exact nS10
  have wS11 : S11.2.1 j = σ.2.1 j := by rw [hS11]; exact wS10
  obtain ⟨S12, hS12⟩ : ∃ z : pzS, z = pz_pR S11 i 5 (a1) := ⟨_, rfl⟩
  have nS12 : S12.1 = σ.1 + 16 := by rw [hS12]; exact nS11
  have wS12 : S12.2.1 j = σ.2.1 j := by rw [hS12]; exact wS11
  have e9 : kX4 σ i a1 a2 = S12 := by rw [hS12, hS11, hS10, hS9, hS8, hS7, hS6, hS5, hS4, hS3, hS2, hS1]; rfl
  rw [e9]; exact wS12
set_option maxHeartbeats 4000000 in
set_option maxRecDepth 100000 in
theorem kX4_R {σ : pzS} {j : Nat} {i a1 a2 : Nat} (hj0 : j < σ.1) (hj : j ≠ i) : (kX4 σ i a1 a2).2.2 j = σ.2.2 j := by
  obtain ⟨S1, hS1⟩ : ∃ z : pzS, z = pz_new σ (4, 0) := ⟨_, rfl⟩
  have nS1 : S1.1 = σ.1 + 1 := pz_n1 (Nat.add_zero σ.1).symm hS1
  have wS1 : S1.2.2 j = σ.2.2 j := by rw [hS1, pz_new_R hj0] <;> exact rfl
  obtain ⟨S2, hS2⟩ : ∃ z : pzS, z = kX1 S1 (σ.1) := ⟨_, rfl⟩
  have nS2 : S2.1 = σ.1 + 6 := by rw [hS2, kX1_n, nS1]
  have wS2 : S2.2.2 j = σ.2.2 j := by rw [hS2, kX1_R (pz_lt0 nS1 hj0) (pz_ne0 hj0 (Nat.add_zero σ.1).symm)]; exact wS1
  obtain ⟨S3, hS3⟩ : ∃ z : pzS, z = pz_pR S2 i 2 (σ.1) := ⟨_, rfl⟩
  have nS3 : S3.1 = σ.1 + 6 := by rw [hS3]; exact nS2
  have wS3 : S3.2.2 j = σ.2.2 j := by rw [hS3]; exact (pz_u_off _ _ _ hj).trans wS2
  obtain ⟨S4, hS4⟩ : ∃ z : pzS, z = pz_new S3 (5, 0) := ⟨_, rfl⟩
  have nS4 : S4.1 = σ.1 + 7 := pz_n1 nS3 hS4
  have wS4 : S4.2.2 j = σ.2.2 j := by rw [hS4, pz_new_R (pz_lt0 nS3 hj0)] <;> exact wS3
  obtain ⟨S5, hS5⟩ : ∃ z : pzS, z = kX2 S4 (S3.1) := ⟨_, rfl⟩
  have nS5 : S5.1 = σ.1 + 10 := by rw [hS5, kX2_n, nS4]
  have wS5 : S5.2.2 j = σ.2.2 j := by rw [hS5, kX2_R (pz_lt0 nS4 hj0) (pz_ne0 hj0 nS3)]; exact wS4
  obtain ⟨S6, hS6⟩ : ∃ z : pzS, z = pz_pR S5 i 3 (S3.1) := ⟨_, rfl⟩
  have nS6 : S6.1 = σ.1 + 10 := by rw [hS6]; exact nS5
  have wS6 : S6.2.2 j = σ.2.2 j := by rw [hS6]; exact (pz_u_off _ _ _ hj).trans wS5
  obtain ⟨S7, hS7⟩ : ∃ z : pzS, z = pz_new S6 (11, 0) := ⟨_, rfl⟩
  have nS7 : S7.1 = σ.1 + 11 := pz_n1 nS6 hS7
  have wS7 : S7.2.2 j = σ.2.2 j := by rw [hS7, pz_new_R (pz_lt0 nS6 hj0)] <;> exact wS6
  obtain ⟨S8, hS8⟩ : ∃ z : pzS, z = kX8 S7 (S6.1) := ⟨_, rfl⟩
  have nS8 : S8.1 = σ.1 + 16 := by rw [hS8, kX8_n, nS7]
  have wS8 : S8.2.2 j = σ.2.2 j := by rw [hS8, kX8_R (pz_lt0 nS7 hj0) (pz_ne0 hj0 nS6)]; exact wS7
  obtain ⟨S9, hS9⟩ : ∃ z : pzS, z = pz_pR S8 i 4 (S6.1) := ⟨_, rfl⟩
  have nS9 : S9.1 = σ.1 + 16 := by rw [hS9]; exact nS8
  have wS9 : S9.2.2 j = σ.2.2 j := by rw [hS9]; exact (pz_u_off _ _ _ hj).trans wS8
  obtain ⟨S10, hS10⟩ : ∃ z : pzS, z = pz_pR S9 i 0 (a1) := ⟨_, rfl⟩
  have nS10 : S10.1 = σ.1 + 16 := by rw [hS10]; exact nS9
  have wS10 : S10.2.2 j = σ.2.2 j := by rw [hS10]; exact (pz_u_off _ _ _ hj).trans wS9
  obtain ⟨S11, hS11⟩ : ∃ z : pzS, z = pz_pR S10 i 1 (a2) := ⟨_, rfl⟩
  have nS11 : S11.1 = σ.1 + 16 := by rw [hS11]; exact nS10
  have wS11 : S11.2.2 j = σ.2.2 j := by rw [hS11]; exact (pz_u_off _ _ _ hj).trans wS10
  obtain ⟨S12, hS12⟩ : ∃ z : pzS, z = pz_pR S11 i 5 (a1) := ⟨_, rfl⟩
  have nS12 : S12.1 = σ.1 + 16 := by rw [hS12]; exact nS11
  have wS12 : S12.2.2 j = σ.2.2 j := by rw [hS12]; exact (pz_u_off _ _ _ hj).trans wS11
  have e9 : kX4 σ i a1 a2 = S12 := by rw [hS12, hS11, hS10, hS9, hS8, hS7, hS6, hS5, hS4, hS3, hS2, hS1]; rfl
  rw [e9]; exact wS12
set_option maxHeartbeats 4000000 in
set_option maxRecDepth 100000 in
theorem c_X4_init (l : Launch) (D : va_G) (cy : Nat → ClassId) {σ : pzS} {i a1 a2 : Nat} (wf : pz_wf σ) (hi : i < σ.1) (ha1 : a1 < σ.1) (ha2 : a2 < σ.1) (hK : (σ.2.1 i).1 = 7) : pz_Met l yX4_init cX4_init 3 none 2 32 16 5591 D cy σ pz_z [.ref i, .ref a1, .ref a2] (fun r σ' M' => r = none ∧ σ' = kX4 σ i a1 a2 ∧ M' = pz_z) := by
  refine pz_ofW (by decide) (Nat.le_of_ble_eq_true rfl) (fun p e s m args below meth c ad A C hr hnm => ?_)
  refine pz_aload_n C 0 dX4_init_0 rfl ?_
  refine pz_objInit C ml_X4_3 im_objectInit wco dX4_init_1 (by decide) (Nat.le_of_ble_eq_true rfl) ?_
  refine pz_aload_n C 0 dX4_init_4 rfl ?_
  refine pz_newobj C (ci := 0) dX4_init_5 gwX1 tyX1_ok cl_X4_9 inst_X1 ini_X1 rfl dfX1 wf (Nat.le_refl _) (And.intro hi (True.intro)) (And.intro hi (And.intro ha1 (And.intro ha2 (True.intro)))) (Nat.le_of_ble_eq_true rfl) (Nat.le_of_ble_eq_true rfl) ?_
  rw [pz_nz]
  refine pz_nmS (fun S1 hS1 => ?_)
  have nS1 : S1.1 = σ.1 + 1 := pz_n1 (Nat.add_zero σ.1).symm hS1
  have wfS1 : pz_wf S1 := by rw [hS1]; exact pz_wf_new wf
  have KS1 : (S1.2.1 i).1 = 7 := by rw [hS1, pz_new_K hi]; exact hK
  refine pz_dup C dX4_init_8 rfl ?_
  have Kc : (S1.2.1 (σ.1)).1 = 4 := by rw [hS1, pz_new_k]
  refine pz_callIN C (As := []) (rest := [.ref (σ.1), .ref (i)]) (b := (σ.1)) (c_X1_init l D cy (σ := S1) wfS1 (pz_lt2 nS1 (Nat.add_zero σ.1).symm rfl) Kc) wB_yX1_init (show (RX4, 11, yX1_init, "FeatureDesugarer") ∈ pz_nests by decide +kernel) im_yX1_init rfl rfl rfl (Nat.le_of_ble_eq_true rfl) ⟨(Nat.le_of_ble_eq_true rfl), (Nat.le_of_ble_eq_true rfl)⟩ ⟨(Nat.le_of_ble_eq_true rfl), (Nat.le_of_ble_eq_true rfl)⟩ dX4_init_9 (pz_le0 nS1) (And.intro (pz_lt2 nS1 (Nat.add_zero σ.1).symm rfl) (And.intro (pz_lt0 nS1 hi) (True.intro))) (And.intro (pz_lt0 nS1 hi) (And.intro (pz_lt0 nS1 ha1) (And.intro (pz_lt0 nS1 ha2) (True.intro)))) (fun r9 S2 M9 hp9 => ?_)
  obtain ⟨rfl, hS2, rfl⟩ := hp9
  have nS2 : S2.1 = σ.1 + 6 := by rw [hS2, kX1_n, nS1]
  have wfS2 : pz_wf S2 := by rw [hS2]; exact kX1_wf wfS1 (pz_lt2 nS1 (Nat.add_zero σ.1).symm rfl)
  have KS2 : (S2.2.1 i).1 = 7 := by rw [hS2, kX1_K (pz_lt0 nS1 hi)]; exact KS1
  refine pz_putRF C (ci := 3) (k := 2) (ty := .object "FeatureDesugarer$Frames") gwX4 rfl (Nat.le_of_ble_eq_true rfl) fl_X4_12 (pz_lt0 nS2 hi) KS2 tyX4_ok nmX4 rfl rfl hnm rfl (by decide +kernel) (fun _ => rfl) (fun _ => rfl) dX4_init_12 ?_
  refine pz_nmS (fun S3 hS3 => ?_)
  have hS3 : S3 = pz_pR S2 i 2 (σ.1) := hS3
  have nS3 : S3.1 = σ.1 + 6 := by rw [hS3]; exact nS2
  have wfS3 : pz_wf S3 := by rw [hS3]; exact pz_wf_put wfS2 (pz_lt2 nS2 (Nat.add_zero σ.1).symm rfl)
  have KS3 : (S3.2.1 i).1 = 7 := by rw [hS3]; exact KS2
  refine pz_aload_n C 0 dX4_init_15 rfl ?_
  refine pz_newobj C (ci := 1) dX4_init_16 gwX2 tyX2_ok cl_X4_18 inst_X2 ini_X2 rfl dfX2 wfS3 (pz_le0 nS3) (And.intro (pz_lt0 nS3 hi) (True.intro)) (And.intro (pz_lt0 nS3 hi) (And.intro (pz_lt0 nS3 ha1) (And.intro (pz_lt0 nS3 ha2) (True.intro)))) (Nat.le_of_ble_eq_true rfl) (Nat.le_of_ble_eq_true rfl) ?_
  rw [pz_nz]
  refine pz_nmS (fun S4 hS4 => ?_)
  have nS4 : S4.1 = σ.1 + 7 := pz_n1 nS3 hS4
  have wfS4 : pz_wf S4 := by rw [hS4]; exact pz_wf_new wfS3
  have KS4 : (S4.2.1 i).1 = 7 := by rw [hS4, pz_new_K (pz_lt0 nS3 hi)]; exact KS3
  refine pz_dup C dX4_init_19 rfl ?_
  have Kc : (S4.2.1 (S3.1)).1 = 5 := by rw [hS4, pz_new_k]
  refine pz_callIN C (As := []) (rest := [.ref (S3.1), .ref (i)]) (b := (S3.1)) (c_X2_init l D cy (σ := S4) wfS4 (pz_lt2 nS4 nS3 rfl) Kc) wB_yX2_init (show (RX4, 20, yX2_init, "FeatureDesugarer") ∈ pz_nests by decide +kernel) im_yX2_init rfl rfl rfl (Nat.le_of_ble_eq_true rfl) ⟨(Nat.le_of_ble_eq_true rfl), (Nat.le_of_ble_eq_true rfl)⟩ ⟨(Nat.le_of_ble_eq_true rfl), (Nat.le_of_ble_eq_true rfl)⟩ dX4_init_20 (pz_le0 nS4) (And.intro (pz_lt2 nS4 nS3 rfl) (And.intro (pz_lt0 nS4 hi) (True.intro))) (And.intro (pz_lt0 nS4 hi) (And.intro (pz_lt0 nS4 ha1) (And.intro (pz_lt0 nS4 ha2) (True.intro)))) (fun r9 S5 M9 hp9 => ?_)
  obtain ⟨rfl, hS5, rfl⟩ := hp9
  have nS5 : S5.1 = σ.1 + 10 := by rw [hS5, kX2_n, nS4]
  have wfS5 : pz_wf S5 := by rw [hS5]; exact kX2_wf wfS4 (pz_lt2 nS4 nS3 rfl)
  have KS5 : (S5.2.1 i).1 = 7 := by rw [hS5, kX2_K (pz_lt0 nS4 hi)]; exact KS4
  refine pz_putRF C (ci := 3) (k := 3) (ty := .object "FeatureDesugarer$Holders") gwX4 rfl (Nat.le_of_ble_eq_true rfl) fl_X4_21 (pz_lt0 nS5 hi) KS5 tyX4_ok nmX4 rfl rfl hnm rfl (by decide +kernel) (fun _ => rfl) (fun _ => rfl) dX4_init_23 ?_
  refine pz_nmS (fun S6 hS6 => ?_)
  have hS6 : S6 = pz_pR S5 i 3 (S3.1) := hS6
  have nS6 : S6.1 = σ.1 + 10 := by rw [hS6]; exact nS5
  have wfS6 : pz_wf S6 := by rw [hS6]; exact pz_wf_put wfS5 (pz_lt2 nS5 nS3 rfl)
  have KS6 : (S6.2.1 i).1 = 7 := by rw [hS6]; exact KS5
  refine pz_aload_n C 0 dX4_init_26 rfl ?_
  refine pz_newobj C (ci := 7) dX4_init_27 gwX8 tyX8_ok cl_X4_25 inst_X8 ini_X8 rfl dfX8 wfS6 (pz_le0 nS6) (And.intro (pz_lt0 nS6 hi) (True.intro)) (And.intro (pz_lt0 nS6 hi) (And.intro (pz_lt0 nS6 ha1) (And.intro (pz_lt0 nS6 ha2) (True.intro)))) (Nat.le_of_ble_eq_true rfl) (Nat.le_of_ble_eq_true rfl) ?_
  rw [pz_nz]
  refine pz_nmS (fun S7 hS7 => ?_)
  have nS7 : S7.1 = σ.1 + 11 := pz_n1 nS6 hS7
  have wfS7 : pz_wf S7 := by rw [hS7]; exact pz_wf_new wfS6
  have KS7 : (S7.2.1 i).1 = 7 := by rw [hS7, pz_new_K (pz_lt0 nS6 hi)]; exact KS6
  refine pz_dup C dX4_init_30 rfl ?_
  have Kc : (S7.2.1 (S6.1)).1 = 11 := by rw [hS7, pz_new_k]
  refine pz_callIN C (As := []) (rest := [.ref (S6.1), .ref (i)]) (b := (S6.1)) (c_X8_init l D cy (σ := S7) wfS7 (pz_lt2 nS7 nS6 rfl) Kc) wB_yX8_init (show (RX4, 27, yX8_init, "FeatureDesugarer") ∈ pz_nests by decide +kernel) im_yX8_init rfl rfl rfl (Nat.le_of_ble_eq_true rfl) ⟨(Nat.le_of_ble_eq_true rfl), (Nat.le_of_ble_eq_true rfl)⟩ ⟨(Nat.le_of_ble_eq_true rfl), (Nat.le_of_ble_eq_true rfl)⟩ dX4_init_31 (pz_le0 nS7) (And.intro (pz_lt2 nS7 nS6 rfl) (And.intro (pz_lt0 nS7 hi) (True.intro))) (And.intro (pz_lt0 nS7 hi) (And.intro (pz_lt0 nS7 ha1) (And.intro (pz_lt0 nS7 ha2) (True.intro)))) (fun r9 S8 M9 hp9 => ?_)
  obtain ⟨rfl, hS8, rfl⟩ := hp9
  have nS8 : S8.1 = σ.1 + 16 := by rw [hS8, kX8_n, nS7]
  have wfS8 : pz_wf S8 := by rw [hS8]; exact kX8_wf wfS7 (pz_lt2 nS7 nS6 rfl)
  have KS8 : (S8.2.1 i).1 = 7 := by rw [hS8, kX8_K (pz_lt0 nS7 hi)]; exact KS7
  refine pz_putRF C (ci := 3) (k := 4) (ty := .object "FeatureDesugarer$Texts") gwX4 rfl (Nat.le_of_ble_eq_true rfl) fl_X4_28 (pz_lt0 nS8 hi) KS8 tyX4_ok nmX4 rfl rfl hnm rfl (by decide +kernel) (fun _ => rfl) (fun _ => rfl) dX4_init_34 ?_
  refine pz_nmS (fun S9 hS9 => ?_)
  have hS9 : S9 = pz_pR S8 i 4 (S6.1) := hS9
  have nS9 : S9.1 = σ.1 + 16 := by rw [hS9]; exact nS8
  have wfS9 : pz_wf S9 := by rw [hS9]; exact pz_wf_put wfS8 (pz_lt2 nS8 nS6 rfl)
  have KS9 : (S9.2.1 i).1 = 7 := by rw [hS9]; exact KS8
  refine pz_aload_n C 0 dX4_init_37 rfl ?_
  refine pz_lconst C (v := 0) dX4_init_38 (by decide) ?_
  refine pz_putJ C (ci := 3) (k := 9) gwX4 rfl (Nat.le_of_ble_eq_true rfl) fl_X4_32 (pz_lt0 nS9 hi) KS9 tyX4_ok nmX4 rfl rfl (by decide +kernel) dX4_init_39 ?_
  rw [pz_uz]
  refine pz_aload_n C 0 dX4_init_42 rfl ?_
  refine pz_aload_n C 1 dX4_init_43 rfl ?_
  refine pz_putRF C (ci := 3) (k := 0) (ty := .object "FeatureDesugarer$Program") gwX4 rfl (Nat.le_of_ble_eq_true rfl) fl_X4_36 (pz_lt0 nS9 hi) KS9 tyX4_ok nmX4 rfl rfl hnm rfl (by decide +kernel) (fun _ => rfl) (fun _ => rfl) dX4_init_44 ?_
  refine pz_nmS (fun S10 hS10 => ?_)
  have hS10 : S10 = pz_pR S9 i 0 (a1) := hS10
  have nS10 : S10.1 = σ.1 + 16 := by rw [hS10]; exact nS9
  have wfS10 : pz_wf S10 := by rw [hS10]; exact pz_wf_put wfS9 (pz_lt0 nS9 ha1)
  have KS10 : (S10.2.1 i).1 = 7 := by rw [hS10]; exact KS9
  refine pz_aload_n C 0 dX4_init_47 rfl ?_
  refine pz_aload_n C 2 dX4_init_48 rfl ?_
  refine pz_putRF C (ci := 3) (k := 1) (ty := .object "FeatureDesugarer$PlainCode") gwX4 rfl (Nat.le_of_ble_eq_true rfl) fl_X4_40 (pz_lt0 nS10 hi) KS10 tyX4_ok nmX4 rfl rfl hnm rfl (by decide +kernel) (fun _ => rfl) (fun _ => rfl) dX4_init_49 ?_
  refine pz_nmS (fun S11 hS11 => ?_)
  have hS11 : S11 = pz_pR S10 i 1 (a2) := hS11
  have nS11 : S11.1 = σ.1 + 16 := by rw [hS11]; exact nS10
  have wfS11 : pz_wf S11 := by rw [hS11]; exact pz_wf_put wfS10 (pz_lt0 nS10 ha2)
  have KS11 : (S11.2.1 i).1 = 7 := by rw [hS11]; exact KS10
  refine pz_aload_n C 0 dX4_init_52 rfl ?_
  refine pz_aload_n C 1 dX4_init_53 rfl ?_
  refine pz_putR C (ci := 3) (k := 5) (ty := .object "FeatureDesugarer$Code") gwX4 rfl (Nat.le_of_ble_eq_true rfl) fl_X4_44 (pz_lt0 nS11 hi) KS11 tyX4_ok nmX4 rfl rfl (by decide +kernel) (fun _ => rfl) (fun _ => rfl) dX4_init_54 ?_
  refine pz_nmS (fun S12 hS12 => ?_)
  have hS12 : S12 = pz_pR S11 i 5 (a1) := hS12
  have nS12 : S12.1 = σ.1 + 16 := by rw [hS12]; exact nS11
  have wfS12 : pz_wf S12 := by rw [hS12]; exact pz_wf_put wfS11 (pz_lt0 nS11 ha1)
  have KS12 : (S12.2.1 i).1 = 7 := by rw [hS12]; exact KS11
  refine pz_vret C hr (Nat.le_of_ble_eq_true rfl) (Nat.le_of_ble_eq_true rfl) dX4_init_57 ⟨rfl, ?_, rfl⟩
  have e9 : kX4 σ i a1 a2 = S12 := by rw [hS12, hS11, hS10, hS9, hS8, hS7, hS6, hS5, hS4, hS3, hS2, hS1]; rfl
  exact e9.symm
