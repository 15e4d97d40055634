def kX6 (σ : pzS) (i : Nat) : pzS :=
  let S1 := pz_new σ (10, 0)
  let S2 := kX7 S1 (σ.1)
  let S3 := pz_pR S2 i 0 (σ.1)
  let S4 := pz_new S3 (1, 12)
  let S5 := pz_pR S4 i 1 (S3.1)
  let S6 := pz_new S5 (1, 12)
  let S7 := pz_pR S6 i 2 (S5.1)
  let S8 := pz_new S7 (1, 480)
  let S9 := pz_pR S8 i 3 (S7.1)
  let S10 := pz_new S9 (1, 480)
  let S11 := pz_pR S10 i 4 (S9.1)
  let S12 := pz_new S11 (1, 480)
  let S13 := pz_pR S12 i 5 (S11.1)
  S13
set_option maxHeartbeats 4000000 in
set_option maxRecDepth 100000 in
theorem kX6_n (σ : pzS) (i : Nat) : (kX6 σ i).1 = σ.1 + 11 := by
  unfold kX6
  simp only [pz_pR, pz_new, kX1_n, kX2_n, kX8_n, kX7_n, kX3_n, kX9_n]
set_option maxHeartbeats 4000000 in
set_option maxRecDepth 100000 in
theorem kX6_wf {σ : pzS} {i : Nat} (wf : pz_wf σ) (hi : i < σ.1) : pz_wf (kX6 σ i) := by
  obtain ⟨S1, hS1⟩ : ∃ z : pzS, z = pz_new σ (10, 0) := ⟨_, rfl⟩
  have nS1 : S1.1 = σ.1 + 1 := pz_n1 (Nat.add_zero σ.1).symm hS1
  have wS1 : pz_wf S1 := by rw [hS1]; exact pz_wf_new wf
  obtain ⟨S2, hS2⟩ : ∃ z : pzS, z = kX7 S1 (σ.1) := ⟨_, rfl⟩
  have nS2 : S2.1 = σ.1 + 6 := by rw [hS2, kX7_n, nS1]
  have wS2 : pz_wf S2 := by rw [hS2]; exact kX7_wf wS1 (pz_lt2 nS1 (Nat.add_zero σ.1).symm rfl)
  obtain ⟨S3, hS3⟩ : ∃ z : pzS, z = pz_pR S2 i 0 (σ.1) := ⟨_, rfl⟩
  have nS3 : S3.1 = σ.1 + 6 := by rw [hS3]; exact nS2
  have wS3 : pz_wf S3 := by rw [hS3]; exact pz_wf_put wS2 (pz_lt2 nS2 (Nat.add_zero σ.1).symm rfl)
  obtain ⟨S4, hS4⟩ : ∃ z : pzS, z = pz_new S3 (1, 12) := ⟨_, rfl⟩
  have nS4 : S4.1 = σ.1 + 7 := pz_n1 nS3 hS4
  have wS4 : pz_wf S4 := by rw [hS4]; exact pz_wf_new wS3
  obtain ⟨S5, hS5⟩ : ∃ z : pzS, z = pz_pR S4 i 1 (S3.1) := ⟨_, rfl⟩
  have nS5 : S5.1 = σ.1 + 7 := by rw [hS5]; exact nS4
  have wS5 : pz_wf S5 := by rw [hS5]; exact pz_wf_put wS4 (pz_lt2 nS4 nS3 rfl)
  obtain ⟨S6, hS6⟩ : ∃ z : pzS, z = pz_new S5 (1, 12) := ⟨_, rfl⟩
  have nS6 : S6.1 = σ.1 + 8 := pz_n1 nS5 hS6
  have wS6 : pz_wf S6 := by rw [hS6]; exact pz_wf_new wS5
  obtain ⟨S7, hS7⟩ : ∃ z : pzS, z = pz_pR S6 i 2 (S5.1) := ⟨_, rfl⟩
  have nS7 : S7.1 = σ.1 + 8 := by rw [hS7]; exact nS6
  have wS7 : pz_wf S7 := by rw [hS7]; exact pz_wf_put wS6 (pz_lt2 nS6 nS5 rfl)
  obtain ⟨S8, hS8⟩ : ∃ z : pzS, z = pz_new S7 (1, 480) := ⟨_, rfl⟩
  have nS8 : S8.1 = σ.1 + 9 := pz_n1 nS7 hS8
  have wS8 : pz_wf S8 := by rw [hS8]; exact pz_wf_new wS7
  obtain ⟨S9, hS9⟩ : ∃ z : pzS, z = pz_pR S8 i 3 (S7.1) := ⟨_, rfl⟩
  have nS9 : S9.1 = σ.1 + 9 := by rw [hS9]; exact nS8
  have wS9 : pz_wf S9 := by rw [hS9]; exact pz_wf_put wS8 (pz_lt2 nS8 nS7 rfl)
  obtain ⟨S10, hS10⟩ : ∃ z : pzS, z = pz_new S9 (1, 480) := ⟨_, rfl⟩
  have nS10 : S10.1 = σ.1 + 10 := pz_n1 nS9 hS10
  have wS10 : pz_wf S10 := by rw [hS10]; exact pz_wf_new wS9
  obtain ⟨S11, hS11⟩ : ∃ z : pzS, z = pz_pR S10 i 4 (S9.1) := ⟨_, rfl⟩
  have nS11 : S11.1 = σ.1 + 10 := by rw [hS11]; exact nS10
  have wS11 : pz_wf S11 := by rw [hS11]; exact pz_wf_put wS10 (pz_lt2 nS10 nS9 rfl)
  obtain ⟨S12, hS12⟩ : ∃ z : pzS, z = pz_new S11 (1, 480) := ⟨_, rfl⟩
  have nS12 : S12.1 = σ.1 + 11 := pz_n1 nS11 hS12
  have wS12 : pz_wf S12 := by rw [hS12]; exact pz_wf_new wS11
  obtain ⟨S13, hS13⟩ : ∃ z : pzS, z = pz_pR S12 i 5 (S11.1) := ⟨_, rfl⟩
  have nS13 : S13.1 = σ.1 + 11 := by rw [hS13]; exact nS12
  have wS13 : pz_wf S13 := by rw [hS13]; exact pz_wf_put wS12 (pz_lt2 nS12 nS11 rfl)
  have e9 : kX6 σ i = S13 := by rw [hS13, hS12, hS11, hS10, hS9, hS8, hS7, hS6, hS5, hS4, hS3, hS2, hS1]; rfl
  rw [e9]; exact wS13
set_option maxHeartbeats 4000000 in
set_option maxRecDepth 100000 in
theorem kX6_K {σ : pzS} {j : Nat} {i : Nat} (hj0 : j < σ.1) : (kX6 σ i).2.1 j = σ.2.1 j := by
  obtain ⟨S1, hS1⟩ : ∃ z : pzS, z = pz_new σ (10, 0) := ⟨_, rfl⟩
  have nS1 : S1.1 = σ.1 + 1 := pz_n1 (Nat.add_zero σ.1).symm hS1
  have wS1 : S1.2.1 j = σ.2.1 j := by rw [hS1, pz_new_K hj0] <;> exact rfl
  obtain ⟨S2, hS2⟩ : ∃ z : pzS, z = kX7 S1 (σ.1) := ⟨_, rfl⟩
  have nS2 : S2.1 = σ.1 + 6 := by rw [hS2, kX7_n, nS1]
  have wS2 : S2.2.1 j = σ.2.1 j := by rw [hS2, kX7_K (pz_lt0 nS1 hj0)]; exact wS1
  obtain ⟨S3, hS3⟩ : ∃ z : pzS, z = pz_pR S2 i 0 (σ.1) := ⟨_, rfl⟩
  have nS3 : S3.1 = σ.1 + 6 := by rw [hS3]; exact nS2
  have wS3 : S3.2.1 j = σ.2.1 j := by rw [hS3]; exact wS2
  obtain ⟨S4, hS4⟩ : ∃ z : pzS, z = pz_new S3 (1, 12) := ⟨_, rfl⟩
  have nS4 : S4.1 = σ.1 + 7 := pz_n1 nS3 hS4
  have wS4 : S4.2.1 j = σ.2.1 j := by rw [hS4, pz_new_K (pz_lt0 nS3 hj0)] <;> exact wS3
  obtain ⟨S5, hS5⟩ : ∃ z : pzS, z = pz_pR S4 i 1 (S3.1) := ⟨_, rfl⟩
  have nS5 : S5.1 = σ.1 + 7 := by rw [hS5]; exact nS4
  have wS5 : S5.2.1 j = σ.2.1 j := by rw [hS5]; exact wS4
  obtain ⟨S6, hS6⟩ : ∃ z : pzS, z = pz_new S5 (1, 12) := ⟨_, rfl⟩
  have nS6 : S6.1 = σ.1 + 8 := pz_n1 nS5 hS6
  have wS6 : S6.2.1 j = σ.2.1 j := by rw [hS6, pz_new_K (pz_lt0 nS5 hj0)] <;> exact wS5
  obtain ⟨S7, hS7⟩ : ∃ z : pzS, z = pz_pR S6 i 2 (S5.1) := ⟨_, rfl⟩
  have nS7 : S7.1 = σ.1 + 8 := by rw [hS7]; exact nS6
  have wS7 : S7.2.1 j = σ.2.1 j := by rw [hS7]; exact wS6
  obtain ⟨S8, hS8⟩ : ∃ z : pzS, z = pz_new S7 (1, 480) := ⟨_, rfl⟩
  have nS8 : S8.1 = σ.1 + 9 := pz_n1 nS7 hS8
  have wS8 : S8.2.1 j = σ.2.1 j := by rw [hS8, pz_new_K (pz_lt0 nS7 hj0)] <;> exact wS7
  obtain ⟨S9, hS9⟩ : ∃ z : pzS, z = pz_pR S8 i 3 (S7.1) := ⟨_, rfl⟩
  have nS9 : S9.1 = σ.1 + 9 := by rw [hS9]; exact nS8
  have wS9 : S9.2.1 j = σ.2.1 j := by rw [hS9]; exact wS8
  obtain ⟨S10, hS10⟩ : ∃ z : pzS, z = pz_new S9 (1, 480) := ⟨_, rfl⟩
  have nS10 : S10.1 = σ.1 + 10 := pz_n1 nS9 hS10
  have wS10 : S10.2.1 j = σ.2.1 j := by rw [hS10, pz_new_K (pz_lt0 nS9 hj0)] <;> exact wS9
  obtain ⟨S11, hS11⟩ : ∃ z : pzS, z = pz_pR S10 i 4 (S9.1) := ⟨_, rfl⟩
  have nS11 : S11.1 = σ.1 + 10 := by rw [hS11]; exact nS10
  have wS11 : S11.2.1 j = σ.2.1 j := by rw [hS11]; exact wS10
  obtain ⟨S12, hS12⟩ : ∃ z : pzS, z = pz_new S11 (1, 480) := ⟨_, rfl⟩
  have nS12 : S12.1 = σ.1 + 11 := pz_n1 nS11 hS12
  have wS12 : S12.2.1 j = σ.2.1 j := by rw [hS12, pz_new_K (pz_lt0 nS11 hj0)] <;> exact wS11
  obtain ⟨S13, hS13⟩ : ∃ z : pzS, z = pz_pR S12 i 5 (S11.1) := ⟨_, rfl⟩
  have nS13 : S13.1 = σ.1 + 11 := by rw [hS13]; exact nS12
  have wS13 : S13.2.1 j = σ.2.1 j := by rw [hS13]; exact wS12
  have e9 : kX6 σ i = S13 := by rw [hS13, hS12, hS11, hS10, hS9, hS8, hS7, hS6, hS5, hS4, hS3, hS2, hS1]; rfl
  rw [e9]; exact wS13
set_option maxHeartbeats 4000000 in
set_option maxRecDepth 100000 in
theorem kX6_R {σ : pzS} {j : Nat} {i : Nat} (hj0 : j < σ.1) (hj : j ≠ i) : (kX6 σ i).2.2 j = σ.2.2 j := by
  obtain ⟨S1, hS1⟩ : ∃ z : pzS, z = pz_new σ (10, 0) := ⟨_, rfl⟩
  have nS1 : S1.1 = σ.1 + 1 := pz_n1 (Nat.add_zero σ.1).symm hS1
  have wS1 : S1.2.2 j = σ.2.2 j := by rw [hS1, pz_new_R hj0] <;> exact rfl
  obtain ⟨S2, hS2⟩ : ∃ z : pzS, z = kX7 S1 (σ.1) := ⟨_, rfl⟩
  have nS2 : S2.1 = σ.1 + 6 := by rw [hS2, kX7_n, nS1]
  have wS2 : S2.2.2 j = σ.2.2 j := by rw [hS2, kX7_R (pz_lt0 nS1 hj0) (pz_ne0 hj0 (Nat.add_zero σ.1).symm)]; exact wS1
  obtain ⟨S3, hS3⟩ : ∃ z : pzS, z = pz_pR S2 i 0 (σ.1) := ⟨_, rfl⟩
  have nS3 : S3.1 = σ.1 + 6 := by rw [hS3]; exact nS2
  have wS3 : S3.2.2 j = σ.2.2 j := by rw [hS3]; exact (pz_u_off _ _ _ hj).trans wS2
  obtain ⟨S4, hS4⟩ : ∃ z : pzS, z = pz_new S3 (1, 12) := ⟨_, rfl⟩
  have nS4 : S4.1 = σ.1 + 7 := pz_n1 nS3 hS4
  have wS4 : S4.2.2 j = σ.2.2 j := by rw [hS4, pz_new_R (pz_lt0 nS3 hj0)] <;> exact wS3
  obtain ⟨S5, hS5⟩ : ∃ z : pzS, z = pz_pR S4 i 1 (S3.1) := ⟨_, rfl⟩
  have nS5 : S5.1 = σ.1 + 7 := by rw [hS5]; exact nS4
  have wS5 : S5.2.2 j = σ.2.2 j := by rw [hS5]; exact (pz_u_off _ _ _ hj).trans wS4
  obtain ⟨S6, hS6⟩ : ∃ z : pzS, z = pz_new S5 (1, 12) := ⟨_, rfl⟩
  have nS6 : S6.1 = σ.1 + 8 := pz_n1 nS5 hS6
  have wS6 : S6.2.2 j = σ.2.2 j := by rw [hS6, pz_new_R (pz_lt0 nS5 hj0)] <;> exact wS5
  obtain ⟨S7, hS7⟩ : ∃ z : pzS, z = pz_pR S6 i 2 (S5.1) := ⟨_, rfl⟩
  have nS7 : S7.1 = σ.1 + 8 := by rw [hS7]; exact nS6
  have wS7 : S7.2.2 j = σ.2.2 j := by rw [hS7]; exact (pz_u_off _ _ _ hj).trans wS6
  obtain ⟨S8, hS8⟩ : ∃ z : pzS, z = pz_new S7 (1, 480) := ⟨_, rfl⟩
  have nS8 : S8.1 = σ.1 + 9 := pz_n1 nS7 hS8
  have wS8 : S8.2.2 j = σ.2.2 j := by rw [hS8, pz_new_R (pz_lt0 nS7 hj0)] <;> exact wS7
  obtain ⟨S9, hS9⟩ : ∃ z : pzS, z = pz_pR S8 i 3 (S7.1) := ⟨_, rfl⟩
  have nS9 : S9.1 = σ.1 + 9 := by rw [hS9]; exact nS8
  have wS9 : S9.2.2 j = σ.2.2 j := by rw [hS9]; exact (pz_u_off _ _ _ hj).trans wS8
  obtain ⟨S10, hS10⟩ : ∃ z : pzS, z = pz_new S9 (1, 480) := ⟨_, rfl⟩
  have nS10 : S10.1 = σ.1 + 10 := pz_n1 nS9 hS10
  have wS10 : S10.2.2 j = σ.2.2 j := by rw [hS10, pz_new_R (pz_lt0 nS9 hj0)] <;> exact wS9
  obtain ⟨S11, hS11⟩ : ∃ z : pzS, z = pz_pR S10 i 4 (S9.1) := ⟨_, rfl⟩
  have nS11 : S11.1 = σ.1 + 10 := by rw [hS11]; exact nS10
  have wS11 : S11.2.2 j = σ.2.2 j := by rw [hS11]; exact (pz_u_off _ _ _ hj).trans wS10
  obtain ⟨S12, hS12⟩ : ∃ z : pzS, z = pz_new S11 (1, 480) := ⟨_, rfl⟩
  have nS12 : S12.1 = σ.1 + 11 := pz_n1 nS11 hS12
  have wS12 : S12.2.2 j = σ.2.2 j := by rw [hS12, pz_new_R (pz_lt0 nS11 hj0)] <;> exact wS11
  obtain ⟨S13, hS13⟩ : ∃ z : pzS, z = pz_pR S12 i 5 (S11.1) := ⟨_, rfl⟩
  have nS13 : S13.1 = σ.1 + 11 := by rw [hS13]; exact nS12
  have wS13 : S13.2.2 j = σ.2.2 j := by rw [hS13]; exact (pz_u_off _ _ _ hj).trans wS12
  have e9 : kX6 σ i = S13 := by rw [hS13, hS12, hS11, hS10, hS9, hS8, hS7, hS6, hS5, hS4, hS3, hS2, hS1]; rfl
  rw [e9]; exact wS13
set_option maxHeartbeats 4000000 in
set_option maxRecDepth 100000 in
theorem c_X6_init (l : Launch) (D : va_G) (cy : Nat → ClassId) {σ : pzS} {i : Nat} (wf : pz_wf σ) (hi : i < σ.1) (hK : (σ.2.1 i).1 = 9) : pz_Met l yX6_init cX6_init 1 none 2 32 11 1687 D cy σ pz_z [.ref i] (fun r σ' M' => r = none ∧ σ' = kX6 σ i ∧ M' = pz_z) := by
  refine pz_ofW (by decide) (Nat.le_of_ble_eq_true rfl) (fun p e s m args below meth c ad A C hr hnm => ?_)
  refine pz_aload_n C 0 dX6_init_0 rfl ?_
  refine pz_objInit C ml_X6_3 im_objectInit wco dX6_init_1 (by decide) (Nat.le_of_ble_eq_true rfl) ?_
  refine pz_aload_n C 0 dX6_init_4 rfl ?_
  refine pz_newobj C (ci := 6) dX6_init_5 gwX7 tyX7_ok cl_X6_9 inst_X7 ini_X7 rfl dfX7 wf (Nat.le_refl _) (And.intro hi (True.intro)) (And.intro hi (True.intro)) (Nat.le_of_ble_eq_true rfl) (Nat.le_of_ble_eq_true rfl) ?_
  rw [pz_nz]
  refine pz_nmS (fun S1 hS1 => ?_)
  have nS1 : S1.1 = σ.1 + 1 := pz_n1 (Nat.add_zero σ.1).symm hS1
  have wfS1 : pz_wf S1 := by rw [hS1]; exact pz_wf_new wf
  have KS1 : (S1.2.1 i).1 = 9 := by rw [hS1, pz_new_K hi]; exact hK
  refine pz_dup C dX6_init_8 rfl ?_
  have Kc : (S1.2.1 (σ.1)).1 = 10 := by rw [hS1, pz_new_k]
  refine pz_callIN C (As := []) (rest := [.ref (σ.1), .ref (i)]) (b := (σ.1)) (c_X7_init l D cy (σ := S1) wfS1 (pz_lt2 nS1 (Nat.add_zero σ.1).symm rfl) Kc) wB_yX7_init (show (RX6, 11, yX7_init, "FeatureDesugarer") ∈ pz_nests by decide +kernel) im_yX7_init rfl rfl rfl (Nat.le_of_ble_eq_true rfl) ⟨(Nat.le_of_ble_eq_true rfl), (Nat.le_of_ble_eq_true rfl)⟩ ⟨(Nat.le_of_ble_eq_true rfl), (Nat.le_of_ble_eq_true rfl)⟩ dX6_init_9 (pz_le0 nS1) (And.intro (pz_lt2 nS1 (Nat.add_zero σ.1).symm rfl) (And.intro (pz_lt0 nS1 hi) (True.intro))) (And.intro (pz_lt0 nS1 hi) (True.intro)) (fun r9 S2 M9 hp9 => ?_)
  obtain ⟨rfl, hS2, rfl⟩ := hp9
  have nS2 : S2.1 = σ.1 + 6 := by rw [hS2, kX7_n, nS1]
  have wfS2 : pz_wf S2 := by rw [hS2]; exact kX7_wf wfS1 (pz_lt2 nS1 (Nat.add_zero σ.1).symm rfl)
  have KS2 : (S2.2.1 i).1 = 9 := by rw [hS2, kX7_K (pz_lt0 nS1 hi)]; exact KS1
  refine pz_putRF C (ci := 5) (k := 0) (ty := .object "FeatureDesugarer$Recipes") gwX6 rfl (Nat.le_of_ble_eq_true rfl) fl_X6_12 (pz_lt0 nS2 hi) KS2 tyX6_ok nmX6 rfl rfl hnm rfl (by decide +kernel) (fun _ => rfl) (fun _ => rfl) dX6_init_12 ?_
  refine pz_nmS (fun S3 hS3 => ?_)
  have hS3 : S3 = pz_pR S2 i 0 (σ.1) := hS3
  have nS3 : S3.1 = σ.1 + 6 := by rw [hS3]; exact nS2
  have wfS3 : pz_wf S3 := by rw [hS3]; exact pz_wf_put wfS2 (pz_lt2 nS2 (Nat.add_zero σ.1).symm rfl)
  have KS3 : (S3.2.1 i).1 = 9 := by rw [hS3]; exact KS2
  refine pz_aload_n C 0 dX6_init_15 rfl ?_
  refine pz_bipush C (v := 12) dX6_init_16 (by decide) ?_
  refine pz_newarr C (t := 1) (N' := 12) dX6_init_18 rfl arr_int (Or.inr (Or.inl rfl)) (by decide) (by decide) (Nat.le_of_ble_eq_true rfl) wfS3 (pz_le0 nS3) (And.intro (pz_lt0 nS3 hi) (True.intro)) (And.intro (pz_lt0 nS3 hi) (True.intro)) (Nat.le_of_ble_eq_true rfl) (Nat.le_of_ble_eq_true rfl) ?_
  rw [pz_nz]
  refine pz_nmS (fun S4 hS4 => ?_)
  have nS4 : S4.1 = σ.1 + 7 := pz_n1 nS3 hS4
  have wfS4 : pz_wf S4 := by rw [hS4]; exact pz_wf_new wfS3
  have KS4 : (S4.2.1 i).1 = 9 := by rw [hS4, pz_new_K (pz_lt0 nS3 hi)]; exact KS3
  refine pz_putRF C (ci := 5) (k := 1) (ty := .array .int) gwX6 rfl (Nat.le_of_ble_eq_true rfl) fl_X6_18 (pz_lt0 nS4 hi) KS4 tyX6_ok nmX6 rfl rfl hnm rfl (by decide +kernel) (fun _ => rfl) (fun _ => rfl) dX6_init_20 ?_
  refine pz_nmS (fun S5 hS5 => ?_)
  have hS5 : S5 = pz_pR S4 i 1 (S3.1) := hS5
  have nS5 : S5.1 = σ.1 + 7 := by rw [hS5]; exact nS4
  have wfS5 : pz_wf S5 := by rw [hS5]; exact pz_wf_put wfS4 (pz_lt2 nS4 nS3 rfl)
  have KS5 : (S5.2.1 i).1 = 9 := by rw [hS5]; exact KS4
  refine pz_aload_n C 0 dX6_init_23 rfl ?_
  refine pz_bipush C (v := 12) dX6_init_24 (by decide) ?_
  refine pz_newarr C (t := 1) (N' := 12) dX6_init_26 rfl arr_int (Or.inr (Or.inl rfl)) (by decide) (by decide) (Nat.le_of_ble_eq_true rfl) wfS5 (pz_le0 nS5) (And.intro (pz_lt0 nS5 hi) (True.intro)) (And.intro (pz_lt0 nS5 hi) (True.intro)) (Nat.le_of_ble_eq_true rfl) (Nat.le_of_ble_eq_true rfl) ?_
  rw [pz_nz]
  refine pz_nmS (fun S6 hS6 => ?_)
  have nS6 : S6.1 = σ.1 + 8 := pz_n1 nS5 hS6
  have wfS6 : pz_wf S6 := by rw [hS6]; exact pz_wf_new wfS5
  have KS6 : (S6.2.1 i).1 = 9 := by rw [hS6, pz_new_K (pz_lt0 nS5 hi)]; exact KS5
  refine pz_putRF C (ci := 5) (k := 2) (ty := .array .int) gwX6 rfl (Nat.le_of_ble_eq_true rfl) fl_X6_22 (pz_lt0 nS6 hi) KS6 tyX6_ok nmX6 rfl rfl hnm rfl (by decide +kernel) (fun _ => rfl) (fun _ => rfl) dX6_init_28 ?_
  refine pz_nmS (fun S7 hS7 => ?_)
  have hS7 : S7 = pz_pR S6 i 2 (S5.1) := hS7
  have nS7 : S7.1 = σ.1 + 8 := by rw [hS7]; exact nS6
  have wfS7 : pz_wf S7 := by rw [hS7]; exact pz_wf_put wfS6 (pz_lt2 nS6 nS5 rfl)
  have KS7 : (S7.2.1 i).1 = 9 := by rw [hS7]; exact KS6
  refine pz_aload_n C 0 dX6_init_31 rfl ?_
  refine pz_sipush C (v := 480) dX6_init_32 (by decide) ?_
  refine pz_newarr C (t := 1) (N' := 480) dX6_init_35 rfl arr_int (Or.inr (Or.inl rfl)) (by decide) (by decide) (Nat.le_of_ble_eq_true rfl) wfS7 (pz_le0 nS7) (And.intro (pz_lt0 nS7 hi) (True.intro)) (And.intro (pz_lt0 nS7 hi) (True.intro)) (Nat.le_of_ble_eq_true rfl) (Nat.le_of_ble_eq_true rfl) ?_
  rw [pz_nz]
  refine pz_nmS (fun S8 hS8 => ?_)
  have nS8 : S8.1 = σ.1 + 9 := pz_n1 nS7 hS8
  have wfS8 : pz_wf S8 := by rw [hS8]; exact pz_wf_new wfS7
  have KS8 : (S8.2.1 i).1 = 9 := by rw [hS8, pz_new_K (pz_lt0 nS7 hi)]; exact KS7
  refine pz_putRF C (ci := 5) (k := 3) (ty := .array .int) gwX6 rfl (Nat.le_of_ble_eq_true rfl) fl_X6_25 (pz_lt0 nS8 hi) KS8 tyX6_ok nmX6 rfl rfl hnm rfl (by decide +kernel) (fun _ => rfl) (fun _ => rfl) dX6_init_37 ?_
  refine pz_nmS (fun S9 hS9 => ?_)
  have hS9 : S9 = pz_pR S8 i 3 (S7.1) := hS9
  have nS9 : S9.1 = σ.1 + 9 := by rw [hS9]; exact nS8
  have wfS9 : pz_wf S9 := by rw [hS9]; exact pz_wf_put wfS8 (pz_lt2 nS8 nS7 rfl)
  have KS9 : (S9.2.1 i).1 = 9 := by rw [hS9]; exact KS8
  refine pz_aload_n C 0 dX6_init_40 rfl ?_
  refine pz_sipush C (v := 480) dX6_init_41 (by decide) ?_
  refine pz_newarr C (t := 1) (N' := 480) dX6_init_44 rfl arr_int (Or.inr (Or.inl rfl)) (by decide) (by decide) (Nat.le_of_ble_eq_true rfl) wfS9 (pz_le0 nS9) (And.intro (pz_lt0 nS9 hi) (True.intro)) (And.intro (pz_lt0 nS9 hi) (True.intro)) (Nat.le_of_ble_eq_true rfl) (Nat.le_of_ble_eq_true rfl) ?_
  rw [pz_nz]
  refine pz_nmS (fun S10 hS10 => ?_)
  have nS10 : S10.1 = σ.1 + 10 := pz_n1 nS9 hS10
  have wfS10 : pz_wf S10 := by rw [hS10]; exact pz_wf_new wfS9
  have KS10 : (S10.2.1 i).1 = 9 := by rw [hS10, pz_new_K (pz_lt0 nS9 hi)]; exact KS9
  refine pz_putRF C (ci := 5) (k := 4) (ty := .array .int) gwX6 rfl (Nat.le_of_ble_eq_true rfl) fl_X6_28 (pz_lt0 nS10 hi) KS10 tyX6_ok nmX6 rfl rfl hnm rfl (by decide +kernel) (fun _ => rfl) (fun _ => rfl) dX6_init_46 ?_
  refine pz_nmS (fun S11 hS11 => ?_)
  have hS11 : S11 = pz_pR S10 i 4 (S9.1) := hS11
  have nS11 : S11.1 = σ.1 + 10 := by rw [hS11]; exact nS10
  have wfS11 : pz_wf S11 := by rw [hS11]; exact pz_wf_put wfS10 (pz_lt2 nS10 nS9 rfl)
  have KS11 : (S11.2.1 i).1 = 9 := by rw [hS11]; exact KS10
  refine pz_aload_n C 0 dX6_init_49 rfl ?_
  refine pz_sipush C (v := 480) dX6_init_50 (by decide) ?_
  refine pz_newarr C (t := 1) (N' := 480) dX6_init_53 rfl arr_int (Or.inr (Or.inl rfl)) (by decide) (by decide) (Nat.le_of_ble_eq_true rfl) wfS11 (pz_le0 nS11) (And.intro (pz_lt0 nS11 hi) (True.intro)) (And.intro (pz_lt0 nS11 hi) (True.intro)) (Nat.le_of_ble_eq_true rfl) (Nat.le_of_ble_eq_true rfl) ?_
  rw [pz_nz]
  refine pz_nmS (fun S12 hS12 => ?_)
  have nS12 : S12.1 = σ.1 + 11 := pz_n1 nS11 hS12
  have wfS12 : pz_wf S12 := by rw [hS12]; exact pz_wf_new wfS11
  have KS12 : (S12.2.1 i).1 = 9 := by rw [hS12, pz_new_K (pz_lt0 nS11 hi)]; exact KS11
  refine pz_putRF C (ci := 5) (k := 5) (ty := .array .int) gwX6 rfl (Nat.le_of_ble_eq_true rfl) fl_X6_31 (pz_lt0 nS12 hi) KS12 tyX6_ok nmX6 rfl rfl hnm rfl (by decide +kernel) (fun _ => rfl) (fun _ => rfl) dX6_init_55 ?_
  refine pz_nmS (fun S13 hS13 => ?_)
  have hS13 : S13 = pz_pR S12 i 5 (S11.1) := hS13
  have nS13 : S13.1 = σ.1 + 11 := by rw [hS13]; exact nS12
  have wfS13 : pz_wf S13 := by rw [hS13]; exact pz_wf_put wfS12 (pz_lt2 nS12 nS11 rfl)
  have KS13 : (S13.2.1 i).1 = 9 := by rw [hS13]; exact KS12
  refine pz_vret C hr (Nat.le_of_ble_eq_true rfl) (Nat.le_of_ble_eq_true rfl) dX6_init_58 ⟨rfl, ?_, rfl⟩
  have e9 : kX6 σ i = S13 := by rw [hS13, hS12, hS11, hS10, hS9, hS8, hS7, hS6, hS5, hS4, hS3, hS2, hS1]; rfl
  exact e9.symm
