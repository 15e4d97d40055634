def kX1 (σ : pzS) (i : Nat) : pzS :=
  let S1 := pz_new σ (2, 1980)
  let S2 := pz_pR S1 i 0 (σ.1)
  let S3 := pz_new S2 (1, 60)
  let S4 := pz_pR S3 i 1 (S2.1)
  let S5 := pz_new S4 (1, 60)
  let S6 := pz_pR S5 i 2 (S4.1)
  let S7 := pz_new S6 (1, 60)
  let S8 := pz_pR S7 i 3 (S6.1)
  let S9 := pz_new S8 (2, 12)
  let S10 := pz_pR S9 i 4 (S8.1)
  S10
set_option maxHeartbeats 4000000 in
set_option maxRecDepth 100000 in
theorem kX1_n (σ : pzS) (i : Nat) : (kX1 σ i).1 = σ.1 + 5 := by
  unfold kX1
  simp only [pz_pR, pz_new]
set_option maxHeartbeats 4000000 in
set_option maxRecDepth 100000 in
theorem kX1_wf {σ : pzS} {i : Nat} (wf : pz_wf σ) (hi : i < σ.1) : pz_wf (kX1 σ i) := by
  obtain ⟨S1, hS1⟩ : ∃ z : pzS, z = pz_new σ (2, 1980) := ⟨_, rfl⟩
  have nS1 : S1.1 = σ.1 + 1 := pz_n1 (Nat.add_zero σ.1).symm hS1
  have wS1 : pz_wf S1 := by rw [hS1]; exact pz_wf_new wf
  obtain ⟨S2, hS2⟩ : ∃ z : pzS, z = pz_pR S1 i 0 (σ.1) := ⟨_, rfl⟩
  have nS2 : S2.1 = σ.1 + 1 := by rw [hS2]; exact nS1
  have wS2 : pz_wf S2 := by rw [hS2]; exact pz_wf_put wS1 (pz_lt2 nS1 (Nat.add_zero σ.1).symm rfl)
  obtain ⟨S3, hS3⟩ : ∃ z : pzS, z = pz_new S2 (1, 60) := ⟨_, rfl⟩
  have nS3 : S3.1 = σ.1 + 2 := pz_n1 nS2 hS3
  have wS3 : pz_wf S3 := by rw [hS3]; exact pz_wf_new wS2
  obtain ⟨S4, hS4⟩ : ∃ z : pzS, z = pz_pR S3 i 1 (S2.1) := ⟨_, rfl⟩
  have nS4 : S4.1 = σ.1 + 2 := by rw [hS4]; exact nS3
  have wS4 : pz_wf S4 := by rw [hS4]; exact pz_wf_put wS3 (pz_lt2 nS3 nS2 rfl)
  obtain ⟨S5, hS5⟩ : ∃ z : pzS, z = pz_new S4 (1, 60) := ⟨_, rfl⟩
  have nS5 : S5.1 = σ.1 + 3 := pz_n1 nS4 hS5
  have wS5 : pz_wf S5 := by rw [hS5]; exact pz_wf_new wS4
  obtain ⟨S6, hS6⟩ : ∃ z : pzS, z = pz_pR S5 i 2 (S4.1) := ⟨_, rfl⟩
  have nS6 : S6.1 = σ.1 + 3 := by rw [hS6]; exact nS5
  have wS6 : pz_wf S6 := by rw [hS6]; exact pz_wf_put wS5 (pz_lt2 nS5 nS4 rfl)
  obtain ⟨S7, hS7⟩ : ∃ z : pzS, z = pz_new S6 (1, 60) := ⟨_, rfl⟩
  have nS7 : S7.1 = σ.1 + 4 := pz_n1 nS6 hS7
  have wS7 : pz_wf S7 := by rw [hS7]; exact pz_wf_new wS6
  obtain ⟨S8, hS8⟩ : ∃ z : pzS, z = pz_pR S7 i 3 (S6.1) := ⟨_, rfl⟩
  have nS8 : S8.1 = σ.1 + 4 := by rw [hS8]; exact nS7
  have wS8 : pz_wf S8 := by rw [hS8]; exact pz_wf_put wS7 (pz_lt2 nS7 nS6 rfl)
  obtain ⟨S9, hS9⟩ : ∃ z : pzS, z = pz_new S8 (2, 12) := ⟨_, rfl⟩
  have nS9 : S9.1 = σ.1 + 5 := pz_n1 nS8 hS9
  have wS9 : pz_wf S9 := by rw [hS9]; exact pz_wf_new wS8
  obtain ⟨S10, hS10⟩ : ∃ z : pzS, z = pz_pR S9 i 4 (S8.1) := ⟨_, rfl⟩
  have nS10 : S10.1 = σ.1 + 5 := by rw [hS10]; exact nS9
  have wS10 : pz_wf S10 := by rw [hS10]; exact pz_wf_put wS9 (pz_lt2 nS9 nS8 rfl)
  have e9 : kX1 σ i = S10 := by rw [hS10, hS9, hS8, hS7, hS6, hS5, hS4, hS3, hS2, hS1]; rfl
  rw [e9]; exact wS10
set_option maxHeartbeats 4000000 in
set_option maxRecDepth 100000 in
theorem kX1_K {σ : pzS} {j : Nat} {i : Nat} (hj0 : j < σ.1) : (kX1 σ i).2.1 j = σ.2.1 j := by
  obtain ⟨S1, hS1⟩ : ∃ z : pzS, z = pz_new σ (2, 1980) := ⟨_, rfl⟩
  have nS1 : S1.1 = σ.1 + 1 := pz_n1 (Nat.add_zero σ.1).symm hS1
  have wS1 : S1.2.1 j = σ.2.1 j := by rw [hS1, pz_new_K hj0] <;> exact rfl
  obtain ⟨S2, hS2⟩ : ∃ z : pzS, z = pz_pR S1 i 0 (σ.1) := ⟨_, rfl⟩
  have nS2 : S2.1 = σ.1 + 1 := by rw [hS2]; exact nS1
  have wS2 : S2.2.1 j = σ.2.1 j := by rw [hS2]; exact wS1
  obtain ⟨S3, hS3⟩ : ∃ z : pzS, z = pz_new S2 (1, 60) := ⟨_, rfl⟩
  have nS3 : S3.1 = σ.1 + 2 := pz_n1 nS2 hS3
  have wS3 : S3.2.1 j = σ.2.1 j := by rw [hS3, pz_new_K (pz_lt0 nS2 hj0)] <;> exact wS2
  obtain ⟨S4, hS4⟩ : ∃ z : pzS, z = pz_pR S3 i 1 (S2.1) := ⟨_, rfl⟩
  have nS4 : S4.1 = σ.1 + 2 := by rw [hS4]; exact nS3
  have wS4 : S4.2.1 j = σ.2.1 j := by rw [hS4]; exact wS3
  obtain ⟨S5, hS5⟩ : ∃ z : pzS, z = pz_new S4 (1, 60) := ⟨_, rfl⟩
  have nS5 : S5.1 = σ.1 + 3 := pz_n1 nS4 hS5
  have wS5 : S5.2.1 j = σ.2.1 j := by rw [hS5, pz_new_K (pz_lt0 nS4 hj0)] <;> exact wS4
  obtain ⟨S6, hS6⟩ : ∃ z : pzS, z = pz_pR S5 i 2 (S4.1) := ⟨_, rfl⟩
  have nS6 : S6.1 = σ.1 + 3 := by rw [hS6]; exact nS5
  have wS6 : S6.2.1 j = σ.2.1 j := by rw [hS6]; exact wS5
  obtain ⟨S7, hS7⟩ : ∃ z : pzS, z = pz_new S6 (1, 60) := ⟨_, rfl⟩
  have nS7 : S7.1 = σ.1 + 4 := pz_n1 nS6 hS7
  have wS7 : S7.2.1 j = σ.2.1 j := by rw [hS7, pz_new_K (pz_lt0 nS6 hj0)] <;> exact wS6
  obtain ⟨S8, hS8⟩ : ∃ z : pzS, z = pz_pR S7 i 3 (S6.1) := ⟨_, rfl⟩
  have nS8 : S8.1 = σ.1 + 4 := by rw [hS8]; exact nS7
  have wS8 : S8.2.1 j = σ.2.1 j := by rw [hS8]; exact wS7
  obtain ⟨S9, hS9⟩ : ∃ z : pzS, z = pz_new S8 (2, 12) := ⟨_, rfl⟩
  have nS9 : S9.1 = σ.1 + 5 := pz_n1 nS8 hS9
  have wS9 : S9.2.1 j = σ.2.1 j := by rw [hS9, pz_new_K (pz_lt0 nS8 hj0)] <;> exact wS8
  obtain ⟨S10, hS10⟩ : ∃ z : pzS, z = pz_pR S9 i 4 (S8.1) := ⟨_, rfl⟩
  have nS10 : S10.1 = σ.1 + 5 := by rw [hS10]; exact nS9
  have wS10 : S10.2.1 j = σ.2.1 j := by rw [hS10]; exact wS9
  have e9 : kX1 σ i = S10 := by rw [hS10, hS9, hS8, hS7, hS6, hS5, hS4, hS3, hS2, hS1]; rfl
  rw [e9]; exact wS10
set_option maxHeartbeats 4000000 in
set_option maxRecDepth 100000 in
theorem kX1_R {σ : pzS} {j : Nat} {i : Nat} (hj0 : j < σ.1) (hj : j ≠ i) : (kX1 σ i).2.2 j = σ.2.2 j := by
  obtain ⟨S1, hS1⟩ : ∃ z : pzS, z = pz_new σ (2, 1980) := ⟨_, rfl⟩
  have nS1 : S1.1 = σ.1 + 1 := pz_n1 (Nat.add_zero σ.1).symm hS1
  have wS1 : S1.2.2 j = σ.2.2 j := by rw [hS1, pz_new_R hj0] <;> exact rfl
  obtain ⟨S2, hS2⟩ : ∃ z : pzS, z = pz_pR S1 i 0 (σ.1) := ⟨_, rfl⟩
  have nS2 : S2.1 = σ.1 + 1 := by rw [hS2]; exact nS1
  have wS2 : S2.2.2 j = σ.2.2 j := by rw [hS2]; exact (pz_u_off _ _ _ hj).trans wS1
  obtain ⟨S3, hS3⟩ : ∃ z : pzS, z = pz_new S2 (1, 60) := ⟨_, rfl⟩
  have nS3 : S3.1 = σ.1 + 2 := pz_n1 nS2 hS3
  have wS3 : S3.2.2 j = σ.2.2 j := by rw [hS3, pz_new_R (pz_lt0 nS2 hj0)] <;> exact wS2
  obtain ⟨S4, hS4⟩ : ∃ z : pzS, z = pz_pR S3 i 1 (S2.1) := ⟨_, rfl⟩
  have nS4 : S4.1 = σ.1 + 2 := by rw [hS4]; exact nS3
  have wS4 : S4.2.2 j = σ.2.2 j := by rw [hS4]; exact (pz_u_off _ _ _ hj).trans wS3
  obtain ⟨S5, hS5⟩ : ∃ z : pzS, z = pz_new S4 (1, 60) := ⟨_, rfl⟩
  have nS5 : S5.1 = σ.1 + 3 := pz_n1 nS4 hS5
  have wS5 : S5.2.2 j = σ.2.2 j := by rw [hS5, pz_new_R (pz_lt0 nS4 hj0)] <;> exact wS4
  obtain ⟨S6, hS6⟩ : ∃ z : pzS, z = pz_pR S5 i 2 (S4.1) := ⟨_, rfl⟩
  have nS6 : S6.1 = σ.1 + 3 := by rw [hS6]; exact nS5
  have wS6 : S6.2.2 j = σ.2.2 j := by rw [hS6]; exact (pz_u_off _ _ _ hj).trans wS5
  obtain ⟨S7, hS7⟩ : ∃ z : pzS, z = pz_new S6 (1, 60) := ⟨_, rfl⟩
  have nS7 : S7.1 = σ.1 + 4 := pz_n1 nS6 hS7
  have wS7 : S7.2.2 j = σ.2.2 j := by rw [hS7, pz_new_R (pz_lt0 nS6 hj0)] <;> exact wS6
  obtain ⟨S8, hS8⟩ : ∃ z : pzS, z = pz_pR S7 i 3 (S6.1) := ⟨_, rfl⟩
  have nS8 : S8.1 = σ.1 + 4 := by rw [hS8]; exact nS7
  have wS8 : S8.2.2 j = σ.2.2 j := by rw [hS8]; exact (pz_u_off _ _ _ hj).trans wS7
  obtain ⟨S9, hS9⟩ : ∃ z : pzS, z = pz_new S8 (2, 12) := ⟨_, rfl⟩
  have nS9 : S9.1 = σ.1 + 5 := pz_n1 nS8 hS9
  have wS9 : S9.2.2 j = σ.2.2 j := by rw [hS9, pz_new_R (pz_lt0 nS8 hj0)] <;> exact wS8
  obtain ⟨S10, hS10⟩ : ∃ z : pzS, z = pz_pR S9 i 4 (S8.1) := ⟨_, rfl⟩
  have nS10 : S10.1 = σ.1 + 5 := by rw [hS10]; exact nS9
  have wS10 : S10.2.2 j = σ.2.2 j := by rw [hS10]; exact (pz_u_off _ _ _ hj).trans wS9
  have e9 : kX1 σ i = S10 := by rw [hS10, hS9, hS8, hS7, hS6, hS5, hS4, hS3, hS2, hS1]; rfl
  rw [e9]; exact wS10
set_option maxHeartbeats 4000000 in
set_option maxRecDepth 100000 in
theorem c_X1_init (l : Launch) (D : va_G) (cy : Nat → ClassId) {σ : pzS} {i : Nat} (wf : pz_wf σ) (hi : i < σ.1) (hK : (σ.2.1 i).1 = 4) : pz_Met l yX1_init cX1_init 1 none 1 12 5 2172 D cy σ pz_z [.ref i] (fun r σ' M' => r = none ∧ σ' = kX1 σ i ∧ M' = pz_z) := by
  refine pz_ofW (by decide) (Nat.le_of_ble_eq_true rfl) (fun p e s m args below meth c ad A C hr hnm => ?_)
  refine pz_aload_n C 0 dX1_init_0 rfl ?_
  refine pz_objInit C ml_X1_3 im_objectInit wco dX1_init_1 (by decide) (Nat.le_of_ble_eq_true rfl) ?_
  refine pz_aload_n C 0 dX1_init_4 rfl ?_
  refine pz_sipush C (v := 1980) dX1_init_5 (by decide) ?_
  refine pz_newarr C (t := 2) (N' := 1980) dX1_init_8 rfl arr_long (Or.inr (Or.inr (Or.inl rfl))) (by decide) (by decide) (Nat.le_of_ble_eq_true rfl) wf (Nat.le_refl _) (And.intro hi (True.intro)) (And.intro hi (True.intro)) (Nat.le_of_ble_eq_true rfl) (Nat.le_of_ble_eq_true rfl) ?_
  rw [pz_nz]
  refine pz_nmS (fun S1 hS1 => ?_)
  have nS1 : S1.1 = σ.1 + 1 := pz_n1 (Nat.add_zero σ.1).symm hS1
  have wfS1 : pz_wf S1 := by rw [hS1]; exact pz_wf_new wf
  have KS1 : (S1.2.1 i).1 = 4 := by rw [hS1, pz_new_K hi]; exact hK
  refine pz_putRF C (ci := 0) (k := 0) (ty := .array .long) gwX1 rfl (Nat.le_of_ble_eq_true rfl) fl_X1_11 (pz_lt0 nS1 hi) KS1 tyX1_ok nmX1 rfl rfl hnm rfl (by decide +kernel) (fun _ => rfl) (fun _ => rfl) dX1_init_10 ?_
  refine pz_nmS (fun S2 hS2 => ?_)
  have hS2 : S2 = pz_pR S1 i 0 (σ.1) := hS2
  have nS2 : S2.1 = σ.1 + 1 := by rw [hS2]; exact nS1
  have wfS2 : pz_wf S2 := by rw [hS2]; exact pz_wf_put wfS1 (pz_lt2 nS1 (Nat.add_zero σ.1).symm rfl)
  have KS2 : (S2.2.1 i).1 = 4 := by rw [hS2]; exact KS1
  refine pz_aload_n C 0 dX1_init_13 rfl ?_
  refine pz_bipush C (v := 60) dX1_init_14 (by decide) ?_
  refine pz_newarr C (t := 1) (N' := 60) dX1_init_16 rfl arr_int (Or.inr (Or.inl rfl)) (by decide) (by decide) (Nat.le_of_ble_eq_true rfl) wfS2 (pz_le0 nS2) (And.intro (pz_lt0 nS2 hi) (True.intro)) (And.intro (pz_lt0 nS2 hi) (True.intro)) (Nat.le_of_ble_eq_true rfl) (Nat.le_of_ble_eq_true rfl) ?_
  rw [pz_nz]
  refine pz_nmS (fun S3 hS3 => ?_)
  have nS3 : S3.1 = σ.1 + 2 := pz_n1 nS2 hS3
  have wfS3 : pz_wf S3 := by rw [hS3]; exact pz_wf_new wfS2
  have KS3 : (S3.2.1 i).1 = 4 := by rw [hS3, pz_new_K (pz_lt0 nS2 hi)]; exact KS2
  refine pz_putRF C (ci := 0) (k := 1) (ty := .array .int) gwX1 rfl (Nat.le_of_ble_eq_true rfl) fl_X1_15 (pz_lt0 nS3 hi) KS3 tyX1_ok nmX1 rfl rfl hnm rfl (by decide +kernel) (fun _ => rfl) (fun _ => rfl) dX1_init_18 ?_
  refine pz_nmS (fun S4 hS4 => ?_)
  have hS4 : S4 = pz_pR S3 i 1 (S2.1) := hS4
  have nS4 : S4.1 = σ.1 + 2 := by rw [hS4]; exact nS3
  have wfS4 : pz_wf S4 := by rw [hS4]; exact pz_wf_put wfS3 (pz_lt2 nS3 nS2 rfl)
  have KS4 : (S4.2.1 i).1 = 4 := by rw [hS4]; exact KS3
  refine pz_aload_n C 0 dX1_init_21 rfl ?_
  refine pz_bipush C (v := 60) dX1_init_22 (by decide) ?_
  refine pz_newarr C (t := 1) (N' := 60) dX1_init_24 rfl arr_int (Or.inr (Or.inl rfl)) (by decide) (by decide) (Nat.le_of_ble_eq_true rfl) wfS4 (pz_le0 nS4) (And.intro (pz_lt0 nS4 hi) (True.intro)) (And.intro (pz_lt0 nS4 hi) (True.intro)) (Nat.le_of_ble_eq_true rfl) (Nat.le_of_ble_eq_true rfl) ?_
  rw [pz_nz]
  refine pz_nmS (fun S5 hS5 => ?_)
  have nS5 : S5.1 = σ.1 + 3 := pz_n1 nS4 hS5
  have wfS5 : pz_wf S5 := by rw [hS5]; exact pz_wf_new wfS4
  have KS5 : (S5.2.1 i).1 = 4 := by rw [hS5, pz_new_K (pz_lt0 nS4 hi)]; exact KS4
  refine pz_putRF C (ci := 0) (k := 2) (ty := .array .int) gwX1 rfl (Nat.le_of_ble_eq_true rfl) fl_X1_19 (pz_lt0 nS5 hi) KS5 tyX1_ok nmX1 rfl rfl hnm rfl (by decide +kernel) (fun _ => rfl) (fun _ => rfl) dX1_init_26 ?_
  refine pz_nmS (fun S6 hS6 => ?_)
  have hS6 : S6 = pz_pR S5 i 2 (S4.1) := hS6
  have nS6 : S6.1 = σ.1 + 3 := by rw [hS6]; exact nS5
  have wfS6 : pz_wf S6 := by rw [hS6]; exact pz_wf_put wfS5 (pz_lt2 nS5 nS4 rfl)
  have KS6 : (S6.2.1 i).1 = 4 := by rw [hS6]; exact KS5
  refine pz_aload_n C 0 dX1_init_29 rfl ?_
  refine pz_bipush C (v := 60) dX1_init_30 (by decide) ?_
  refine pz_newarr C (t := 1) (N' := 60) dX1_init_32 rfl arr_int (Or.inr (Or.inl rfl)) (by decide) (by decide) (Nat.le_of_ble_eq_true rfl) wfS6 (pz_le0 nS6) (And.intro (pz_lt0 nS6 hi) (True.intro)) (And.intro (pz_lt0 nS6 hi) (True.intro)) (Nat.le_of_ble_eq_true rfl) (Nat.le_of_ble_eq_true rfl) ?_
  rw [pz_nz]
  refine pz_nmS (fun S7 hS7 => ?_)
  have nS7 : S7.1 = σ.1 + 4 := pz_n1 nS6 hS7
  have wfS7 : pz_wf S7 := by rw [hS7]; exact pz_wf_new wfS6
  have KS7 : (S7.2.1 i).1 = 4 := by rw [hS7, pz_new_K (pz_lt0 nS6 hi)]; exact KS6
  refine pz_putRF C (ci := 0) (k := 3) (ty := .array .int) gwX1 rfl (Nat.le_of_ble_eq_true rfl) fl_X1_22 (pz_lt0 nS7 hi) KS7 tyX1_ok nmX1 rfl rfl hnm rfl (by decide +kernel) (fun _ => rfl) (fun _ => rfl) dX1_init_34 ?_
  refine pz_nmS (fun S8 hS8 => ?_)
  have hS8 : S8 = pz_pR S7 i 3 (S6.1) := hS8
  have nS8 : S8.1 = σ.1 + 4 := by rw [hS8]; exact nS7
  have wfS8 : pz_wf S8 := by rw [hS8]; exact pz_wf_put wfS7 (pz_lt2 nS7 nS6 rfl)
  have KS8 : (S8.2.1 i).1 = 4 := by rw [hS8]; exact KS7
  refine pz_aload_n C 0 dX1_init_37 rfl ?_
  refine pz_bipush C (v := 12) dX1_init_38 (by decide) ?_
  refine pz_newarr C (t := 2) (N' := 12) dX1_init_40 rfl arr_long (Or.inr (Or.inr (Or.inl rfl))) (by decide) (by decide) (Nat.le_of_ble_eq_true rfl) wfS8 (pz_le0 nS8) (And.intro (pz_lt0 nS8 hi) (True.intro)) (And.intro (pz_lt0 nS8 hi) (True.intro)) (Nat.le_of_ble_eq_true rfl) (Nat.le_of_ble_eq_true rfl) ?_
  rw [pz_nz]
  refine pz_nmS (fun S9 hS9 => ?_)
  have nS9 : S9.1 = σ.1 + 5 := pz_n1 nS8 hS9
  have wfS9 : pz_wf S9 := by rw [hS9]; exact pz_wf_new wfS8
  have KS9 : (S9.2.1 i).1 = 4 := by rw [hS9, pz_new_K (pz_lt0 nS8 hi)]; exact KS8
  refine pz_putRF C (ci := 0) (k := 4) (ty := .array .long) gwX1 rfl (Nat.le_of_ble_eq_true rfl) fl_X1_25 (pz_lt0 nS9 hi) KS9 tyX1_ok nmX1 rfl rfl hnm rfl (by decide +kernel) (fun _ => rfl) (fun _ => rfl) dX1_init_42 ?_
  refine pz_nmS (fun S10 hS10 => ?_)
  have hS10 : S10 = pz_pR S9 i 4 (S8.1) := hS10
  have nS10 : S10.1 = σ.1 + 5 := by rw [hS10]; exact nS9
  have wfS10 : pz_wf S10 := by rw [hS10]; exact pz_wf_put wfS9 (pz_lt2 nS9 nS8 rfl)
  have KS10 : (S10.2.1 i).1 = 4 := by rw [hS10]; exact KS9
  refine pz_vret C hr (Nat.le_of_ble_eq_true rfl) (Nat.le_of_ble_eq_true rfl) dX1_init_45 ⟨rfl, ?_, rfl⟩
  have e9 : kX1 σ i = S10 := by rw [hS10, hS9, hS8, hS7, hS6, hS5, hS4, hS3, hS2, hS1]; rfl
  exact e9.symm
