def kX2 (σ : pzS) (i : Nat) : pzS :=
  let S1 := pz_new σ (1, 400)
  let S2 := pz_pR S1 i 0 (σ.1)
  let S3 := pz_new S2 (1, 400)
  let S4 := pz_pR S3 i 1 (S2.1)
  let S5 := pz_new S4 (2, 1200)
  let S6 := pz_pR S5 i 2 (S4.1)
  S6
set_option maxHeartbeats 4000000 in
set_option maxRecDepth 100000 in
theorem kX2_n (σ : pzS) (i : Nat) : (kX2 σ i).1 = σ.1 + 3 := by
  unfold kX2
  simp only [pz_pR, pz_new, kX1_n]
set_option maxHeartbeats 4000000 in
set_option maxRecDepth 100000 in
theorem kX2_wf {σ : pzS} {i : Nat} (wf : pz_wf σ) (hi : i < σ.1) : pz_wf (kX2 σ i) := by
  obtain ⟨S1, hS1⟩ : ∃ z : pzS, z = pz_new σ (1, 400) := ⟨_, rfl⟩
  have nS1 : S1.1 = σ.1 + 1 := pz_n1 (Nat.add_zero σ.1).symm hS1
  have wS1 : pz_wf S1 := by rw [hS1]; exact pz_wf_new wf
  obtain ⟨S2, hS2⟩ : ∃ z : pzS, z = pz_pR S1 i 0 (σ.1) := ⟨_, rfl⟩
  have nS2 : S2.1 = σ.1 + 1 := by rw [hS2]; exact nS1
  have wS2 : pz_wf S2 := by rw [hS2]; exact pz_wf_put wS1 (pz_lt2 nS1 (Nat.add_zero σ.1).symm rfl)
  obtain ⟨S3, hS3⟩ : ∃ z : pzS, z = pz_new S2 (1, 400) := ⟨_, rfl⟩
  have nS3 : S3.1 = σ.1 + 2 := pz_n1 nS2 hS3
  have wS3 : pz_wf S3 := by rw [hS3]; exact pz_wf_new wS2
  obtain ⟨S4, hS4⟩ : ∃ z : pzS, z = pz_pR S3 i 1 (S2.1) := ⟨_, rfl⟩
  have nS4 : S4.1 = σ.1 + 2 := by rw [hS4]; exact nS3
  have wS4 : pz_wf S4 := by rw [hS4]; exact pz_wf_put wS3 (pz_lt2 nS3 nS2 rfl)
  obtain ⟨S5, hS5⟩ : ∃ z : pzS, z = pz_new S4 (2, 1200) := ⟨_, rfl⟩
  have nS5 : S5.1 = σ.1 + 3 := pz_n1 nS4 hS5
  have wS5 : pz_wf S5 := by rw [hS5]; exact pz_wf_new wS4
  obtain ⟨S6, hS6⟩ : ∃ z : pzS, z = pz_pR S5 i 2 (S4.1) := ⟨_, rfl⟩
  have nS6 : S6.1 = σ.1 + 3 := by rw [hS6]; exact nS5
  have wS6 : pz_wf S6 := by rw [hS6]; exact pz_wf_put wS5 (pz_lt2 nS5 nS4 rfl)
  have e9 : kX2 σ i = S6 := by rw [hS6, hS5, hS4, hS3, hS2, hS1]; rfl
  rw [e9]; exact wS6
set_option maxHeartbeats 4000000 in
set_option maxRecDepth 100000 in
theorem kX2_K {σ : pzS} {j : Nat} {i : Nat} (hj0 : j < σ.1) : (kX2 σ i).2.1 j = σ.2.1 j := by
  obtain ⟨S1, hS1⟩ : ∃ z : pzS, z = pz_new σ (1, 400) := ⟨_, rfl⟩
  have nS1 : S1.1 = σ.1 + 1 := pz_n1 (Nat.add_zero σ.1).symm hS1
  have wS1 : S1.2.1 j = σ.2.1 j := by rw [hS1, pz_new_K hj0] <;> exact rfl
  obtain ⟨S2, hS2⟩ : ∃ z : pzS, z = pz_pR S1 i 0 (σ.1) := ⟨_, rfl⟩
  have nS2 : S2.1 = σ.1 + 1 := by rw [hS2]; exact nS1
  have wS2 : S2.2.1 j = σ.2.1 j := by rw [hS2]; exact wS1
  obtain ⟨S3, hS3⟩ : ∃ z : pzS, z = pz_new S2 (1, 400) := ⟨_, rfl⟩
  have nS3 : S3.1 = σ.1 + 2 := pz_n1 nS2 hS3
  have wS3 : S3.2.1 j = σ.2.1 j := by rw [hS3, pz_new_K (pz_lt0 nS2 hj0)] <;> exact wS2
  obtain ⟨S4, hS4⟩ : ∃ z : pzS, z = pz_pR S3 i 1 (S2.1) := ⟨_, rfl⟩
  have nS4 : S4.1 = σ.1 + 2 := by rw [hS4]; exact nS3
  have wS4 : S4.2.1 j = σ.2.1 j := by rw [hS4]; exact wS3
  obtain ⟨S5, hS5⟩ : ∃ z : pzS, z = pz_new S4 (2, 1200) := ⟨_, rfl⟩
  have nS5 : S5.1 = σ.1 + 3 := pz_n1 nS4 hS5
  have wS5 : S5.2.1 j = σ.2.1 j := by rw [hS5, pz_new_K (pz_lt0 nS4 hj0)] <;> exact wS4
  obtain ⟨S6, hS6⟩ : ∃ z : pzS, z = pz_pR S5 i 2 (S4.1) := ⟨_, rfl⟩
  have nS6 : S6.1 = σ.1 + 3 := by rw [hS6]; exact nS5
  have wS6 : S6.2.1 j = σ.2.1 j := by rw [hS6]; exact wS5
  have e9 : kX2 σ i = S6 := by rw [hS6, hS5, hS4, hS3, hS2, hS1]; rfl
  rw [e9]; exact wS6
set_option maxHeartbeats 4000000 in
set_option maxRecDepth 100000 in
theorem kX2_R {σ : pzS} {j : Nat} {i : Nat} (hj0 : j < σ.1) (hj : j ≠ i) : (kX2 σ i).2.2 j = σ.2.2 j := by
  obtain ⟨S1, hS1⟩ : ∃ z : pzS, z = pz_new σ (1, 400) := ⟨_, rfl⟩
  have nS1 : S1.1 = σ.1 + 1 := pz_n1 (Nat.add_zero σ.1).symm hS1
  have wS1 : S1.2.2 j = σ.2.2 j := by rw [hS1, pz_new_R hj0] <;> exact rfl
  obtain ⟨S2, hS2⟩ : ∃ z : pzS, z = pz_pR S1 i 0 (σ.1) := ⟨_, rfl⟩
  have nS2 : S2.1 = σ.1 + 1 := by rw [hS2]; exact nS1
  have wS2 : S2.2.2 j = σ.2.2 j := by rw [hS2]; exact (pz_u_off _ _ _ hj).trans wS1
  obtain ⟨S3, hS3⟩ : ∃ z : pzS, z = pz_new S2 (1, 400) := ⟨_, rfl⟩
  have nS3 : S3.1 = σ.1 + 2 := pz_n1 nS2 hS3
  have wS3 : S3.2.2 j = σ.2.2 j := by rw [hS3, pz_new_R (pz_lt0 nS2 hj0)] <;> exact wS2
  obtain ⟨S4, hS4⟩ : ∃ z : pzS, z = pz_pR S3 i 1 (S2.1) := ⟨_, rfl⟩
  have nS4 : S4.1 = σ.1 + 2 := by rw [hS4]; exact nS3
  have wS4 : S4.2.2 j = σ.2.2 j := by rw [hS4]; exact (pz_u_off _ _ _ hj).trans wS3
  obtain ⟨S5, hS5⟩ : ∃ z : pzS, z = pz_new S4 (2, 1200) := ⟨_, rfl⟩
  have nS5 : S5.1 = σ.1 + 3 := pz_n1 nS4 hS5
  have wS5 : S5.2.2 j = σ.2.2 j := by rw [hS5, pz_new_R (pz_lt0 nS4 hj0)] <;> exact wS4
  obtain ⟨S6, hS6⟩ : ∃ z : pzS, z = pz_pR S5 i 2 (S4.1) := ⟨_, rfl⟩
  have nS6 : S6.1 = σ.1 + 3 := by rw [hS6]; exact nS5
  have wS6 : S6.2.2 j = σ.2.2 j := by rw [hS6]; exact (pz_u_off _ _ _ hj).trans wS5
  have e9 : kX2 σ i = S6 := by rw [hS6, hS5, hS4, hS3, hS2, hS1]; rfl
  rw [e9]; exact wS6
set_option maxHeartbeats 4000000 in
set_option maxRecDepth 100000 in
theorem c_X2_init (l : Launch) (D : va_G) (cy : Nat → ClassId) {σ : pzS} {i : Nat} (wf : pz_wf σ) (hi : i < σ.1) (hK : (σ.2.1 i).1 = 5) : pz_Met l yX2_init cX2_init 1 none 1 12 3 2000 D cy σ pz_z [.ref i] (fun r σ' M' => r = none ∧ σ' = kX2 σ i ∧ M' = pz_z) := by
  refine pz_ofW (by decide) (Nat.le_of_ble_eq_true rfl) (fun p e s m args below meth c ad A C hr hnm => ?_)
  refine pz_aload_n C 0 dX2_init_0 rfl ?_
  refine pz_objInit C ml_X2_3 im_objectInit wco dX2_init_1 (by decide) (Nat.le_of_ble_eq_true rfl) ?_
  refine pz_aload_n C 0 dX2_init_4 rfl ?_
  refine pz_sipush C (v := 400) dX2_init_5 (by decide) ?_
  refine pz_newarr C (t := 1) (N' := 400) dX2_init_8 rfl arr_int (Or.inr (Or.inl rfl)) (by decide) (by decide) (Nat.le_of_ble_eq_true rfl) wf (Nat.le_refl _) (And.intro hi (True.intro)) (And.intro hi (True.intro)) (Nat.le_of_ble_eq_true rfl) (Nat.le_of_ble_eq_true rfl) ?_
  rw [pz_nz]
  refine pz_nmS (fun S1 hS1 => ?_)
  have nS1 : S1.1 = σ.1 + 1 := pz_n1 (Nat.add_zero σ.1).symm hS1
  have wfS1 : pz_wf S1 := by rw [hS1]; exact pz_wf_new wf
  have KS1 : (S1.2.1 i).1 = 5 := by rw [hS1, pz_new_K hi]; exact hK
  refine pz_putRF C (ci := 1) (k := 0) (ty := .array .int) gwX2 rfl (Nat.le_of_ble_eq_true rfl) fl_X2_9 (pz_lt0 nS1 hi) KS1 tyX2_ok nmX2 rfl rfl hnm rfl (by decide +kernel) (fun _ => rfl) (fun _ => rfl) dX2_init_10 ?_
  refine pz_nmS (fun S2 hS2 => ?_)
  have hS2 : S2 = pz_pR S1 i 0 (σ.1) := hS2
  have nS2 : S2.1 = σ.1 + 1 := by rw [hS2]; exact nS1
  have wfS2 : pz_wf S2 := by rw [hS2]; exact pz_wf_put wfS1 (pz_lt2 nS1 (Nat.add_zero σ.1).symm rfl)
  have KS2 : (S2.2.1 i).1 = 5 := by rw [hS2]; exact KS1
  refine pz_aload_n C 0 dX2_init_13 rfl ?_
  refine pz_sipush C (v := 400) dX2_init_14 (by decide) ?_
  refine pz_newarr C (t := 1) (N' := 400) dX2_init_17 rfl arr_int (Or.inr (Or.inl rfl)) (by decide) (by decide) (Nat.le_of_ble_eq_true rfl) wfS2 (pz_le0 nS2) (And.intro (pz_lt0 nS2 hi) (True.intro)) (And.intro (pz_lt0 nS2 hi) (True.intro)) (Nat.le_of_ble_eq_true rfl) (Nat.le_of_ble_eq_true rfl) ?_
  rw [pz_nz]
  refine pz_nmS (fun S3 hS3 => ?_)
  have nS3 : S3.1 = σ.1 + 2 := pz_n1 nS2 hS3
  have wfS3 : pz_wf S3 := by rw [hS3]; exact pz_wf_new wfS2
  have KS3 : (S3.2.1 i).1 = 5 := by rw [hS3, pz_new_K (pz_lt0 nS2 hi)]; exact KS2
  refine pz_putRF C (ci := 1) (k := 1) (ty := .array .int) gwX2 rfl (Nat.le_of_ble_eq_true rfl) fl_X2_15 (pz_lt0 nS3 hi) KS3 tyX2_ok nmX2 rfl rfl hnm rfl (by decide +kernel) (fun _ => rfl) (fun _ => rfl) dX2_init_19 ?_
  refine pz_nmS (fun S4 hS4 => ?_)
  have hS4 : S4 = pz_pR S3 i 1 (S2.1) := hS4
  have nS4 : S4.1 = σ.1 + 2 := by rw [hS4]; exact nS3
  have wfS4 : pz_wf S4 := by rw [hS4]; exact pz_wf_put wfS3 (pz_lt2 nS3 nS2 rfl)
  have KS4 : (S4.2.1 i).1 = 5 := by rw [hS4]; exact KS3
  refine pz_aload_n C 0 dX2_init_22 rfl ?_
  refine pz_sipush C (v := 1200) dX2_init_23 (by decide) ?_
  refine pz_newarr C (t := 2) (N' := 1200) dX2_init_26 rfl arr_long (Or.inr (Or.inr (Or.inl rfl))) (by decide) (by decide) (Nat.le_of_ble_eq_true rfl) wfS4 (pz_le0 nS4) (And.intro (pz_lt0 nS4 hi) (True.intro)) (And.intro (pz_lt0 nS4 hi) (True.intro)) (Nat.le_of_ble_eq_true rfl) (Nat.le_of_ble_eq_true rfl) ?_
  rw [pz_nz]
  refine pz_nmS (fun S5 hS5 => ?_)
  have nS5 : S5.1 = σ.1 + 3 := pz_n1 nS4 hS5
  have wfS5 : pz_wf S5 := by rw [hS5]; exact pz_wf_new wfS4
  have KS5 : (S5.2.1 i).1 = 5 := by rw [hS5, pz_new_K (pz_lt0 nS4 hi)]; exact KS4
  refine pz_putRF C (ci := 1) (k := 2) (ty := .array .long) gwX2 rfl (Nat.le_of_ble_eq_true rfl) fl_X2_18 (pz_lt0 nS5 hi) KS5 tyX2_ok nmX2 rfl rfl hnm rfl (by decide +kernel) (fun _ => rfl) (fun _ => rfl) dX2_init_28 ?_
  refine pz_nmS (fun S6 hS6 => ?_)
  have hS6 : S6 = pz_pR S5 i 2 (S4.1) := hS6
  have nS6 : S6.1 = σ.1 + 3 := by rw [hS6]; exact nS5
  have wfS6 : pz_wf S6 := by rw [hS6]; exact pz_wf_put wfS5 (pz_lt2 nS5 nS4 rfl)
  have KS6 : (S6.2.1 i).1 = 5 := by rw [hS6]; exact KS5
  refine pz_vret C hr (Nat.le_of_ble_eq_true rfl) (Nat.le_of_ble_eq_true rfl) dX2_init_31 ⟨rfl, ?_, rfl⟩
  have e9 : kX2 σ i = S6 := by rw [hS6, hS5, hS4, hS3, hS2, hS1]; rfl
  exact e9.symm
