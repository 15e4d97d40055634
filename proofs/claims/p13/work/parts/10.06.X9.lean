def kX9 (σ : pzS) (i : Nat) (a1 : Nat) : pzS :=
  let S1 := pz_new σ (1, 40)
  let S2 := pz_pR S1 i 1 (σ.1)
  let S3 := pz_new S2 (3, 40)
  let S4 := pz_pR S3 i 2 (S2.1)
  let S5 := pz_pR S4 i 0 (a1)
  S5
set_option maxHeartbeats 4000000 in
set_option maxRecDepth 100000 in
theorem kX9_n (σ : pzS) (i : Nat) (a1 : Nat) : (kX9 σ i a1).1 = σ.1 + 2 := by
  unfold kX9
  simp only [pz_pR, pz_new, kX1_n, kX2_n, kX8_n, kX7_n, kX3_n]
set_option maxHeartbeats 4000000 in
set_option maxRecDepth 100000 in
theorem kX9_wf {σ : pzS} {i a1 : Nat} (wf : pz_wf σ) (hi : i < σ.1) (ha1 : a1 < σ.1) : pz_wf (kX9 σ i a1) := by
  obtain ⟨S1, hS1⟩ : ∃ z : pzS, z = pz_new σ (1, 40) := ⟨_, rfl⟩
  have nS1 : S1.1 = σ.1 + 1 := pz_n1 (Nat.add_zero σ.1).symm hS1
  have wS1 : pz_wf S1 := by rw [hS1]; exact pz_wf_new wf
  obtain ⟨S2, hS2⟩ : ∃ z : pzS, z = pz_pR S1 i 1 (σ.1) := ⟨_, rfl⟩
  have nS2 : S2.1 = σ.1 + 1 := by rw [hS2]; exact nS1
  have wS2 : pz_wf S2 := by rw [hS2]; exact pz_wf_put wS1 (pz_lt2 nS1 (Nat.add_zero σ.1).symm rfl)
  obtain ⟨S3, hS3⟩ : ∃ z : pzS, z = pz_new S2 (3, 40) := ⟨_, rfl⟩
  have nS3 : S3.1 = σ.1 + 2 := pz_n1 nS2 hS3
  have wS3 : pz_wf S3 := by rw [hS3]; exact pz_wf_new wS2
  obtain ⟨S4, hS4⟩ : ∃ z : pzS, z = pz_pR S3 i 2 (S2.1) := ⟨_, rfl⟩
  have nS4 : S4.1 = σ.1 + 2 := by rw [hS4]; exact nS3
  have wS4 : pz_wf S4 := by rw [hS4]; exact pz_wf_put wS3 (pz_lt2 nS3 nS2 rfl)
  obtain ⟨S5, hS5⟩ : ∃ z : pzS, z = pz_pR S4 i 0 (a1) := ⟨_, rfl⟩
  have nS5 : S5.1 = σ.1 + 2 := by rw [hS5]; exact nS4
  have wS5 : pz_wf S5 := by rw [hS5]; exact pz_wf_put wS4 (pz_lt0 nS4 ha1)
  have e9 : kX9 σ i a1 = S5 := by rw [hS5, hS4, hS3, hS2, hS1]; rfl
  rw [e9]; exact wS5
set_option maxHeartbeats 4000000 in
set_option maxRecDepth 100000 in
theorem kX9_K {σ : pzS} {j : Nat} {i a1 : Nat} (hj0 : j < σ.1) : (kX9 σ i a1).2.1 j = σ.2.1 j := by
  obtain ⟨S1, hS1⟩ : ∃ z : pzS, z = pz_new σ (1, 40) := ⟨_, rfl⟩
  have nS1 : S1.1 = σ.1 + 1 := pz_n1 (Nat.add_zero σ.1).symm hS1
  have wS1 : S1.2.1 j = σ.2.1 j := by rw [hS1, pz_new_K hj0] <;> exact rfl
  obtain ⟨S2, hS2⟩ : ∃ z : pzS, z = pz_pR S1 i 1 (σ.1) := ⟨_, rfl⟩
  have nS2 : S2.1 = σ.1 + 1 := by rw [hS2]; exact nS1
  have wS2 : S2.2.1 j = σ.2.1 j := by rw [hS2]; exact wS1
  obtain ⟨S3, hS3⟩ : ∃ z : pzS, z = pz_new S2 (3, 40) := ⟨_, rfl⟩
  have nS3 : S3.1 = σ.1 + 2 := pz_n1 nS2 hS3
  have wS3 : S3.2.1 j = σ.2.1 j := by rw [hS3, pz_new_K (pz_lt0 nS2 hj0)] <;> exact wS2
  obtain ⟨S4, hS4⟩ : ∃ z : pzS, z = pz_pR S3 i 2 (S2.1) := ⟨_, rfl⟩
  have nS4 : S4.1 = σ.1 + 2 := by rw [hS4]; exact nS3
  have wS4 : S4.2.1 j = σ.2.1 j := by rw [hS4]; exact wS3
  obtain ⟨S5, hS5⟩ : ∃ z : pzS, z = pz_pR S4 i 0 (a1) := ⟨_, rfl⟩
  have nS5 : S5.1 = σ.1 + 2 := by rw [hS5]; exact nS4
  have wS5 : S5.2.1 j = σ.2.1 j := by rw [hS5]; exact wS4
  have e9 : kX9 σ i a1 = S5 := by rw [hS5, hS4, hS3, hS2, hS1]; rfl
  rw [e9]; exact wS5
set_option maxHeartbeats 4000000 in
set_option maxRecDepth 100000 in
theorem kX9_R {σ : pzS} {j : Nat} {i a1 : Nat} (hj0 : j < σ.1) (hj : j ≠ i) : (kX9 σ i a1).2.2 j = σ.2.2 j := by
  obtain ⟨S1, hS1⟩ : ∃ z : pzS, z = pz_new σ (1, 40) := ⟨_, rfl⟩
  have nS1 : S1.1 = σ.1 + 1 := pz_n1 (Nat.add_zero σ.1).symm hS1
  have wS1 : S1.2.2 j = σ.2.2 j := by rw [hS1, pz_new_R hj0] <;> exact rfl
  obtain ⟨S2, hS2⟩ : ∃ z : pzS, z = pz_pR S1 i 1 (σ.1) := ⟨_, rfl⟩
  have nS2 : S2.1 = σ.1 + 1 := by rw [hS2]; exact nS1
  have wS2 : S2.2.2 j = σ.2.2 j := by rw [hS2]; exact (pz_u_off _ _ _ hj).trans wS1
  obtain ⟨S3, hS3⟩ : ∃ z : pzS, z = pz_new S2 (3, 40) := ⟨_, rfl⟩
  have nS3 : S3.1 = σ.1 + 2 := pz_n1 nS2 hS3
  have wS3 : S3.2.2 j = σ.2.2 j := by rw [hS3, pz_new_R (pz_lt0 nS2 hj0)] <;> exact wS2
  obtain ⟨S4, hS4⟩ : ∃ z : pzS, z = pz_pR S3 i 2 (S2.1) := ⟨_, rfl⟩
  have nS4 : S4.1 = σ.1 + 2 := by rw [hS4]; exact nS3
  have wS4 : S4.2.2 j = σ.2.2 j := by rw [hS4]; exact (pz_u_off _ _ _ hj).trans wS3
  obtain ⟨S5, hS5⟩ : ∃ z : pzS, z = pz_pR S4 i 0 (a1) := ⟨_, rfl⟩
  have nS5 : S5.1 = σ.1 + 2 := by rw [hS5]; exact nS4
  have wS5 : S5.2.2 j = σ.2.2 j := by rw [hS5]; exact (pz_u_off _ _ _ hj).trans wS4
  have e9 : kX9 σ i a1 = S5 := by rw [hS5, hS4, hS3, hS2, hS1]; rfl
  rw [e9]; exact wS5
set_option maxHeartbeats 4000000 in
set_option maxRecDepth 100000 in
theorem c_X9_init (l : Launch) (D : va_G) (cy : Nat → ClassId) {σ : pzS} {i a1 : Nat} (wf : pz_wf σ) (hi : i < σ.1) (ha1 : a1 < σ.1) (hK : (σ.2.1 i).1 = 12) : pz_Met l yX9_init cX9_init 2 none 1 12 2 80 D cy σ pz_z [.ref i, .ref a1] (fun r σ' M' => r = none ∧ σ' = kX9 σ i a1 ∧ M' = pz_z) := by
  refine pz_ofW (by decide) (Nat.le_of_ble_eq_true rfl) (fun p e s m args below meth c ad A C hr hnm => ?_)
  refine pz_aload_n C 0 dX9_init_0 rfl ?_
  refine pz_objInit C ml_X9_3 im_objectInit wco dX9_init_1 (by decide) (Nat.le_of_ble_eq_true rfl) ?_
  refine pz_aload_n C 0 dX9_init_4 rfl ?_
  refine pz_bipush C (v := 40) dX9_init_5 (by decide) ?_
  refine pz_newarr C (t := 1) (N' := 40) dX9_init_7 rfl arr_int (Or.inr (Or.inl rfl)) (by decide) (by decide) (Nat.le_of_ble_eq_true rfl) wf (Nat.le_refl _) (And.intro hi (True.intro)) (And.intro hi (And.intro ha1 (True.intro))) (Nat.le_of_ble_eq_true rfl) (Nat.le_of_ble_eq_true rfl) ?_
  rw [pz_nz]
  refine pz_nmS (fun S1 hS1 => ?_)
  have nS1 : S1.1 = σ.1 + 1 := pz_n1 (Nat.add_zero σ.1).symm hS1
  have wfS1 : pz_wf S1 := by rw [hS1]; exact pz_wf_new wf
  have KS1 : (S1.2.1 i).1 = 12 := by rw [hS1, pz_new_K hi]; exact hK
  refine pz_putRF C (ci := 8) (k := 1) (ty := .array .int) gwX9 rfl (Nat.le_of_ble_eq_true rfl) fl_X9_9 (pz_lt0 nS1 hi) KS1 tyX9_ok nmX9 rfl rfl hnm rfl (by decide +kernel) (fun _ => rfl) (fun _ => rfl) dX9_init_9 ?_
  refine pz_nmS (fun S2 hS2 => ?_)
  have hS2 : S2 = pz_pR S1 i 1 (σ.1) := hS2
  have nS2 : S2.1 = σ.1 + 1 := by rw [hS2]; exact nS1
  have wfS2 : pz_wf S2 := by rw [hS2]; exact pz_wf_put wfS1 (pz_lt2 nS1 (Nat.add_zero σ.1).symm rfl)
  have KS2 : (S2.2.1 i).1 = 12 := by rw [hS2]; exact KS1
  refine pz_aload_n C 0 dX9_init_12 rfl ?_
  refine pz_bipush C (v := 40) dX9_init_13 (by decide) ?_
  refine pz_newarr C (t := 3) (N' := 40) dX9_init_15 rfl arr_boolean (Or.inr (Or.inr (Or.inr rfl))) (by decide) (by decide) (Nat.le_of_ble_eq_true rfl) wfS2 (pz_le0 nS2) (And.intro (pz_lt0 nS2 hi) (True.intro)) (And.intro (pz_lt0 nS2 hi) (And.intro (pz_lt0 nS2 ha1) (True.intro))) (Nat.le_of_ble_eq_true rfl) (Nat.le_of_ble_eq_true rfl) ?_
  rw [pz_nz]
  refine pz_nmS (fun S3 hS3 => ?_)
  have nS3 : S3.1 = σ.1 + 2 := pz_n1 nS2 hS3
  have wfS3 : pz_wf S3 := by rw [hS3]; exact pz_wf_new wfS2
  have KS3 : (S3.2.1 i).1 = 12 := by rw [hS3, pz_new_K (pz_lt0 nS2 hi)]; exact KS2
  refine pz_putRF C (ci := 8) (k := 2) (ty := .array .boolean) gwX9 rfl (Nat.le_of_ble_eq_true rfl) fl_X9_15 (pz_lt0 nS3 hi) KS3 tyX9_ok nmX9 rfl rfl hnm rfl (by decide +kernel) (fun _ => rfl) (fun _ => rfl) dX9_init_17 ?_
  refine pz_nmS (fun S4 hS4 => ?_)
  have hS4 : S4 = pz_pR S3 i 2 (S2.1) := hS4
  have nS4 : S4.1 = σ.1 + 2 := by rw [hS4]; exact nS3
  have wfS4 : pz_wf S4 := by rw [hS4]; exact pz_wf_put wfS3 (pz_lt2 nS3 nS2 rfl)
  have KS4 : (S4.2.1 i).1 = 12 := by rw [hS4]; exact KS3
  refine pz_aload_n C 0 dX9_init_20 rfl ?_
  refine pz_aload_n C 1 dX9_init_21 rfl ?_
  refine pz_putRF C (ci := 8) (k := 0) (ty := .object "FeatureDesugarer$Program") gwX9 rfl (Nat.le_of_ble_eq_true rfl) fl_X9_19 (pz_lt0 nS4 hi) KS4 tyX9_ok nmX9 rfl rfl hnm rfl (by decide +kernel) (fun _ => rfl) (fun _ => rfl) dX9_init_22 ?_
  refine pz_nmS (fun S5 hS5 => ?_)
  have hS5 : S5 = pz_pR S4 i 0 (a1) := hS5
  have nS5 : S5.1 = σ.1 + 2 := by rw [hS5]; exact nS4
  have wfS5 : pz_wf S5 := by rw [hS5]; exact pz_wf_put wfS4 (pz_lt0 nS4 ha1)
  have KS5 : (S5.2.1 i).1 = 12 := by rw [hS5]; exact KS4
  refine pz_vret C hr (Nat.le_of_ble_eq_true rfl) (Nat.le_of_ble_eq_true rfl) dX9_init_25 ⟨rfl, ?_, rfl⟩
  have e9 : kX9 σ i a1 = S5 := by rw [hS5, hS4, hS3, hS2, hS1]; rfl
  exact e9.symm
