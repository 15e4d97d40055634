def kX11 (σ : pzS) (i : Nat) : pzS :=
  let S1 := pz_new σ (1, 12)
  let S2 := pz_pR S1 i 2 (σ.1)
  let S3 := pz_new S2 (1, 12)
  let S4 := pz_pR S3 i 3 (S2.1)
  let S5 := pz_new S4 (1, 480)
  let S6 := pz_pR S5 i 4 (S4.1)
  let S7 := pz_new S6 (1, 480)
  let S8 := pz_pR S7 i 5 (S6.1)
  let S9 := pz_new S8 (1, 480)
  let S10 := pz_pR S9 i 6 (S8.1)
  let S11 := pz_new S10 (1, 8)
  let S12 := pz_pR S11 i 8 (S10.1)
  let S13 := pz_new S12 (1, 96)
  let S14 := pz_pR S13 i 9 (S12.1)
  let S15 := pz_new S14 (1, 40)
  let S16 := pz_pR S15 i 11 (S14.1)
  let S17 := pz_new S16 (3, 40)
  let S18 := pz_pR S17 i 12 (S16.1)
  let S19 := pz_new S18 (1, 12)
  let S20 := pz_pR S19 i 14 (S18.1)
  let S21 := pz_new S20 (1, 12)
  let S22 := pz_pR S21 i 15 (S20.1)
  let S23 := pz_new S22 (1, 12)
  let S24 := pz_pR S23 i 16 (S22.1)
  let S25 := pz_new S24 (1, 18000)
  let S26 := pz_pR S25 i 17 (S24.1)
  let S27 := pz_new S26 (1, 18000)
  let S28 := pz_pR S27 i 18 (S26.1)
  let S29 := pz_new S28 (1, 18000)
  let S30 := pz_pR S29 i 19 (S28.1)
  let S31 := pz_new S30 (1, 40)
  let S32 := pz_pR S31 i 20 (S30.1)
  let S33 := pz_new S32 (1, 480)
  let S34 := pz_pR S33 i 22 (S32.1)
  let S35 := pz_new S34 (1, 480)
  let S36 := pz_pR S35 i 23 (S34.1)
  let S37 := pz_new S36 (1, 96)
  let S38 := pz_pR S37 i 25 (S36.1)
  let S39 := pz_new S38 (1, 8)
  let S40 := pz_pR S39 i 26 (S38.1)
  let S41 := pz_new S40 (1, 200)
  let S42 := pz_pR S41 i 32 (S40.1)
  let S43 := pz_new S42 (1, 500)
  let S44 := pz_pR S43 i 34 (S42.1)
  let S45 := pz_new S44 (1, 500)
  let S46 := pz_pR S45 i 35 (S44.1)
  let S47 := pz_new S46 (1, 32)
  let S48 := pz_pR S47 i 37 (S46.1)
  let S49 := pz_new S48 (1, 32)
  let S50 := pz_pR S49 i 38 (S48.1)
  let S51 := pz_new S50 (1, 32)
  let S52 := pz_pR S51 i 39 (S50.1)
  let S53 := pz_new S52 (1, 256)
  let S54 := pz_pR S53 i 40 (S52.1)
  let S55 := pz_new S54 (1, 256)
  let S56 := pz_pR S55 i 41 (S54.1)
  let S57 := pz_new S56 (1, 6)
  let S58 := pz_pR S57 i 42 (S56.1)
  let S59 := pz_new S58 (1, 6)
  let S60 := pz_pR S59 i 43 (S58.1)
  let S61 := pz_new S60 (1, 401)
  let S62 := pz_pR S61 i 45 (S60.1)
  let S63 := pz_new S62 (1, 80200)
  let S64 := pz_pR S63 i 46 (S62.1)
  let S65 := pz_new S64 (1, 401)
  let S66 := pz_pR S65 i 48 (S64.1)
  let S67 := pz_new S66 (1, 401)
  let S68 := pz_pR S67 i 49 (S66.1)
  let S69 := pz_new S68 (1, 1203)
  let S70 := pz_pR S69 i 50 (S68.1)
  let S71 := pz_new S70 (1, 1203)
  let S72 := pz_pR S71 i 51 (S70.1)
  let S73 := pz_new S72 (1, 2500)
  let S74 := pz_pR S73 i 53 (S72.1)
  S74
set_option maxHeartbeats 4000000 in
set_option maxRecDepth 100000 in
theorem kX11_n (σ : pzS) (i : Nat) : (kX11 σ i).1 = σ.1 + 37 := by
  unfold kX11
  simp only [pz_pR, pz_new, kX1_n, kX2_n, kX8_n, kX7_n, kX3_n, kX9_n, kX6_n, kX5_n, kX4_n, kX10_n]
set_option maxHeartbeats 4000000 in
set_option maxRecDepth 100000 in
theorem kX11_wf {σ : pzS} {i : Nat} (wf : pz_wf σ) (hi : i < σ.1) : pz_wf (kX11 σ i) := by
  obtain ⟨S1, hS1⟩ : ∃ z : pzS, z = pz_new σ (1, 12) := ⟨_, rfl⟩
  have nS1 : S1.1 = σ.1 + 1 := pz_n1 (Nat.add_zero σ.1).symm hS1
  have wS1 : pz_wf S1 := by rw [hS1]; exact pz_wf_new wf
  obtain ⟨S2, hS2⟩ : ∃ z : pzS, z = pz_pR S1 i 2 (σ.1) := ⟨_, rfl⟩
  have nS2 : S2.1 = σ.1 + 1 := by rw [hS2]; exact nS1
  have wS2 : pz_wf S2 := by rw [hS2]; exact pz_wf_put wS1 (pz_lt2 nS1 (Nat.add_zero σ.1).symm rfl)
  obtain ⟨S3, hS3⟩ : ∃ z : pzS, z = pz_new S2 (1, 12) := ⟨_, rfl⟩
  have nS3 : S3.1 = σ.1 + 2 := pz_n1 nS2 hS3
  have wS3 : pz_wf S3 := by rw [hS3]; exact pz_wf_new wS2
  obtain ⟨S4, hS4⟩ : ∃ z : pzS, z = pz_pR S3 i 3 (S2.1) := ⟨_, rfl⟩
  have nS4 : S4.1 = σ.1 + 2 := by rw [hS4]; exact nS3
  have wS4 : pz_wf S4 := by rw [hS4]; exact pz_wf_put wS3 (pz_lt2 nS3 nS2 rfl)
  obtain ⟨S5, hS5⟩ : ∃ z : pzS, z = pz_new S4 (1, 480) := ⟨_, rfl⟩
  have nS5 : S5.1 = σ.1 + 3 := pz_n1 nS4 hS5
  have wS5 : pz_wf S5 := by rw [hS5]; exact pz_wf_new wS4
  obtain ⟨S6, hS6⟩ : ∃ z : pzS, z = pz_pR S5 i 4 (S4.1) := ⟨_, rfl⟩
  have nS6 : S6.1 = σ.1 + 3 := by rw [hS6]; exact nS5
  have wS6 : pz_wf S6 := by rw [hS6]; exact pz_wf_put wS5 (pz_lt2 nS5 nS4 rfl)
  obtain ⟨S7, hS7⟩ : ∃ z : pzS, z = pz_new S6 (1, 480) := ⟨_, rfl⟩
  have nS7 : S7.1 = σ.1 + 4 := pz_n1 nS6 hS7
  have wS7 : pz_wf S7 := by rw [hS7]; exact pz_wf_new wS6
  obtain ⟨S8, hS8⟩ : ∃ z : pzS, z = pz_pR S7 i 5 (S6.1) := ⟨_, rfl⟩
  have nS8 : S8.1 = σ.1 + 4 := by rw [hS8]; exact nS7
  have wS8 : pz_wf S8 := by rw [hS8]; exact pz_wf_put wS7 (pz_lt2 nS7 nS6 rfl)
  obtain ⟨S9, hS9⟩ : ∃ z : pzS, z = pz_new S8 (1, 480) := ⟨_, rfl⟩
  have nS9 : S9.1 = σ.1 + 5 := pz_n1 nS8 hS9
  have wS9 : pz_wf S9 := by rw [hS9]; exact pz_wf_new wS8
  obtain ⟨S10, hS10⟩ : ∃ z : pzS, z = pz_pR S9 i 6 (S8.1) := ⟨_, rfl⟩
  have nS10 : S10.1 = σ.1 + 5 := by rw [hS10]; exact nS9
  have wS10 : pz_wf S10 := by rw [hS10]; exact pz_wf_put wS9 (pz_lt2 nS9 nS8 rfl)
  obtain ⟨S11, hS11⟩ : ∃ z : pzS, z = pz_new S10 (1, 8) := ⟨_, rfl⟩
  have nS11 : S11.1 = σ.1 + 6 := pz_n1 nS10 hS11
  have wS11 : pz_wf S11 := by rw [hS11]; exact pz_wf_new wS10
  obtain ⟨S12, hS12⟩ : ∃ z : pzS, z = pz_pR S11 i 8 (S10.1) := ⟨_, rfl⟩
  have nS12 : S12.1 = σ.1 + 6 := by rw [hS12]; exact nS11
  have wS12 : pz_wf S12 := by rw [hS12]; exact pz_wf_put wS11 (pz_lt2 nS11 nS10 rfl)
  obtain ⟨S13, hS13⟩ : ∃ z : pzS, z = pz_new S12 (1, 96) := ⟨_, rfl⟩
  have nS13 : S13.1 = σ.1 + 7 := pz_n1 nS12 hS13
  have wS13 : pz_wf S13 := by rw [hS13]; exact pz_wf_new wS12
  obtain ⟨S14, hS14⟩ : ∃ z : pzS, z = pz_pR S13 i 9 (S12.1) := ⟨_, rfl⟩
  have nS14 : S14.1 = σ.1 + 7 := by rw [hS14]; exact nS13
  have wS14 : pz_wf S14 := by rw [hS14]; exact pz_wf_put wS13 (pz_lt2 nS13 nS12 rfl)
  obtain ⟨S15, hS15⟩ : ∃ z : pzS, z = pz_new S14 (1, 40) := ⟨_, rfl⟩
  have nS15 : S15.1 = σ.1 + 8 := pz_n1 nS14 hS15
  have wS15 : pz_wf S15 := by rw [hS15]; exact pz_wf_new wS14
  obtain ⟨S16, hS16⟩ : ∃ z : pzS, z = pz_pR S15 i 11 (S14.1) := ⟨_, rfl⟩
  have nS16 : S16.1 = σ.1 + 8 := by rw [hS16]; exact nS15
  have wS16 : pz_wf S16 := by rw [hS16]; exact pz_wf_put wS15 (pz_lt2 nS15 nS14 rfl)
  obtain ⟨S17, hS17⟩ : ∃ z : pzS, z = pz_new S16 (3, 40) := ⟨_, rfl⟩
  have nS17 : S17.1 = σ.1 + 9 := pz_n1 nS16 hS17
  have wS17 : pz_wf S17 := by rw [hS17]; exact pz_wf_new wS16
  obtain ⟨S18, hS18⟩ : ∃ z : pzS, z = pz_pR S17 i 12 (S16.1) := ⟨_, rfl⟩
  have nS18 : S18.1 = σ.1 + 9 := by rw [hS18]; exact nS17
  have wS18 : pz_wf S18 := by rw [hS18]; exact pz_wf_put wS17 (pz_lt2 nS17 nS16 rfl)
  obtain ⟨S19, hS19⟩ : ∃ z : pzS, z = pz_new S18 (1, 12) := ⟨_, rfl⟩
  have nS19 : S19.1 = σ.1 + 10 := pz_n1 nS18 hS19
  have wS19 : pz_wf S19 := by rw [hS19]; exact pz_wf_new wS18
  obtain ⟨S20, hS20⟩ : ∃ z : pzS, z = pz_pR S19 i 14 (S18.1) := ⟨_, rfl⟩
  have nS20 : S20.1 = σ.1 + 10 := by rw [hS20]; exact nS19
  have wS20 : pz_wf S20 := by rw [hS20]; exact pz_wf_put wS19 (pz_lt2 nS19 nS18 rfl)
  obtain ⟨S21, hS21⟩ : ∃ z : pzS, z = pz_new S20 (1, 12) := ⟨_, rfl⟩
  have nS21 : S21.1 = σ.1 + 11 := pz_n1 nS20 hS21
  have wS21 : pz_wf S21 := by rw [hS21]; exact pz_wf_new wS20
  obtain ⟨S22, hS22⟩ : ∃ z : pzS, z = pz_pR S21 i 15 (S20.1) := ⟨_, rfl⟩
  have nS22 : S22.1 = σ.1 + 11 := by rw [hS22]; exact nS21
  have wS22 : pz_wf S22 := by rw [hS22]; exact pz_wf_put wS21 (pz_lt2 nS21 nS20 rfl)
  obtain ⟨S23, hS23⟩ : ∃ z : pzS, z = pz_new S22 (1, 12) := ⟨_, rfl⟩
  have nS23 : S23.1 = σ.1 + 12 := pz_n1 nS22 hS23
  have wS23 : pz_wf S23 := by rw [hS23]; exact pz_wf_new wS22
  obtain ⟨S24, hS24⟩ : ∃ z : pzS, z = pz_pR S23 i 16 (S22.1) := ⟨_, rfl⟩
  have nS24 : S24.1 = σ.1 + 12 := by rw [hS24]; exact nS23
  have wS24 : pz_wf S24 := by rw [hS24]; exact pz_wf_put wS23 (pz_lt2 nS23 nS22 rfl)
  obtain ⟨S25, hS25⟩ : ∃ z : pzS, z = pz_new S24 (1, 18000) := ⟨_, rfl⟩
  have nS25 : S25.1 = σ.1 + 13 := pz_n1 nS24 hS25
  have wS25 : pz_wf S25 := by rw [hS25]; exact pz_wf_new wS24
  obtain ⟨S26, hS26⟩ : ∃ z : pzS, z = pz_pR S25 i 17 (S24.1) := ⟨_, rfl⟩
  have nS26 : S26.1 = σ.1 + 13 := by rw [hS26]; exact nS25
  have wS26 : pz_wf S26 := by rw [hS26]; exact pz_wf_put wS25 (pz_lt2 nS25 nS24 rfl)
  obtain ⟨S27, hS27⟩ : ∃ z : pzS, z = pz_new S26 (1, 18000) := ⟨_, rfl⟩
  have nS27 : S27.1 = σ.1 + 14 := pz_n1 nS26 hS27
  have wS27 : pz_wf S27 := by rw [hS27]; exact pz_wf_new wS26
  obtain ⟨S28, hS28⟩ : ∃ z : pzS, z = pz_pR S27 i 18 (S26.1) := ⟨_, rfl⟩
  have nS28 : S28.1 = σ.1 + 14 := by rw [hS28]; exact nS27
  have wS28 : pz_wf S28 := by rw [hS28]; exact pz_wf_put wS27 (pz_lt2 nS27 nS26 rfl)
  obtain ⟨S29, hS29⟩ : ∃ z : pzS, z = pz_new S28 (1, 18000) := ⟨_, rfl⟩
  have nS29 : S29.1 = σ.1 + 15 := pz_n1 nS28 hS29
  have wS29 : pz_wf S29 := by rw [hS29]; exact pz_wf_new wS28
  obtain ⟨S30, hS30⟩ : ∃ z : pzS, z = pz_pR S29 i 19 (S28.1) := ⟨_, rfl⟩
  have nS30 : S30.1 = σ.1 + 15 := by rw [hS30]; exact nS29
  have wS30 : pz_wf S30 := by rw [hS30]; exact pz_wf_put wS29 (pz_lt2 nS29 nS28 rfl)
  obtain ⟨S31, hS31⟩ : ∃ z : pzS, z = pz_new S30 (1, 40) := ⟨_, rfl⟩
  have nS31 : S31.1 = σ.1 + 16 := pz_n1 nS30 hS31
  have wS31 : pz_wf S31 := by rw [hS31]; exact pz_wf_new wS30
  obtain ⟨S32, hS32⟩ : ∃ z : pzS, z = pz_pR S31 i 20 (S30.1) := ⟨_, rfl⟩
  have nS32 : S32.1 = σ.1 + 16 := by rw [hS32]; exact nS31
  have wS32 : pz_wf S32 := by rw [hS32]; exact pz_wf_put wS31 (pz_lt2 nS31 nS30 rfl)
  obtain ⟨S33, hS33⟩ : ∃ z : pzS, z = pz_new S32 (1, 480) := ⟨_, rfl⟩
  have nS33 : S33.1 = σ.1 + 17 := pz_n1 nS32 hS33
  have wS33 : pz_wf S33 := by rw [hS33]; exact pz_wf_new wS32
  obtain ⟨S34, hS34⟩ : ∃ z : pzS, z = pz_pR S33 i 22 (S32.1) := ⟨_, rfl⟩
  have nS34 : S34.1 = σ.1 + 17 := by rw [hS34]; exact nS33
  have wS34 : pz_wf S34 := by rw [hS34]; exact pz_wf_put wS33 (pz_lt2 nS33 nS32 rfl)
  obtain ⟨S35, hS35⟩ : ∃ z : pzS, z = pz_new S34 (1, 480) := ⟨_, rfl⟩
  have nS35 : S35.1 = σ.1 + 18 := pz_n1 nS34 hS35
  have wS35 : pz_wf S35 := by rw [hS35]; exact pz_wf_new wS34
  obtain ⟨S36, hS36⟩ : ∃ z : pzS, z = pz_pR S35 i 23 (S34.1) := ⟨_, rfl⟩
  have nS36 : S36.1 = σ.1 + 18 := by rw [hS36]; exact nS35
  have wS36 : pz_wf S36 := by rw [hS36]; exact pz_wf_put wS35 (pz_lt2 nS35 nS34 rfl)
  obtain ⟨S37, hS37⟩ : ∃ z : pzS, z = pz_new S36 (1, 96) := ⟨_, rfl⟩
  have nS37 : S37.1 = σ.1 + 19 := pz_n1 nS36 hS37
  have wS37 : pz_wf S37 := by rw [hS37]; exact pz_wf_new wS36
  obtain ⟨S38, hS38⟩ : ∃ z : pzS, z = pz_pR S37 i 25 (S36.1) := ⟨_, rfl⟩
  have nS38 : S38.1 = σ.1 + 19 := by rw [hS38]; exact nS37
  have wS38 : pz_wf S38 := by rw [hS38]; exact pz_wf_put wS37 (pz_lt2 nS37 nS36 rfl)
  obtain ⟨S39, hS39⟩ : ∃ z : pzS, z = pz_new S38 (1, 8) := ⟨_, rfl⟩
  have nS39 : S39.1 = σ.1 + 20 := pz_n1 nS38 hS39
  have wS39 : pz_wf S39 := by rw [hS39]; exact pz_wf_new wS38
  obtain ⟨S40, hS40⟩ : ∃ z : pzS, z = pz_pR S39 i 26 (S38.1) := ⟨_, rfl⟩
  have nS40 : S40.1 = σ.1 + 20 := by rw [hS40]; exact nS39
  have wS40 : pz_wf S40 := by rw [hS40]; exact pz_wf_put wS39 (pz_lt2 nS39 nS38 rfl)
  obtain ⟨S41, hS41⟩ : ∃ z : pzS, z = pz_new S40 (1, 200) := ⟨_, rfl⟩
  have nS41 : S41.1 = σ.1 + 21 := pz_n1 nS40 hS41
  have wS41 : pz_wf S41 := by rw [hS41]; exact pz_wf_new wS40
  obtain ⟨S42, hS42⟩ : ∃ z : pzS, z = pz_pR S41 i 32 (S40.1) := ⟨_, rfl⟩
  have nS42 : S42.1 = σ.1 + 21 := by rw [hS42]; exact nS41
  have wS42 : pz_wf S42 := by rw [hS42]; exact pz_wf_put wS41 (pz_lt2 nS41 nS40 rfl)
  obtain ⟨S43, hS43⟩ : ∃ z : pzS, z = pz_new S42 (1, 500) := ⟨_, rfl⟩
  have nS43 : S43.1 = σ.1 + 22 := pz_n1 nS42 hS43
  have wS43 : pz_wf S43 := by rw [hS43]; exact pz_wf_new wS42
  obtain ⟨S44, hS44⟩ : ∃ z : pzS, z = pz_pR S43 i 34 (S42.1) := ⟨_, rfl⟩
  have nS44 : S44.1 = σ.1 + 22 := by rw [hS44]; exact nS43
  have wS44 : pz_wf S44 := by rw [hS44]; exact pz_wf_put wS43 (pz_lt2 nS43 nS42 rfl)
  obtain ⟨S45, hS45⟩ : ∃ z : pzS, z = pz_new S44 (1, 500) := ⟨_, rfl⟩
  have nS45 : S45.1 = σ.1 + 23 := pz_n1 nS44 hS45
  have wS45 : pz_wf S45 := by rw [hS45]; exact pz_wf_new wS44
  obtain ⟨S46, hS46⟩ : ∃ z : pzS, z = pz_pR S45 i 35 (S44.1) := ⟨_, rfl⟩
  have nS46 : S46.1 = σ.1 + 23 := by rw [hS46]; exact nS45
  have wS46 : pz_wf S46 := by rw [hS46]; exact pz_wf_put wS45 (pz_lt2 nS45 nS44 rfl)
  obtain ⟨S47, hS47⟩ : ∃ z : pzS, z = pz_new S46 (1, 32) := ⟨_, rfl⟩
  have nS47 : S47.1 = σ.1 + 24 := pz_n1 nS46 hS47
  have wS47 : pz_wf S47 := by rw [hS47]; exact pz_wf_new wS46
  obtain ⟨S48, hS48⟩ : ∃ z : pzS, z = pz_pR S47 i 37 (S46.1) := ⟨_, rfl⟩
  have nS48 : S48.1 = σ.1 + 24 := by rw [hS48]; exact nS47
  have wS48 : pz_wf S48 := by rw [hS48]; exact pz_wf_put wS47 (pz_lt2 nS47 nS46 rfl)
  obtain ⟨S49, hS49⟩ : ∃ z : pzS, z = pz_new S48 (1, 32) := ⟨_, rfl⟩
  have nS49 : S49.1 = σ.1 + 25 := pz_n1 nS48 hS49
  have wS49 : pz_wf S49 := by rw [hS49]; exact pz_wf_new wS48
  obtain ⟨S50, hS50⟩ : ∃ z : pzS, z = pz_pR S49 i 38 (S48.1) := ⟨_, rfl⟩
  have nS50 : S50.1 = σ.1 + 25 := by rw [hS50]; exact nS49
  have wS50 : pz_wf S50 := by rw [hS50]; exact pz_wf_put wS49 (pz_lt2 nS49 nS48 rfl)
  obtain ⟨S51, hS51⟩ : ∃ z : pzS, z = pz_new S50 (1, 32) := ⟨_, rfl⟩
  have nS51 : S51.1 = σ.1 + 26 := pz_n1 nS50 hS51
  have wS51 : pz_wf S51 := by rw [hS51]; exact pz_wf_new wS50
  obtain ⟨S52, hS52⟩ : ∃ z : pzS, z = pz_pR S51 i 39 (S50.1) := ⟨_, rfl⟩
  have nS52 : S52.1 = σ.1 + 26 := by rw [hS52]; exact nS51
  have wS52 : pz_wf S52 := by rw [hS52]; exact pz_wf_put wS51 (pz_lt2 nS51 nS50 rfl)
  obtain ⟨S53, hS53⟩ : ∃ z : pzS, z = pz_new S52 (1, 256) := ⟨_, rfl⟩
  have nS53 : S53.1 = σ.1 + 27 := pz_n1 nS52 hS53
  have wS53 : pz_wf S53 := by rw [hS53]; exact pz_wf_new wS52
  obtain ⟨S54, hS54⟩ : ∃ z : pzS, z = pz_pR S53 i 40 (S52.1) := ⟨_, rfl⟩
  have nS54 : S54.1 = σ.1 + 27 := by rw [hS54]; exact nS53
  have wS54 : pz_wf S54 := by rw [hS54]; exact pz_wf_put wS53 (pz_lt2 nS53 nS52 rfl)
  obtain ⟨S55, hS55⟩ : ∃ z : pzS, z = pz_new S54 (1, 256) := ⟨_, rfl⟩
  have nS55 : S55.1 = σ.1 + 28 := pz_n1 nS54 hS55
  have wS55 : pz_wf S55 := by rw [hS55]; exact pz_wf_new wS54
  obtain ⟨S56, hS56⟩ : ∃ z : pzS, z = pz_pR S55 i 41 (S54.1) := ⟨_, rfl⟩
  have nS56 : S56.1 = σ.1 + 28 := by rw [hS56]; exact nS55
  have wS56 : pz_wf S56 := by rw [hS56]; exact pz_wf_put wS55 (pz_lt2 nS55 nS54 rfl)
  obtain ⟨S57, hS57⟩ : ∃ z : pzS, z = pz_new S56 (1, 6) := ⟨_, rfl⟩
  have nS57 : S57.1 = σ.1 + 29 := pz_n1 nS56 hS57
  have wS57 : pz_wf S57 := by rw [hS57]; exact pz_wf_new wS56
  obtain ⟨S58, hS58⟩ : ∃ z : pzS, z = pz_pR S57 i 42 (S56.1) := ⟨_, rfl⟩
  have nS58 : S58.1 = σ.1 + 29 := by rw [hS58]; exact nS57
  have wS58 : pz_wf S58 := by rw [hS58]; exact pz_wf_put wS57 (pz_lt2 nS57 nS56 rfl)
  obtain ⟨S59, hS59⟩ : ∃ z : pzS, z = pz_new S58 (1, 6) := ⟨_, rfl⟩
  have nS59 : S59.1 = σ.1 + 30 := pz_n1 nS58 hS59
  have wS59 : pz_wf S59 := by rw [hS59]; exact pz_wf_new wS58
  obtain ⟨S60, hS60⟩ : ∃ z : pzS, z = pz_pR S59 i 43 (S58.1) := ⟨_, rfl⟩
  have nS60 : S60.1 = σ.1 + 30 := by rw [hS60]; exact nS59
  have wS60 : pz_wf S60 := by rw [hS60]; exact pz_wf_put wS59 (pz_lt2 nS59 nS58 rfl)
  obtain ⟨S61, hS61⟩ : ∃ z : pzS, z = pz_new S60 (1, 401) := ⟨_, rfl⟩
  have nS61 : S61.1 = σ.1 + 31 := pz_n1 nS60 hS61
  have wS61 : pz_wf S61 := by rw [hS61]; exact pz_wf_new wS60
  obtain ⟨S62, hS62⟩ : ∃ z : pzS, z = pz_pR S61 i 45 (S60.1) := ⟨_, rfl⟩
  have nS62 : S62.1 = σ.1 + 31 := by rw [hS62]; exact nS61
  have wS62 : pz_wf S62 := by rw [hS62]; exact pz_wf_put wS61 (pz_lt2 nS61 nS60 rfl)
  obtain ⟨S63, hS63⟩ : ∃ z : pzS, z = pz_new S62 (1, 80200) := ⟨_, rfl⟩
  have nS63 : S63.1 = σ.1 + 32 := pz_n1 nS62 hS63
  have wS63 : pz_wf S63 := by rw [hS63]; exact pz_wf_new wS62
  obtain ⟨S64, hS64⟩ : ∃ z : pzS, z = pz_pR S63 i 46 (S62.1) := ⟨_, rfl⟩
  have nS64 : S64.1 = σ.1 + 32 := by rw [hS64]; exact nS63
  have wS64 : pz_wf S64 := by rw [hS64]; exact pz_wf_put wS63 (pz_lt2 nS63 nS62 rfl)
  obtain ⟨S65, hS65⟩ : ∃ z : pzS, z = pz_new S64 (1, 401) := ⟨_, rfl⟩
  have nS65 : S65.1 = σ.1 + 33 := pz_n1 nS64 hS65
  have wS65 : pz_wf S65 := by rw [hS65]; exact pz_wf_new wS64
  obtain ⟨S66, hS66⟩ : ∃ z : pzS, z = pz_pR S65 i 48 (S64.1) := ⟨_, rfl⟩
  have nS66 : S66.1 = σ.1 + 33 := by rw [hS66]; exact nS65
  have wS66 : pz_wf S66 := by rw [hS66]; exact pz_wf_put wS65 (pz_lt2 nS65 nS64 rfl)
  obtain ⟨S67, hS67⟩ : ∃ z : pzS, z = pz_new S66 (1, 401) := ⟨_, rfl⟩
  have nS67 : S67.1 = σ.1 + 34 := pz_n1 nS66 hS67
  have wS67 : pz_wf S67 := by rw [hS67]; exact pz_wf_new wS66
  obtain ⟨S68, hS68⟩ : ∃ z : pzS, z = pz_pR S67 i 49 (S66.1) := ⟨_, rfl⟩
  have nS68 : S68.1 = σ.1 + 34 := by rw [hS68]; exact nS67
  have wS68 : pz_wf S68 := by rw [hS68]; exact pz_wf_put wS67 (pz_lt2 nS67 nS66 rfl)
  obtain ⟨S69, hS69⟩ : ∃ z : pzS, z = pz_new S68 (1, 1203) := ⟨_, rfl⟩
  have nS69 : S69.1 = σ.1 + 35 := pz_n1 nS68 hS69
  have wS69 : pz_wf S69 := by rw [hS69]; exact pz_wf_new wS68
  obtain ⟨S70, hS70⟩ : ∃ z : pzS, z = pz_pR S69 i 50 (S68.1) := ⟨_, rfl⟩
  have nS70 : S70.1 = σ.1 + 35 := by rw [hS70]; exact nS69
  have wS70 : pz_wf S70 := by rw [hS70]; exact pz_wf_put wS69 (pz_lt2 nS69 nS68 rfl)
  obtain ⟨S71, hS71⟩ : ∃ z : pzS, z = pz_new S70 (1, 1203) := ⟨_, rfl⟩
  have nS71 : S71.1 = σ.1 + 36 := pz_n1 nS70 hS71
  have wS71 : pz_wf S71 := by rw [hS71]; exact pz_wf_new wS70
  obtain ⟨S72, hS72⟩ : ∃ z : pzS, z = pz_pR S71 i 51 (S70.1) := ⟨_, rfl⟩
  have nS72 : S72.1 = σ.1 + 36 := by rw [hS72]; exact nS71
  have wS72 : pz_wf S72 := by rw [hS72]; exact pz_wf_put wS71 (pz_lt2 nS71 nS70 rfl)
  obtain ⟨S73, hS73⟩ : ∃ z : pzS, z = pz_new S72 (1, 2500) := ⟨_, rfl⟩
  have nS73 : S73.1 = σ.1 + 37 := pz_n1 nS72 hS73
  have wS73 : pz_wf S73 := by rw [hS73]; exact pz_wf_new wS72
  obtain ⟨S74, hS74⟩ : ∃ z : pzS, z = pz_pR S73 i 53 (S72.1) := ⟨_, rfl⟩
  have nS74 : S74.1 = σ.1 + 37 := by rw [hS74]; exact nS73
  have wS74 : pz_wf S74 := by rw [hS74]; exact pz_wf_put wS73 (pz_lt2 nS73 nS72 rfl)
  have e9 : kX11 σ i = S74 := by rw [hS74, hS73, hS72, hS71, hS70, hS69, hS68, hS67, hS66, hS65, hS64, hS63, hS62, hS61, hS60, hS59, hS58, hS57, hS56, hS55, hS54, hS53, hS52, hS51, hS50, hS49, hS48, hS47, hS46, hS45, hS44, hS43, hS42, hS41, hS40, hS39, hS38, hS37, hS36, hS35, hS34, hS33, hS32, hS31, hS30, hS29, hS28, hS27, hS26, hS25, hS24, hS23, hS22, hS21, hS20, hS19, hS18, hS17, hS16, hS15, hS14, hS13, hS12, hS11, hS10, hS9, hS8, hS7, hS6, hS5, hS4, hS3, hS2, hS1]; rfl
  rw [e9]; exact wS74
set_option maxHeartbeats 4000000 in
set_option maxRecDepth 100000 in
theorem kX11_K {σ : pzS} {j : Nat} {i : Nat} (hj0 : j < σ.1) : (kX11 σ i).2.1 j = σ.2.1 j := by
  obtain ⟨S1, hS1⟩ : ∃ z : pzS, z = pz_new σ (1, 12) := ⟨_, rfl⟩
  have nS1 : S1.1 = σ.1 + 1 := pz_n1 (Nat.add_zero σ.1).symm hS1
  have wS1 : S1.2.1 j = σ.2.1 j := by rw [hS1, pz_new_K hj0] <;> exact rfl
  obtain ⟨S2, hS2⟩ : ∃ z : pzS, z = pz_pR S1 i 2 (σ.1) := ⟨_, rfl⟩
  have nS2 : S2.1 = σ.1 + 1 := by rw [hS2]; exact nS1
  have wS2 : S2.2.1 j = σ.2.1 j := by rw [hS2]; exact wS1
  obtain ⟨S3, hS3⟩ : ∃ z : pzS, z = pz_new S2 (1, 12) := ⟨_, rfl⟩
  have nS3 : S3.1 = σ.1 + 2 := pz_n1 nS2 hS3
  have wS3 : S3.2.1 j = σ.2.1 j := by rw [hS3, pz_new_K (pz_lt0 nS2 hj0)] <;> exact wS2
  obtain ⟨S4, hS4⟩ : ∃ z : pzS, z = pz_pR S3 i 3 (S2.1) := ⟨_, rfl⟩
  have nS4 : S4.1 = σ.1 + 2 := by rw [hS4]; exact nS3
  have wS4 : S4.2.1 j = σ.2.1 j := by rw [hS4]; exact wS3
  obtain ⟨S5, hS5⟩ : ∃ z : pzS, z = pz_new S4 (1, 480) := ⟨_, rfl⟩
  have nS5 : S5.1 = σ.1 + 3 := pz_n1 nS4 hS5
  have wS5 : S5.2.1 j = σ.2.1 j := by rw [hS5, pz_new_K (pz_lt0 nS4 hj0)] <;> exact wS4
  obtain ⟨S6, hS6⟩ : ∃ z : pzS, z = pz_pR S5 i 4 (S4.1) := ⟨_, rfl⟩
  have nS6 : S6.1 = σ.1 + 3 := by rw [hS6]; exact nS5
  have wS6 : S6.2.1 j = σ.2.1 j := by rw [hS6]; exact wS5
  obtain ⟨S7, hS7⟩ : ∃ z : pzS, z = pz_new S6 (1, 480) := ⟨_, rfl⟩
  have nS7 : S7.1 = σ.1 + 4 := pz_n1 nS6 hS7
  have wS7 : S7.2.1 j = σ.2.1 j := by rw [hS7, pz_new_K (pz_lt0 nS6 hj0)] <;> exact wS6
  obtain ⟨S8, hS8⟩ : ∃ z : pzS, z = pz_pR S7 i 5 (S6.1) := ⟨_, rfl⟩
  have nS8 : S8.1 = σ.1 + 4 := by rw [hS8]; exact nS7
  have wS8 : S8.2.1 j = σ.2.1 j := by rw [hS8]; exact wS7
  obtain ⟨S9, hS9⟩ : ∃ z : pzS, z = pz_new S8 (1, 480) := ⟨_, rfl⟩
  have nS9 : S9.1 = σ.1 + 5 := pz_n1 nS8 hS9
  have wS9 : S9.2.1 j = σ.2.1 j := by rw [hS9, pz_new_K (pz_lt0 nS8 hj0)] <;> exact wS8
  obtain ⟨S10, hS10⟩ : ∃ z : pzS, z = pz_pR S9 i 6 (S8.1) := ⟨_, rfl⟩
  have nS10 : S10.1 = σ.1 + 5 := by rw [hS10]; exact nS9
  have wS10 : S10.2.1 j = σ.2.1 j := by rw [hS10]; exact wS9
  obtain ⟨S11, hS11⟩ : ∃ z : pzS, z = pz_new S10 (1, 8) := ⟨_, rfl⟩
  have nS11 : S11.1 = σ.1 + 6 := pz_n1 nS10 hS11
  have wS11 : S11.2.1 j = σ.2.1 j := by rw [hS11, pz_new_K (pz_lt0 nS10 hj0)] <;> exact wS10
  obtain ⟨S12, hS12⟩ : ∃ z : pzS, z = pz_pR S11 i 8 (S10.1) := ⟨_, rfl⟩
  have nS12 : S12.1 = σ.1 + 6 := by rw [hS12]; exact nS11
  have wS12 : S12.2.1 j = σ.2.1 j := by rw [hS12]; exact wS11
  obtain ⟨S13, hS13⟩ : ∃ z : pzS, z = pz_new S12 (1, 96) := ⟨_, rfl⟩
  have nS13 : S13.1 = σ.1 + 7 := pz_n1 nS12 hS13
  have wS13 : S13.2.1 j = σ.2.1 j := by rw [hS13, pz_new_K (pz_lt0 nS12 hj0)] <;> exact wS12
  obtain ⟨S14, hS14⟩ : ∃ z : pzS, z = pz_pR S13 i 9 (S12.1) := ⟨_, rfl⟩
  have nS14 : S14.1 = σ.1 + 7 := by rw [hS14]; exact nS13
  have wS14 : S14.2.1 j = σ.2.1 j := by rw [hS14]; exact wS13
  obtain ⟨S15, hS15⟩ : ∃ z : pzS, z = pz_new S14 (1, 40) := ⟨_, rfl⟩
  have nS15 : S15.1 = σ.1 + 8 := pz_n1 nS14 hS15
  have wS15 : S15.2.1 j = σ.2.1 j := by rw [hS15, pz_new_K (pz_lt0 nS14 hj0)] <;> exact wS14
  obtain ⟨S16, hS16⟩ : ∃ z : pzS, z = pz_pR S15 i 11 (S14.1) := ⟨_, rfl⟩
  have nS16 : S16.1 = σ.1 + 8 := by rw [hS16]; exact nS15
  have wS16 : S16.2.1 j = σ.2.1 j := by rw [hS16]; exact wS15
  obtain ⟨S17, hS17⟩ : ∃ z : pzS, z = pz_new S16 (3, 40) := ⟨_, rfl⟩
  have nS17 : S17.1 = σ.1 + 9 := pz_n1 nS16 hS17
  have wS17 : S17.2.1 j = σ.2.1 j := by rw [hS17, pz_new_K (pz_lt0 nS16 hj0)] <;> exact wS16
  obtain ⟨S18, hS18⟩ : ∃ z : pzS, z = pz_pR S17 i 12 (S16.1) := ⟨_, rfl⟩
  have nS18 : S18.1 = σ.1 + 9 := by rw [hS18]; exact nS17
  have wS18 : S18.2.1 j = σ.2.1 j := by rw [hS18]; exact wS17
  obtain ⟨S19, hS19⟩ : ∃ z : pzS, z = pz_new S18 (1, 12) := ⟨_, rfl⟩
  have nS19 : S19.1 = σ.1 + 10 := pz_n1 nS18 hS19
  have wS19 : S19.2.1 j = σ.2.1 j := by rw [hS19, pz_new_K (pz_lt0 nS18 hj0)] <;> exact wS18
  obtain ⟨S20, hS20⟩ : ∃ z : pzS, z = pz_pR S19 i 14 (S18.1) := ⟨_, rfl⟩
  have nS20 : S20.1 = σ.1 + 10 := by rw [hS20]; exact nS19
  have wS20 : S20.2.1 j = σ.2.1 j := by rw [hS20]; exact wS19
  obtain ⟨S21, hS21⟩ : ∃ z : pzS, z = pz_new S20 (1, 12) := ⟨_, rfl⟩
  have nS21 : S21.1 = σ.1 + 11 := pz_n1 nS20 hS21
  have wS21 : S21.2.1 j = σ.2.1 j := by rw [hS21, pz_new_K (pz_lt0 nS20 hj0)] <;> exact wS20
  obtain ⟨S22, hS22⟩ : ∃ z : pzS, z = pz_pR S21 i 15 (S20.1) := ⟨_, rfl⟩
  have nS22 : S22.1 = σ.1 + 11 := by rw [hS22]; exact nS21
  have wS22 : S22.2.1 j = σ.2.1 j := by rw [hS22]; exact wS21
  obtain ⟨S23, hS23⟩ : ∃ z : pzS, z = pz_new S22 (1, 12) := ⟨_, rfl⟩
  have nS23 : S23.1 = σ.1 + 12 := pz_n1 nS22 hS23
  have wS23 : S23.2.1 j = σ.2.1 j := by rw [hS23, pz_new_K (pz_lt0 nS22 hj0)] <;> exact wS22
  obtain ⟨S24, hS24⟩ : ∃ z : pzS, z = pz_pR S23 i 16 (S22.1) := ⟨_, rfl⟩
  have nS24 : S24.1 = σ.1 + 12 := by rw [hS24]; exact nS23
  have wS24 : S24.2.1 j = σ.2.1 j := by rw [hS24]; exact wS23
  obtain ⟨S25, hS25⟩ : ∃ z : pzS, z = pz_new S24 (1, 18000) := ⟨_, rfl⟩
  have nS25 : S25.1 = σ.1 + 13 := pz_n1 nS24 hS25
  have wS25 : S25.2.1 j = σ.2.1 j := by rw [hS25, pz_new_K (pz_lt0 nS24 hj0)] <;> exact wS24
  obtain ⟨S26, hS26⟩ : ∃ z : pzS, z = pz_pR S25 i 17 (S24.1) := ⟨_, rfl⟩
  have nS26 : S26.1 = σ.1 + 13 := by rw [hS26]; exact nS25
  have wS26 : S26.2.1 j = σ.2.1 j := by rw [hS26]; exact wS25
  obtain ⟨S27, hS27⟩ : ∃ z : pzS, z = pz_new S26 (1, 18000) := ⟨_, rfl⟩
  have nS27 : S27.1 = σ.1 + 14 := pz_n1 nS26 hS27
  have wS27 : S27.2.1 j = σ.2.1 j := by rw [hS27, pz_new_K (pz_lt0 nS26 hj0)] <;> exact wS26
  obtain ⟨S28, hS28⟩ : ∃ z : pzS, z = pz_pR S27 i 18 (S26.1) := ⟨_, rfl⟩
  have nS28 : S28.1 = σ.1 + 14 := by rw [hS28]; exact nS27
  have wS28 : S28.2.1 j = σ.2.1 j := by rw [hS28]; exact wS27
  obtain ⟨S29, hS29⟩ : ∃ z : pzS, z = pz_new S28 (1, 18000) := ⟨_, rfl⟩
  have nS29 : S29.1 = σ.1 + 15 := pz_n1 nS28 hS29
  have wS29 : S29.2.1 j = σ.2.1 j := by rw [hS29, pz_new_K (pz_lt0 nS28 hj0)] <;> exact wS28
  obtain ⟨S30, hS30⟩ : ∃ z : pzS, z = pz_pR S29 i 19 (S28.1) := ⟨_, rfl⟩
  have nS30 : S30.1 = σ.1 + 15 := by rw [hS30]; exact nS29
  have wS30 : S30.2.1 j = σ.2.1 j := by rw [hS30]; exact wS29
  obtain ⟨S31, hS31⟩ : ∃ z : pzS, z = pz_new S30 (1, 40) := ⟨_, rfl⟩
  have nS31 : S31.1 = σ.1 + 16 := pz_n1 nS30 hS31
  have wS31 : S31.2.1 j = σ.2.1 j := by rw [hS31, pz_new_K (pz_lt0 nS30 hj0)] <;> exact wS30
  obtain ⟨S32, hS32⟩ : ∃ z : pzS, z = pz_pR S31 i 20 (S30.1) := ⟨_, rfl⟩
  have nS32 : S32.1 = σ.1 + 16 := by rw [hS32]; exact nS31
  have wS32 : S32.2.1 j = σ.2.1 j := by rw [hS32]; exact wS31
  obtain ⟨S33, hS33⟩ : ∃ z : pzS, z = pz_new S32 (1, 480) := ⟨_, rfl⟩
  have nS33 : S33.1 = σ.1 + 17 := pz_n1 nS32 hS33
  have wS33 : S33.2.1 j = σ.2.1 j := by rw [hS33, pz_new_K (pz_lt0 nS32 hj0)] <;> exact wS32
  obtain ⟨S34, hS34⟩ : ∃ z : pzS, z = pz_pR S33 i 22 (S32.1) := ⟨_, rfl⟩
  have nS34 : S34.1 = σ.1 + 17 := by rw [hS34]; exact nS33
  have wS34 : S34.2.1 j = σ.2.1 j := by rw [hS34]; exact wS33
  obtain ⟨S35, hS35⟩ : ∃ z : pzS, z = pz_new S34 (1, 480) := ⟨_, rfl⟩
  have nS35 : S35.1 = σ.1 + 18 := pz_n1 nS34 hS35
  have wS35 : S35.2.1 j = σ.2.1 j := by rw [hS35, pz_new_K (pz_lt0 nS34 hj0)] <;> exact wS34
  obtain ⟨S36, hS36⟩ : ∃ z : pzS, z = pz_pR S35 i 23 (S34.1) := ⟨_, rfl⟩
  have nS36 : S36.1 = σ.1 + 18 := by rw [hS36]; exact nS35
  have wS36 : S36.2.1 j = σ.2.1 j := by rw [hS36]; exact wS35
  obtain ⟨S37, hS37⟩ : ∃ z : pzS, z = pz_new S36 (1, 96) := ⟨_, rfl⟩
  have nS37 : S37.1 = σ.1 + 19 := pz_n1 nS36 hS37
  have wS37 : S37.2.1 j = σ.2.1 j := by rw [hS37, pz_new_K (pz_lt0 nS36 hj0)] <;> exact wS36
  obtain ⟨S38, hS38⟩ : ∃ z : pzS, z = pz_pR S37 i 25 (S36.1) := ⟨_, rfl⟩
  have nS38 : S38.1 = σ.1 + 19 := by rw [hS38]; exact nS37
  have wS38 : S38.2.1 j = σ.2.1 j := by rw [hS38]; exact wS37
  obtain ⟨S39, hS39⟩ : ∃ z : pzS, z = pz_new S38 (1, 8) := ⟨_, rfl⟩
  have nS39 : S39.1 = σ.1 + 20 := pz_n1 nS38 hS39
  have wS39 : S39.2.1 j = σ.2.1 j := by rw [hS39, pz_new_K (pz_lt0 nS38 hj0)] <;> exact wS38
  obtain ⟨S40, hS40⟩ : ∃ z : pzS, z = pz_pR S39 i 26 (S38.1) := ⟨_, rfl⟩
  have nS40 : S40.1 = σ.1 + 20 := by rw [hS40]; exact nS39
  have wS40 : S40.2.1 j = σ.2.1 j := by rw [hS40]; exact wS39
  obtain ⟨S41, hS41⟩ : ∃ z : pzS, z = pz_new S40 (1, 200) := ⟨_, rfl⟩
  have nS41 : S41.1 = σ.1 + 21 := pz_n1 nS40 hS41
  have wS41 : S41.2.1 j = σ.2.1 j := by rw [hS41, pz_new_K (pz_lt0 nS40 hj0)] <;> exact wS40
  obtain ⟨S42, hS42⟩ : ∃ z : pzS, z = pz_pR S41 i 32 (S40.1) := ⟨_, rfl⟩
  have nS42 : S42.1 = σ.1 + 21 := by rw [hS42]; exact nS41
  have wS42 : S42.2.1 j = σ.2.1 j := by rw [hS42]; exact wS41
  obtain ⟨S43, hS43⟩ : ∃ z : pzS, z = pz_new S42 (1, 500) := ⟨_, rfl⟩
  have nS43 : S43.1 = σ.1 + 22 := pz_n1 nS42 hS43
  have wS43 : S43.2.1 j = σ.2.1 j := by rw [hS43, pz_new_K (pz_lt0 nS42 hj0)] <;> exact wS42
  obtain ⟨S44, hS44⟩ : ∃ z : pzS, z = pz_pR S43 i 34 (S42.1) := ⟨_, rfl⟩
  have nS44 : S44.1 = σ.1 + 22 := by rw [hS44]; exact nS43
  have wS44 : S44.2.1 j = σ.2.1 j := by rw [hS44]; exact wS43
  obtain ⟨S45, hS45⟩ : ∃ z : pzS, z = pz_new S44 (1, 500) := ⟨_, rfl⟩
  have nS45 : S45.1 = σ.1 + 23 := pz_n1 nS44 hS45
  have wS45 : S45.2.1 j = σ.2.1 j := by rw [hS45, pz_new_K (pz_lt0 nS44 hj0)] <;> exact wS44
  obtain ⟨S46, hS46⟩ : ∃ z : pzS, z = pz_pR S45 i 35 (S44.1) := ⟨_, rfl⟩
  have nS46 : S46.1 = σ.1 + 23 := by rw [hS46]; exact nS45
  have wS46 : S46.2.1 j = σ.2.1 j := by rw [hS46]; exact wS45
  obtain ⟨S47, hS47⟩ : ∃ z : pzS, z = pz_new S46 (1, 32) := ⟨_, rfl⟩
  have nS47 : S47.1 = σ.1 + 24 := pz_n1 nS46 hS47
  have wS47 : S47.2.1 j = σ.2.1 j := by rw [hS47, pz_new_K (pz_lt0 nS46 hj0)] <;> exact wS46
  obtain ⟨S48, hS48⟩ : ∃ z : pzS, z = pz_pR S47 i 37 (S46.1) := ⟨_, rfl⟩
  have nS48 : S48.1 = σ.1 + 24 := by rw [hS48]; exact nS47
  have wS48 : S48.2.1 j = σ.2.1 j := by rw [hS48]; exact wS47
  obtain ⟨S49, hS49⟩ : ∃ z : pzS, z = pz_new S48 (1, 32) := ⟨_, rfl⟩
  have nS49 : S49.1 = σ.1 + 25 := pz_n1 nS48 hS49
  have wS49 : S49.2.1 j = σ.2.1 j := by rw [hS49, pz_new_K (pz_lt0 nS48 hj0)] <;> exact wS48
  obtain ⟨S50, hS50⟩ : ∃ z : pzS, z = pz_pR S49 i 38 (S48.1) := ⟨_, rfl⟩
  have nS50 : S50.1 = σ.1 + 25 := by rw [hS50]; exact nS49
  have wS50 : S50.2.1 j = σ.2.1 j := by rw [hS50]; exact wS49
  obtain ⟨S51, hS51⟩ : ∃ z : pzS, z = pz_new S50 (1, 32) := ⟨_, rfl⟩
  have nS51 : S51.1 = σ.1 + 26 := pz_n1 nS50 hS51
  have wS51 : S51.2.1 j = σ.2.1 j := by rw [hS51, pz_new_K (pz_lt0 nS50 hj0)] <;> exact wS50
  obtain ⟨S52, hS52⟩ : ∃ z : pzS, z = pz_pR S51 i 39 (S50.1) := ⟨_, rfl⟩
  have nS52 : S52.1 = σ.1 + 26 := by rw [hS52]; exact nS51
  have wS52 : S52.2.1 j = σ.2.1 j := by rw [hS52]; exact wS51
  obtain ⟨S53, hS53⟩ : ∃ z : pzS, z = pz_new S52 (1, 256) := ⟨_, rfl⟩
  have nS53 : S53.1 = σ.1 + 27 := pz_n1 nS52 hS53
  have wS53 : S53.2.1 j = σ.2.1 j := by rw [hS53, pz_new_K (pz_lt0 nS52 hj0)] <;> exact wS52
  obtain ⟨S54, hS54⟩ : ∃ z : pzS, z = pz_pR S53 i 40 (S52.1) := ⟨_, rfl⟩
  have nS54 : S54.1 = σ.1 + 27 := by rw [hS54]; exact nS53
  have wS54 : S54.2.1 j = σ.2.1 j := by rw [hS54]; exact wS53
  obtain ⟨S55, hS55⟩ : ∃ z : pzS, z = pz_new S54 (1, 256) := ⟨_, rfl⟩
  have nS55 : S55.1 = σ.1 + 28 := pz_n1 nS54 hS55
  have wS55 : S55.2.1 j = σ.2.1 j := by rw [hS55, pz_new_K (pz_lt0 nS54 hj0)] <;> exact wS54
  obtain ⟨S56, hS56⟩ : ∃ z : pzS, z = pz_pR S55 i 41 (S54.1) := ⟨_, rfl⟩
  have nS56 : S56.1 = σ.1 + 28 := by rw [hS56]; exact nS55
  have wS56 : S56.2.1 j = σ.2.1 j := by rw [hS56]; exact wS55
  obtain ⟨S57, hS57⟩ : ∃ z : pzS, z = pz_new S56 (1, 6) := ⟨_, rfl⟩
  have nS57 : S57.1 = σ.1 + 29 := pz_n1 nS56 hS57
  have wS57 : S57.2.1 j = σ.2.1 j := by rw [hS57, pz_new_K (pz_lt0 nS56 hj0)] <;> exact wS56
  obtain ⟨S58, hS58⟩ : ∃ z : pzS, z = pz_pR S57 i 42 (S56.1) := ⟨_, rfl⟩
  have nS58 : S58.1 = σ.1 + 29 := by rw [hS58]; exact nS57
  have wS58 : S58.2.1 j = σ.2.1 j := by rw [hS58]; exact wS57
  obtain ⟨S59, hS59⟩ : ∃ z : pzS, z = pz_new S58 (1, 6) := ⟨_, rfl⟩
  have nS59 : S59.1 = σ.1 + 30 := pz_n1 nS58 hS59
  have wS59 : S59.2.1 j = σ.2.1 j := by rw [hS59, pz_new_K (pz_lt0 nS58 hj0)] <;> exact wS58
  obtain ⟨S60, hS60⟩ : ∃ z : pzS, z = pz_pR S59 i 43 (S58.1) := ⟨_, rfl⟩
  have nS60 : S60.1 = σ.1 + 30 := by rw [hS60]; exact nS59
  have wS60 : S60.2.1 j = σ.2.1 j := by rw [hS60]; exact wS59
  obtain ⟨S61, hS61⟩ : ∃ z : pzS, z = pz_new S60 (1, 401) := ⟨_, rfl⟩
  have nS61 : S61.1 = σ.1 + 31 := pz_n1 nS60 hS61
  have wS61 : S61.2.1 j = σ.2.1 j := by rw [hS61, pz_new_K (pz_lt0 nS60 hj0)] <;> exact wS60
  obtain ⟨S62, hS62⟩ : ∃ z : pzS, z = pz_pR S61 i 45 (S60.1) := ⟨_, rfl⟩
  have nS62 : S62.1 = σ.1 + 31 := by rw [hS62]; exact nS61
  have wS62 : S62.2.1 j = σ.2.1 j := by rw [hS62]; exact wS61
  obtain ⟨S63, hS63⟩ : ∃ z : pzS, z = pz_new S62 (1, 80200) := ⟨_, rfl⟩
  have nS63 : S63.1 = σ.1 + 32 := pz_n1 nS62 hS63
  have wS63 : S63.2.1 j = σ.2.1 j := by rw [hS63, pz_new_K (pz_lt0 nS62 hj0)] <;> exact wS62
  obtain ⟨S64, hS64⟩ : ∃ z : pzS, z = pz_pR S63 i 46 (S62.1) := ⟨_, rfl⟩
  have nS64 : S64.1 = σ.1 + 32 := by rw [hS64]; exact nS63
  have wS64 : S64.2.1 j = σ.2.1 j := by rw [hS64]; exact wS63
  obtain ⟨S65, hS65⟩ : ∃ z : pzS, z = pz_new S64 (1, 401) := ⟨_, rfl⟩
  have nS65 : S65.1 = σ.1 + 33 := pz_n1 nS64 hS65
  have wS65 : S65.2.1 j = σ.2.1 j := by rw [hS65, pz_new_K (pz_lt0 nS64 hj0)] <;> exact wS64
  obtain ⟨S66, hS66⟩ : ∃ z : pzS, z = pz_pR S65 i 48 (S64.1) := ⟨_, rfl⟩
  have nS66 : S66.1 = σ.1 + 33 := by rw [hS66]; exact nS65
  have wS66 : S66.2.1 j = σ.2.1 j := by rw [hS66]; exact wS65
  obtain ⟨S67, hS67⟩ : ∃ z : pzS, z = pz_new S66 (1, 401) := ⟨_, rfl⟩
  have nS67 : S67.1 = σ.1 + 34 := pz_n1 nS66 hS67
  have wS67 : S67.2.1 j = σ.2.1 j := by rw [hS67, pz_new_K (pz_lt0 nS66 hj0)] <;> exact wS66
  obtain ⟨S68, hS68⟩ : ∃ z : pzS, z = pz_pR S67 i 49 (S66.1) := ⟨_, rfl⟩
  have nS68 : S68.1 = σ.1 + 34 := by rw [hS68]; exact nS67
  have wS68 : S68.2.1 j = σ.2.1 j := by rw [hS68]; exact wS67
  obtain ⟨S69, hS69⟩ : ∃ z : pzS, z = pz_new S68 (1, 1203) := ⟨_, rfl⟩
  have nS69 : S69.1 = σ.1 + 35 := pz_n1 nS68 hS69
  have wS69 : S69.2.1 j = σ.2.1 j := by rw [hS69, pz_new_K (pz_lt0 nS68 hj0)] <;> exact wS68
  obtain ⟨S70, hS70⟩ : ∃ z : pzS, z = pz_pR S69 i 50 (S68.1) := ⟨_, rfl⟩
  have nS70 : S70.1 = σ.1 + 35 := by rw [hS70]; exact nS69
  have wS70 : S70.2.1 j = σ.2.1 j := by rw [hS70]; exact wS69
  obtain ⟨S71, hS71⟩ : ∃ z : pzS, z = pz_new S70 (1, 1203) := ⟨_, rfl⟩
  have nS71 : S71.1 = σ.1 + 36 := pz_n1 nS70 hS71
  have wS71 : S71.2.1 j = σ.2.1 j := by rw [hS71, pz_new_K (pz_lt0 nS70 hj0)] <;> exact wS70
  obtain ⟨S72, hS72⟩ : ∃ z : pzS, z = pz_pR S71 i 51 (S70.1) := ⟨_, rfl⟩
  have nS72 : S72.1 = σ.1 + 36 := by rw [hS72]; exact nS71
  have wS72 : S72.2.1 j = σ.2.1 j := by rw [hS72]; exact wS71
  obtain ⟨S73, hS73⟩ : ∃ z : pzS, z = pz_new S72 (1, 2500) := ⟨_, rfl⟩
  have nS73 : S73.1 = σ.1 + 37 := pz_n1 nS72 hS73
  have wS73 : S73.2.1 j = σ.2.1 j := by rw [hS73, pz_new_K (pz_lt0 nS72 hj0)] <;> exact wS72
  obtain ⟨S74, hS74⟩ : ∃ z : pzS, z = pz_pR S73 i 53 (S72.1) := ⟨_, rfl⟩
  have nS74 : S74.1 = σ.1 + 37 := by rw [hS74]; exact nS73
  have wS74 : S74.2.1 j = σ.2.1 j := by rw [hS74]; exact wS73
  have e9 : kX11 σ i = S74 := by rw [hS74, hS73, hS72, hS71, hS70, hS69, hS68, hS67, hS66, hS65, hS64, hS63, hS62, hS61, hS60, hS59, hS58, hS57, hS56, hS55, hS54, hS53, hS52, hS51, hS50, hS49, hS48, hS47, hS46, hS45, hS44, hS43, hS42, hS41, hS40, hS39, hS38, hS37, hS36, hS35, hS34, hS33, hS32, hS31, hS30, hS29, hS28, hS27, hS26, hS25, hS24, hS23, hS22, hS21, hS20, hS19, hS18, hS17, hS16, hS15, hS14, hS13, hS12, hS11, hS10, hS9, hS8, hS7, hS6, hS5, hS4, hS3, hS2, hS1]; rfl
  rw [e9]; exact wS74
set_option maxHeartbeats 4000000 in
set_option maxRecDepth 100000 in
theorem kX11_R {σ : pzS} {j : Nat} {i : Nat} (hj0 : j < σ.1) (hj : j ≠ i) : (kX11 σ i).2.2 j = σ.2.2 j := by
  obtain ⟨S1, hS1⟩ : ∃ z : pzS, z = pz_new σ (1, 12) := ⟨_, rfl⟩
  have nS1 : S1.1 = σ.1 + 1 := pz_n1 (Nat.add_zero σ.1).symm hS1
  have wS1 : S1.2.2 j = σ.2.2 j := by rw [hS1, pz_new_R hj0] <;> exact rfl
  obtain ⟨S2, hS2⟩ : ∃ z : pzS, z = pz_pR S1 i 2 (σ.1) := ⟨_, rfl⟩
  have nS2 : S2.1 = σ.1 + 1 := by rw [hS2]; exact nS1
  have wS2 : S2.2.2 j = σ.2.2 j := by rw [hS2]; exact (pz_u_off _ _ _ hj).trans wS1
  obtain ⟨S3, hS3⟩ : ∃ z : pzS, z = pz_new S2 (1, 12) := ⟨_, rfl⟩
  have nS3 : S3.1 = σ.1 + 2 := pz_n1 nS2 hS3
  have wS3 : S3.2.2 j = σ.2.2 j := by rw [hS3, pz_new_R (pz_lt0 nS2 hj0)] <;> exact wS2
  obtain ⟨S4, hS4⟩ : ∃ z : pzS, z = pz_pR S3 i 3 (S2.1) := ⟨_, rfl⟩
  have nS4 : S4.1 = σ.1 + 2 := by rw [hS4]; exact nS3
  have wS4 : S4.2.2 j = σ.2.2 j := by rw [hS4]; exact (pz_u_off _ _ _ hj).trans wS3
  obtain ⟨S5, hS5⟩ : ∃ z : pzS, z = pz_new S4 (1, 480) := ⟨_, rfl⟩
  have nS5 : S5.1 = σ.1 + 3 := pz_n1 nS4 hS5
  have wS5 : S5.2.2 j = σ.2.2 j := by rw [hS5, pz_new_R (pz_lt0 nS4 hj0)] <;> exact wS4
  obtain ⟨S6, hS6⟩ : ∃ z : pzS, z = pz_pR S5 i 4 (S4.1) := ⟨_, rfl⟩
  have nS6 : S6.1 = σ.1 + 3 := by rw [hS6]; exact nS5
  have wS6 : S6.2.2 j = σ.2.2 j := by rw [hS6]; exact (pz_u_off _ _ _ hj).trans wS5
  obtain ⟨S7, hS7⟩ : ∃ z : pzS, z = pz_new S6 (1, 480) := ⟨_, rfl⟩
  have nS7 : S7.1 = σ.1 + 4 := pz_n1 nS6 hS7
  have wS7 : S7.2.2 j = σ.2.2 j := by rw [hS7, pz_new_R (pz_lt0 nS6 hj0)] <;> exact wS6
  obtain ⟨S8, hS8⟩ : ∃ z : pzS, z = pz_pR S7 i 5 (S6.1) := ⟨_, rfl⟩
  have nS8 : S8.1 = σ.1 + 4 := by rw [hS8]; exact nS7
  have wS8 : S8.2.2 j = σ.2.2 j := by rw [hS8]; exact (pz_u_off _ _ _ hj).trans wS7
  obtain ⟨S9, hS9⟩ : ∃ z : pzS, z = pz_new S8 (1, 480) := ⟨_, rfl⟩
  have nS9 : S9.1 = σ.1 + 5 := pz_n1 nS8 hS9
  have wS9 : S9.2.2 j = σ.2.2 j := by rw [hS9, pz_new_R (pz_lt0 nS8 hj0)] <;> exact wS8
  obtain ⟨S10, hS10⟩ : ∃ z : pzS, z = pz_pR S9 i 6 (S8.1) := ⟨_, rfl⟩
  have nS10 : S10.1 = σ.1 + 5 := by rw [hS10]; exact nS9
  have wS10 : S10.2.2 j = σ.2.2 j := by rw [hS10]; exact (pz_u_off _ _ _ hj).trans wS9
  obtain ⟨S11, hS11⟩ : ∃ z : pzS, z = pz_new S10 (1, 8) := ⟨_, rfl⟩
  have nS11 : S11.1 = σ.1 + 6 := pz_n1 nS10 hS11
  have wS11 : S11.2.2 j = σ.2.2 j := by rw [hS11, pz_new_R (pz_lt0 nS10 hj0)] <;> exact wS10
  obtain ⟨S12, hS12⟩ : ∃ z : pzS, z = pz_pR S11 i 8 (S10.1) := ⟨_, rfl⟩
  have nS12 : S12.1 = σ.1 + 6 := by rw [hS12]; exact nS11
  have wS12 : S12.2.2 j = σ.2.2 j := by rw [hS12]; exact (pz_u_off _ _ _ hj).trans wS11
  obtain ⟨S13, hS13⟩ : ∃ z : pzS, z = pz_new S12 (1, 96) := ⟨_, rfl⟩
  have nS13 : S13.1 = σ.1 + 7 := pz_n1 nS12 hS13
  have wS13 : S13.2.2 j = σ.2.2 j := by rw [hS13, pz_new_R (pz_lt0 nS12 hj0)] <;> exact wS12
  obtain ⟨S14, hS14⟩ : ∃ z : pzS, z = pz_pR S13 i 9 (S12.1) := ⟨_, rfl⟩
  have nS14 : S14.1 = σ.1 + 7 := by rw [hS14]; exact nS13
  have wS14 : S14.2.2 j = σ.2.2 j := by rw [hS14]; exact (pz_u_off _ _ _ hj).trans wS13
  obtain ⟨S15, hS15⟩ : ∃ z : pzS, z = pz_new S14 (1, 40) := ⟨_, rfl⟩
  have nS15 : S15.1 = σ.1 + 8 := pz_n1 nS14 hS15
  have wS15 : S15.2.2 j = σ.2.2 j := by rw [hS15, pz_new_R (pz_lt0 nS14 hj0)] <;> exact wS14
  obtain ⟨S16, hS16⟩ : ∃ z : pzS, z = pz_pR S15 i 11 (S14.1) := ⟨_, rfl⟩
  have nS16 : S16.1 = σ.1 + 8 := by rw [hS16]; exact nS15
  have wS16 : S16.2.2 j = σ.2.2 j := by rw [hS16]; exact (pz_u_off _ _ _ hj).trans wS15
  obtain ⟨S17, hS17⟩ : ∃ z : pzS, z = pz_new S16 (3, 40) := ⟨_, rfl⟩
  have nS17 : S17.1 = σ.1 + 9 := pz_n1 nS16 hS17
  have wS17 : S17.2.2 j = σ.2.2 j := by rw [hS17, pz_new_R (pz_lt0 nS16 hj0)] <;> exact wS16
  obtain ⟨S18, hS18⟩ : ∃ z : pzS, z = pz_pR S17 i 12 (S16.1) := ⟨_, rfl⟩
  have nS18 : S18.1 = σ.1 + 9 := by rw [hS18]; exact nS17
  have wS18 : S18.2.2 j = σ.2.2 j := by rw [hS18]; exact (pz_u_off _ _ _ hj).trans wS17
  obtain ⟨S19, hS19⟩ : ∃ z : pzS, z = pz_new S18 (1, 12) := ⟨_, rfl⟩
  have nS19 : S19.1 = σ.1 + 10 := pz_n1 nS18 hS19
  have wS19 : S19.2.2 j = σ.2.2 j := by rw [hS19, pz_new_R (pz_lt0 nS18 hj0)] <;> exact wS18
  obtain ⟨S20, hS20⟩ : ∃ z : pzS, z = pz_pR S19 i 14 (S18.1) := ⟨_, rfl⟩
  have nS20 : S20.1 = σ.1 + 10 := by rw [hS20]; exact nS19
  have wS20 : S20.2.2 j = σ.2.2 j := by rw [hS20]; exact (pz_u_off _ _ _ hj).trans wS19
  obtain ⟨S21, hS21⟩ : ∃ z : pzS, z = pz_new S20 (1, 12) := ⟨_, rfl⟩
  have nS21 : S21.1 = σ.1 + 11 := pz_n1 nS20 hS21
  have wS21 : S21.2.2 j = σ.2.2 j := by rw [hS21, pz_new_R (pz_lt0 nS20 hj0)] <;> exact wS20
  obtain ⟨S22, hS22⟩ : ∃ z : pzS, z = pz_pR S21 i 15 (S20.1) := ⟨_, rfl⟩
  have nS22 : S22.1 = σ.1 + 11 := by rw [hS22]; exact nS21
  have wS22 : S22.2.2 j = σ.2.2 j := by rw [hS22]; exact (pz_u_off _ _ _ hj).trans wS21
  obtain ⟨S23, hS23⟩ : ∃ z : pzS, z = pz_new S22 (1, 12) := ⟨_, rfl⟩
  have nS23 : S23.1 = σ.1 + 12 := pz_n1 nS22 hS23
  have wS23 : S23.2.2 j = σ.2.2 j := by rw [hS23, pz_new_R (pz_lt0 nS22 hj0)] <;> exact wS22
  obtain ⟨S24, hS24⟩ : ∃ z : pzS, z = pz_pR S23 i 16 (S22.1) := ⟨_, rfl⟩
  have nS24 : S24.1 = σ.1 + 12 := by rw [hS24]; exact nS23
  have wS24 : S24.2.2 j = σ.2.2 j := by rw [hS24]; exact (pz_u_off _ _ _ hj).trans wS23
  obtain ⟨S25, hS25⟩ : ∃ z : pzS, z = pz_new S24 (1, 18000) := ⟨_, rfl⟩
  have nS25 : S25.1 = σ.1 + 13 := pz_n1 nS24 hS25
  have wS25 : S25.2.2 j = σ.2.2 j := by rw [hS25, pz_new_R (pz_lt0 nS24 hj0)] <;> exact wS24
  obtain ⟨S26, hS26⟩ : ∃ z : pzS, z = pz_pR S25 i 17 (S24.1) := ⟨_, rfl⟩
  have nS26 : S26.1 = σ.1 + 13 := by rw [hS26]; exact nS25
  have wS26 : S26.2.2 j = σ.2.2 j := by rw [hS26]; exact (pz_u_off _ _ _ hj).trans wS25
  obtain ⟨S27, hS27⟩ : ∃ z : pzS, z = pz_new S26 (1, 18000) := ⟨_, rfl⟩
  have nS27 : S27.1 = σ.1 + 14 := pz_n1 nS26 hS27
  have wS27 : S27.2.2 j = σ.2.2 j := by rw [hS27, pz_new_R (pz_lt0 nS26 hj0)] <;> exact wS26
  obtain ⟨S28, hS28⟩ : ∃ z : pzS, z = pz_pR S27 i 18 (S26.1) := ⟨_, rfl⟩
  have nS28 : S28.1 = σ.1 + 14 := by rw [hS28]; exact nS27
  have wS28 : S28.2.2 j = σ.2.2 j := by rw [hS28]; exact (pz_u_off _ _ _ hj).trans wS27
  obtain ⟨S29, hS29⟩ : ∃ z : pzS, z = pz_new S28 (1, 18000) := ⟨_, rfl⟩
  have nS29 : S29.1 = σ.1 + 15 := pz_n1 nS28 hS29
  have wS29 : S29.2.2 j = σ.2.2 j := by rw [hS29, pz_new_R (pz_lt0 nS28 hj0)] <;> exact wS28
  obtain ⟨S30, hS30⟩ : ∃ z : pzS, z = pz_pR S29 i 19 (S28.1) := ⟨_, rfl⟩
  have nS30 : S30.1 = σ.1 + 15 := by rw [hS30]; exact nS29
  have wS30 : S30.2.2 j = σ.2.2 j := by rw [hS30]; exact (pz_u_off _ _ _ hj).trans wS29
  obtain ⟨S31, hS31⟩ : ∃ z : pzS, z = pz_new S30 (1, 40) := ⟨_, rfl⟩
  have nS31 : S31.1 = σ.1 + 16 := pz_n1 nS30 hS31
  have wS31 : S31.2.2 j = σ.2.2 j := by rw [hS31, pz_new_R (pz_lt0 nS30 hj0)] <;> exact wS30
  obtain ⟨S32, hS32⟩ : ∃ z : pzS, z = pz_pR S31 i 20 (S30.1) := ⟨_, rfl⟩
  have nS32 : S32.1 = σ.1 + 16 := by rw [hS32]; exact nS31
  have wS32 : S32.2.2 j = σ.2.2 j := by rw [hS32]; exact (pz_u_off _ _ _ hj).trans wS31
  obtain ⟨S33, hS33⟩ : ∃ z : pzS, z = pz_new S32 (1, 480) := ⟨_, rfl⟩
  have nS33 : S33.1 = σ.1 + 17 := pz_n1 nS32 hS33
  have wS33 : S33.2.2 j = σ.2.2 j := by rw [hS33, pz_new_R (pz_lt0 nS32 hj0)] <;> exact wS32
  obtain ⟨S34, hS34⟩ : ∃ z : pzS, z = pz_pR S33 i 22 (S32.1) := ⟨_, rfl⟩
  have nS34 : S34.1 = σ.1 + 17 := by rw [hS34]; exact nS33
  have wS34 : S34.2.2 j = σ.2.2 j := by rw [hS34]; exact (pz_u_off _ _ _ hj).trans wS33
  obtain ⟨S35, hS35⟩ : ∃ z : pzS, z = pz_new S34 (1, 480) := ⟨_, rfl⟩
  have nS35 : S35.1 = σ.1 + 18 := pz_n1 nS34 hS35
  have wS35 : S35.2.2 j = σ.2.2 j := by rw [hS35, pz_new_R (pz_lt0 nS34 hj0)] <;> exact wS34
  obtain ⟨S36, hS36⟩ : ∃ z : pzS, z = pz_pR S35 i 23 (S34.1) := ⟨_, rfl⟩
  have nS36 : S36.1 = σ.1 + 18 := by rw [hS36]; exact nS35
  have wS36 : S36.2.2 j = σ.2.2 j := by rw [hS36]; exact (pz_u_off _ _ _ hj).trans wS35
  obtain ⟨S37, hS37⟩ : ∃ z : pzS, z = pz_new S36 (1, 96) := ⟨_, rfl⟩
  have nS37 : S37.1 = σ.1 + 19 := pz_n1 nS36 hS37
  have wS37 : S37.2.2 j = σ.2.2 j := by rw [hS37, pz_new_R (pz_lt0 nS36 hj0)] <;> exact wS36
  obtain ⟨S38, hS38⟩ : ∃ z : pzS, z = pz_pR S37 i 25 (S36.1) := ⟨_, rfl⟩
  have nS38 : S38.1 = σ.1 + 19 := by rw [hS38]; exact nS37
  have wS38 : S38.2.2 j = σ.2.2 j := by rw [hS38]; exact (pz_u_off _ _ _ hj).trans wS37
  obtain ⟨S39, hS39⟩ : ∃ z : pzS, z = pz_new S38 (1, 8) := ⟨_, rfl⟩
  have nS39 : S39.1 = σ.1 + 20 := pz_n1 nS38 hS39
  have wS39 : S39.2.2 j = σ.2.2 j := by rw [hS39, pz_new_R (pz_lt0 nS38 hj0)] <;> exact wS38
  obtain ⟨S40, hS40⟩ : ∃ z : pzS, z = pz_pR S39 i 26 (S38.1) := ⟨_, rfl⟩
  have nS40 : S40.1 = σ.1 + 20 := by rw [hS40]; exact nS39
  have wS40 : S40.2.2 j = σ.2.2 j := by rw [hS40]; exact (pz_u_off _ _ _ hj).trans wS39
  obtain ⟨S41, hS41⟩ : ∃ z : pzS, z = pz_new S40 (1, 200) := ⟨_, rfl⟩
  have nS41 : S41.1 = σ.1 + 21 := pz_n1 nS40 hS41
  have wS41 : S41.2.2 j = σ.2.2 j := by rw [hS41, pz_new_R (pz_lt0 nS40 hj0)] <;> exact wS40
  obtain ⟨S42, hS42⟩ : ∃ z : pzS, z = pz_pR S41 i 32 (S40.1) := ⟨_, rfl⟩
  have nS42 : S42.1 = σ.1 + 21 := by rw [hS42]; exact nS41
  have wS42 : S42.2.2 j = σ.2.2 j := by rw [hS42]; exact (pz_u_off _ _ _ hj).trans wS41
  obtain ⟨S43, hS43⟩ : ∃ z : pzS, z = pz_new S42 (1, 500) := ⟨_, rfl⟩
  have nS43 : S43.1 = σ.1 + 22 := pz_n1 nS42 hS43
  have wS43 : S43.2.2 j = σ.2.2 j := by rw [hS43, pz_new_R (pz_lt0 nS42 hj0)] <;> exact wS42
  obtain ⟨S44, hS44⟩ : ∃ z : pzS, z = pz_pR S43 i 34 (S42.1) := ⟨_, rfl⟩
  have nS44 : S44.1 = σ.1 + 22 := by rw [hS44]; exact nS43
  have wS44 : S44.2.2 j = σ.2.2 j := by rw [hS44]; exact (pz_u_off _ _ _ hj).trans wS43
  obtain ⟨S45, hS45⟩ : ∃ z : pzS, z = pz_new S44 (1, 500) := ⟨_, rfl⟩
  have nS45 : S45.1 = σ.1 + 23 := pz_n1 nS44 hS45
  have wS45 : S45.2.2 j = σ.2.2 j := by rw [hS45, pz_new_R (pz_lt0 nS44 hj0)] <;> exact wS44
  obtain ⟨S46, hS46⟩ : ∃ z : pzS, z = pz_pR S45 i 35 (S44.1) := ⟨_, rfl⟩
  have nS46 : S46.1 = σ.1 + 23 := by rw [hS46]; exact nS45
  have wS46 : S46.2.2 j = σ.2.2 j := by rw [hS46]; exact (pz_u_off _ _ _ hj).trans wS45
  obtain ⟨S47, hS47⟩ : ∃ z : pzS, z = pz_new S46 (1, 32) := ⟨_, rfl⟩
  have nS47 : S47.1 = σ.1 + 24 := pz_n1 nS46 hS47
  have wS47 : S47.2.2 j = σ.2.2 j := by rw [hS47, pz_new_R (pz_lt0 nS46 hj0)] <;> exact wS46
  obtain ⟨S48, hS48⟩ : ∃ z : pzS, z = pz_pR S47 i 37 (S46.1) := ⟨_, rfl⟩
  have nS48 : S48.1 = σ.1 + 24 := by rw [hS48]; exact nS47
  have wS48 : S48.2.2 j = σ.2.2 j := by rw [hS48]; exact (pz_u_off _ _ _ hj).trans wS47
  obtain ⟨S49, hS49⟩ : ∃ z : pzS, z = pz_new S48 (1, 32) := ⟨_, rfl⟩
  have nS49 : S49.1 = σ.1 + 25 := pz_n1 nS48 hS49
  have wS49 : S49.2.2 j = σ.2.2 j := by rw [hS49, pz_new_R (pz_lt0 nS48 hj0)] <;> exact wS48
  obtain ⟨S50, hS50⟩ : ∃ z : pzS, z = pz_pR S49 i 38 (S48.1) := ⟨_, rfl⟩
  have nS50 : S50.1 = σ.1 + 25 := by rw [hS50]; exact nS49
  have wS50 : S50.2.2 j = σ.2.2 j := by rw [hS50]; exact (pz_u_off _ _ _ hj).trans wS49
  obtain ⟨S51, hS51⟩ : ∃ z : pzS, z = pz_new S50 (1, 32) := ⟨_, rfl⟩
  have nS51 : S51.1 = σ.1 + 26 := pz_n1 nS50 hS51
  have wS51 : S51.2.2 j = σ.2.2 j := by rw [hS51, pz_new_R (pz_lt0 nS50 hj0)] <;> exact wS50
  obtain ⟨S52, hS52⟩ : ∃ z : pzS, z = pz_pR S51 i 39 (S50.1) := ⟨_, rfl⟩
  have nS52 : S52.1 = σ.1 + 26 := by rw [hS52]; exact nS51
  have wS52 : S52.2.2 j = σ.2.2 j := by rw [hS52]; exact (pz_u_off _ _ _ hj).trans wS51
  obtain ⟨S53, hS53⟩ : ∃ z : pzS, z = pz_new S52 (1, 256) := ⟨_, rfl⟩
  have nS53 : S53.1 = σ.1 + 27 := pz_n1 nS52 hS53
  have wS53 : S53.2.2 j = σ.2.2 j := by rw [hS53, pz_new_R (pz_lt0 nS52 hj0)] <;> exact wS52
  obtain ⟨S54, hS54⟩ : ∃ z : pzS, z = pz_pR S53 i 40 (S52.1) := ⟨_, rfl⟩
  have nS54 : S54.1 = σ.1 + 27 := by rw [hS54]; exact nS53
  have wS54 : S54.2.2 j = σ.2.2 j := by rw [hS54]; exact (pz_u_off _ _ _ hj).trans wS53
  obtain ⟨S55, hS55⟩ : ∃ z : pzS, z = pz_new S54 (1, 256) := ⟨_, rfl⟩
  have nS55 : S55.1 = σ.1 + 28 := pz_n1 nS54 hS55
  have wS55 : S55.2.2 j = σ.2.2 j := by rw [hS55, pz_new_R (pz_lt0 nS54 hj0)] <;> exact wS54
  obtain ⟨S56, hS56⟩ : ∃ z : pzS, z = pz_pR S55 i 41 (S54.1) := ⟨_, rfl⟩
  have nS56 : S56.1 = σ.1 + 28 := by rw [hS56]; exact nS55
  have wS56 : S56.2.2 j = σ.2.2 j := by rw [hS56]; exact (pz_u_off _ _ _ hj).trans wS55
  obtain ⟨S57, hS57⟩ : ∃ z : pzS, z = pz_new S56 (1, 6) := ⟨_, rfl⟩
  have nS57 : S57.1 = σ.1 + 29 := pz_n1 nS56 hS57
  have wS57 : S57.2.2 j = σ.2.2 j := by rw [hS57, pz_new_R (pz_lt0 nS56 hj0)] <;> exact wS56
  obtain ⟨S58, hS58⟩ : ∃ z : pzS, z = pz_pR S57 i 42 (S56.1) := ⟨_, rfl⟩
  have nS58 : S58.1 = σ.1 + 29 := by rw [hS58]; exact nS57
  have wS58 : S58.2.2 j = σ.2.2 j := by rw [hS58]; exact (pz_u_off _ _ _ hj).trans wS57
  obtain ⟨S59, hS59⟩ : ∃ z : pzS, z = pz_new S58 (1, 6) := ⟨_, rfl⟩
  have nS59 : S59.1 = σ.1 + 30 := pz_n1 nS58 hS59
  have wS59 : S59.2.2 j = σ.2.2 j := by rw [hS59, pz_new_R (pz_lt0 nS58 hj0)] <;> exact wS58
  obtain ⟨S60, hS60⟩ : ∃ z : pzS, z = pz_pR S59 i 43 (S58.1) := ⟨_, rfl⟩
  have nS60 : S60.1 = σ.1 + 30 := by rw [hS60]; exact nS59
  have wS60 : S60.2.2 j = σ.2.2 j := by rw [hS60]; exact (pz_u_off _ _ _ hj).trans wS59
  obtain ⟨S61, hS61⟩ : ∃ z : pzS, z = pz_new S60 (1, 401) := ⟨_, rfl⟩
  have nS61 : S61.1 = σ.1 + 31 := pz_n1 nS60 hS61
  have wS61 : S61.2.2 j = σ.2.2 j := by rw [hS61, pz_new_R (pz_lt0 nS60 hj0)] <;> exact wS60
  obtain ⟨S62, hS62⟩ : ∃ z : pzS, z = pz_pR S61 i 45 (S60.1) := ⟨_, rfl⟩
  have nS62 : S62.1 = σ.1 + 31 := by rw [hS62]; exact nS61
  have wS62 : S62.2.2 j = σ.2.2 j := by rw [hS62]; exact (pz_u_off _ _ _ hj).trans wS61
  obtain ⟨S63, hS63⟩ : ∃ z : pzS, z = pz_new S62 (1, 80200) := ⟨_, rfl⟩
  have nS63 : S63.1 = σ.1 + 32 := pz_n1 nS62 hS63
  have wS63 : S63.2.2 j = σ.2.2 j := by rw [hS63, pz_new_R (pz_lt0 nS62 hj0)] <;> exact wS62
  obtain ⟨S64, hS64⟩ : ∃ z : pzS, z = pz_pR S63 i 46 (S62.1) := ⟨_, rfl⟩
  have nS64 : S64.1 = σ.1 + 32 := by rw [hS64]; exact nS63
  have wS64 : S64.2.2 j = σ.2.2 j := by rw [hS64]; exact (pz_u_off _ _ _ hj).trans wS63
  obtain ⟨S65, hS65⟩ : ∃ z : pzS, z = pz_new S64 (1, 401) := ⟨_, rfl⟩
  have nS65 : S65.1 = σ.1 + 33 := pz_n1 nS64 hS65
  have wS65 : S65.2.2 j = σ.2.2 j := by rw [hS65, pz_new_R (pz_lt0 nS64 hj0)] <;> exact wS64
  obtain ⟨S66, hS66⟩ : ∃ z : pzS, z = pz_pR S65 i 48 (S64.1) := ⟨_, rfl⟩
  have nS66 : S66.1 = σ.1 + 33 := by rw [hS66]; exact nS65
  have wS66 : S66.2.2 j = σ.2.2 j := by rw [hS66]; exact (pz_u_off _ _ _ hj).trans wS65
  obtain ⟨S67, hS67⟩ : ∃ z : pzS, z = pz_new S66 (1, 401) := ⟨_, rfl⟩
  have nS67 : S67.1 = σ.1 + 34 := pz_n1 nS66 hS67
  have wS67 : S67.2.2 j = σ.2.2 j := by rw [hS67, pz_new_R (pz_lt0 nS66 hj0)] <;> exact wS66
  obtain ⟨S68, hS68⟩ : ∃ z : pzS, z = pz_pR S67 i 49 (S66.1) := ⟨_, rfl⟩
  have nS68 : S68.1 = σ.1 + 34 := by rw [hS68]; exact nS67
  have wS68 : S68.2.2 j = σ.2.2 j := by rw [hS68]; exact (pz_u_off _ _ _ hj).trans wS67
  obtain ⟨S69, hS69⟩ : ∃ z : pzS, z = pz_new S68 (1, 1203) := ⟨_, rfl⟩
  have nS69 : S69.1 = σ.1 + 35 := pz_n1 nS68 hS69
  have wS69 : S69.2.2 j = σ.2.2 j := by rw [hS69, pz_new_R (pz_lt0 nS68 hj0)] <;> exact wS68
  obtain ⟨S70, hS70⟩ : ∃ z : pzS, z = pz_pR S69 i 50 (S68.1) := ⟨_, rfl⟩
  have nS70 : S70.1 = σ.1 + 35 := by rw [hS70]; exact nS69
  have wS70 : S70.2.2 j = σ.2.2 j := by rw [hS70]; exact (pz_u_off _ _ _ hj).trans wS69
  obtain ⟨S71, hS71⟩ : ∃ z : pzS, z = pz_new S70 (1, 1203) := ⟨_, rfl⟩
  have nS71 : S71.1 = σ.1 + 36 := pz_n1 nS70 hS71
  have wS71 : S71.2.2 j = σ.2.2 j := by rw [hS71, pz_new_R (pz_lt0 nS70 hj0)] <;> exact wS70
  obtain ⟨S72, hS72⟩ : ∃ z : pzS, z = pz_pR S71 i 51 (S70.1) := ⟨_, rfl⟩
  have nS72 : S72.1 = σ.1 + 36 := by rw [hS72]; exact nS71
  have wS72 : S72.2.2 j = σ.2.2 j := by rw [hS72]; exact (pz_u_off _ _ _ hj).trans wS71
  obtain ⟨S73, hS73⟩ : ∃ z : pzS, z = pz_new S72 (1, 2500) := ⟨_, rfl⟩
  have nS73 : S73.1 = σ.1 + 37 := pz_n1 nS72 hS73
  have wS73 : S73.2.2 j = σ.2.2 j := by rw [hS73, pz_new_R (pz_lt0 nS72 hj0)] <;> exact wS72
  obtain ⟨S74, hS74⟩ : ∃ z : pzS, z = pz_pR S73 i 53 (S72.1) := ⟨_, rfl⟩
  have nS74 : S74.1 = σ.1 + 37 := by rw [hS74]; exact nS73
  have wS74 : S74.2.2 j = σ.2.2 j := by rw [hS74]; exact (pz_u_off _ _ _ hj).trans wS73
  have e9 : kX11 σ i = S74 := by rw [hS74, hS73, hS72, hS71, hS70, hS69, hS68, hS67, hS66, hS65, hS64, hS63, hS62, hS61, hS60, hS59, hS58, hS57, hS56, hS55, hS54, hS53, hS52, hS51, hS50, hS49, hS48, hS47, hS46, hS45, hS44, hS43, hS42, hS41, hS40, hS39, hS38, hS37, hS36, hS35, hS34, hS33, hS32, hS31, hS30, hS29, hS28, hS27, hS26, hS25, hS24, hS23, hS22, hS21, hS20, hS19, hS18, hS17, hS16, hS15, hS14, hS13, hS12, hS11, hS10, hS9, hS8, hS7, hS6, hS5, hS4, hS3, hS2, hS1]; rfl
  rw [e9]; exact wS74
set_option maxHeartbeats 4000000 in
set_option maxRecDepth 100000 in
theorem c_X11_init (l : Launch) (D : va_G) (cy : Nat → ClassId) {σ : pzS} {i : Nat} (wf : pz_wf σ) (hi : i < σ.1) (hK : (σ.2.1 i).1 = 14) : pz_Met l yX11_init cX11_init 1 none 1 12 37 144917 D cy σ pz_z [.ref i] (fun r σ' M' => r = none ∧ σ' = kX11 σ i ∧ M' = pz_z) := by
  refine pz_ofW (by decide) (Nat.le_of_ble_eq_true rfl) (fun p e s m args below meth c ad A C hr hnm => ?_)
  refine pz_aload_n C 0 dX11_init_0 rfl ?_
  refine pz_objInit C ml_X11_1 im_objectInit wco dX11_init_1 (by decide) (Nat.le_of_ble_eq_true rfl) ?_
  refine pz_aload_n C 0 dX11_init_4 rfl ?_
  refine pz_bipush C (v := 12) dX11_init_5 (by decide) ?_
  refine pz_newarr C (t := 1) (N' := 12) dX11_init_7 rfl arr_int (Or.inr (Or.inl rfl)) (by decide) (by decide) (Nat.le_of_ble_eq_true rfl) wf (Nat.le_refl _) (And.intro hi (True.intro)) (And.intro hi (True.intro)) (Nat.le_of_ble_eq_true rfl) (Nat.le_of_ble_eq_true rfl) ?_
  rw [pz_nz]
  refine pz_nmS (fun S1 hS1 => ?_)
  have nS1 : S1.1 = σ.1 + 1 := pz_n1 (Nat.add_zero σ.1).symm hS1
  have wfS1 : pz_wf S1 := by rw [hS1]; exact pz_wf_new wf
  have KS1 : (S1.2.1 i).1 = 14 := by rw [hS1, pz_new_K hi]; exact hK
  refine pz_putRF C (ci := 10) (k := 2) (ty := .array .int) gwX11 rfl (Nat.le_of_ble_eq_true rfl) fl_X11_7 (pz_lt0 nS1 hi) KS1 tyX11_ok nmX11 rfl rfl hnm rfl (by decide +kernel) (fun _ => rfl) (fun _ => rfl) dX11_init_9 ?_
  refine pz_nmS (fun S2 hS2 => ?_)
  have hS2 : S2 = pz_pR S1 i 2 (σ.1) := hS2
  have nS2 : S2.1 = σ.1 + 1 := by rw [hS2]; exact nS1
  have wfS2 : pz_wf S2 := by rw [hS2]; exact pz_wf_put wfS1 (pz_lt2 nS1 (Nat.add_zero σ.1).symm rfl)
  have KS2 : (S2.2.1 i).1 = 14 := by rw [hS2]; exact KS1
  refine pz_aload_n C 0 dX11_init_12 rfl ?_
  refine pz_bipush C (v := 12) dX11_init_13 (by decide) ?_
  refine pz_newarr C (t := 1) (N' := 12) dX11_init_15 rfl arr_int (Or.inr (Or.inl rfl)) (by decide) (by decide) (Nat.le_of_ble_eq_true rfl) wfS2 (pz_le0 nS2) (And.intro (pz_lt0 nS2 hi) (True.intro)) (And.intro (pz_lt0 nS2 hi) (True.intro)) (Nat.le_of_ble_eq_true rfl) (Nat.le_of_ble_eq_true rfl) ?_
  rw [pz_nz]
  refine pz_nmS (fun S3 hS3 => ?_)
  have nS3 : S3.1 = σ.1 + 2 := pz_n1 nS2 hS3
  have wfS3 : pz_wf S3 := by rw [hS3]; exact pz_wf_new wfS2
  have KS3 : (S3.2.1 i).1 = 14 := by rw [hS3, pz_new_K (pz_lt0 nS2 hi)]; exact KS2
  refine pz_putRF C (ci := 10) (k := 3) (ty := .array .int) gwX11 rfl (Nat.le_of_ble_eq_true rfl) fl_X11_13 (pz_lt0 nS3 hi) KS3 tyX11_ok nmX11 rfl rfl hnm rfl (by decide +kernel) (fun _ => rfl) (fun _ => rfl) dX11_init_17 ?_
  refine pz_nmS (fun S4 hS4 => ?_)
  have hS4 : S4 = pz_pR S3 i 3 (S2.1) := hS4
  have nS4 : S4.1 = σ.1 + 2 := by rw [hS4]; exact nS3
  have wfS4 : pz_wf S4 := by rw [hS4]; exact pz_wf_put wfS3 (pz_lt2 nS3 nS2 rfl)
  have KS4 : (S4.2.1 i).1 = 14 := by rw [hS4]; exact KS3
  refine pz_aload_n C 0 dX11_init_20 rfl ?_
  refine pz_sipush C (v := 480) dX11_init_21 (by decide) ?_
  refine pz_newarr C (t := 1) (N' := 480) dX11_init_24 rfl arr_int (Or.inr (Or.inl rfl)) (by decide) (by decide) (Nat.le_of_ble_eq_true rfl) wfS4 (pz_le0 nS4) (And.intro (pz_lt0 nS4 hi) (True.intro)) (And.intro (pz_lt0 nS4 hi) (True.intro)) (Nat.le_of_ble_eq_true rfl) (Nat.le_of_ble_eq_true rfl) ?_
  rw [pz_nz]
  refine pz_nmS (fun S5 hS5 => ?_)
  have nS5 : S5.1 = σ.1 + 3 := pz_n1 nS4 hS5
  have wfS5 : pz_wf S5 := by rw [hS5]; exact pz_wf_new wfS4
  have KS5 : (S5.2.1 i).1 = 14 := by rw [hS5, pz_new_K (pz_lt0 nS4 hi)]; exact KS4
  refine pz_putRF C (ci := 10) (k := 4) (ty := .array .int) gwX11 rfl (Nat.le_of_ble_eq_true rfl) fl_X11_16 (pz_lt0 nS5 hi) KS5 tyX11_ok nmX11 rfl rfl hnm rfl (by decide +kernel) (fun _ => rfl) (fun _ => rfl) dX11_init_26 ?_
  refine pz_nmS (fun S6 hS6 => ?_)
  have hS6 : S6 = pz_pR S5 i 4 (S4.1) := hS6
  have nS6 : S6.1 = σ.1 + 3 := by rw [hS6]; exact nS5
  have wfS6 : pz_wf S6 := by rw [hS6]; exact pz_wf_put wfS5 (pz_lt2 nS5 nS4 rfl)
  have KS6 : (S6.2.1 i).1 = 14 := by rw [hS6]; exact KS5
  refine pz_aload_n C 0 dX11_init_29 rfl ?_
  refine pz_sipush C (v := 480) dX11_init_30 (by decide) ?_
  refine pz_newarr C (t := 1) (N' := 480) dX11_init_33 rfl arr_int (Or.inr (Or.inl rfl)) (by decide) (by decide) (Nat.le_of_ble_eq_true rfl) wfS6 (pz_le0 nS6) (And.intro (pz_lt0 nS6 hi) (True.intro)) (And.intro (pz_lt0 nS6 hi) (True.intro)) (Nat.le_of_ble_eq_true rfl) (Nat.le_of_ble_eq_true rfl) ?_
  rw [pz_nz]
  refine pz_nmS (fun S7 hS7 => ?_)
  have nS7 : S7.1 = σ.1 + 4 := pz_n1 nS6 hS7
  have wfS7 : pz_wf S7 := by rw [hS7]; exact pz_wf_new wfS6
  have KS7 : (S7.2.1 i).1 = 14 := by rw [hS7, pz_new_K (pz_lt0 nS6 hi)]; exact KS6
  refine pz_putRF C (ci := 10) (k := 5) (ty := .array .int) gwX11 rfl (Nat.le_of_ble_eq_true rfl) fl_X11_19 (pz_lt0 nS7 hi) KS7 tyX11_ok nmX11 rfl rfl hnm rfl (by decide +kernel) (fun _ => rfl) (fun _ => rfl) dX11_init_35 ?_
  refine pz_nmS (fun S8 hS8 => ?_)
  have hS8 : S8 = pz_pR S7 i 5 (S6.1) := hS8
  have nS8 : S8.1 = σ.1 + 4 := by rw [hS8]; exact nS7
  have wfS8 : pz_wf S8 := by rw [hS8]; exact pz_wf_put wfS7 (pz_lt2 nS7 nS6 rfl)
  have KS8 : (S8.2.1 i).1 = 14 := by rw [hS8]; exact KS7
  refine pz_aload_n C 0 dX11_init_38 rfl ?_
  refine pz_sipush C (v := 480) dX11_init_39 (by decide) ?_
  refine pz_newarr C (t := 1) (N' := 480) dX11_init_42 rfl arr_int (Or.inr (Or.inl rfl)) (by decide) (by decide) (Nat.le_of_ble_eq_true rfl) wfS8 (pz_le0 nS8) (And.intro (pz_lt0 nS8 hi) (True.intro)) (And.intro (pz_lt0 nS8 hi) (True.intro)) (Nat.le_of_ble_eq_true rfl) (Nat.le_of_ble_eq_true rfl) ?_
  rw [pz_nz]
  refine pz_nmS (fun S9 hS9 => ?_)
  have nS9 : S9.1 = σ.1 + 5 := pz_n1 nS8 hS9
  have wfS9 : pz_wf S9 := by rw [hS9]; exact pz_wf_new wfS8
  have KS9 : (S9.2.1 i).1 = 14 := by rw [hS9, pz_new_K (pz_lt0 nS8 hi)]; exact KS8
  refine pz_putRF C (ci := 10) (k := 6) (ty := .array .int) gwX11 rfl (Nat.le_of_ble_eq_true rfl) fl_X11_22 (pz_lt0 nS9 hi) KS9 tyX11_ok nmX11 rfl rfl hnm rfl (by decide +kernel) (fun _ => rfl) (fun _ => rfl) dX11_init_44 ?_
  refine pz_nmS (fun S10 hS10 => ?_)
  have hS10 : S10 = pz_pR S9 i 6 (S8.1) := hS10
  have nS10 : S10.1 = σ.1 + 5 := by rw [hS10]; exact nS9
  have wfS10 : pz_wf S10 := by rw [hS10]; exact pz_wf_put wfS9 (pz_lt2 nS9 nS8 rfl)
  have KS10 : (S10.2.1 i).1 = 14 := by rw [hS10]; exact KS9
  refine pz_aload_n C 0 dX11_init_47 rfl ?_
  refine pz_bipush C (v := 8) dX11_init_48 (by decide) ?_
  refine pz_newarr C (t := 1) (N' := 8) dX11_init_50 rfl arr_int (Or.inr (Or.inl rfl)) (by decide) (by decide) (Nat.le_of_ble_eq_true rfl) wfS10 (pz_le0 nS10) (And.intro (pz_lt0 nS10 hi) (True.intro)) (And.intro (pz_lt0 nS10 hi) (True.intro)) (Nat.le_of_ble_eq_true rfl) (Nat.le_of_ble_eq_true rfl) ?_
  rw [pz_nz]
  refine pz_nmS (fun S11 hS11 => ?_)
  have nS11 : S11.1 = σ.1 + 6 := pz_n1 nS10 hS11
  have wfS11 : pz_wf S11 := by rw [hS11]; exact pz_wf_new wfS10
  have KS11 : (S11.2.1 i).1 = 14 := by rw [hS11, pz_new_K (pz_lt0 nS10 hi)]; exact KS10
  refine pz_putRF C (ci := 10) (k := 8) (ty := .array .int) gwX11 rfl (Nat.le_of_ble_eq_true rfl) fl_X11_25 (pz_lt0 nS11 hi) KS11 tyX11_ok nmX11 rfl rfl hnm rfl (by decide +kernel) (fun _ => rfl) (fun _ => rfl) dX11_init_52 ?_
  refine pz_nmS (fun S12 hS12 => ?_)
  have hS12 : S12 = pz_pR S11 i 8 (S10.1) := hS12
  have nS12 : S12.1 = σ.1 + 6 := by rw [hS12]; exact nS11
  have wfS12 : pz_wf S12 := by rw [hS12]; exact pz_wf_put wfS11 (pz_lt2 nS11 nS10 rfl)
  have KS12 : (S12.2.1 i).1 = 14 := by rw [hS12]; exact KS11
  refine pz_aload_n C 0 dX11_init_55 rfl ?_
  refine pz_bipush C (v := 96) dX11_init_56 (by decide) ?_
  refine pz_newarr C (t := 1) (N' := 96) dX11_init_58 rfl arr_int (Or.inr (Or.inl rfl)) (by decide) (by decide) (Nat.le_of_ble_eq_true rfl) wfS12 (pz_le0 nS12) (And.intro (pz_lt0 nS12 hi) (True.intro)) (And.intro (pz_lt0 nS12 hi) (True.intro)) (Nat.le_of_ble_eq_true rfl) (Nat.le_of_ble_eq_true rfl) ?_
  rw [pz_nz]
  refine pz_nmS (fun S13 hS13 => ?_)
  have nS13 : S13.1 = σ.1 + 7 := pz_n1 nS12 hS13
  have wfS13 : pz_wf S13 := by rw [hS13]; exact pz_wf_new wfS12
  have KS13 : (S13.2.1 i).1 = 14 := by rw [hS13, pz_new_K (pz_lt0 nS12 hi)]; exact KS12
  refine pz_putRF C (ci := 10) (k := 9) (ty := .array .int) gwX11 rfl (Nat.le_of_ble_eq_true rfl) fl_X11_28 (pz_lt0 nS13 hi) KS13 tyX11_ok nmX11 rfl rfl hnm rfl (by decide +kernel) (fun _ => rfl) (fun _ => rfl) dX11_init_60 ?_
  refine pz_nmS (fun S14 hS14 => ?_)
  have hS14 : S14 = pz_pR S13 i 9 (S12.1) := hS14
  have nS14 : S14.1 = σ.1 + 7 := by rw [hS14]; exact nS13
  have wfS14 : pz_wf S14 := by rw [hS14]; exact pz_wf_put wfS13 (pz_lt2 nS13 nS12 rfl)
  have KS14 : (S14.2.1 i).1 = 14 := by rw [hS14]; exact KS13
  refine pz_aload_n C 0 dX11_init_63 rfl ?_
  refine pz_bipush C (v := 40) dX11_init_64 (by decide) ?_
  refine pz_newarr C (t := 1) (N' := 40) dX11_init_66 rfl arr_int (Or.inr (Or.inl rfl)) (by decide) (by decide) (Nat.le_of_ble_eq_true rfl) wfS14 (pz_le0 nS14) (And.intro (pz_lt0 nS14 hi) (True.intro)) (And.intro (pz_lt0 nS14 hi) (True.intro)) (Nat.le_of_ble_eq_true rfl) (Nat.le_of_ble_eq_true rfl) ?_
  rw [pz_nz]
  refine pz_nmS (fun S15 hS15 => ?_)
  have nS15 : S15.1 = σ.1 + 8 := pz_n1 nS14 hS15
  have wfS15 : pz_wf S15 := by rw [hS15]; exact pz_wf_new wfS14
  have KS15 : (S15.2.1 i).1 = 14 := by rw [hS15, pz_new_K (pz_lt0 nS14 hi)]; exact KS14
  refine pz_putRF C (ci := 10) (k := 11) (ty := .array .int) gwX11 rfl (Nat.le_of_ble_eq_true rfl) fl_X11_31 (pz_lt0 nS15 hi) KS15 tyX11_ok nmX11 rfl rfl hnm rfl (by decide +kernel) (fun _ => rfl) (fun _ => rfl) dX11_init_68 ?_
  refine pz_nmS (fun S16 hS16 => ?_)
  have hS16 : S16 = pz_pR S15 i 11 (S14.1) := hS16
  have nS16 : S16.1 = σ.1 + 8 := by rw [hS16]; exact nS15
  have wfS16 : pz_wf S16 := by rw [hS16]; exact pz_wf_put wfS15 (pz_lt2 nS15 nS14 rfl)
  have KS16 : (S16.2.1 i).1 = 14 := by rw [hS16]; exact KS15
  refine pz_aload_n C 0 dX11_init_71 rfl ?_
  refine pz_bipush C (v := 40) dX11_init_72 (by decide) ?_
  refine pz_newarr C (t := 3) (N' := 40) dX11_init_74 rfl arr_boolean (Or.inr (Or.inr (Or.inr rfl))) (by decide) (by decide) (Nat.le_of_ble_eq_true rfl) wfS16 (pz_le0 nS16) (And.intro (pz_lt0 nS16 hi) (True.intro)) (And.intro (pz_lt0 nS16 hi) (True.intro)) (Nat.le_of_ble_eq_true rfl) (Nat.le_of_ble_eq_true rfl) ?_
  rw [pz_nz]
  refine pz_nmS (fun S17 hS17 => ?_)
  have nS17 : S17.1 = σ.1 + 9 := pz_n1 nS16 hS17
  have wfS17 : pz_wf S17 := by rw [hS17]; exact pz_wf_new wfS16
  have KS17 : (S17.2.1 i).1 = 14 := by rw [hS17, pz_new_K (pz_lt0 nS16 hi)]; exact KS16
  refine pz_putRF C (ci := 10) (k := 12) (ty := .array .boolean) gwX11 rfl (Nat.le_of_ble_eq_true rfl) fl_X11_34 (pz_lt0 nS17 hi) KS17 tyX11_ok nmX11 rfl rfl hnm rfl (by decide +kernel) (fun _ => rfl) (fun _ => rfl) dX11_init_76 ?_
  refine pz_nmS (fun S18 hS18 => ?_)
  have hS18 : S18 = pz_pR S17 i 12 (S16.1) := hS18
  have nS18 : S18.1 = σ.1 + 9 := by rw [hS18]; exact nS17
  have wfS18 : pz_wf S18 := by rw [hS18]; exact pz_wf_put wfS17 (pz_lt2 nS17 nS16 rfl)
  have KS18 : (S18.2.1 i).1 = 14 := by rw [hS18]; exact KS17
  refine pz_aload_n C 0 dX11_init_79 rfl ?_
  refine pz_bipush C (v := 12) dX11_init_80 (by decide) ?_
  refine pz_newarr C (t := 1) (N' := 12) dX11_init_82 rfl arr_int (Or.inr (Or.inl rfl)) (by decide) (by decide) (Nat.le_of_ble_eq_true rfl) wfS18 (pz_le0 nS18) (And.intro (pz_lt0 nS18 hi) (True.intro)) (And.intro (pz_lt0 nS18 hi) (True.intro)) (Nat.le_of_ble_eq_true rfl) (Nat.le_of_ble_eq_true rfl) ?_
  rw [pz_nz]
  refine pz_nmS (fun S19 hS19 => ?_)
  have nS19 : S19.1 = σ.1 + 10 := pz_n1 nS18 hS19
  have wfS19 : pz_wf S19 := by rw [hS19]; exact pz_wf_new wfS18
  have KS19 : (S19.2.1 i).1 = 14 := by rw [hS19, pz_new_K (pz_lt0 nS18 hi)]; exact KS18
  refine pz_putRF C (ci := 10) (k := 14) (ty := .array .int) gwX11 rfl (Nat.le_of_ble_eq_true rfl) fl_X11_38 (pz_lt0 nS19 hi) KS19 tyX11_ok nmX11 rfl rfl hnm rfl (by decide +kernel) (fun _ => rfl) (fun _ => rfl) dX11_init_84 ?_
  refine pz_nmS (fun S20 hS20 => ?_)
  have hS20 : S20 = pz_pR S19 i 14 (S18.1) := hS20
  have nS20 : S20.1 = σ.1 + 10 := by rw [hS20]; exact nS19
  have wfS20 : pz_wf S20 := by rw [hS20]; exact pz_wf_put wfS19 (pz_lt2 nS19 nS18 rfl)
  have KS20 : (S20.2.1 i).1 = 14 := by rw [hS20]; exact KS19
  refine pz_aload_n C 0 dX11_init_87 rfl ?_
  refine pz_bipush C (v := 12) dX11_init_88 (by decide) ?_
  refine pz_newarr C (t := 1) (N' := 12) dX11_init_90 rfl arr_int (Or.inr (Or.inl rfl)) (by decide) (by decide) (Nat.le_of_ble_eq_true rfl) wfS20 (pz_le0 nS20) (And.intro (pz_lt0 nS20 hi) (True.intro)) (And.intro (pz_lt0 nS20 hi) (True.intro)) (Nat.le_of_ble_eq_true rfl) (Nat.le_of_ble_eq_true rfl) ?_
  rw [pz_nz]
  refine pz_nmS (fun S21 hS21 => ?_)
  have nS21 : S21.1 = σ.1 + 11 := pz_n1 nS20 hS21
  have wfS21 : pz_wf S21 := by rw [hS21]; exact pz_wf_new wfS20
  have KS21 : (S21.2.1 i).1 = 14 := by rw [hS21, pz_new_K (pz_lt0 nS20 hi)]; exact KS20
  refine pz_putRF C (ci := 10) (k := 15) (ty := .array .int) gwX11 rfl (Nat.le_of_ble_eq_true rfl) fl_X11_41 (pz_lt0 nS21 hi) KS21 tyX11_ok nmX11 rfl rfl hnm rfl (by decide +kernel) (fun _ => rfl) (fun _ => rfl) dX11_init_92 ?_
  refine pz_nmS (fun S22 hS22 => ?_)
  have hS22 : S22 = pz_pR S21 i 15 (S20.1) := hS22
  have nS22 : S22.1 = σ.1 + 11 := by rw [hS22]; exact nS21
  have wfS22 : pz_wf S22 := by rw [hS22]; exact pz_wf_put wfS21 (pz_lt2 nS21 nS20 rfl)
  have KS22 : (S22.2.1 i).1 = 14 := by rw [hS22]; exact KS21
  refine pz_aload_n C 0 dX11_init_95 rfl ?_
  refine pz_bipush C (v := 12) dX11_init_96 (by decide) ?_
  refine pz_newarr C (t := 1) (N' := 12) dX11_init_98 rfl arr_int (Or.inr (Or.inl rfl)) (by decide) (by decide) (Nat.le_of_ble_eq_true rfl) wfS22 (pz_le0 nS22) (And.intro (pz_lt0 nS22 hi) (True.intro)) (And.intro (pz_lt0 nS22 hi) (True.intro)) (Nat.le_of_ble_eq_true rfl) (Nat.le_of_ble_eq_true rfl) ?_
  rw [pz_nz]
  refine pz_nmS (fun S23 hS23 => ?_)
  have nS23 : S23.1 = σ.1 + 12 := pz_n1 nS22 hS23
  have wfS23 : pz_wf S23 := by rw [hS23]; exact pz_wf_new wfS22
  have KS23 : (S23.2.1 i).1 = 14 := by rw [hS23, pz_new_K (pz_lt0 nS22 hi)]; exact KS22
  refine pz_putRF C (ci := 10) (k := 16) (ty := .array .int) gwX11 rfl (Nat.le_of_ble_eq_true rfl) fl_X11_44 (pz_lt0 nS23 hi) KS23 tyX11_ok nmX11 rfl rfl hnm rfl (by decide +kernel) (fun _ => rfl) (fun _ => rfl) dX11_init_100 ?_
  refine pz_nmS (fun S24 hS24 => ?_)
  have hS24 : S24 = pz_pR S23 i 16 (S22.1) := hS24
  have nS24 : S24.1 = σ.1 + 12 := by rw [hS24]; exact nS23
  have wfS24 : pz_wf S24 := by rw [hS24]; exact pz_wf_put wfS23 (pz_lt2 nS23 nS22 rfl)
  have KS24 : (S24.2.1 i).1 = 14 := by rw [hS24]; exact KS23
  refine pz_aload_n C 0 dX11_init_103 rfl ?_
  refine pz_sipush C (v := 18000) dX11_init_104 (by decide) ?_
  refine pz_newarr C (t := 1) (N' := 18000) dX11_init_107 rfl arr_int (Or.inr (Or.inl rfl)) (by decide) (by decide) (Nat.le_of_ble_eq_true rfl) wfS24 (pz_le0 nS24) (And.intro (pz_lt0 nS24 hi) (True.intro)) (And.intro (pz_lt0 nS24 hi) (True.intro)) (Nat.le_of_ble_eq_true rfl) (Nat.le_of_ble_eq_true rfl) ?_
  rw [pz_nz]
  refine pz_nmS (fun S25 hS25 => ?_)
  have nS25 : S25.1 = σ.1 + 13 := pz_n1 nS24 hS25
  have wfS25 : pz_wf S25 := by rw [hS25]; exact pz_wf_new wfS24
  have KS25 : (S25.2.1 i).1 = 14 := by rw [hS25, pz_new_K (pz_lt0 nS24 hi)]; exact KS24
  refine pz_putRF C (ci := 10) (k := 17) (ty := .array .int) gwX11 rfl (Nat.le_of_ble_eq_true rfl) fl_X11_47 (pz_lt0 nS25 hi) KS25 tyX11_ok nmX11 rfl rfl hnm rfl (by decide +kernel) (fun _ => rfl) (fun _ => rfl) dX11_init_109 ?_
  refine pz_nmS (fun S26 hS26 => ?_)
  have hS26 : S26 = pz_pR S25 i 17 (S24.1) := hS26
  have nS26 : S26.1 = σ.1 + 13 := by rw [hS26]; exact nS25
  have wfS26 : pz_wf S26 := by rw [hS26]; exact pz_wf_put wfS25 (pz_lt2 nS25 nS24 rfl)
  have KS26 : (S26.2.1 i).1 = 14 := by rw [hS26]; exact KS25
  refine pz_aload_n C 0 dX11_init_112 rfl ?_
  refine pz_sipush C (v := 18000) dX11_init_113 (by decide) ?_
  refine pz_newarr C (t := 1) (N' := 18000) dX11_init_116 rfl arr_int (Or.inr (Or.inl rfl)) (by decide) (by decide) (Nat.le_of_ble_eq_true rfl) wfS26 (pz_le0 nS26) (And.intro (pz_lt0 nS26 hi) (True.intro)) (And.intro (pz_lt0 nS26 hi) (True.intro)) (Nat.le_of_ble_eq_true rfl) (Nat.le_of_ble_eq_true rfl) ?_
  rw [pz_nz]
  refine pz_nmS (fun S27 hS27 => ?_)
  have nS27 : S27.1 = σ.1 + 14 := pz_n1 nS26 hS27
  have wfS27 : pz_wf S27 := by rw [hS27]; exact pz_wf_new wfS26
  have KS27 : (S27.2.1 i).1 = 14 := by rw [hS27, pz_new_K (pz_lt0 nS26 hi)]; exact KS26
  refine pz_putRF C (ci := 10) (k := 18) (ty := .array .int) gwX11 rfl (Nat.le_of_ble_eq_true rfl) fl_X11_50 (pz_lt0 nS27 hi) KS27 tyX11_ok nmX11 rfl rfl hnm rfl (by decide +kernel) (fun _ => rfl) (fun _ => rfl) dX11_init_118 ?_
  refine pz_nmS (fun S28 hS28 => ?_)
  have hS28 : S28 = pz_pR S27 i 18 (S26.1) := hS28
  have nS28 : S28.1 = σ.1 + 14 := by rw [hS28]; exact nS27
  have wfS28 : pz_wf S28 := by rw [hS28]; exact pz_wf_put wfS27 (pz_lt2 nS27 nS26 rfl)
  have KS28 : (S28.2.1 i).1 = 14 := by rw [hS28]; exact KS27
  refine pz_aload_n C 0 dX11_init_121 rfl ?_
  refine pz_sipush C (v := 18000) dX11_init_122 (by decide) ?_
  refine pz_newarr C (t := 1) (N' := 18000) dX11_init_125 rfl arr_int (Or.inr (Or.inl rfl)) (by decide) (by decide) (Nat.le_of_ble_eq_true rfl) wfS28 (pz_le0 nS28) (And.intro (pz_lt0 nS28 hi) (True.intro)) (And.intro (pz_lt0 nS28 hi) (True.intro)) (Nat.le_of_ble_eq_true rfl) (Nat.le_of_ble_eq_true rfl) ?_
  rw [pz_nz]
  refine pz_nmS (fun S29 hS29 => ?_)
  have nS29 : S29.1 = σ.1 + 15 := pz_n1 nS28 hS29
  have wfS29 : pz_wf S29 := by rw [hS29]; exact pz_wf_new wfS28
  have KS29 : (S29.2.1 i).1 = 14 := by rw [hS29, pz_new_K (pz_lt0 nS28 hi)]; exact KS28
  refine pz_putRF C (ci := 10) (k := 19) (ty := .array .int) gwX11 rfl (Nat.le_of_ble_eq_true rfl) fl_X11_53 (pz_lt0 nS29 hi) KS29 tyX11_ok nmX11 rfl rfl hnm rfl (by decide +kernel) (fun _ => rfl) (fun _ => rfl) dX11_init_127 ?_
  refine pz_nmS (fun S30 hS30 => ?_)
  have hS30 : S30 = pz_pR S29 i 19 (S28.1) := hS30
  have nS30 : S30.1 = σ.1 + 15 := by rw [hS30]; exact nS29
  have wfS30 : pz_wf S30 := by rw [hS30]; exact pz_wf_put wfS29 (pz_lt2 nS29 nS28 rfl)
  have KS30 : (S30.2.1 i).1 = 14 := by rw [hS30]; exact KS29
  refine pz_aload_n C 0 dX11_init_130 rfl ?_
  refine pz_bipush C (v := 40) dX11_init_131 (by decide) ?_
  refine pz_newarr C (t := 1) (N' := 40) dX11_init_133 rfl arr_int (Or.inr (Or.inl rfl)) (by decide) (by decide) (Nat.le_of_ble_eq_true rfl) wfS30 (pz_le0 nS30) (And.intro (pz_lt0 nS30 hi) (True.intro)) (And.intro (pz_lt0 nS30 hi) (True.intro)) (Nat.le_of_ble_eq_true rfl) (Nat.le_of_ble_eq_true rfl) ?_
  rw [pz_nz]
  refine pz_nmS (fun S31 hS31 => ?_)
  have nS31 : S31.1 = σ.1 + 16 := pz_n1 nS30 hS31
  have wfS31 : pz_wf S31 := by rw [hS31]; exact pz_wf_new wfS30
  have KS31 : (S31.2.1 i).1 = 14 := by rw [hS31, pz_new_K (pz_lt0 nS30 hi)]; exact KS30
  refine pz_putRF C (ci := 10) (k := 20) (ty := .array .int) gwX11 rfl (Nat.le_of_ble_eq_true rfl) fl_X11_56 (pz_lt0 nS31 hi) KS31 tyX11_ok nmX11 rfl rfl hnm rfl (by decide +kernel) (fun _ => rfl) (fun _ => rfl) dX11_init_135 ?_
  refine pz_nmS (fun S32 hS32 => ?_)
  have hS32 : S32 = pz_pR S31 i 20 (S30.1) := hS32
  have nS32 : S32.1 = σ.1 + 16 := by rw [hS32]; exact nS31
  have wfS32 : pz_wf S32 := by rw [hS32]; exact pz_wf_put wfS31 (pz_lt2 nS31 nS30 rfl)
  have KS32 : (S32.2.1 i).1 = 14 := by rw [hS32]; exact KS31
  refine pz_aload_n C 0 dX11_init_138 rfl ?_
  refine pz_sipush C (v := 480) dX11_init_139 (by decide) ?_
  refine pz_newarr C (t := 1) (N' := 480) dX11_init_142 rfl arr_int (Or.inr (Or.inl rfl)) (by decide) (by decide) (Nat.le_of_ble_eq_true rfl) wfS32 (pz_le0 nS32) (And.intro (pz_lt0 nS32 hi) (True.intro)) (And.intro (pz_lt0 nS32 hi) (True.intro)) (Nat.le_of_ble_eq_true rfl) (Nat.le_of_ble_eq_true rfl) ?_
  rw [pz_nz]
  refine pz_nmS (fun S33 hS33 => ?_)
  have nS33 : S33.1 = σ.1 + 17 := pz_n1 nS32 hS33
  have wfS33 : pz_wf S33 := by rw [hS33]; exact pz_wf_new wfS32
  have KS33 : (S33.2.1 i).1 = 14 := by rw [hS33, pz_new_K (pz_lt0 nS32 hi)]; exact KS32
  refine pz_putRF C (ci := 10) (k := 22) (ty := .array .int) gwX11 rfl (Nat.le_of_ble_eq_true rfl) fl_X11_59 (pz_lt0 nS33 hi) KS33 tyX11_ok nmX11 rfl rfl hnm rfl (by decide +kernel) (fun _ => rfl) (fun _ => rfl) dX11_init_144 ?_
  refine pz_nmS (fun S34 hS34 => ?_)
  have hS34 : S34 = pz_pR S33 i 22 (S32.1) := hS34
  have nS34 : S34.1 = σ.1 + 17 := by rw [hS34]; exact nS33
  have wfS34 : pz_wf S34 := by rw [hS34]; exact pz_wf_put wfS33 (pz_lt2 nS33 nS32 rfl)
  have KS34 : (S34.2.1 i).1 = 14 := by rw [hS34]; exact KS33
  refine pz_aload_n C 0 dX11_init_147 rfl ?_
  refine pz_sipush C (v := 480) dX11_init_148 (by decide) ?_
  refine pz_newarr C (t := 1) (N' := 480) dX11_init_151 rfl arr_int (Or.inr (Or.inl rfl)) (by decide) (by decide) (Nat.le_of_ble_eq_true rfl) wfS34 (pz_le0 nS34) (And.intro (pz_lt0 nS34 hi) (True.intro)) (And.intro (pz_lt0 nS34 hi) (True.intro)) (Nat.le_of_ble_eq_true rfl) (Nat.le_of_ble_eq_true rfl) ?_
  rw [pz_nz]
  refine pz_nmS (fun S35 hS35 => ?_)
  have nS35 : S35.1 = σ.1 + 18 := pz_n1 nS34 hS35
  have wfS35 : pz_wf S35 := by rw [hS35]; exact pz_wf_new wfS34
  have KS35 : (S35.2.1 i).1 = 14 := by rw [hS35, pz_new_K (pz_lt0 nS34 hi)]; exact KS34
  refine pz_putRF C (ci := 10) (k := 23) (ty := .array .int) gwX11 rfl (Nat.le_of_ble_eq_true rfl) fl_X11_62 (pz_lt0 nS35 hi) KS35 tyX11_ok nmX11 rfl rfl hnm rfl (by decide +kernel) (fun _ => rfl) (fun _ => rfl) dX11_init_153 ?_
  refine pz_nmS (fun S36 hS36 => ?_)
  have hS36 : S36 = pz_pR S35 i 23 (S34.1) := hS36
  have nS36 : S36.1 = σ.1 + 18 := by rw [hS36]; exact nS35
  have wfS36 : pz_wf S36 := by rw [hS36]; exact pz_wf_put wfS35 (pz_lt2 nS35 nS34 rfl)
  have KS36 : (S36.2.1 i).1 = 14 := by rw [hS36]; exact KS35
  refine pz_aload_n C 0 dX11_init_156 rfl ?_
  refine pz_bipush C (v := 96) dX11_init_157 (by decide) ?_
  refine pz_newarr C (t := 1) (N' := 96) dX11_init_159 rfl arr_int (Or.inr (Or.inl rfl)) (by decide) (by decide) (Nat.le_of_ble_eq_true rfl) wfS36 (pz_le0 nS36) (And.intro (pz_lt0 nS36 hi) (True.intro)) (And.intro (pz_lt0 nS36 hi) (True.intro)) (Nat.le_of_ble_eq_true rfl) (Nat.le_of_ble_eq_true rfl) ?_
  rw [pz_nz]
  refine pz_nmS (fun S37 hS37 => ?_)
  have nS37 : S37.1 = σ.1 + 19 := pz_n1 nS36 hS37
  have wfS37 : pz_wf S37 := by rw [hS37]; exact pz_wf_new wfS36
  have KS37 : (S37.2.1 i).1 = 14 := by rw [hS37, pz_new_K (pz_lt0 nS36 hi)]; exact KS36
  refine pz_putRF C (ci := 10) (k := 25) (ty := .array .int) gwX11 rfl (Nat.le_of_ble_eq_true rfl) fl_X11_65 (pz_lt0 nS37 hi) KS37 tyX11_ok nmX11 rfl rfl hnm rfl (by decide +kernel) (fun _ => rfl) (fun _ => rfl) dX11_init_161 ?_
  refine pz_nmS (fun S38 hS38 => ?_)
  have hS38 : S38 = pz_pR S37 i 25 (S36.1) := hS38
  have nS38 : S38.1 = σ.1 + 19 := by rw [hS38]; exact nS37
  have wfS38 : pz_wf S38 := by rw [hS38]; exact pz_wf_put wfS37 (pz_lt2 nS37 nS36 rfl)
  have KS38 : (S38.2.1 i).1 = 14 := by rw [hS38]; exact KS37
  refine pz_aload_n C 0 dX11_init_164 rfl ?_
  refine pz_bipush C (v := 8) dX11_init_165 (by decide) ?_
  refine pz_newarr C (t := 1) (N' := 8) dX11_init_167 rfl arr_int (Or.inr (Or.inl rfl)) (by decide) (by decide) (Nat.le_of_ble_eq_true rfl) wfS38 (pz_le0 nS38) (And.intro (pz_lt0 nS38 hi) (True.intro)) (And.intro (pz_lt0 nS38 hi) (True.intro)) (Nat.le_of_ble_eq_true rfl) (Nat.le_of_ble_eq_true rfl) ?_
  rw [pz_nz]
  refine pz_nmS (fun S39 hS39 => ?_)
  have nS39 : S39.1 = σ.1 + 20 := pz_n1 nS38 hS39
  have wfS39 : pz_wf S39 := by rw [hS39]; exact pz_wf_new wfS38
  have KS39 : (S39.2.1 i).1 = 14 := by rw [hS39, pz_new_K (pz_lt0 nS38 hi)]; exact KS38
  refine pz_putRF C (ci := 10) (k := 26) (ty := .array .int) gwX11 rfl (Nat.le_of_ble_eq_true rfl) fl_X11_68 (pz_lt0 nS39 hi) KS39 tyX11_ok nmX11 rfl rfl hnm rfl (by decide +kernel) (fun _ => rfl) (fun _ => rfl) dX11_init_169 ?_
  refine pz_nmS (fun S40 hS40 => ?_)
  have hS40 : S40 = pz_pR S39 i 26 (S38.1) := hS40
  have nS40 : S40.1 = σ.1 + 20 := by rw [hS40]; exact nS39
  have wfS40 : pz_wf S40 := by rw [hS40]; exact pz_wf_put wfS39 (pz_lt2 nS39 nS38 rfl)
  have KS40 : (S40.2.1 i).1 = 14 := by rw [hS40]; exact KS39
  refine pz_aload_n C 0 dX11_init_172 rfl ?_
  refine pz_sipush C (v := 200) dX11_init_173 (by decide) ?_
  refine pz_newarr C (t := 1) (N' := 200) dX11_init_176 rfl arr_int (Or.inr (Or.inl rfl)) (by decide) (by decide) (Nat.le_of_ble_eq_true rfl) wfS40 (pz_le0 nS40) (And.intro (pz_lt0 nS40 hi) (True.intro)) (And.intro (pz_lt0 nS40 hi) (True.intro)) (Nat.le_of_ble_eq_true rfl) (Nat.le_of_ble_eq_true rfl) ?_
  rw [pz_nz]
  refine pz_nmS (fun S41 hS41 => ?_)
  have nS41 : S41.1 = σ.1 + 21 := pz_n1 nS40 hS41
  have wfS41 : pz_wf S41 := by rw [hS41]; exact pz_wf_new wfS40
  have KS41 : (S41.2.1 i).1 = 14 := by rw [hS41, pz_new_K (pz_lt0 nS40 hi)]; exact KS40
  refine pz_putRF C (ci := 10) (k := 32) (ty := .array .int) gwX11 rfl (Nat.le_of_ble_eq_true rfl) fl_X11_71 (pz_lt0 nS41 hi) KS41 tyX11_ok nmX11 rfl rfl hnm rfl (by decide +kernel) (fun _ => rfl) (fun _ => rfl) dX11_init_178 ?_
  refine pz_nmS (fun S42 hS42 => ?_)
  have hS42 : S42 = pz_pR S41 i 32 (S40.1) := hS42
  have nS42 : S42.1 = σ.1 + 21 := by rw [hS42]; exact nS41
  have wfS42 : pz_wf S42 := by rw [hS42]; exact pz_wf_put wfS41 (pz_lt2 nS41 nS40 rfl)
  have KS42 : (S42.2.1 i).1 = 14 := by rw [hS42]; exact KS41
  refine pz_aload_n C 0 dX11_init_181 rfl ?_
  refine pz_sipush C (v := 500) dX11_init_182 (by decide) ?_
  refine pz_newarr C (t := 1) (N' := 500) dX11_init_185 rfl arr_int (Or.inr (Or.inl rfl)) (by decide) (by decide) (Nat.le_of_ble_eq_true rfl) wfS42 (pz_le0 nS42) (And.intro (pz_lt0 nS42 hi) (True.intro)) (And.intro (pz_lt0 nS42 hi) (True.intro)) (Nat.le_of_ble_eq_true rfl) (Nat.le_of_ble_eq_true rfl) ?_
  rw [pz_nz]
  refine pz_nmS (fun S43 hS43 => ?_)
  have nS43 : S43.1 = σ.1 + 22 := pz_n1 nS42 hS43
  have wfS43 : pz_wf S43 := by rw [hS43]; exact pz_wf_new wfS42
  have KS43 : (S43.2.1 i).1 = 14 := by rw [hS43, pz_new_K (pz_lt0 nS42 hi)]; exact KS42
  refine pz_putRF C (ci := 10) (k := 34) (ty := .array .int) gwX11 rfl (Nat.le_of_ble_eq_true rfl) fl_X11_74 (pz_lt0 nS43 hi) KS43 tyX11_ok nmX11 rfl rfl hnm rfl (by decide +kernel) (fun _ => rfl) (fun _ => rfl) dX11_init_187 ?_
  refine pz_nmS (fun S44 hS44 => ?_)
  have hS44 : S44 = pz_pR S43 i 34 (S42.1) := hS44
  have nS44 : S44.1 = σ.1 + 22 := by rw [hS44]; exact nS43
  have wfS44 : pz_wf S44 := by rw [hS44]; exact pz_wf_put wfS43 (pz_lt2 nS43 nS42 rfl)
  have KS44 : (S44.2.1 i).1 = 14 := by rw [hS44]; exact KS43
  refine pz_aload_n C 0 dX11_init_190 rfl ?_
  refine pz_sipush C (v := 500) dX11_init_191 (by decide) ?_
  refine pz_newarr C (t := 1) (N' := 500) dX11_init_194 rfl arr_int (Or.inr (Or.inl rfl)) (by decide) (by decide) (Nat.le_of_ble_eq_true rfl) wfS44 (pz_le0 nS44) (And.intro (pz_lt0 nS44 hi) (True.intro)) (And.intro (pz_lt0 nS44 hi) (True.intro)) (Nat.le_of_ble_eq_true rfl) (Nat.le_of_ble_eq_true rfl) ?_
  rw [pz_nz]
  refine pz_nmS (fun S45 hS45 => ?_)
  have nS45 : S45.1 = σ.1 + 23 := pz_n1 nS44 hS45
  have wfS45 : pz_wf S45 := by rw [hS45]; exact pz_wf_new wfS44
  have KS45 : (S45.2.1 i).1 = 14 := by rw [hS45, pz_new_K (pz_lt0 nS44 hi)]; exact KS44
  refine pz_putRF C (ci := 10) (k := 35) (ty := .array .int) gwX11 rfl (Nat.le_of_ble_eq_true rfl) fl_X11_77 (pz_lt0 nS45 hi) KS45 tyX11_ok nmX11 rfl rfl hnm rfl (by decide +kernel) (fun _ => rfl) (fun _ => rfl) dX11_init_196 ?_
  refine pz_nmS (fun S46 hS46 => ?_)
  have hS46 : S46 = pz_pR S45 i 35 (S44.1) := hS46
  have nS46 : S46.1 = σ.1 + 23 := by rw [hS46]; exact nS45
  have wfS46 : pz_wf S46 := by rw [hS46]; exact pz_wf_put wfS45 (pz_lt2 nS45 nS44 rfl)
  have KS46 : (S46.2.1 i).1 = 14 := by rw [hS46]; exact KS45
  refine pz_aload_n C 0 dX11_init_199 rfl ?_
  refine pz_bipush C (v := 32) dX11_init_200 (by decide) ?_
  refine pz_newarr C (t := 1) (N' := 32) dX11_init_202 rfl arr_int (Or.inr (Or.inl rfl)) (by decide) (by decide) (Nat.le_of_ble_eq_true rfl) wfS46 (pz_le0 nS46) (And.intro (pz_lt0 nS46 hi) (True.intro)) (And.intro (pz_lt0 nS46 hi) (True.intro)) (Nat.le_of_ble_eq_true rfl) (Nat.le_of_ble_eq_true rfl) ?_
  rw [pz_nz]
  refine pz_nmS (fun S47 hS47 => ?_)
  have nS47 : S47.1 = σ.1 + 24 := pz_n1 nS46 hS47
  have wfS47 : pz_wf S47 := by rw [hS47]; exact pz_wf_new wfS46
  have KS47 : (S47.2.1 i).1 = 14 := by rw [hS47, pz_new_K (pz_lt0 nS46 hi)]; exact KS46
  refine pz_putRF C (ci := 10) (k := 37) (ty := .array .int) gwX11 rfl (Nat.le_of_ble_eq_true rfl) fl_X11_80 (pz_lt0 nS47 hi) KS47 tyX11_ok nmX11 rfl rfl hnm rfl (by decide +kernel) (fun _ => rfl) (fun _ => rfl) dX11_init_204 ?_
  refine pz_nmS (fun S48 hS48 => ?_)
  have hS48 : S48 = pz_pR S47 i 37 (S46.1) := hS48
  have nS48 : S48.1 = σ.1 + 24 := by rw [hS48]; exact nS47
  have wfS48 : pz_wf S48 := by rw [hS48]; exact pz_wf_put wfS47 (pz_lt2 nS47 nS46 rfl)
  have KS48 : (S48.2.1 i).1 = 14 := by rw [hS48]; exact KS47
  refine pz_aload_n C 0 dX11_init_207 rfl ?_
  refine pz_bipush C (v := 32) dX11_init_208 (by decide) ?_
  refine pz_newarr C (t := 1) (N' := 32) dX11_init_210 rfl arr_int (Or.inr (Or.inl rfl)) (by decide) (by decide) (Nat.le_of_ble_eq_true rfl) wfS48 (pz_le0 nS48) (And.intro (pz_lt0 nS48 hi) (True.intro)) (And.intro (pz_lt0 nS48 hi) (True.intro)) (Nat.le_of_ble_eq_true rfl) (Nat.le_of_ble_eq_true rfl) ?_
  rw [pz_nz]
  refine pz_nmS (fun S49 hS49 => ?_)
  have nS49 : S49.1 = σ.1 + 25 := pz_n1 nS48 hS49
  have wfS49 : pz_wf S49 := by rw [hS49]; exact pz_wf_new wfS48
  have KS49 : (S49.2.1 i).1 = 14 := by rw [hS49, pz_new_K (pz_lt0 nS48 hi)]; exact KS48
  refine pz_putRF C (ci := 10) (k := 38) (ty := .array .int) gwX11 rfl (Nat.le_of_ble_eq_true rfl) fl_X11_83 (pz_lt0 nS49 hi) KS49 tyX11_ok nmX11 rfl rfl hnm rfl (by decide +kernel) (fun _ => rfl) (fun _ => rfl) dX11_init_212 ?_
  refine pz_nmS (fun S50 hS50 => ?_)
  have hS50 : S50 = pz_pR S49 i 38 (S48.1) := hS50
  have nS50 : S50.1 = σ.1 + 25 := by rw [hS50]; exact nS49
  have wfS50 : pz_wf S50 := by rw [hS50]; exact pz_wf_put wfS49 (pz_lt2 nS49 nS48 rfl)
  have KS50 : (S50.2.1 i).1 = 14 := by rw [hS50]; exact KS49
  refine pz_aload_n C 0 dX11_init_215 rfl ?_
  refine pz_bipush C (v := 32) dX11_init_216 (by decide) ?_
  refine pz_newarr C (t := 1) (N' := 32) dX11_init_218 rfl arr_int (Or.inr (Or.inl rfl)) (by decide) (by decide) (Nat.le_of_ble_eq_true rfl) wfS50 (pz_le0 nS50) (And.intro (pz_lt0 nS50 hi) (True.intro)) (And.intro (pz_lt0 nS50 hi) (True.intro)) (Nat.le_of_ble_eq_true rfl) (Nat.le_of_ble_eq_true rfl) ?_
  rw [pz_nz]
  refine pz_nmS (fun S51 hS51 => ?_)
  have nS51 : S51.1 = σ.1 + 26 := pz_n1 nS50 hS51
  have wfS51 : pz_wf S51 := by rw [hS51]; exact pz_wf_new wfS50
  have KS51 : (S51.2.1 i).1 = 14 := by rw [hS51, pz_new_K (pz_lt0 nS50 hi)]; exact KS50
  refine pz_putRF C (ci := 10) (k := 39) (ty := .array .int) gwX11 rfl (Nat.le_of_ble_eq_true rfl) fl_X11_86 (pz_lt0 nS51 hi) KS51 tyX11_ok nmX11 rfl rfl hnm rfl (by decide +kernel) (fun _ => rfl) (fun _ => rfl) dX11_init_220 ?_
  refine pz_nmS (fun S52 hS52 => ?_)
  have hS52 : S52 = pz_pR S51 i 39 (S50.1) := hS52
  have nS52 : S52.1 = σ.1 + 26 := by rw [hS52]; exact nS51
  have wfS52 : pz_wf S52 := by rw [hS52]; exact pz_wf_put wfS51 (pz_lt2 nS51 nS50 rfl)
  have KS52 : (S52.2.1 i).1 = 14 := by rw [hS52]; exact KS51
  refine pz_aload_n C 0 dX11_init_223 rfl ?_
  refine pz_sipush C (v := 256) dX11_init_224 (by decide) ?_
  refine pz_newarr C (t := 1) (N' := 256) dX11_init_227 rfl arr_int (Or.inr (Or.inl rfl)) (by decide) (by decide) (Nat.le_of_ble_eq_true rfl) wfS52 (pz_le0 nS52) (And.intro (pz_lt0 nS52 hi) (True.intro)) (And.intro (pz_lt0 nS52 hi) (True.intro)) (Nat.le_of_ble_eq_true rfl) (Nat.le_of_ble_eq_true rfl) ?_
  rw [pz_nz]
  refine pz_nmS (fun S53 hS53 => ?_)
  have nS53 : S53.1 = σ.1 + 27 := pz_n1 nS52 hS53
  have wfS53 : pz_wf S53 := by rw [hS53]; exact pz_wf_new wfS52
  have KS53 : (S53.2.1 i).1 = 14 := by rw [hS53, pz_new_K (pz_lt0 nS52 hi)]; exact KS52
  refine pz_putRF C (ci := 10) (k := 40) (ty := .array .int) gwX11 rfl (Nat.le_of_ble_eq_true rfl) fl_X11_89 (pz_lt0 nS53 hi) KS53 tyX11_ok nmX11 rfl rfl hnm rfl (by decide +kernel) (fun _ => rfl) (fun _ => rfl) dX11_init_229 ?_
  refine pz_nmS (fun S54 hS54 => ?_)
  have hS54 : S54 = pz_pR S53 i 40 (S52.1) := hS54
  have nS54 : S54.1 = σ.1 + 27 := by rw [hS54]; exact nS53
  have wfS54 : pz_wf S54 := by rw [hS54]; exact pz_wf_put wfS53 (pz_lt2 nS53 nS52 rfl)
  have KS54 : (S54.2.1 i).1 = 14 := by rw [hS54]; exact KS53
  refine pz_aload_n C 0 dX11_init_232 rfl ?_
  refine pz_sipush C (v := 256) dX11_init_233 (by decide) ?_
  refine pz_newarr C (t := 1) (N' := 256) dX11_init_236 rfl arr_int (Or.inr (Or.inl rfl)) (by decide) (by decide) (Nat.le_of_ble_eq_true rfl) wfS54 (pz_le0 nS54) (And.intro (pz_lt0 nS54 hi) (True.intro)) (And.intro (pz_lt0 nS54 hi) (True.intro)) (Nat.le_of_ble_eq_true rfl) (Nat.le_of_ble_eq_true rfl) ?_
  rw [pz_nz]
  refine pz_nmS (fun S55 hS55 => ?_)
  have nS55 : S55.1 = σ.1 + 28 := pz_n1 nS54 hS55
  have wfS55 : pz_wf S55 := by rw [hS55]; exact pz_wf_new wfS54
  have KS55 : (S55.2.1 i).1 = 14 := by rw [hS55, pz_new_K (pz_lt0 nS54 hi)]; exact KS54
  refine pz_putRF C (ci := 10) (k := 41) (ty := .array .int) gwX11 rfl (Nat.le_of_ble_eq_true rfl) fl_X11_92 (pz_lt0 nS55 hi) KS55 tyX11_ok nmX11 rfl rfl hnm rfl (by decide +kernel) (fun _ => rfl) (fun _ => rfl) dX11_init_238 ?_
  refine pz_nmS (fun S56 hS56 => ?_)
  have hS56 : S56 = pz_pR S55 i 41 (S54.1) := hS56
  have nS56 : S56.1 = σ.1 + 28 := by rw [hS56]; exact nS55
  have wfS56 : pz_wf S56 := by rw [hS56]; exact pz_wf_put wfS55 (pz_lt2 nS55 nS54 rfl)
  have KS56 : (S56.2.1 i).1 = 14 := by rw [hS56]; exact KS55
  refine pz_aload_n C 0 dX11_init_241 rfl ?_
  refine pz_bipush C (v := 6) dX11_init_242 (by decide) ?_
  refine pz_newarr C (t := 1) (N' := 6) dX11_init_244 rfl arr_int (Or.inr (Or.inl rfl)) (by decide) (by decide) (Nat.le_of_ble_eq_true rfl) wfS56 (pz_le0 nS56) (And.intro (pz_lt0 nS56 hi) (True.intro)) (And.intro (pz_lt0 nS56 hi) (True.intro)) (Nat.le_of_ble_eq_true rfl) (Nat.le_of_ble_eq_true rfl) ?_
  rw [pz_nz]
  refine pz_nmS (fun S57 hS57 => ?_)
  have nS57 : S57.1 = σ.1 + 29 := pz_n1 nS56 hS57
  have wfS57 : pz_wf S57 := by rw [hS57]; exact pz_wf_new wfS56
  have KS57 : (S57.2.1 i).1 = 14 := by rw [hS57, pz_new_K (pz_lt0 nS56 hi)]; exact KS56
  refine pz_putRF C (ci := 10) (k := 42) (ty := .array .int) gwX11 rfl (Nat.le_of_ble_eq_true rfl) fl_X11_95 (pz_lt0 nS57 hi) KS57 tyX11_ok nmX11 rfl rfl hnm rfl (by decide +kernel) (fun _ => rfl) (fun _ => rfl) dX11_init_246 ?_
  refine pz_nmS (fun S58 hS58 => ?_)
  have hS58 : S58 = pz_pR S57 i 42 (S56.1) := hS58
  have nS58 : S58.1 = σ.1 + 29 := by rw [hS58]; exact nS57
  have wfS58 : pz_wf S58 := by rw [hS58]; exact pz_wf_put wfS57 (pz_lt2 nS57 nS56 rfl)
  have KS58 : (S58.2.1 i).1 = 14 := by rw [hS58]; exact KS57
  refine pz_aload_n C 0 dX11_init_249 rfl ?_
  refine pz_bipush C (v := 6) dX11_init_250 (by decide) ?_
  refine pz_newarr C (t := 1) (N' := 6) dX11_init_252 rfl arr_int (Or.inr (Or.inl rfl)) (by decide) (by decide) (Nat.le_of_ble_eq_true rfl) wfS58 (pz_le0 nS58) (And.intro (pz_lt0 nS58 hi) (True.intro)) (And.intro (pz_lt0 nS58 hi) (True.intro)) (Nat.le_of_ble_eq_true rfl) (Nat.le_of_ble_eq_true rfl) ?_
  rw [pz_nz]
  refine pz_nmS (fun S59 hS59 => ?_)
  have nS59 : S59.1 = σ.1 + 30 := pz_n1 nS58 hS59
  have wfS59 : pz_wf S59 := by rw [hS59]; exact pz_wf_new wfS58
  have KS59 : (S59.2.1 i).1 = 14 := by rw [hS59, pz_new_K (pz_lt0 nS58 hi)]; exact KS58
  refine pz_putRF C (ci := 10) (k := 43) (ty := .array .int) gwX11 rfl (Nat.le_of_ble_eq_true rfl) fl_X11_98 (pz_lt0 nS59 hi) KS59 tyX11_ok nmX11 rfl rfl hnm rfl (by decide +kernel) (fun _ => rfl) (fun _ => rfl) dX11_init_254 ?_
  refine pz_nmS (fun S60 hS60 => ?_)
  have hS60 : S60 = pz_pR S59 i 43 (S58.1) := hS60
  have nS60 : S60.1 = σ.1 + 30 := by rw [hS60]; exact nS59
  have wfS60 : pz_wf S60 := by rw [hS60]; exact pz_wf_put wfS59 (pz_lt2 nS59 nS58 rfl)
  have KS60 : (S60.2.1 i).1 = 14 := by rw [hS60]; exact KS59
  refine pz_aload_n C 0 dX11_init_257 rfl ?_
  refine pz_sipush C (v := 401) dX11_init_258 (by decide) ?_
  refine pz_newarr C (t := 1) (N' := 401) dX11_init_261 rfl arr_int (Or.inr (Or.inl rfl)) (by decide) (by decide) (Nat.le_of_ble_eq_true rfl) wfS60 (pz_le0 nS60) (And.intro (pz_lt0 nS60 hi) (True.intro)) (And.intro (pz_lt0 nS60 hi) (True.intro)) (Nat.le_of_ble_eq_true rfl) (Nat.le_of_ble_eq_true rfl) ?_
  rw [pz_nz]
  refine pz_nmS (fun S61 hS61 => ?_)
  have nS61 : S61.1 = σ.1 + 31 := pz_n1 nS60 hS61
  have wfS61 : pz_wf S61 := by rw [hS61]; exact pz_wf_new wfS60
  have KS61 : (S61.2.1 i).1 = 14 := by rw [hS61, pz_new_K (pz_lt0 nS60 hi)]; exact KS60
  refine pz_putRF C (ci := 10) (k := 45) (ty := .array .int) gwX11 rfl (Nat.le_of_ble_eq_true rfl) fl_X11_101 (pz_lt0 nS61 hi) KS61 tyX11_ok nmX11 rfl rfl hnm rfl (by decide +kernel) (fun _ => rfl) (fun _ => rfl) dX11_init_263 ?_
  refine pz_nmS (fun S62 hS62 => ?_)
  have hS62 : S62 = pz_pR S61 i 45 (S60.1) := hS62
  have nS62 : S62.1 = σ.1 + 31 := by rw [hS62]; exact nS61
  have wfS62 : pz_wf S62 := by rw [hS62]; exact pz_wf_put wfS61 (pz_lt2 nS61 nS60 rfl)
  have KS62 : (S62.2.1 i).1 = 14 := by rw [hS62]; exact KS61
  refine pz_aload_n C 0 dX11_init_266 rfl ?_
  refine pz_ldc C ki_X11_104 dX11_init_267 ?_
  refine pz_newarr C (t := 1) (N' := 80200) dX11_init_269 rfl arr_int (Or.inr (Or.inl rfl)) (by decide) (by decide) (Nat.le_of_ble_eq_true rfl) wfS62 (pz_le0 nS62) (And.intro (pz_lt0 nS62 hi) (True.intro)) (And.intro (pz_lt0 nS62 hi) (True.intro)) (Nat.le_of_ble_eq_true rfl) (Nat.le_of_ble_eq_true rfl) ?_
  rw [pz_nz]
  refine pz_nmS (fun S63 hS63 => ?_)
  have nS63 : S63.1 = σ.1 + 32 := pz_n1 nS62 hS63
  have wfS63 : pz_wf S63 := by rw [hS63]; exact pz_wf_new wfS62
  have KS63 : (S63.2.1 i).1 = 14 := by rw [hS63, pz_new_K (pz_lt0 nS62 hi)]; exact KS62
  refine pz_putRF C (ci := 10) (k := 46) (ty := .array .int) gwX11 rfl (Nat.le_of_ble_eq_true rfl) fl_X11_105 (pz_lt0 nS63 hi) KS63 tyX11_ok nmX11 rfl rfl hnm rfl (by decide +kernel) (fun _ => rfl) (fun _ => rfl) dX11_init_271 ?_
  refine pz_nmS (fun S64 hS64 => ?_)
  have hS64 : S64 = pz_pR S63 i 46 (S62.1) := hS64
  have nS64 : S64.1 = σ.1 + 32 := by rw [hS64]; exact nS63
  have wfS64 : pz_wf S64 := by rw [hS64]; exact pz_wf_put wfS63 (pz_lt2 nS63 nS62 rfl)
  have KS64 : (S64.2.1 i).1 = 14 := by rw [hS64]; exact KS63
  refine pz_aload_n C 0 dX11_init_274 rfl ?_
  refine pz_sipush C (v := 401) dX11_init_275 (by decide) ?_
  refine pz_newarr C (t := 1) (N' := 401) dX11_init_278 rfl arr_int (Or.inr (Or.inl rfl)) (by decide) (by decide) (Nat.le_of_ble_eq_true rfl) wfS64 (pz_le0 nS64) (And.intro (pz_lt0 nS64 hi) (True.intro)) (And.intro (pz_lt0 nS64 hi) (True.intro)) (Nat.le_of_ble_eq_true rfl) (Nat.le_of_ble_eq_true rfl) ?_
  rw [pz_nz]
  refine pz_nmS (fun S65 hS65 => ?_)
  have nS65 : S65.1 = σ.1 + 33 := pz_n1 nS64 hS65
  have wfS65 : pz_wf S65 := by rw [hS65]; exact pz_wf_new wfS64
  have KS65 : (S65.2.1 i).1 = 14 := by rw [hS65, pz_new_K (pz_lt0 nS64 hi)]; exact KS64
  refine pz_putRF C (ci := 10) (k := 48) (ty := .array .int) gwX11 rfl (Nat.le_of_ble_eq_true rfl) fl_X11_108 (pz_lt0 nS65 hi) KS65 tyX11_ok nmX11 rfl rfl hnm rfl (by decide +kernel) (fun _ => rfl) (fun _ => rfl) dX11_init_280 ?_
  refine pz_nmS (fun S66 hS66 => ?_)
  have hS66 : S66 = pz_pR S65 i 48 (S64.1) := hS66
  have nS66 : S66.1 = σ.1 + 33 := by rw [hS66]; exact nS65
  have wfS66 : pz_wf S66 := by rw [hS66]; exact pz_wf_put wfS65 (pz_lt2 nS65 nS64 rfl)
  have KS66 : (S66.2.1 i).1 = 14 := by rw [hS66]; exact KS65
  refine pz_aload_n C 0 dX11_init_283 rfl ?_
  refine pz_sipush C (v := 401) dX11_init_284 (by decide) ?_
  refine pz_newarr C (t := 1) (N' := 401) dX11_init_287 rfl arr_int (Or.inr (Or.inl rfl)) (by decide) (by decide) (Nat.le_of_ble_eq_true rfl) wfS66 (pz_le0 nS66) (And.intro (pz_lt0 nS66 hi) (True.intro)) (And.intro (pz_lt0 nS66 hi) (True.intro)) (Nat.le_of_ble_eq_true rfl) (Nat.le_of_ble_eq_true rfl) ?_
  rw [pz_nz]
  refine pz_nmS (fun S67 hS67 => ?_)
  have nS67 : S67.1 = σ.1 + 34 := pz_n1 nS66 hS67
  have wfS67 : pz_wf S67 := by rw [hS67]; exact pz_wf_new wfS66
  have KS67 : (S67.2.1 i).1 = 14 := by rw [hS67, pz_new_K (pz_lt0 nS66 hi)]; exact KS66
  refine pz_putRF C (ci := 10) (k := 49) (ty := .array .int) gwX11 rfl (Nat.le_of_ble_eq_true rfl) fl_X11_111 (pz_lt0 nS67 hi) KS67 tyX11_ok nmX11 rfl rfl hnm rfl (by decide +kernel) (fun _ => rfl) (fun _ => rfl) dX11_init_289 ?_
  refine pz_nmS (fun S68 hS68 => ?_)
  have hS68 : S68 = pz_pR S67 i 49 (S66.1) := hS68
  have nS68 : S68.1 = σ.1 + 34 := by rw [hS68]; exact nS67
  have wfS68 : pz_wf S68 := by rw [hS68]; exact pz_wf_put wfS67 (pz_lt2 nS67 nS66 rfl)
  have KS68 : (S68.2.1 i).1 = 14 := by rw [hS68]; exact KS67
  refine pz_aload_n C 0 dX11_init_292 rfl ?_
  refine pz_sipush C (v := 1203) dX11_init_293 (by decide) ?_
  refine pz_newarr C (t := 1) (N' := 1203) dX11_init_296 rfl arr_int (Or.inr (Or.inl rfl)) (by decide) (by decide) (Nat.le_of_ble_eq_true rfl) wfS68 (pz_le0 nS68) (And.intro (pz_lt0 nS68 hi) (True.intro)) (And.intro (pz_lt0 nS68 hi) (True.intro)) (Nat.le_of_ble_eq_true rfl) (Nat.le_of_ble_eq_true rfl) ?_
  rw [pz_nz]
  refine pz_nmS (fun S69 hS69 => ?_)
  have nS69 : S69.1 = σ.1 + 35 := pz_n1 nS68 hS69
  have wfS69 : pz_wf S69 := by rw [hS69]; exact pz_wf_new wfS68
  have KS69 : (S69.2.1 i).1 = 14 := by rw [hS69, pz_new_K (pz_lt0 nS68 hi)]; exact KS68
  refine pz_putRF C (ci := 10) (k := 50) (ty := .array .int) gwX11 rfl (Nat.le_of_ble_eq_true rfl) fl_X11_114 (pz_lt0 nS69 hi) KS69 tyX11_ok nmX11 rfl rfl hnm rfl (by decide +kernel) (fun _ => rfl) (fun _ => rfl) dX11_init_298 ?_
  refine pz_nmS (fun S70 hS70 => ?_)
  have hS70 : S70 = pz_pR S69 i 50 (S68.1) := hS70
  have nS70 : S70.1 = σ.1 + 35 := by rw [hS70]; exact nS69
  have wfS70 : pz_wf S70 := by rw [hS70]; exact pz_wf_put wfS69 (pz_lt2 nS69 nS68 rfl)
  have KS70 : (S70.2.1 i).1 = 14 := by rw [hS70]; exact KS69
  refine pz_aload_n C 0 dX11_init_301 rfl ?_
  refine pz_sipush C (v := 1203) dX11_init_302 (by decide) ?_
  refine pz_newarr C (t := 1) (N' := 1203) dX11_init_305 rfl arr_int (Or.inr (Or.inl rfl)) (by decide) (by decide) (Nat.le_of_ble_eq_true rfl) wfS70 (pz_le0 nS70) (And.intro (pz_lt0 nS70 hi) (True.intro)) (And.intro (pz_lt0 nS70 hi) (True.intro)) (Nat.le_of_ble_eq_true rfl) (Nat.le_of_ble_eq_true rfl) ?_
  rw [pz_nz]
  refine pz_nmS (fun S71 hS71 => ?_)
  have nS71 : S71.1 = σ.1 + 36 := pz_n1 nS70 hS71
  have wfS71 : pz_wf S71 := by rw [hS71]; exact pz_wf_new wfS70
  have KS71 : (S71.2.1 i).1 = 14 := by rw [hS71, pz_new_K (pz_lt0 nS70 hi)]; exact KS70
  refine pz_putRF C (ci := 10) (k := 51) (ty := .array .int) gwX11 rfl (Nat.le_of_ble_eq_true rfl) fl_X11_117 (pz_lt0 nS71 hi) KS71 tyX11_ok nmX11 rfl rfl hnm rfl (by decide +kernel) (fun _ => rfl) (fun _ => rfl) dX11_init_307 ?_
  refine pz_nmS (fun S72 hS72 => ?_)
  have hS72 : S72 = pz_pR S71 i 51 (S70.1) := hS72
  have nS72 : S72.1 = σ.1 + 36 := by rw [hS72]; exact nS71
  have wfS72 : pz_wf S72 := by rw [hS72]; exact pz_wf_put wfS71 (pz_lt2 nS71 nS70 rfl)
  have KS72 : (S72.2.1 i).1 = 14 := by rw [hS72]; exact KS71
  refine pz_aload_n C 0 dX11_init_310 rfl ?_
  refine pz_sipush C (v := 2500) dX11_init_311 (by decide) ?_
  refine pz_newarr C (t := 1) (N' := 2500) dX11_init_314 rfl arr_int (Or.inr (Or.inl rfl)) (by decide) (by decide) (Nat.le_of_ble_eq_true rfl) wfS72 (pz_le0 nS72) (And.intro (pz_lt0 nS72 hi) (True.intro)) (And.intro (pz_lt0 nS72 hi) (True.intro)) (Nat.le_of_ble_eq_true rfl) (Nat.le_of_ble_eq_true rfl) ?_
  rw [pz_nz]
  refine pz_nmS (fun S73 hS73 => ?_)
  have nS73 : S73.1 = σ.1 + 37 := pz_n1 nS72 hS73
  have wfS73 : pz_wf S73 := by rw [hS73]; exact pz_wf_new wfS72
  have KS73 : (S73.2.1 i).1 = 14 := by rw [hS73, pz_new_K (pz_lt0 nS72 hi)]; exact KS72
  refine pz_putRF C (ci := 10) (k := 53) (ty := .array .int) gwX11 rfl (Nat.le_of_ble_eq_true rfl) fl_X11_120 (pz_lt0 nS73 hi) KS73 tyX11_ok nmX11 rfl rfl hnm rfl (by decide +kernel) (fun _ => rfl) (fun _ => rfl) dX11_init_316 ?_
  refine pz_nmS (fun S74 hS74 => ?_)
  have hS74 : S74 = pz_pR S73 i 53 (S72.1) := hS74
  have nS74 : S74.1 = σ.1 + 37 := by rw [hS74]; exact nS73
  have wfS74 : pz_wf S74 := by rw [hS74]; exact pz_wf_put wfS73 (pz_lt2 nS73 nS72 rfl)
  have KS74 : (S74.2.1 i).1 = 14 := by rw [hS74]; exact KS73
  refine pz_vret C hr (Nat.le_of_ble_eq_true rfl) (Nat.le_of_ble_eq_true rfl) dX11_init_319 ⟨rfl, ?_, rfl⟩
  have e9 : kX11 σ i = S74 := by rw [hS74, hS73, hS72, hS71, hS70, hS69, hS68, hS67, hS66, hS65, hS64, hS63, hS62, hS61, hS60, hS59, hS58, hS57, hS56, hS55, hS54, hS53, hS52, hS51, hS50, hS49, hS48, hS47, hS46, hS45, hS44, hS43, hS42, hS41, hS40, hS39, hS38, hS37, hS36, hS35, hS34, hS33, hS32, hS31, hS30, hS29, hS28, hS27, hS26, hS25, hS24, hS23, hS22, hS21, hS20, hS19, hS18, hS17, hS16, hS15, hS14, hS13, hS12, hS11, hS10, hS9, hS8, hS7, hS6, hS5, hS4, hS3, hS2, hS1]; rfl
  exact e9.symm
