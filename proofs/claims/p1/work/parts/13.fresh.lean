abbrev sIA : String := "java/lang/IllegalArgumentException"
abbrev sIS : String := "java/lang/IllegalStateException"
theorem tf_IA : Bundle.fit sIA = true := by decide +kernel
theorem tf_IS : Bundle.fit sIS = true := by decide +kernel
theorem tn_IA : ∀ n ∈ ["java/lang/RuntimeException", "java/lang/Exception"], Bundle.fit n = true := by decide +kernel
theorem tn_IS : ∀ n ∈ ["java/lang/RuntimeException", "java/lang/Exception"], Bundle.fit n = true := tn_IA
theorem tw_IA0 : ∀ w ∈ Cond.classLink RX10 43 sIA :: Cond.initialized sIA :: vx_at0 RX10 45 sIA ["java/lang/RuntimeException", "java/lang/Exception"], w ∈ lw_tbl := by decide +kernel
theorem tw_IA1 : ∀ w ∈ Cond.classLink RX10 43 sIA :: Cond.initialized sIA :: vx_at0 RX10 45 sIA ["java/lang/RuntimeException", "java/lang/Exception"], (w.onTables && w.keepsFace) = true := by decide +kernel
theorem tw_IA : ∀ w ∈ Cond.classLink RX10 43 sIA :: Cond.initialized sIA :: vx_at0 RX10 45 sIA ["java/lang/RuntimeException", "java/lang/Exception"], w ∈ lw_face := fun w h => lw_face_in (tw_IA0 w h) (tw_IA1 w h)
theorem tw_IS0 : ∀ w ∈ Cond.classLink RX10 50 sIS :: Cond.initialized sIS :: vx_at0 RX10 52 sIS ["java/lang/RuntimeException", "java/lang/Exception"], w ∈ lw_tbl := by decide +kernel
theorem tw_IS1 : ∀ w ∈ Cond.classLink RX10 50 sIS :: Cond.initialized sIS :: vx_at0 RX10 52 sIS ["java/lang/RuntimeException", "java/lang/Exception"], (w.onTables && w.keepsFace) = true := by decide +kernel
theorem tw_IS : ∀ w ∈ Cond.classLink RX10 50 sIS :: Cond.initialized sIS :: vx_at0 RX10 52 sIS ["java/lang/RuntimeException", "java/lang/Exception"], w ∈ lw_face := fun w h => lw_face_in (tw_IS0 w h) (tw_IS1 w h)
theorem pz_sw3 (x : Int32) : x = 0 ∨ x = 1 ∨ x = 2 ∨ x = 3 ∨ (x.toInt < 0 ∨ 3 < x.toInt) := by
  by_cases h0 : x.toInt < 0
  · exact Or.inr (Or.inr (Or.inr (Or.inr (Or.inl h0))))
  · by_cases h3 : 3 < x.toInt
    · exact Or.inr (Or.inr (Or.inr (Or.inr (Or.inr h3))))
    · have : x.toInt = 0 ∨ x.toInt = 1 ∨ x.toInt = 2 ∨ x.toInt = 3 := by omega
      rcases this with h | h | h | h
      · exact Or.inl (Int32.toInt_inj.mp h)
      · exact Or.inr (Or.inl (Int32.toInt_inj.mp h))
      · exact Or.inr (Or.inr (Or.inl (Int32.toInt_inj.mp h)))
      · exact Or.inr (Or.inr (Or.inr (Or.inl (Int32.toInt_inj.mp h))))
/-- the class is as the constructor left it -/
def pz_fc (M : pzM) : Prop := ∀ i, i < 45 → (∀ k, M.1 i k = 0) ∧ ∀ k, M.2 i k = 0
/-- the reference and the law's row are as they were -/
def pz_ag (M M' : pzM) : Prop := ∀ i, 45 ≤ i → M'.1 i = M.1 i ∧ M'.2 i = M.2 i
theorem pz_ag_rf (M : pzM) : pz_ag M M := fun _ _ => ⟨rfl, rfl⟩
theorem pz_ag_u {M M' : pzM} {i k : Nat} {x : Int32} (h : pz_ag M M') (hi : Nat.blt i 45 = true) : pz_ag M (pz_u M'.1 i k x, M'.2) := fun j hj => ⟨(pz_u_off _ _ _ (by have := Nat.blt_eq.mp hi; omega)).trans (h j hj).1, (h j hj).2⟩
theorem hasF_z {M : pzM} (z : pz_fc M) (f : Int32) : hasF M f = 0 := by
  unfold hasF
  rw [(z 1 (by decide)).1 6]
  by_cases h : f < 0
  · rw [if_pos h]
  · rw [if_neg h, if_pos (Int32.not_lt.mp h)]
set_option maxHeartbeats 4000000 in
set_option maxRecDepth 100000 in
theorem c_X10_function (l : Launch) (D : va_G) (cy : Nat → ClassId) {σ : pzS} {M : pzM} {n : Int32} (h : pz_sh σ) (z : pz_fc M) (hl0 : l.stackTraces = false) : pz_MetX l yX10_function cX10_function 2 (some .int) 6 91 1 6 D cy σ M [.ref 0, .int n] (fun r σ' M' => ¬ (n < 0 ∨ ¬ n ≤ 3) ∧ r = some (.int 0) ∧ σ' = σ ∧ pz_ag M M') (fun E σ' M' => E = sIA ∧ (n < 0 ∨ ¬ n ≤ 3) ∧ σ' = σ ∧ M' = M) := by
  refine pz_ofWX (by decide) (Nat.le_of_ble_eq_true rfl) (fun p e s m args below meth c ad A C hr hZ hno => ?_)
  refine pz_iload_n C 1 dX10_function_0 rfl ?_
  refine pz_if_lt (tgt := 9) C dX10_function_1 (by decide) (fun h1 => ?_) (fun h1 => ?_)
  · exact pz_throw0 C hl0 hZ hno dX10_function_9 dX10_function_12 dX10_function_13 dX10_function_16 tf_IA tn_IA tw_IA (Nat.le_of_ble_eq_true rfl) (Nat.le_of_ble_eq_true rfl) (Nat.le_of_ble_eq_true rfl) (Nat.le_of_ble_eq_true rfl) (Nat.le_of_ble_eq_true rfl) (Nat.le_of_ble_eq_true rfl) (⟨rfl, by first | exact Or.inl h1 | exact Or.inr h6, rfl, rfl⟩)
  · refine pz_iload_n C 1 dX10_function_4 rfl ?_
    refine pz_iconst C (v := 3) dX10_function_5 (by decide) ?_
    refine pz_icmp_le (tgt := 17) C dX10_function_6 (by decide) (fun h6 => ?_) (fun h6 => ?_)
    · refine pz_aload_n C 0 dX10_function_17 rfl ?_
      refine pz_getR C (ci := 9) (k := 0) gwX10 rfl (Nat.le_of_ble_eq_true rfl) fl_X10_12 (shL h 0 rfl) (shK h 0 rfl rfl) rfl (shR h 0 0 1 rfl rfl rfl) dX10_function_18 ?_
      refine pz_callV C (As := []) (b := 1) (c_X6_functionTotal l D cy h) wB_yX6_functionTotal ml_X10_46 im_yX6_functionTotal se_yX6_functionTotal (ci := 5) rfl (shL h 1 rfl) (shK h 1 rfl rfl) rfl rfl (Nat.le_of_ble_eq_true rfl) ⟨(Nat.le_of_ble_eq_true rfl), (Nat.le_of_ble_eq_true rfl)⟩ ⟨(Nat.le_of_ble_eq_true rfl), (Nat.le_of_ble_eq_true rfl)⟩ dX10_function_21 (Nat.le_refl _) (True.intro) (And.intro (shL h 0 rfl) (And.intro True.intro (True.intro))) (fun r21 σ21 M21 hp21 => ?_)
      obtain ⟨rfl, rfl, rfl⟩ := hp21
      refine pz_bipush C (v := 12) dX10_function_24 (by decide) ?_
      refine pz_icmp_ne (tgt := 37) C dX10_function_26 (by decide) (fun h26 => ?_) (fun h26 => ?_)
      · refine pz_aload_n C 0 dX10_function_37 rfl ?_
        refine pz_getR C (ci := 9) (k := 2) gwX10 rfl (Nat.le_of_ble_eq_true rfl) fl_X10_30 (shL h 0 rfl) (shK h 0 rfl rfl) rfl (shR h 0 2 16 rfl rfl rfl) dX10_function_38 ?_
        refine pz_callV C (As := []) (b := 16) (c_X5_forget l D cy h) wB_yX5_forget ml_X10_53 im_yX5_forget se_yX5_forget (ci := 4) rfl (shL h 16 rfl) (shK h 16 rfl rfl) rfl rfl (Nat.le_of_ble_eq_true rfl) ⟨(Nat.le_of_ble_eq_true rfl), (Nat.le_of_ble_eq_true rfl)⟩ ⟨(Nat.le_of_ble_eq_true rfl), (Nat.le_of_ble_eq_true rfl)⟩ dX10_function_41 (Nat.le_refl _) (True.intro) (And.intro (shL h 0 rfl) (And.intro True.intro (True.intro))) (fun r41 σ41 M41 hp41 => ?_)
        obtain ⟨rfl, rfl, rfl⟩ := hp41
        refine pz_aload_n C 0 dX10_function_44 rfl ?_
        refine pz_getR C (ci := 9) (k := 0) gwX10 rfl (Nat.le_of_ble_eq_true rfl) fl_X10_12 (shL h 0 rfl) (shK h 0 rfl rfl) rfl (shR h 0 0 1 rfl rfl rfl) dX10_function_45 ?_
        refine pz_iload_n C 1 dX10_function_48 rfl ?_
        refine pz_callV C (As := [_]) (b := 1) (c_X6_addFunction l D cy h (by rw [show ((pz_u M21.1 16 10 0, M21.2) : pzM).1 1 6 = M21.1 1 6 from pz_u_ne (i := 16) (k := 10) (a := 1) (b := 6) M21.1 (0 : Int32) (Or.inl (by decide)), (z 1 (by decide)).1 6]; unfold vp_in; decide)) wB_yX6_addFunction ml_X10_56 im_yX6_addFunction se_yX6_addFunction (ci := 5) rfl (shL h 1 rfl) (shK h 1 rfl rfl) rfl rfl (Nat.le_of_ble_eq_true rfl) ⟨(Nat.le_of_ble_eq_true rfl), (Nat.le_of_ble_eq_true rfl)⟩ ⟨(Nat.le_of_ble_eq_true rfl), (Nat.le_of_ble_eq_true rfl)⟩ dX10_function_49 (Nat.le_refl _) (True.intro) (And.intro (shL h 0 rfl) (And.intro True.intro (True.intro))) (fun r49 σ49 M49 hp49 => ?_)
        obtain ⟨rfl, rfl, rfl⟩ := hp49
        exact pz_retX (pz_iret C hr (Nat.le_of_ble_eq_true rfl) (Nat.le_of_ble_eq_true rfl) dX10_function_52 (⟨fun q => q.elim h1 (fun q2 => q2 h6), by rw [show ((pz_u M21.1 16 10 0, M21.2) : pzM).1 1 6 = M21.1 1 6 from pz_u_ne (i := 16) (k := 10) (a := 1) (b := 6) M21.1 (0 : Int32) (Or.inl (by decide)), (z 1 (by decide)).1 6]; rfl, rfl, pz_ag_u (M' := (pz_u (pz_u M21.1 16 10 0) 8 _ n, M21.2)) (pz_ag_u (M' := (pz_u M21.1 16 10 0, M21.2)) (pz_ag_u (pz_ag_rf _) rfl) rfl) rfl⟩))
      · exact absurd ((z 1 (by decide)).1 6 ▸ h26) (by decide)
    · exact pz_throw0 C hl0 hZ hno dX10_function_9 dX10_function_12 dX10_function_13 dX10_function_16 tf_IA tn_IA tw_IA (Nat.le_of_ble_eq_true rfl) (Nat.le_of_ble_eq_true rfl) (Nat.le_of_ble_eq_true rfl) (Nat.le_of_ble_eq_true rfl) (Nat.le_of_ble_eq_true rfl) (Nat.le_of_ble_eq_true rfl) (⟨rfl, by first | exact Or.inl h1 | exact Or.inr h6, rfl, rfl⟩)
set_option maxHeartbeats 4000000 in
set_option maxRecDepth 100000 in
theorem c_X10_code (l : Launch) (D : va_G) (cy : Nat → ClassId) {σ : pzS} {M : pzM} {f : Int32} {w : Int32} {a : Int32} {b : Int32} (h : pz_sh σ) (z : pz_fc M) (hl0 : l.stackTraces = false) : pz_MetX l yX10_code cX10_code 5 (some .int) 6 91 1 6 D cy σ M [.ref 0, .int f, .int w, .int a, .int b] (fun r σ' M' => False) (fun E σ' M' => E = sIA ∧ σ' = σ ∧ M' = M) := by
  refine pz_ofWX (by decide) (Nat.le_of_ble_eq_true rfl) (fun p e s m args below meth c ad A C hr hZ hno => ?_)
  refine pz_aload_n C 0 dX10_code_0 rfl ?_
  refine pz_getR C (ci := 9) (k := 0) gwX10 rfl (Nat.le_of_ble_eq_true rfl) fl_X10_12 (shL h 0 rfl) (shK h 0 rfl rfl) rfl (shR h 0 0 1 rfl rfl rfl) dX10_code_1 ?_
  refine pz_iload_n C 1 dX10_code_4 rfl ?_
  refine pz_callV C (As := [_]) (b := 1) (c_X6_hasFunction l D cy h) wB_yX6_hasFunction ml_X10_60 im_yX6_hasFunction se_yX6_hasFunction (ci := 5) rfl (shL h 1 rfl) (shK h 1 rfl rfl) rfl rfl (Nat.le_of_ble_eq_true rfl) ⟨(Nat.le_of_ble_eq_true rfl), (Nat.le_of_ble_eq_true rfl)⟩ ⟨(Nat.le_of_ble_eq_true rfl), (Nat.le_of_ble_eq_true rfl)⟩ dX10_code_5 (Nat.le_refl _) (True.intro) (And.intro (shL h 0 rfl) (And.intro True.intro (And.intro True.intro (And.intro True.intro (And.intro True.intro (True.intro)))))) (fun r5 σ5 M5 hp5 => ?_)
  obtain ⟨rfl, rfl, rfl⟩ := hp5
  refine pz_if_eq (tgt := 21) C dX10_code_8 (by decide) (fun h8 => ?_) (fun h8 => ?_)
  · exact pz_throw0 C hl0 hZ hno dX10_code_21 dX10_code_24 dX10_code_25 dX10_code_28 tf_IA tn_IA tw_IA (Nat.le_of_ble_eq_true rfl) (Nat.le_of_ble_eq_true rfl) (Nat.le_of_ble_eq_true rfl) (Nat.le_of_ble_eq_true rfl) (Nat.le_of_ble_eq_true rfl) (Nat.le_of_ble_eq_true rfl) (⟨rfl, rfl, rfl⟩)
  · exact absurd (hasF_z z f) h8
set_option maxHeartbeats 4000000 in
set_option maxRecDepth 100000 in
theorem c_X10_size (l : Launch) (D : va_G) (cy : Nat → ClassId) {σ : pzS} {M : pzM} {f : Int32} {w : Int32} (h : pz_sh σ) (z : pz_fc M) (hl0 : l.stackTraces = false) : pz_MetX l yX10_size cX10_size 3 (some .int) 6 91 1 6 D cy σ M [.ref 0, .int f, .int w] (fun r σ' M' => False) (fun E σ' M' => E = sIA ∧ σ' = σ ∧ M' = M) := by
  refine pz_ofWX (by decide) (Nat.le_of_ble_eq_true rfl) (fun p e s m args below meth c ad A C hr hZ hno => ?_)
  refine pz_aload_n C 0 dX10_size_0 rfl ?_
  refine pz_getR C (ci := 9) (k := 0) gwX10 rfl (Nat.le_of_ble_eq_true rfl) fl_X10_12 (shL h 0 rfl) (shK h 0 rfl rfl) rfl (shR h 0 0 1 rfl rfl rfl) dX10_size_1 ?_
  refine pz_iload_n C 1 dX10_size_4 rfl ?_
  refine pz_callV C (As := [_]) (b := 1) (c_X6_hasFunction l D cy h) wB_yX6_hasFunction ml_X10_60 im_yX6_hasFunction se_yX6_hasFunction (ci := 5) rfl (shL h 1 rfl) (shK h 1 rfl rfl) rfl rfl (Nat.le_of_ble_eq_true rfl) ⟨(Nat.le_of_ble_eq_true rfl), (Nat.le_of_ble_eq_true rfl)⟩ ⟨(Nat.le_of_ble_eq_true rfl), (Nat.le_of_ble_eq_true rfl)⟩ dX10_size_5 (Nat.le_refl _) (True.intro) (And.intro (shL h 0 rfl) (And.intro True.intro (And.intro True.intro (True.intro)))) (fun r5 σ5 M5 hp5 => ?_)
  obtain ⟨rfl, rfl, rfl⟩ := hp5
  refine pz_if_eq (tgt := 20) C dX10_size_8 (by decide) (fun h8 => ?_) (fun h8 => ?_)
  · exact pz_throw0 C hl0 hZ hno dX10_size_20 dX10_size_23 dX10_size_24 dX10_size_27 tf_IA tn_IA tw_IA (Nat.le_of_ble_eq_true rfl) (Nat.le_of_ble_eq_true rfl) (Nat.le_of_ble_eq_true rfl) (Nat.le_of_ble_eq_true rfl) (Nat.le_of_ble_eq_true rfl) (Nat.le_of_ble_eq_true rfl) (⟨rfl, rfl, rfl⟩)
  · exact absurd (hasF_z z f) h8
set_option maxHeartbeats 4000000 in
set_option maxRecDepth 100000 in
theorem c_X10_plain (l : Launch) (D : va_G) (cy : Nat → ClassId) {σ : pzS} {M : pzM} {f : Int32} {i0 : Int32} {w : Int32} (h : pz_sh σ) (z : pz_fc M) (hl0 : l.stackTraces = false) : pz_MetX l yX10_plain cX10_plain 4 (some .int) 6 91 1 6 D cy σ M [.ref 0, .int f, .int i0, .int w] (fun r σ' M' => False) (fun E σ' M' => E = sIA ∧ σ' = σ ∧ M' = M) := by
  refine pz_ofWX (by decide) (Nat.le_of_ble_eq_true rfl) (fun p e s m args below meth c ad A C hr hZ hno => ?_)
  refine pz_aload_n C 0 dX10_plain_0 rfl ?_
  refine pz_getR C (ci := 9) (k := 0) gwX10 rfl (Nat.le_of_ble_eq_true rfl) fl_X10_12 (shL h 0 rfl) (shK h 0 rfl rfl) rfl (shR h 0 0 1 rfl rfl rfl) dX10_plain_1 ?_
  refine pz_iload_n C 1 dX10_plain_4 rfl ?_
  refine pz_callV C (As := [_]) (b := 1) (c_X6_hasFunction l D cy h) wB_yX6_hasFunction ml_X10_60 im_yX6_hasFunction se_yX6_hasFunction (ci := 5) rfl (shL h 1 rfl) (shK h 1 rfl rfl) rfl rfl (Nat.le_of_ble_eq_true rfl) ⟨(Nat.le_of_ble_eq_true rfl), (Nat.le_of_ble_eq_true rfl)⟩ ⟨(Nat.le_of_ble_eq_true rfl), (Nat.le_of_ble_eq_true rfl)⟩ dX10_plain_5 (Nat.le_refl _) (True.intro) (And.intro (shL h 0 rfl) (And.intro True.intro (And.intro True.intro (And.intro True.intro (True.intro))))) (fun r5 σ5 M5 hp5 => ?_)
  obtain ⟨rfl, rfl, rfl⟩ := hp5
  refine pz_if_eq (tgt := 24) C dX10_plain_8 (by decide) (fun h8 => ?_) (fun h8 => ?_)
  · exact pz_throw0 C hl0 hZ hno dX10_plain_24 dX10_plain_27 dX10_plain_28 dX10_plain_31 tf_IA tn_IA tw_IA (Nat.le_of_ble_eq_true rfl) (Nat.le_of_ble_eq_true rfl) (Nat.le_of_ble_eq_true rfl) (Nat.le_of_ble_eq_true rfl) (Nat.le_of_ble_eq_true rfl) (Nat.le_of_ble_eq_true rfl) (⟨rfl, rfl, rfl⟩)
  · exact absurd (hasF_z z f) h8
set_option maxHeartbeats 4000000 in
set_option maxRecDepth 100000 in
theorem c_X10_run (l : Launch) (D : va_G) (cy : Nat → ClassId) {σ : pzS} {M : pzM} {f : Int32} {x0 : Int32} {y0 : Int32} {z0 : Int32} {b0 : Int32} (h : pz_sh σ) (z : pz_fc M) (hl0 : l.stackTraces = false) : pz_MetX l yX10_run cX10_run 6 (some .int) 6 91 1 6 D cy σ M [.ref 0, .int f, .int x0, .int y0, .int z0, .int b0] (fun r σ' M' => False) (fun E σ' M' => E = sIA ∧ σ' = σ ∧ M' = M) := by
  refine pz_ofWX (by decide) (Nat.le_of_ble_eq_true rfl) (fun p e s m args below meth c ad A C hr hZ hno => ?_)
  refine pz_aload_n C 0 dX10_run_0 rfl ?_
  refine pz_getR C (ci := 9) (k := 0) gwX10 rfl (Nat.le_of_ble_eq_true rfl) fl_X10_12 (shL h 0 rfl) (shK h 0 rfl rfl) rfl (shR h 0 0 1 rfl rfl rfl) dX10_run_1 ?_
  refine pz_iload_n C 1 dX10_run_4 rfl ?_
  refine pz_callV C (As := [_]) (b := 1) (c_X6_hasFunction l D cy h) wB_yX6_hasFunction ml_X10_60 im_yX6_hasFunction se_yX6_hasFunction (ci := 5) rfl (shL h 1 rfl) (shK h 1 rfl rfl) rfl rfl (Nat.le_of_ble_eq_true rfl) ⟨(Nat.le_of_ble_eq_true rfl), (Nat.le_of_ble_eq_true rfl)⟩ ⟨(Nat.le_of_ble_eq_true rfl), (Nat.le_of_ble_eq_true rfl)⟩ dX10_run_5 (Nat.le_refl _) (True.intro) (And.intro (shL h 0 rfl) (And.intro True.intro (And.intro True.intro (And.intro True.intro (And.intro True.intro (And.intro True.intro (True.intro))))))) (fun r5 σ5 M5 hp5 => ?_)
  obtain ⟨rfl, rfl, rfl⟩ := hp5
  refine pz_if_ne (tgt := 19) C dX10_run_8 (by decide) (fun h8 => ?_) (fun h8 => ?_)
  · exact absurd (hasF_z z f) h8
  · exact pz_throw0 C hl0 hZ hno dX10_run_11 dX10_run_14 dX10_run_15 dX10_run_18 tf_IA tn_IA tw_IA (Nat.le_of_ble_eq_true rfl) (Nat.le_of_ble_eq_true rfl) (Nat.le_of_ble_eq_true rfl) (Nat.le_of_ble_eq_true rfl) (Nat.le_of_ble_eq_true rfl) (Nat.le_of_ble_eq_true rfl) (⟨rfl, rfl, rfl⟩)
set_option maxHeartbeats 4000000 in
set_option maxRecDepth 100000 in
theorem c_X10_check (l : Launch) (D : va_G) (cy : Nat → ClassId) {σ : pzS} {M : pzM}  (h : pz_sh σ) (z : pz_fc M) : pz_Met l yX10_check cX10_check 3 (some .int) 1 20 0 0 D cy σ M [.ref 0] (fun r σ' M' => r = some (.int (-1)) ∧ σ' = σ ∧ M' = M) := by
  refine pz_ofW (by decide) (Nat.le_of_ble_eq_true rfl) (fun p e s m args below meth c ad A C hr hnm => ?_)
  refine pz_iconst C (v := 0) dX10_check_0 (by decide) ?_
  refine pz_topi (fun x1_1 e1_1 => ?_)
  refine pz_istore_n (loc' := [(1, .int x1_1), (0, .ref (0))]) C dX10_check_1 (by decide) rfl ?_
  subst e1_1
  refine pz_iload_n C 0 dX10_check_2 rfl ?_
  refine pz_aload_n C 1 dX10_check_3 rfl ?_
  refine pz_getR C (ci := 9) (k := 0) gwX10 rfl (Nat.le_of_ble_eq_true rfl) fl_X10_12 (shL h 0 rfl) (shK h 0 rfl rfl) rfl (shR h 0 0 1 rfl rfl rfl) dX10_check_4 ?_
  refine pz_callV C (As := []) (b := 1) (c_X6_functionTotal l D cy h) wB_yX6_functionTotal ml_X10_46 im_yX6_functionTotal se_yX6_functionTotal (ci := 5) rfl (shL h 1 rfl) (shK h 1 rfl rfl) rfl rfl (Nat.le_of_ble_eq_true rfl) ⟨(Nat.le_of_ble_eq_true rfl), (Nat.le_of_ble_eq_true rfl)⟩ ⟨(Nat.le_of_ble_eq_true rfl), (Nat.le_of_ble_eq_true rfl)⟩ dX10_check_7 (Nat.le_refl _) (And.intro True.intro (True.intro)) (And.intro True.intro (And.intro (shL h 0 rfl) (True.intro))) (fun r7 σ7 M7 hp7 => ?_)
  obtain ⟨rfl, rfl, rfl⟩ := hp7
  refine pz_icmp_ge (tgt := 40) C dX10_check_10 (by decide) (fun h10 => ?_) (fun h10 => ?_)
  · refine pz_iconst C (v := -1) dX10_check_40 (by decide) ?_
    exact pz_iret C hr (Nat.le_of_ble_eq_true rfl) (Nat.le_of_ble_eq_true rfl) dX10_check_41 (⟨rfl, rfl, rfl⟩)
  · exact absurd (show M7.1 1 6 ≤ 0 by rw [(z 1 (by decide)).1 6]; decide) h10
