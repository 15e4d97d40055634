def kdOf (v : Int64) : Int32 := (v >>> ((32 : Int32).toInt64 &&& 63)).toInt32
def hasF (M : pzM) (f : Int32) : Int32 := if f < 0 then 0 else if M.1 1 6 ≤ f then 0 else 1
theorem pz_iff1 {c : Prop} [Decidable c] {a b : Int32} (h : c) : some (Value.int a) = some (.int (if c then a else b)) := by rw [if_pos h]
theorem pz_iff0 {c : Prop} [Decidable c] {a b : Int32} (h : ¬ c) : some (Value.int b) = some (.int (if c then a else b)) := by rw [if_neg h]
set_option maxHeartbeats 4000000 in
set_option maxRecDepth 100000 in
theorem c_X6_functionTotal (l : Launch) (D : va_G) (cy : Nat → ClassId) {σ : pzS} {M : pzM}  (h : pz_sh σ)  : pz_Met l yX6_functionTotal cX6_functionTotal 1 (some .int) 0 0 0 0 D cy σ M [.ref 1] (fun r σ' M' => r = some (.int (M.1 1 6)) ∧ σ' = σ ∧ M' = M) := by
  refine pz_ofW (by decide) (Nat.le_of_ble_eq_true rfl) (fun p e s m args below meth c ad A C hr hnm => ?_)
  refine pz_aload_n C 0 dX6_functionTotal_0 rfl ?_
  refine pz_getI C (ci := 5) (k := 6) gwX6 rfl (Nat.le_of_ble_eq_true rfl) fl_X6_34 (shL h 1 rfl) (shK h 1 rfl rfl) rfl dX6_functionTotal_1 ?_
  exact pz_iret C hr (Nat.le_of_ble_eq_true rfl) (Nat.le_of_ble_eq_true rfl) dX6_functionTotal_4 (⟨rfl, rfl, rfl⟩)
set_option maxHeartbeats 4000000 in
set_option maxRecDepth 100000 in
theorem c_X6_recipes (l : Launch) (D : va_G) (cy : Nat → ClassId) {σ : pzS} {M : pzM}  (h : pz_sh σ)  : pz_Met l yX6_recipes cX6_recipes 1 (some (.object "FeatureDesugarer$Recipes")) 0 0 0 0 D cy σ M [.ref 1] (fun r σ' M' => r = some (.ref 2) ∧ σ' = σ ∧ M' = M) := by
  refine pz_ofW (by decide) (Nat.le_of_ble_eq_true rfl) (fun p e s m args below meth c ad A C hr hnm => ?_)
  refine pz_aload_n C 0 dX6_recipes_0 rfl ?_
  refine pz_getR C (ci := 5) (k := 0) gwX6 rfl (Nat.le_of_ble_eq_true rfl) fl_X6_12 (shL h 1 rfl) (shK h 1 rfl rfl) rfl (shR h 1 0 2 rfl rfl rfl) dX6_recipes_1 ?_
  exact pz_aret C hr (Or.inl ⟨_, rfl⟩) (Nat.le_of_ble_eq_true rfl) (Nat.le_of_ble_eq_true rfl) dX6_recipes_4 (⟨rfl, rfl, rfl⟩)
set_option maxHeartbeats 4000000 in
set_option maxRecDepth 100000 in
theorem c_X7_total (l : Launch) (D : va_G) (cy : Nat → ClassId) {σ : pzS} {M : pzM}  (h : pz_sh σ)  : pz_Met l yX7_total cX7_total 1 (some .int) 0 0 0 0 D cy σ M [.ref 2] (fun r σ' M' => r = some (.int (M.1 2 5)) ∧ σ' = σ ∧ M' = M) := by
  refine pz_ofW (by decide) (Nat.le_of_ble_eq_true rfl) (fun p e s m args below meth c ad A C hr hnm => ?_)
  refine pz_aload_n C 0 dX7_total_0 rfl ?_
  refine pz_getI C (ci := 6) (k := 5) gwX7 rfl (Nat.le_of_ble_eq_true rfl) fl_X7_29 (shL h 2 rfl) (shK h 2 rfl rfl) rfl dX7_total_1 ?_
  exact pz_iret C hr (Nat.le_of_ble_eq_true rfl) (Nat.le_of_ble_eq_true rfl) dX7_total_4 (⟨rfl, rfl, rfl⟩)
set_option maxHeartbeats 4000000 in
set_option maxRecDepth 100000 in
theorem c_X7_letterTotal (l : Launch) (D : va_G) (cy : Nat → ClassId) {σ : pzS} {M : pzM}  (h : pz_sh σ)  : pz_Met l yX7_letterTotal cX7_letterTotal 1 (some .int) 0 0 0 0 D cy σ M [.ref 2] (fun r σ' M' => r = some (.int (M.1 2 6)) ∧ σ' = σ ∧ M' = M) := by
  refine pz_ofW (by decide) (Nat.le_of_ble_eq_true rfl) (fun p e s m args below meth c ad A C hr hnm => ?_)
  refine pz_aload_n C 0 dX7_letterTotal_0 rfl ?_
  refine pz_getI C (ci := 6) (k := 6) gwX7 rfl (Nat.le_of_ble_eq_true rfl) fl_X7_33 (shL h 2 rfl) (shK h 2 rfl rfl) rfl dX7_letterTotal_1 ?_
  exact pz_iret C hr (Nat.le_of_ble_eq_true rfl) (Nat.le_of_ble_eq_true rfl) dX7_letterTotal_4 (⟨rfl, rfl, rfl⟩)
set_option maxHeartbeats 4000000 in
set_option maxRecDepth 100000 in
theorem c_X5_forget (l : Launch) (D : va_G) (cy : Nat → ClassId) {σ : pzS} {M : pzM}  (h : pz_sh σ)  : pz_Met l yX5_forget cX5_forget 1 none 0 0 0 0 D cy σ M [.ref 16] (fun r σ' M' => r = none ∧ σ' = σ ∧ M' = (pz_u M.1 16 10 0, M.2)) := by
  refine pz_ofW (by decide) (Nat.le_of_ble_eq_true rfl) (fun p e s m args below meth c ad A C hr hnm => ?_)
  refine pz_aload_n C 0 dX5_forget_0 rfl ?_
  refine pz_iconst C (v := 0) dX5_forget_1 (by decide) ?_
  refine pz_putIZ C (ci := 4) (k := 10) gwX5 rfl (Nat.le_of_ble_eq_true rfl) fl_X5_45 (shL h 16 rfl) (shK h 16 rfl rfl) tyX5_ok nmX5 rfl rfl (by decide +kernel) rfl rfl dX5_forget_2 ?_
  exact pz_vret C hr (Nat.le_of_ble_eq_true rfl) (Nat.le_of_ble_eq_true rfl) dX5_forget_5 (⟨rfl, rfl, rfl⟩)
set_option maxHeartbeats 4000000 in
set_option maxRecDepth 100000 in
theorem c_X5_isMade (l : Launch) (D : va_G) (cy : Nat → ClassId) {σ : pzS} {M : pzM}  (h : pz_sh σ) (hb : narrow .boolean (.int (M.1 16 10)) = .int (M.1 16 10)) : pz_Met l yX5_isMade cX5_isMade 1 (some .boolean) 0 0 0 0 D cy σ M [.ref 16] (fun r σ' M' => r = some (.int (M.1 16 10)) ∧ σ' = σ ∧ M' = M) := by
  refine pz_ofW (by decide) (Nat.le_of_ble_eq_true rfl) (fun p e s m args below meth c ad A C hr hnm => ?_)
  refine pz_aload_n C 0 dX5_isMade_0 rfl ?_
  refine pz_getI C (ci := 4) (k := 10) gwX5 rfl (Nat.le_of_ble_eq_true rfl) fl_X5_45 (shL h 16 rfl) (shK h 16 rfl rfl) rfl dX5_isMade_1 ?_
  exact pz_zret C hr hb (Nat.le_of_ble_eq_true rfl) (Nat.le_of_ble_eq_true rfl) dX5_isMade_4 (⟨rfl, rfl, rfl⟩)
set_option maxHeartbeats 4000000 in
set_option maxRecDepth 100000 in
theorem c_X5_classTotal (l : Launch) (D : va_G) (cy : Nat → ClassId) {σ : pzS} {M : pzM}  (h : pz_sh σ)  : pz_Met l yX5_classTotal cX5_classTotal 1 (some .int) 0 0 0 0 D cy σ M [.ref 16] (fun r σ' M' => r = some (.int (M.1 16 9)) ∧ σ' = σ ∧ M' = M) := by
  refine pz_ofW (by decide) (Nat.le_of_ble_eq_true rfl) (fun p e s m args below meth c ad A C hr hnm => ?_)
  refine pz_aload_n C 0 dX5_classTotal_0 rfl ?_
  refine pz_getI C (ci := 4) (k := 9) gwX5 rfl (Nat.le_of_ble_eq_true rfl) fl_X5_49 (shL h 16 rfl) (shK h 16 rfl rfl) rfl dX5_classTotal_1 ?_
  exact pz_iret C hr (Nat.le_of_ble_eq_true rfl) (Nat.le_of_ble_eq_true rfl) dX5_classTotal_4 (⟨rfl, rfl, rfl⟩)
set_option maxHeartbeats 4000000 in
set_option maxRecDepth 100000 in
theorem c_X3_clear (l : Launch) (D : va_G) (cy : Nat → ClassId) {σ : pzS} {M : pzM}  (h : pz_sh σ)  : pz_Met l yX3_clear cX3_clear 1 none 0 0 0 0 D cy σ M [.ref 17] (fun r σ' M' => r = none ∧ σ' = σ ∧ M' = (pz_u M.1 17 4 0, M.2)) := by
  refine pz_ofW (by decide) (Nat.le_of_ble_eq_true rfl) (fun p e s m args below meth c ad A C hr hnm => ?_)
  refine pz_aload_n C 0 dX3_clear_0 rfl ?_
  refine pz_iconst C (v := 0) dX3_clear_1 (by decide) ?_
  refine pz_putI C (ci := 2) (k := 4) gwX3 rfl (Nat.le_of_ble_eq_true rfl) fl_X3_22 (shL h 17 rfl) (shK h 17 rfl rfl) tyX3_ok nmX3 rfl rfl (by decide +kernel) dX3_clear_2 ?_
  exact pz_vret C hr (Nat.le_of_ble_eq_true rfl) (Nat.le_of_ble_eq_true rfl) dX3_clear_5 (⟨rfl, rfl, rfl⟩)
set_option maxHeartbeats 4000000 in
set_option maxRecDepth 100000 in
theorem c_X3_length (l : Launch) (D : va_G) (cy : Nat → ClassId) {σ : pzS} {M : pzM}  (h : pz_sh σ)  : pz_Met l yX3_length cX3_length 1 (some .int) 0 0 0 0 D cy σ M [.ref 17] (fun r σ' M' => r = some (.int (M.1 17 4)) ∧ σ' = σ ∧ M' = M) := by
  refine pz_ofW (by decide) (Nat.le_of_ble_eq_true rfl) (fun p e s m args below meth c ad A C hr hnm => ?_)
  refine pz_aload_n C 0 dX3_length_0 rfl ?_
  refine pz_getI C (ci := 2) (k := 4) gwX3 rfl (Nat.le_of_ble_eq_true rfl) fl_X3_22 (shL h 17 rfl) (shK h 17 rfl rfl) rfl dX3_length_1 ?_
  exact pz_iret C hr (Nat.le_of_ble_eq_true rfl) (Nat.le_of_ble_eq_true rfl) dX3_length_4 (⟨rfl, rfl, rfl⟩)
set_option maxHeartbeats 4000000 in
set_option maxRecDepth 100000 in
theorem c_X8_outputLength (l : Launch) (D : va_G) (cy : Nat → ClassId) {σ : pzS} {M : pzM}  (h : pz_sh σ)  : pz_Met l yX8_outputLength cX8_outputLength 1 (some .int) 0 0 0 0 D cy σ M [.ref 39] (fun r σ' M' => r = some (.int (M.1 39 7)) ∧ σ' = σ ∧ M' = M) := by
  refine pz_ofW (by decide) (Nat.le_of_ble_eq_true rfl) (fun p e s m args below meth c ad A C hr hnm => ?_)
  refine pz_aload_n C 0 dX8_outputLength_0 rfl ?_
  refine pz_getI C (ci := 7) (k := 7) gwX8 rfl (Nat.le_of_ble_eq_true rfl) fl_X8_32 (shL h 39 rfl) (shK h 39 rfl rfl) rfl dX8_outputLength_1 ?_
  exact pz_iret C hr (Nat.le_of_ble_eq_true rfl) (Nat.le_of_ble_eq_true rfl) dX8_outputLength_4 (⟨rfl, rfl, rfl⟩)
set_option maxHeartbeats 4000000 in
set_option maxRecDepth 100000 in
theorem c_X4_outputLength (l : Launch) (D : va_G) (cy : Nat → ClassId) {σ : pzS} {M : pzM}  (h : pz_sh σ)  : pz_Met l yX4_outputLength cX4_outputLength 1 (some .int) 1 20 0 0 D cy σ M [.ref 28] (fun r σ' M' => r = some (.int (M.1 39 7)) ∧ σ' = σ ∧ M' = M) := by
  refine pz_ofW (by decide) (Nat.le_of_ble_eq_true rfl) (fun p e s m args below meth c ad A C hr hnm => ?_)
  refine pz_aload_n C 0 dX4_outputLength_0 rfl ?_
  refine pz_getR C (ci := 3) (k := 4) gwX4 rfl (Nat.le_of_ble_eq_true rfl) fl_X4_28 (shL h 28 rfl) (shK h 28 rfl rfl) rfl (shR h 28 4 39 rfl rfl rfl) dX4_outputLength_1 ?_
  refine pz_callV C (As := []) (b := 39) (c_X8_outputLength l D cy h) wB_yX8_outputLength ml_X4_48 im_yX8_outputLength se_yX8_outputLength (ci := 7) rfl (shL h 39 rfl) (shK h 39 rfl rfl) rfl rfl (Nat.le_of_ble_eq_true rfl) ⟨(Nat.le_of_ble_eq_true rfl), (Nat.le_of_ble_eq_true rfl)⟩ ⟨(Nat.le_of_ble_eq_true rfl), (Nat.le_of_ble_eq_true rfl)⟩ dX4_outputLength_4 (Nat.le_refl _) (True.intro) (And.intro (shL h 28 rfl) (True.intro)) (fun r4 σ4 M4 hp4 => ?_)
  obtain ⟨rfl, rfl, rfl⟩ := hp4
  exact pz_iret C hr (Nat.le_of_ble_eq_true rfl) (Nat.le_of_ble_eq_true rfl) dX4_outputLength_7 (⟨rfl, rfl, rfl⟩)
set_option maxHeartbeats 4000000 in
set_option maxRecDepth 100000 in
theorem c_X4_stepTotal (l : Launch) (D : va_G) (cy : Nat → ClassId) {σ : pzS} {M : pzM}  (h : pz_sh σ)  : pz_Met l yX4_stepTotal cX4_stepTotal 1 (some .int) 0 0 0 0 D cy σ M [.ref 28] (fun r σ' M' => r = some (.int (M.1 28 7)) ∧ σ' = σ ∧ M' = M) := by
  refine pz_ofW (by decide) (Nat.le_of_ble_eq_true rfl) (fun p e s m args below meth c ad A C hr hnm => ?_)
  refine pz_aload_n C 0 dX4_stepTotal_0 rfl ?_
  refine pz_getI C (ci := 3) (k := 7) gwX4 rfl (Nat.le_of_ble_eq_true rfl) fl_X4_56 (shL h 28 rfl) (shK h 28 rfl rfl) rfl dX4_stepTotal_1 ?_
  exact pz_iret C hr (Nat.le_of_ble_eq_true rfl) (Nat.le_of_ble_eq_true rfl) dX4_stepTotal_4 (⟨rfl, rfl, rfl⟩)
set_option maxHeartbeats 4000000 in
set_option maxRecDepth 100000 in
theorem c_X10_kindOf (l : Launch) (D : va_G) (cy : Nat → ClassId) {σ : pzS} {M : pzM} {v : Int64} (h : pz_sh σ)  : pz_Met l yX10_kindOf cX10_kindOf 2 (some .int) 0 0 0 0 D cy σ M [.long v] (fun r σ' M' => r = some (.int (kdOf v)) ∧ σ' = σ ∧ M' = M) := by
  refine pz_ofW (by decide) (Nat.le_of_ble_eq_true rfl) (fun p e s m args below meth c ad A C hr hnm => ?_)
  refine pz_lload_n C 0 dX10_kindOf_0 rfl ?_
  refine pz_bipush C (v := 32) dX10_kindOf_1 (by decide) ?_
  refine pz_lshr C dX10_kindOf_3 ?_
  refine pz_l2i C dX10_kindOf_4 ?_
  exact pz_iret C hr (Nat.le_of_ble_eq_true rfl) (Nat.le_of_ble_eq_true rfl) dX10_kindOf_5 (⟨rfl, rfl, rfl⟩)
set_option maxHeartbeats 4000000 in
set_option maxRecDepth 100000 in
theorem c_X10_contentOf (l : Launch) (D : va_G) (cy : Nat → ClassId) {σ : pzS} {M : pzM} {v : Int64} (h : pz_sh σ)  : pz_Met l yX10_contentOf cX10_contentOf 2 (some .int) 0 0 0 0 D cy σ M [.long v] (fun r σ' M' => r = some (.int (v.toInt32)) ∧ σ' = σ ∧ M' = M) := by
  refine pz_ofW (by decide) (Nat.le_of_ble_eq_true rfl) (fun p e s m args below meth c ad A C hr hnm => ?_)
  refine pz_lload_n C 0 dX10_contentOf_0 rfl ?_
  refine pz_l2i C dX10_contentOf_1 ?_
  exact pz_iret C hr (Nat.le_of_ble_eq_true rfl) (Nat.le_of_ble_eq_true rfl) dX10_contentOf_2 (⟨rfl, rfl, rfl⟩)
set_option maxHeartbeats 4000000 in
set_option maxRecDepth 100000 in
theorem c_X4_returnedKind (l : Launch) (D : va_G) (cy : Nat → ClassId) {σ : pzS} {M : pzM}  (h : pz_sh σ)  : pz_Met l yX4_returnedKind cX4_returnedKind 1 (some .int) 1 21 0 0 D cy σ M [.ref 28] (fun r σ' M' => r = some (.int (kdOf (M.2 28 9))) ∧ σ' = σ ∧ M' = M) := by
  refine pz_ofW (by decide) (Nat.le_of_ble_eq_true rfl) (fun p e s m args below meth c ad A C hr hnm => ?_)
  refine pz_aload_n C 0 dX4_returnedKind_0 rfl ?_
  refine pz_getJ C (ci := 3) (k := 9) gwX4 rfl (Nat.le_of_ble_eq_true rfl) fl_X4_32 (shL h 28 rfl) (shK h 28 rfl rfl) rfl dX4_returnedKind_1 ?_
  refine pz_callSN C (As := [_]) (c_X10_kindOf l D cy h) wB_yX10_kindOf (show (RX4, 60, yX10_kindOf, "FeatureDesugarer") ∈ pz_nests by decide +kernel) sm_yX10_kindOf rfl rfl (Nat.le_of_ble_eq_true rfl) ⟨(Nat.le_of_ble_eq_true rfl), (Nat.le_of_ble_eq_true rfl)⟩ ⟨(Nat.le_of_ble_eq_true rfl), (Nat.le_of_ble_eq_true rfl)⟩ dX4_returnedKind_4 (Nat.le_refl _) (True.intro) (And.intro (shL h 28 rfl) (True.intro)) (fun r4 σ4 M4 hp4 => ?_)
  obtain ⟨rfl, rfl, rfl⟩ := hp4
  exact pz_iret C hr (Nat.le_of_ble_eq_true rfl) (Nat.le_of_ble_eq_true rfl) dX4_returnedKind_7 (⟨rfl, rfl, rfl⟩)
set_option maxHeartbeats 4000000 in
set_option maxRecDepth 100000 in
theorem c_X4_returnedNumber (l : Launch) (D : va_G) (cy : Nat → ClassId) {σ : pzS} {M : pzM}  (h : pz_sh σ)  : pz_Met l yX4_returnedNumber cX4_returnedNumber 1 (some .int) 2 41 0 0 D cy σ M [.ref 28] (fun r σ' M' => r = some (.int (if kdOf (M.2 28 9) = 1 then (M.2 28 9).toInt32 else 0)) ∧ σ' = σ ∧ M' = M) := by
  refine pz_ofW (by decide) (Nat.le_of_ble_eq_true rfl) (fun p e s m args below meth c ad A C hr hnm => ?_)
  refine pz_aload_n C 0 dX4_returnedNumber_0 rfl ?_
  refine pz_callV C (As := []) (b := 28) (c_X4_returnedKind l D cy h) wB_yX4_returnedKind ml_X4_64 im_yX4_returnedKind se_yX4_returnedKind (ci := 3) rfl (shL h 28 rfl) (shK h 28 rfl rfl) rfl rfl (Nat.le_of_ble_eq_true rfl) ⟨(Nat.le_of_ble_eq_true rfl), (Nat.le_of_ble_eq_true rfl)⟩ ⟨(Nat.le_of_ble_eq_true rfl), (Nat.le_of_ble_eq_true rfl)⟩ dX4_returnedNumber_1 (Nat.le_refl _) (True.intro) (And.intro (shL h 28 rfl) (True.intro)) (fun r1 σ1 M1 hp1 => ?_)
  obtain ⟨rfl, rfl, rfl⟩ := hp1
  refine pz_iconst C (v := 1) dX4_returnedNumber_4 (by decide) ?_
  refine pz_icmp_ne (tgt := 18) C dX4_returnedNumber_5 (by decide) (fun h5 => ?_) (fun h5 => ?_)
  · refine pz_iconst C (v := 0) dX4_returnedNumber_18 (by decide) ?_
    exact pz_iret C hr (Nat.le_of_ble_eq_true rfl) (Nat.le_of_ble_eq_true rfl) dX4_returnedNumber_19 (⟨by first | exact pz_iff1 h5 | exact pz_iff0 h5, rfl, rfl⟩)
  · refine pz_aload_n C 0 dX4_returnedNumber_8 rfl ?_
    refine pz_getJ C (ci := 3) (k := 9) gwX4 rfl (Nat.le_of_ble_eq_true rfl) fl_X4_32 (shL h 28 rfl) (shK h 28 rfl rfl) rfl dX4_returnedNumber_9 ?_
    refine pz_callSN C (As := [_]) (c_X10_contentOf l D cy h) wB_yX10_contentOf (show (RX4, 67, yX10_contentOf, "FeatureDesugarer") ∈ pz_nests by decide +kernel) sm_yX10_contentOf rfl rfl (Nat.le_of_ble_eq_true rfl) ⟨(Nat.le_of_ble_eq_true rfl), (Nat.le_of_ble_eq_true rfl)⟩ ⟨(Nat.le_of_ble_eq_true rfl), (Nat.le_of_ble_eq_true rfl)⟩ dX4_returnedNumber_12 (Nat.le_refl _) (True.intro) (And.intro (shL h 28 rfl) (True.intro)) (fun r12 σ12 M12 hp12 => ?_)
    obtain ⟨rfl, rfl, rfl⟩ := hp12
    refine pz_goto (tgt := 19) C dX4_returnedNumber_15 (by decide) ?_
    exact pz_iret C hr (Nat.le_of_ble_eq_true rfl) (Nat.le_of_ble_eq_true rfl) dX4_returnedNumber_19 (⟨by first | exact pz_iff1 h5 | exact pz_iff0 h5, rfl, rfl⟩)
set_option maxHeartbeats 4000000 in
set_option maxRecDepth 100000 in
theorem c_X6_hasFunction (l : Launch) (D : va_G) (cy : Nat → ClassId) {σ : pzS} {M : pzM} {f : Int32} (h : pz_sh σ)  : pz_Met l yX6_hasFunction cX6_hasFunction 2 (some .boolean) 0 0 0 0 D cy σ M [.ref 1, .int f] (fun r σ' M' => r = some (.int (hasF M f)) ∧ σ' = σ ∧ M' = M) := by
  refine pz_ofW (by decide) (Nat.le_of_ble_eq_true rfl) (fun p e s m args below meth c ad A C hr hnm => ?_)
  refine pz_iload_n C 1 dX6_hasFunction_0 rfl ?_
  refine pz_if_lt (tgt := 16) C dX6_hasFunction_1 (by decide) (fun h1 => ?_) (fun h1 => ?_)
  · refine pz_iconst C (v := 0) dX6_hasFunction_16 (by decide) ?_
    exact pz_zret C hr rfl (Nat.le_of_ble_eq_true rfl) (Nat.le_of_ble_eq_true rfl) dX6_hasFunction_17 (⟨by unfold hasF; simp only [*, if_true, if_false], rfl, rfl⟩)
  · refine pz_iload_n C 1 dX6_hasFunction_4 rfl ?_
    refine pz_aload_n C 0 dX6_hasFunction_5 rfl ?_
    refine pz_getI C (ci := 5) (k := 6) gwX6 rfl (Nat.le_of_ble_eq_true rfl) fl_X6_34 (shL h 1 rfl) (shK h 1 rfl rfl) rfl dX6_hasFunction_6 ?_
    refine pz_icmp_ge (tgt := 16) C dX6_hasFunction_9 (by decide) (fun h9 => ?_) (fun h9 => ?_)
    · refine pz_iconst C (v := 0) dX6_hasFunction_16 (by decide) ?_
      exact pz_zret C hr rfl (Nat.le_of_ble_eq_true rfl) (Nat.le_of_ble_eq_true rfl) dX6_hasFunction_17 (⟨by unfold hasF; simp only [*, if_true, if_false], rfl, rfl⟩)
    · refine pz_iconst C (v := 1) dX6_hasFunction_12 (by decide) ?_
      refine pz_goto (tgt := 17) C dX6_hasFunction_13 (by decide) ?_
      exact pz_zret C hr rfl (Nat.le_of_ble_eq_true rfl) (Nat.le_of_ble_eq_true rfl) dX6_hasFunction_17 (⟨by unfold hasF; simp only [*, if_true, if_false], rfl, rfl⟩)
set_option maxHeartbeats 4000000 in
set_option maxRecDepth 100000 in
theorem c_X6_addFunction (l : Launch) (D : va_G) (cy : Nat → ClassId) {σ : pzS} {M : pzM} {n : Int32} (h : pz_sh σ) (hf : vp_in (M.1 1 6) 12) : pz_Met l yX6_addFunction cX6_addFunction 2 (some .int) 0 0 0 0 D cy σ M [.ref 1, .int n] (fun r σ' M' => r = some (.int (M.1 1 6 + 1 - 1)) ∧ σ' = σ ∧ M' = (pz_u (pz_u M.1 8 (M.1 1 6).toNatClampNeg n) 1 6 (M.1 1 6 + 1), M.2)) := by
  refine pz_ofW (by decide) (Nat.le_of_ble_eq_true rfl) (fun p e s m args below meth c ad A C hr hnm => ?_)
  refine pz_aload_n C 0 dX6_addFunction_0 rfl ?_
  refine pz_getR C (ci := 5) (k := 1) gwX6 rfl (Nat.le_of_ble_eq_true rfl) fl_X6_18 (shL h 1 rfl) (shK h 1 rfl rfl) rfl (shR h 1 1 8 rfl rfl rfl) dX6_addFunction_1 ?_
  refine pz_aload_n C 0 dX6_addFunction_4 rfl ?_
  refine pz_getI C (ci := 5) (k := 6) gwX6 rfl (Nat.le_of_ble_eq_true rfl) fl_X6_34 (shL h 1 rfl) (shK h 1 rfl rfl) rfl dX6_addFunction_5 ?_
  refine pz_iload_n C 1 dX6_addFunction_8 rfl ?_
  refine pz_iast C (shL h 8 rfl) (shK h 8 rfl rfl) (shB h 8 rfl rfl hf) dX6_addFunction_9 ?_
  refine pz_aload_n C 0 dX6_addFunction_10 rfl ?_
  refine pz_dup C dX6_addFunction_11 rfl ?_
  refine pz_getI C (ci := 5) (k := 6) gwX6 rfl (Nat.le_of_ble_eq_true rfl) fl_X6_34 (shL h 1 rfl) (shK h 1 rfl rfl) rfl dX6_addFunction_12 ?_
  refine pz_iconst C (v := 1) dX6_addFunction_15 (by decide) ?_
  refine pz_iadd C dX6_addFunction_16 ?_
  refine pz_putI C (ci := 5) (k := 6) gwX6 rfl (Nat.le_of_ble_eq_true rfl) fl_X6_34 (shL h 1 rfl) (shK h 1 rfl rfl) tyX6_ok nmX6 rfl rfl (by decide +kernel) dX6_addFunction_17 ?_
  refine pz_aload_n C 0 dX6_addFunction_20 rfl ?_
  refine pz_getI C (ci := 5) (k := 6) gwX6 rfl (Nat.le_of_ble_eq_true rfl) fl_X6_34 (shL h 1 rfl) (shK h 1 rfl rfl) rfl dX6_addFunction_21 ?_
  refine pz_iconst C (v := 1) dX6_addFunction_24 (by decide) ?_
  refine pz_isub C dX6_addFunction_25 ?_
  exact pz_iret C hr (Nat.le_of_ble_eq_true rfl) (Nat.le_of_ble_eq_true rfl) dX6_addFunction_26 (⟨by simp [pz_u_eq, pz_u_ne], rfl, by simp [pz_u_eq, pz_u_ne]⟩)
