theorem pz_fc_u {M : pzM} {i k : Nat} (z : pz_fc M) : pz_fc (pz_u M.1 i k 0, M.2) := fun j hj => ⟨fun b => by
  by_cases h : j = i ∧ b = k
  · obtain ⟨rfl, rfl⟩ := h; exact pz_u_eq _ _ _ _
  · exact (pz_u_ne _ _ (by by_cases ha : j = i <;> simp_all)).trans ((z j hj).1 b), (z j hj).2⟩
theorem kdOf_0 : kdOf 0 = 0 := by decide
set_option maxHeartbeats 4000000 in
set_option maxRecDepth 100000 in
theorem c_X5_make (l : Launch) (D : va_G) (cy : Nat → ClassId) {σ : pzS} {M : pzM}  (h : pz_sh σ) (z : pz_fc M) : pz_Met l yX5_make cX5_make 3 (some .int) 1 20 0 0 D cy σ M [.ref 16] (fun r σ' M' => r = some (.int 0) ∧ σ' = σ ∧ pz_ag M M') := by
  refine pz_ofW (by decide) (Nat.le_of_ble_eq_true rfl) (fun p e s m args below meth c ad A C hr hnm => ?_)
  refine pz_aload_n C 0 dX5_make_0 rfl ?_
  refine pz_getR C (ci := 4) (k := 2) gwX5 rfl (Nat.le_of_ble_eq_true rfl) fl_X5_12 (shL h 16 rfl) (shK h 16 rfl rfl) rfl (shR h 16 2 17 rfl rfl rfl) dX5_make_1 ?_
  refine pz_callV C (As := []) (b := 17) (c_X3_clear l D cy h) wB_yX3_clear ml_X5_73 im_yX3_clear se_yX3_clear (ci := 2) rfl (shL h 17 rfl) (shK h 17 rfl rfl) rfl rfl (Nat.le_of_ble_eq_true rfl) ⟨(Nat.le_of_ble_eq_true rfl), (Nat.le_of_ble_eq_true rfl)⟩ ⟨(Nat.le_of_ble_eq_true rfl), (Nat.le_of_ble_eq_true rfl)⟩ dX5_make_4 (Nat.le_refl _) (True.intro) (And.intro (shL h 16 rfl) (True.intro)) (fun r4 σ4 M4 hp4 => ?_)
  obtain ⟨rfl, rfl, rfl⟩ := hp4
  refine pz_aload_n C 0 dX5_make_7 rfl ?_
  refine pz_iconst C (v := 0) dX5_make_8 (by decide) ?_
  refine pz_putI C (ci := 4) (k := 9) gwX5 rfl (Nat.le_of_ble_eq_true rfl) fl_X5_49 (shL h 16 rfl) (shK h 16 rfl rfl) tyX5_ok nmX5 rfl rfl (by decide +kernel) dX5_make_9 ?_
  refine pz_iconst C (v := 0) dX5_make_12 (by decide) ?_
  refine pz_topi (fun x1_13 e1_13 => ?_)
  refine pz_istore_n (loc' := [(1, .int x1_13), (0, .ref (16))]) C dX5_make_13 (by decide) rfl ?_
  subst e1_13
  refine pz_iload_n C 0 dX5_make_14 rfl ?_
  refine pz_aload_n C 1 dX5_make_15 rfl ?_
  refine pz_getR C (ci := 4) (k := 0) gwX5 rfl (Nat.le_of_ble_eq_true rfl) fl_X5_37 (shL h 16 rfl) (shK h 16 rfl rfl) rfl (shR h 16 0 1 rfl rfl rfl) dX5_make_16 ?_
  refine pz_callV C (As := []) (b := 1) (c_X6_functionTotal l D cy h) wB_yX6_functionTotal ml_X5_53 im_yX6_functionTotal se_yX6_functionTotal (ci := 5) rfl (shL h 1 rfl) (shK h 1 rfl rfl) rfl rfl (Nat.le_of_ble_eq_true rfl) ⟨(Nat.le_of_ble_eq_true rfl), (Nat.le_of_ble_eq_true rfl)⟩ ⟨(Nat.le_of_ble_eq_true rfl), (Nat.le_of_ble_eq_true rfl)⟩ dX5_make_19 (Nat.le_refl _) (And.intro True.intro (True.intro)) (And.intro True.intro (And.intro (shL h 16 rfl) (True.intro))) (fun r19 σ19 M19 hp19 => ?_)
  obtain ⟨rfl, rfl, rfl⟩ := hp19
  refine pz_icmp_ge (tgt := 36) C dX5_make_22 (by decide) (fun h22 => ?_) (fun h22 => ?_)
  · refine pz_aload_n C 1 dX5_make_36 rfl ?_
    refine pz_getR C (ci := 4) (k := 2) gwX5 rfl (Nat.le_of_ble_eq_true rfl) fl_X5_12 (shL h 16 rfl) (shK h 16 rfl rfl) rfl (shR h 16 2 17 rfl rfl rfl) dX5_make_37 ?_
    refine pz_callV C (As := []) (b := 17) (c_X3_length l D cy h) wB_yX3_length ml_X5_80 im_yX3_length se_yX3_length (ci := 2) rfl (shL h 17 rfl) (shK h 17 rfl rfl) rfl rfl (Nat.le_of_ble_eq_true rfl) ⟨(Nat.le_of_ble_eq_true rfl), (Nat.le_of_ble_eq_true rfl)⟩ ⟨(Nat.le_of_ble_eq_true rfl), (Nat.le_of_ble_eq_true rfl)⟩ dX5_make_40 (Nat.le_refl _) (True.intro) (And.intro True.intro (And.intro (shL h 16 rfl) (True.intro))) (fun r40 σ40 M40 hp40 => ?_)
    obtain ⟨rfl, rfl, rfl⟩ := hp40
    refine pz_topi (fun x1_43 e1_43 => ?_)
    refine pz_istore_n (loc' := [(1, .int x1_43), (0, .ref (16))]) C dX5_make_43 (by decide) rfl ?_
    refine pz_iconst C (v := 0) dX5_make_44 (by decide) ?_
    refine pz_topi (fun x2_45 e2_45 => ?_)
    refine pz_istore_n (loc' := [(2, .int x2_45), (1, .int x1_43), (0, .ref (16))]) C dX5_make_45 (by decide) rfl ?_
    subst e2_45
    refine pz_iload_n C 0 dX5_make_46 rfl ?_
    refine pz_aload_n C 2 dX5_make_47 rfl ?_
    refine pz_getI C (ci := 4) (k := 9) gwX5 rfl (Nat.le_of_ble_eq_true rfl) fl_X5_49 (shL h 16 rfl) (shK h 16 rfl rfl) rfl dX5_make_48 ?_
    refine pz_icmp_ge (tgt := 65) C dX5_make_51 (by decide) (fun h51 => ?_) (fun h51 => ?_)
    · refine pz_aload_n C 2 dX5_make_65 rfl ?_
      refine pz_iconst C (v := 1) dX5_make_66 (by decide) ?_
      refine pz_putIZ C (ci := 4) (k := 10) gwX5 rfl (Nat.le_of_ble_eq_true rfl) fl_X5_45 (shL h 16 rfl) (shK h 16 rfl rfl) tyX5_ok nmX5 rfl rfl (by decide +kernel) rfl rfl dX5_make_67 ?_
      refine pz_iload_n C 1 dX5_make_70 rfl ?_
      exact pz_iret C hr (Nat.le_of_ble_eq_true rfl) (Nat.le_of_ble_eq_true rfl) dX5_make_71 (⟨by rw [e1_43, (pz_fc_u (pz_fc_u z) 17 (by decide)).1 4], rfl, pz_ag_u (M' := (pz_u (pz_u M.1 17 4 0) 16 9 0, M.2)) (pz_ag_u (M' := (pz_u M.1 17 4 0, M.2)) (pz_ag_u (pz_ag_rf _) rfl) rfl) rfl⟩)
    · exact (h51 (by rw [(pz_fc_u (pz_fc_u z) 16 (by decide)).1 9]; decide)).elim
  · exact (h22 (by rw [(pz_fc_u (pz_fc_u z) 1 (by decide)).1 6]; decide)).elim
set_option maxHeartbeats 4000000 in
set_option maxRecDepth 100000 in
theorem c_X10_lower (l : Launch) (D : va_G) (cy : Nat → ClassId) {σ : pzS} {M : pzM}  (h : pz_sh σ) (z : pz_fc M) : pz_Met l yX10_lower cX10_lower 1 (some .int) 2 42 0 0 D cy σ M [.ref 0] (fun r σ' M' => r = some (.int 0) ∧ σ' = σ ∧ pz_ag M M') := by
  refine pz_ofW (by decide) (Nat.le_of_ble_eq_true rfl) (fun p e s m args below meth c ad A C hr hnm => ?_)
  refine pz_aload_n C 0 dX10_lower_0 rfl ?_
  refine pz_callV C (As := []) (b := 0) (c_X10_check l D cy h z) wB_yX10_check ml_X10_91 im_yX10_check se_yX10_check (ci := 9) rfl (shL h 0 rfl) (shK h 0 rfl rfl) rfl rfl (Nat.le_of_ble_eq_true rfl) ⟨(Nat.le_of_ble_eq_true rfl), (Nat.le_of_ble_eq_true rfl)⟩ ⟨(Nat.le_of_ble_eq_true rfl), (Nat.le_of_ble_eq_true rfl)⟩ dX10_lower_1 (Nat.le_refl _) (True.intro) (And.intro (shL h 0 rfl) (True.intro)) (fun r1 σ1 M1 hp1 => ?_)
  obtain ⟨rfl, rfl, rfl⟩ := hp1
  refine pz_iconst C (v := -1) dX10_lower_4 (by decide) ?_
  refine pz_icmp_ne (tgt := 18) C dX10_lower_5 (by decide) (fun h5 => ?_) (fun h5 => ?_)
  · exact absurd rfl h5
  · refine pz_aload_n C 0 dX10_lower_8 rfl ?_
    refine pz_getR C (ci := 9) (k := 2) gwX10 rfl (Nat.le_of_ble_eq_true rfl) fl_X10_30 (shL h 0 rfl) (shK h 0 rfl rfl) rfl (shR h 0 2 16 rfl rfl rfl) dX10_lower_9 ?_
    refine pz_callV C (As := []) (b := 16) (c_X5_make l D cy h z) wB_yX5_make ml_X10_94 im_yX5_make se_yX5_make (ci := 4) rfl (shL h 16 rfl) (shK h 16 rfl rfl) rfl rfl (Nat.le_of_ble_eq_true rfl) ⟨(Nat.le_of_ble_eq_true rfl), (Nat.le_of_ble_eq_true rfl)⟩ ⟨(Nat.le_of_ble_eq_true rfl), (Nat.le_of_ble_eq_true rfl)⟩ dX10_lower_12 (Nat.le_refl _) (True.intro) (And.intro (shL h 0 rfl) (True.intro)) (fun r12 σ12 M12 hp12 => ?_)
    obtain ⟨rfl, rfl, hag⟩ := hp12
    refine pz_goto (tgt := 19) C dX10_lower_15 (by decide) ?_
    exact pz_iret C hr (Nat.le_of_ble_eq_true rfl) (Nat.le_of_ble_eq_true rfl) dX10_lower_19 (⟨rfl, rfl, hag⟩)
set_option maxHeartbeats 4000000 in
set_option maxRecDepth 100000 in
theorem c_X10_count (l : Launch) (D : va_G) (cy : Nat → ClassId) {σ : pzS} {M : pzM} {w : Int32} (h : pz_sh σ) (z : pz_fc M) (hl0 : l.stackTraces = false) : pz_MetX l yX10_count cX10_count 2 (some .int) 6 91 1 6 D cy σ M [.ref 0, .int w] (fun r σ' M' => r = some (.int 0) ∧ (w = 0 ∨ w = 1) ∧ σ' = σ ∧ M' = M) (fun E σ' M' => (E = sIA ∧ (w < 0 ∨ ¬ w ≤ 3) ∨ E = sIS ∧ ¬ (w < 0 ∨ ¬ w ≤ 3) ∧ w ≠ 0 ∧ w ≠ 1) ∧ σ' = σ ∧ M' = M) := by
  refine pz_ofWX (by decide) (Nat.le_of_ble_eq_true rfl) (fun p e s m args below meth c ad A C hr hZ hno => ?_)
  refine pz_iload_n C 1 dX10_count_0 rfl ?_
  refine pz_if_lt (tgt := 9) C dX10_count_1 (by decide) (fun h1 => ?_) (fun h1 => ?_)
  · exact pz_throw0 C hl0 hZ hno dX10_count_9 dX10_count_12 dX10_count_13 dX10_count_16 tf_IA tn_IA tw_IA (Nat.le_of_ble_eq_true rfl) (Nat.le_of_ble_eq_true rfl) (Nat.le_of_ble_eq_true rfl) (Nat.le_of_ble_eq_true rfl) (Nat.le_of_ble_eq_true rfl) (Nat.le_of_ble_eq_true rfl) (⟨Or.inl ⟨rfl, by first | exact Or.inl h1 | exact Or.inr h6⟩, rfl, rfl⟩)
  · refine pz_iload_n C 1 dX10_count_4 rfl ?_
    refine pz_iconst C (v := 3) dX10_count_5 (by decide) ?_
    refine pz_icmp_le (tgt := 17) C dX10_count_6 (by decide) (fun h6 => ?_) (fun h6 => ?_)
    · refine pz_iload_n C 1 dX10_count_17 rfl ?_
      refine pz_if_ne (tgt := 29) C dX10_count_18 (by decide) (fun h18 => ?_) (fun h18 => ?_)
      · refine pz_iload_n C 1 dX10_count_29 rfl ?_
        refine pz_iconst C (v := 1) dX10_count_30 (by decide) ?_
        refine pz_icmp_ne (tgt := 45) C dX10_count_31 (by decide) (fun h31 => ?_) (fun h31 => ?_)
        · refine pz_aload_n C 0 dX10_count_45 rfl ?_
          refine pz_getR C (ci := 9) (k := 2) gwX10 rfl (Nat.le_of_ble_eq_true rfl) fl_X10_30 (shL h 0 rfl) (shK h 0 rfl rfl) rfl (shR h 0 2 16 rfl rfl rfl) dX10_count_46 ?_
          refine pz_callV C (As := []) (b := 16) (c_X5_isMade l D cy h (by rw [(z 16 (by decide)).1 10]; rfl)) wB_yX5_isMade ml_X10_97 im_yX5_isMade se_yX5_isMade (ci := 4) rfl (shL h 16 rfl) (shK h 16 rfl rfl) rfl rfl (Nat.le_of_ble_eq_true rfl) ⟨(Nat.le_of_ble_eq_true rfl), (Nat.le_of_ble_eq_true rfl)⟩ ⟨(Nat.le_of_ble_eq_true rfl), (Nat.le_of_ble_eq_true rfl)⟩ dX10_count_49 (Nat.le_refl _) (True.intro) (And.intro (shL h 0 rfl) (And.intro True.intro (True.intro))) (fun r49 σ49 M49 hp49 => ?_)
          obtain ⟨rfl, rfl, rfl⟩ := hp49
          refine pz_if_ne (tgt := 63) C dX10_count_52 (by decide) (fun h52 => ?_) (fun h52 => ?_)
          · exact absurd ((z 16 (by decide)).1 10) h52
          · exact pz_throw0 C hl0 hZ hno dX10_count_55 dX10_count_58 dX10_count_59 dX10_count_62 tf_IS tn_IS tw_IS (Nat.le_of_ble_eq_true rfl) (Nat.le_of_ble_eq_true rfl) (Nat.le_of_ble_eq_true rfl) (Nat.le_of_ble_eq_true rfl) (Nat.le_of_ble_eq_true rfl) (Nat.le_of_ble_eq_true rfl) (⟨Or.inr ⟨rfl, fun q => q.elim h1 (fun q2 => q2 h6), h18, h31⟩, rfl, rfl⟩)
        · refine pz_aload_n C 0 dX10_count_34 rfl ?_
          refine pz_getR C (ci := 9) (k := 0) gwX10 rfl (Nat.le_of_ble_eq_true rfl) fl_X10_12 (shL h 0 rfl) (shK h 0 rfl rfl) rfl (shR h 0 0 1 rfl rfl rfl) dX10_count_35 ?_
          refine pz_callV C (As := []) (b := 1) (c_X6_recipes l D cy h) wB_yX6_recipes ml_X10_77 im_yX6_recipes se_yX6_recipes (ci := 5) rfl (shL h 1 rfl) (shK h 1 rfl rfl) rfl rfl (Nat.le_of_ble_eq_true rfl) ⟨(Nat.le_of_ble_eq_true rfl), (Nat.le_of_ble_eq_true rfl)⟩ ⟨(Nat.le_of_ble_eq_true rfl), (Nat.le_of_ble_eq_true rfl)⟩ dX10_count_38 (Nat.le_refl _) (True.intro) (And.intro (shL h 0 rfl) (And.intro True.intro (True.intro))) (fun r38 σ38 M38 hp38 => ?_)
          obtain ⟨rfl, rfl, rfl⟩ := hp38
          refine pz_callV C (As := []) (b := 2) (c_X7_total l D cy h) wB_yX7_total ml_X10_81 im_yX7_total se_yX7_total (ci := 6) rfl (shL h 2 rfl) (shK h 2 rfl rfl) rfl rfl (Nat.le_of_ble_eq_true rfl) ⟨(Nat.le_of_ble_eq_true rfl), (Nat.le_of_ble_eq_true rfl)⟩ ⟨(Nat.le_of_ble_eq_true rfl), (Nat.le_of_ble_eq_true rfl)⟩ dX10_count_41 (Nat.le_refl _) (True.intro) (And.intro (shL h 0 rfl) (And.intro True.intro (True.intro))) (fun r41 σ41 M41 hp41 => ?_)
          obtain ⟨rfl, rfl, rfl⟩ := hp41
          exact pz_retX (pz_iret C hr (Nat.le_of_ble_eq_true rfl) (Nat.le_of_ble_eq_true rfl) dX10_count_44 (⟨by rw [(z 2 (by decide)).1 5], Or.inr h31, rfl, rfl⟩))
      · refine pz_aload_n C 0 dX10_count_21 rfl ?_
        refine pz_getR C (ci := 9) (k := 0) gwX10 rfl (Nat.le_of_ble_eq_true rfl) fl_X10_12 (shL h 0 rfl) (shK h 0 rfl rfl) rfl (shR h 0 0 1 rfl rfl rfl) dX10_count_22 ?_
        refine pz_callV C (As := []) (b := 1) (c_X6_functionTotal l D cy h) wB_yX6_functionTotal ml_X10_46 im_yX6_functionTotal se_yX6_functionTotal (ci := 5) rfl (shL h 1 rfl) (shK h 1 rfl rfl) rfl rfl (Nat.le_of_ble_eq_true rfl) ⟨(Nat.le_of_ble_eq_true rfl), (Nat.le_of_ble_eq_true rfl)⟩ ⟨(Nat.le_of_ble_eq_true rfl), (Nat.le_of_ble_eq_true rfl)⟩ dX10_count_25 (Nat.le_refl _) (True.intro) (And.intro (shL h 0 rfl) (And.intro True.intro (True.intro))) (fun r25 σ25 M25 hp25 => ?_)
        obtain ⟨rfl, rfl, rfl⟩ := hp25
        exact pz_retX (pz_iret C hr (Nat.le_of_ble_eq_true rfl) (Nat.le_of_ble_eq_true rfl) dX10_count_28 (⟨by rw [(z 1 (by decide)).1 6], Or.inl h18, rfl, rfl⟩))
    · exact pz_throw0 C hl0 hZ hno dX10_count_9 dX10_count_12 dX10_count_13 dX10_count_16 tf_IA tn_IA tw_IA (Nat.le_of_ble_eq_true rfl) (Nat.le_of_ble_eq_true rfl) (Nat.le_of_ble_eq_true rfl) (Nat.le_of_ble_eq_true rfl) (Nat.le_of_ble_eq_true rfl) (Nat.le_of_ble_eq_true rfl) (⟨Or.inl ⟨rfl, by first | exact Or.inl h1 | exact Or.inr h6⟩, rfl, rfl⟩)
set_option maxHeartbeats 4000000 in
set_option maxRecDepth 100000 in
theorem c_X10_made (l : Launch) (D : va_G) (cy : Nat → ClassId) {σ : pzS} {M : pzM} {c0 : Int32} {w : Int32} (h : pz_sh σ) (z : pz_fc M) (hl0 : l.stackTraces = false) : pz_MetX l yX10_made cX10_made 3 (some .int) 6 91 1 6 D cy σ M [.ref 0, .int c0, .int w] (fun r σ' M' => False) (fun E σ' M' => (E = sIA ∧ (c0 < 0 ∨ w < 0 ∨ ¬ w ≤ 2) ∨ E = sIS ∧ ¬ (c0 < 0 ∨ w < 0 ∨ ¬ w ≤ 2)) ∧ σ' = σ ∧ M' = M) := by
  refine pz_ofWX (by decide) (Nat.le_of_ble_eq_true rfl) (fun p e s m args below meth c ad A C hr hZ hno => ?_)
  refine pz_iload_n C 1 dX10_made_0 rfl ?_
  refine pz_if_lt (tgt := 13) C dX10_made_1 (by decide) (fun h1 => ?_) (fun h1 => ?_)
  · exact pz_throw0 C hl0 hZ hno dX10_made_13 dX10_made_16 dX10_made_17 dX10_made_20 tf_IA tn_IA tw_IA (Nat.le_of_ble_eq_true rfl) (Nat.le_of_ble_eq_true rfl) (Nat.le_of_ble_eq_true rfl) (Nat.le_of_ble_eq_true rfl) (Nat.le_of_ble_eq_true rfl) (Nat.le_of_ble_eq_true rfl) (⟨Or.inl ⟨rfl, by first | exact Or.inl h1 | exact Or.inr (Or.inl h5) | exact Or.inr (Or.inr h10)⟩, rfl, rfl⟩)
  · refine pz_iload_n C 2 dX10_made_4 rfl ?_
    refine pz_if_lt (tgt := 13) C dX10_made_5 (by decide) (fun h5 => ?_) (fun h5 => ?_)
    · exact pz_throw0 C hl0 hZ hno dX10_made_13 dX10_made_16 dX10_made_17 dX10_made_20 tf_IA tn_IA tw_IA (Nat.le_of_ble_eq_true rfl) (Nat.le_of_ble_eq_true rfl) (Nat.le_of_ble_eq_true rfl) (Nat.le_of_ble_eq_true rfl) (Nat.le_of_ble_eq_true rfl) (Nat.le_of_ble_eq_true rfl) (⟨Or.inl ⟨rfl, by first | exact Or.inl h1 | exact Or.inr (Or.inl h5) | exact Or.inr (Or.inr h10)⟩, rfl, rfl⟩)
    · refine pz_iload_n C 2 dX10_made_8 rfl ?_
      refine pz_iconst C (v := 2) dX10_made_9 (by decide) ?_
      refine pz_icmp_le (tgt := 21) C dX10_made_10 (by decide) (fun h10 => ?_) (fun h10 => ?_)
      · refine pz_aload_n C 0 dX10_made_21 rfl ?_
        refine pz_getR C (ci := 9) (k := 2) gwX10 rfl (Nat.le_of_ble_eq_true rfl) fl_X10_30 (shL h 0 rfl) (shK h 0 rfl rfl) rfl (shR h 0 2 16 rfl rfl rfl) dX10_made_22 ?_
        refine pz_callV C (As := []) (b := 16) (c_X5_isMade l D cy h (by rw [(z 16 (by decide)).1 10]; rfl)) wB_yX5_isMade ml_X10_97 im_yX5_isMade se_yX5_isMade (ci := 4) rfl (shL h 16 rfl) (shK h 16 rfl rfl) rfl rfl (Nat.le_of_ble_eq_true rfl) ⟨(Nat.le_of_ble_eq_true rfl), (Nat.le_of_ble_eq_true rfl)⟩ ⟨(Nat.le_of_ble_eq_true rfl), (Nat.le_of_ble_eq_true rfl)⟩ dX10_made_25 (Nat.le_refl _) (True.intro) (And.intro (shL h 0 rfl) (And.intro True.intro (And.intro True.intro (True.intro)))) (fun r25 σ25 M25 hp25 => ?_)
        obtain ⟨rfl, rfl, rfl⟩ := hp25
        refine pz_if_ne (tgt := 39) C dX10_made_28 (by decide) (fun h28 => ?_) (fun h28 => ?_)
        · exact absurd ((z 16 (by decide)).1 10) h28
        · exact pz_throw0 C hl0 hZ hno dX10_made_31 dX10_made_34 dX10_made_35 dX10_made_38 tf_IS tn_IS tw_IS (Nat.le_of_ble_eq_true rfl) (Nat.le_of_ble_eq_true rfl) (Nat.le_of_ble_eq_true rfl) (Nat.le_of_ble_eq_true rfl) (Nat.le_of_ble_eq_true rfl) (Nat.le_of_ble_eq_true rfl) (⟨Or.inr ⟨rfl, fun q => q.elim h1 (fun q2 => q2.elim h5 (fun q3 => q3 h10))⟩, rfl, rfl⟩)
      · exact pz_throw0 C hl0 hZ hno dX10_made_13 dX10_made_16 dX10_made_17 dX10_made_20 tf_IA tn_IA tw_IA (Nat.le_of_ble_eq_true rfl) (Nat.le_of_ble_eq_true rfl) (Nat.le_of_ble_eq_true rfl) (Nat.le_of_ble_eq_true rfl) (Nat.le_of_ble_eq_true rfl) (Nat.le_of_ble_eq_true rfl) (⟨Or.inl ⟨rfl, by first | exact Or.inl h1 | exact Or.inr (Or.inl h5) | exact Or.inr (Or.inr h10)⟩, rfl, rfl⟩)
set_option maxHeartbeats 4000000 in
set_option maxRecDepth 100000 in
theorem c_X10_character (l : Launch) (D : va_G) (cy : Nat → ClassId) {σ : pzS} {M : pzM} {k : Int32} (h : pz_sh σ) (z : pz_fc M) (hl0 : l.stackTraces = false) : pz_MetX l yX10_character cX10_character 2 (some .int) 6 91 1 6 D cy σ M [.ref 0, .int k] (fun r σ' M' => False) (fun E σ' M' => (E = sIA ∧ ¬ 0 ≤ k ∨ E = sIS ∧ 0 ≤ k) ∧ σ' = σ ∧ M' = M) := by
  refine pz_ofWX (by decide) (Nat.le_of_ble_eq_true rfl) (fun p e s m args below meth c ad A C hr hZ hno => ?_)
  refine pz_iload_n C 1 dX10_character_0 rfl ?_
  refine pz_if_ge (tgt := 12) C dX10_character_1 (by decide) (fun h1 => ?_) (fun h1 => ?_)
  · refine pz_aload_n C 0 dX10_character_12 rfl ?_
    refine pz_getR C (ci := 9) (k := 2) gwX10 rfl (Nat.le_of_ble_eq_true rfl) fl_X10_30 (shL h 0 rfl) (shK h 0 rfl rfl) rfl (shR h 0 2 16 rfl rfl rfl) dX10_character_13 ?_
    refine pz_callV C (As := []) (b := 16) (c_X5_isMade l D cy h (by rw [(z 16 (by decide)).1 10]; rfl)) wB_yX5_isMade ml_X10_97 im_yX5_isMade se_yX5_isMade (ci := 4) rfl (shL h 16 rfl) (shK h 16 rfl rfl) rfl rfl (Nat.le_of_ble_eq_true rfl) ⟨(Nat.le_of_ble_eq_true rfl), (Nat.le_of_ble_eq_true rfl)⟩ ⟨(Nat.le_of_ble_eq_true rfl), (Nat.le_of_ble_eq_true rfl)⟩ dX10_character_16 (Nat.le_refl _) (True.intro) (And.intro (shL h 0 rfl) (And.intro True.intro (True.intro))) (fun r16 σ16 M16 hp16 => ?_)
    obtain ⟨rfl, rfl, rfl⟩ := hp16
    refine pz_if_ne (tgt := 30) C dX10_character_19 (by decide) (fun h19 => ?_) (fun h19 => ?_)
    · exact absurd ((z 16 (by decide)).1 10) h19
    · exact pz_throw0 C hl0 hZ hno dX10_character_22 dX10_character_25 dX10_character_26 dX10_character_29 tf_IS tn_IS tw_IS (Nat.le_of_ble_eq_true rfl) (Nat.le_of_ble_eq_true rfl) (Nat.le_of_ble_eq_true rfl) (Nat.le_of_ble_eq_true rfl) (Nat.le_of_ble_eq_true rfl) (Nat.le_of_ble_eq_true rfl) (⟨Or.inr ⟨rfl, h1⟩, rfl, rfl⟩)
  · exact pz_throw0 C hl0 hZ hno dX10_character_4 dX10_character_7 dX10_character_8 dX10_character_11 tf_IA tn_IA tw_IA (Nat.le_of_ble_eq_true rfl) (Nat.le_of_ble_eq_true rfl) (Nat.le_of_ble_eq_true rfl) (Nat.le_of_ble_eq_true rfl) (Nat.le_of_ble_eq_true rfl) (Nat.le_of_ble_eq_true rfl) (⟨Or.inl ⟨rfl, h1⟩, rfl, rfl⟩)
set_option maxHeartbeats 4000000 in
set_option maxRecDepth 100000 in
theorem c_X10_told (l : Launch) (D : va_G) (cy : Nat → ClassId) {σ : pzS} {M : pzM} {w : Int32} (h : pz_sh σ) (z : pz_fc M) (hl0 : l.stackTraces = false) : pz_MetX l yX10_told cX10_told 2 (some .int) 6 91 1 6 D cy σ M [.ref 0, .int w] (fun r σ' M' => r = some (.int 0) ∧ (w = 0 ∨ w = 1 ∨ w = 2 ∨ w = 3) ∧ σ' = σ ∧ M' = M) (fun E σ' M' => E = sIA ∧ (w.toInt < 0 ∨ 3 < w.toInt) ∧ σ' = σ ∧ M' = M) := by
  refine pz_ofWX (by decide) (Nat.le_of_ble_eq_true rfl) (fun p e s m args below meth c ad A C hr hZ hno => ?_)
  refine pz_iload_n C 1 dX10_told_0 rfl ?_
  rcases pz_sw3 w with hs | hs | hs | hs | hs
  · subst hs
    refine pz_tableIn (tgt := 32) C dX10_told_1 (by decide) (by decide) (off := 31) rfl (by decide) ?_
    refine pz_aload_n C 0 dX10_told_32 rfl ?_
    refine pz_getR C (ci := 9) (k := 3) gwX10 rfl (Nat.le_of_ble_eq_true rfl) fl_X10_39 (shL h 0 rfl) (shK h 0 rfl rfl) rfl (shR h 0 3 28 rfl rfl rfl) dX10_told_33 ?_
    refine pz_callV C (As := []) (b := 28) (c_X4_outputLength l D cy h) wB_yX4_outputLength ml_X10_140 im_yX4_outputLength se_yX4_outputLength (ci := 3) rfl (shL h 28 rfl) (shK h 28 rfl rfl) rfl rfl (Nat.le_of_ble_eq_true rfl) ⟨(Nat.le_of_ble_eq_true rfl), (Nat.le_of_ble_eq_true rfl)⟩ ⟨(Nat.le_of_ble_eq_true rfl), (Nat.le_of_ble_eq_true rfl)⟩ dX10_told_36 (Nat.le_refl _) (True.intro) (And.intro (shL h 0 rfl) (And.intro True.intro (True.intro))) (fun r36 σ36 M36 hp36 => ?_)
    obtain ⟨rfl, rfl, rfl⟩ := hp36
    exact pz_retX (pz_iret C hr (Nat.le_of_ble_eq_true rfl) (Nat.le_of_ble_eq_true rfl) dX10_told_39 (⟨by rw [(z 39 (by decide)).1 7], Or.inl rfl, rfl, rfl⟩))
  · subst hs
    refine pz_tableIn (tgt := 40) C dX10_told_1 (by decide) (by decide) (off := 39) rfl (by decide) ?_
    refine pz_aload_n C 0 dX10_told_40 rfl ?_
    refine pz_getR C (ci := 9) (k := 3) gwX10 rfl (Nat.le_of_ble_eq_true rfl) fl_X10_39 (shL h 0 rfl) (shK h 0 rfl rfl) rfl (shR h 0 3 28 rfl rfl rfl) dX10_told_41 ?_
    refine pz_callV C (As := []) (b := 28) (c_X4_stepTotal l D cy h) wB_yX4_stepTotal ml_X10_143 im_yX4_stepTotal se_yX4_stepTotal (ci := 3) rfl (shL h 28 rfl) (shK h 28 rfl rfl) rfl rfl (Nat.le_of_ble_eq_true rfl) ⟨(Nat.le_of_ble_eq_true rfl), (Nat.le_of_ble_eq_true rfl)⟩ ⟨(Nat.le_of_ble_eq_true rfl), (Nat.le_of_ble_eq_true rfl)⟩ dX10_told_44 (Nat.le_refl _) (True.intro) (And.intro (shL h 0 rfl) (And.intro True.intro (True.intro))) (fun r44 σ44 M44 hp44 => ?_)
    obtain ⟨rfl, rfl, rfl⟩ := hp44
    exact pz_retX (pz_iret C hr (Nat.le_of_ble_eq_true rfl) (Nat.le_of_ble_eq_true rfl) dX10_told_47 (⟨by rw [(z 28 (by decide)).1 7], Or.inr (Or.inl rfl), rfl, rfl⟩))
  · subst hs
    refine pz_tableIn (tgt := 48) C dX10_told_1 (by decide) (by decide) (off := 47) rfl (by decide) ?_
    refine pz_aload_n C 0 dX10_told_48 rfl ?_
    refine pz_getR C (ci := 9) (k := 3) gwX10 rfl (Nat.le_of_ble_eq_true rfl) fl_X10_39 (shL h 0 rfl) (shK h 0 rfl rfl) rfl (shR h 0 3 28 rfl rfl rfl) dX10_told_49 ?_
    refine pz_callV C (As := []) (b := 28) (c_X4_returnedNumber l D cy h) wB_yX4_returnedNumber ml_X10_146 im_yX4_returnedNumber se_yX4_returnedNumber (ci := 3) rfl (shL h 28 rfl) (shK h 28 rfl rfl) rfl rfl (Nat.le_of_ble_eq_true rfl) ⟨(Nat.le_of_ble_eq_true rfl), (Nat.le_of_ble_eq_true rfl)⟩ ⟨(Nat.le_of_ble_eq_true rfl), (Nat.le_of_ble_eq_true rfl)⟩ dX10_told_52 (Nat.le_refl _) (True.intro) (And.intro (shL h 0 rfl) (And.intro True.intro (True.intro))) (fun r52 σ52 M52 hp52 => ?_)
    obtain ⟨rfl, rfl, rfl⟩ := hp52
    exact pz_retX (pz_iret C hr (Nat.le_of_ble_eq_true rfl) (Nat.le_of_ble_eq_true rfl) dX10_told_55 (⟨by rw [(z 28 (by decide)).2 9]; rfl, Or.inr (Or.inr (Or.inl rfl)), rfl, rfl⟩))
  · subst hs
    refine pz_tableIn (tgt := 56) C dX10_told_1 (by decide) (by decide) (off := 55) rfl (by decide) ?_
    refine pz_aload_n C 0 dX10_told_56 rfl ?_
    refine pz_getR C (ci := 9) (k := 3) gwX10 rfl (Nat.le_of_ble_eq_true rfl) fl_X10_39 (shL h 0 rfl) (shK h 0 rfl rfl) rfl (shR h 0 3 28 rfl rfl rfl) dX10_told_57 ?_
    refine pz_callV C (As := []) (b := 28) (c_X4_returnedKind l D cy h) wB_yX4_returnedKind ml_X10_149 im_yX4_returnedKind se_yX4_returnedKind (ci := 3) rfl (shL h 28 rfl) (shK h 28 rfl rfl) rfl rfl (Nat.le_of_ble_eq_true rfl) ⟨(Nat.le_of_ble_eq_true rfl), (Nat.le_of_ble_eq_true rfl)⟩ ⟨(Nat.le_of_ble_eq_true rfl), (Nat.le_of_ble_eq_true rfl)⟩ dX10_told_60 (Nat.le_refl _) (True.intro) (And.intro (shL h 0 rfl) (And.intro True.intro (True.intro))) (fun r60 σ60 M60 hp60 => ?_)
    obtain ⟨rfl, rfl, rfl⟩ := hp60
    exact pz_retX (pz_iret C hr (Nat.le_of_ble_eq_true rfl) (Nat.le_of_ble_eq_true rfl) dX10_told_63 (⟨by rw [(z 28 (by decide)).2 9]; rfl, Or.inr (Or.inr (Or.inr rfl)), rfl, rfl⟩))
  · refine pz_tableOut (tgt := 64) C dX10_told_1 hs (by decide) ?_
    exact pz_throw0 C hl0 hZ hno dX10_told_64 dX10_told_67 dX10_told_68 dX10_told_71 tf_IA tn_IA tw_IA (Nat.le_of_ble_eq_true rfl) (Nat.le_of_ble_eq_true rfl) (Nat.le_of_ble_eq_true rfl) (Nat.le_of_ble_eq_true rfl) (Nat.le_of_ble_eq_true rfl) (Nat.le_of_ble_eq_true rfl) (⟨rfl, hs, rfl, rfl⟩)
set_option maxHeartbeats 4000000 in
set_option maxRecDepth 100000 in
theorem c_X10_said (l : Launch) (D : va_G) (cy : Nat → ClassId) {σ : pzS} {M : pzM} {k : Int32} (h : pz_sh σ) (z : pz_fc M) (hl0 : l.stackTraces = false) : pz_MetX l yX10_said cX10_said 2 (some .int) 6 91 1 6 D cy σ M [.ref 0, .int k] (fun r σ' M' => False) (fun E σ' M' => E = sIA ∧ σ' = σ ∧ M' = M) := by
  refine pz_ofWX (by decide) (Nat.le_of_ble_eq_true rfl) (fun p e s m args below meth c ad A C hr hZ hno => ?_)
  refine pz_iload_n C 1 dX10_said_0 rfl ?_
  refine pz_if_lt (tgt := 15) C dX10_said_1 (by decide) (fun h1 => ?_) (fun h1 => ?_)
  · exact pz_throw0 C hl0 hZ hno dX10_said_15 dX10_said_18 dX10_said_19 dX10_said_22 tf_IA tn_IA tw_IA (Nat.le_of_ble_eq_true rfl) (Nat.le_of_ble_eq_true rfl) (Nat.le_of_ble_eq_true rfl) (Nat.le_of_ble_eq_true rfl) (Nat.le_of_ble_eq_true rfl) (Nat.le_of_ble_eq_true rfl) (⟨rfl, rfl, rfl⟩)
  · refine pz_iload_n C 1 dX10_said_4 rfl ?_
    refine pz_aload_n C 0 dX10_said_5 rfl ?_
    refine pz_getR C (ci := 9) (k := 3) gwX10 rfl (Nat.le_of_ble_eq_true rfl) fl_X10_39 (shL h 0 rfl) (shK h 0 rfl rfl) rfl (shR h 0 3 28 rfl rfl rfl) dX10_said_6 ?_
    refine pz_callV C (As := []) (b := 28) (c_X4_outputLength l D cy h) wB_yX4_outputLength ml_X10_140 im_yX4_outputLength se_yX4_outputLength (ci := 3) rfl (shL h 28 rfl) (shK h 28 rfl rfl) rfl rfl (Nat.le_of_ble_eq_true rfl) ⟨(Nat.le_of_ble_eq_true rfl), (Nat.le_of_ble_eq_true rfl)⟩ ⟨(Nat.le_of_ble_eq_true rfl), (Nat.le_of_ble_eq_true rfl)⟩ dX10_said_9 (Nat.le_refl _) (And.intro True.intro (True.intro)) (And.intro (shL h 0 rfl) (And.intro True.intro (True.intro))) (fun r9 σ9 M9 hp9 => ?_)
    obtain ⟨rfl, rfl, rfl⟩ := hp9
    refine pz_icmp_lt (tgt := 23) C dX10_said_12 (by decide) (fun h12 => ?_) (fun h12 => ?_)
    · exact (h1 ((z 39 (by decide)).1 7 ▸ h12)).elim
    · exact pz_throw0 C hl0 hZ hno dX10_said_15 dX10_said_18 dX10_said_19 dX10_said_22 tf_IA tn_IA tw_IA (Nat.le_of_ble_eq_true rfl) (Nat.le_of_ble_eq_true rfl) (Nat.le_of_ble_eq_true rfl) (Nat.le_of_ble_eq_true rfl) (Nat.le_of_ble_eq_true rfl) (Nat.le_of_ble_eq_true rfl) (⟨rfl, rfl, rfl⟩)
