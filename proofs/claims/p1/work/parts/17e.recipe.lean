set_option maxHeartbeats 4000000 in
set_option maxRecDepth 100000 in
theorem c_X7_add (l : Launch) (D : va_G) (cy : Nat → ClassId) {σ : pzS} {M : pzM} {c0 : Int64} (h : pz_sh σ) (z : pz_fc M) : pz_Met l yX7_add cX7_add 7 (some .int) 1 22 0 0 D cy σ M [.ref 2, .long c0] (fun r σ' M' => r = some (.int 0) ∧ σ' = σ ∧ pz_ag M M') := by
  refine pz_ofW (by decide) (Nat.le_of_ble_eq_true rfl) (fun p e s m args below meth c ad A C hr hnm => ?_)
  refine pz_aload_n C 0 dX7_add_0 rfl ?_
  refine pz_getI C (ci := 6) (k := 5) gwX7 rfl (Nat.le_of_ble_eq_true rfl) fl_X7_29 (shL h 2 rfl) (shK h 2 rfl rfl) rfl dX7_add_1 ?_
  refine pz_topi (fun x3_4 e3_4 => ?_)
  refine pz_istore_n (loc' := [(3, .int x3_4), (0, .ref (2)), (1, .long c0)]) C dX7_add_4 (by decide) rfl ?_
  obtain rfl : x3_4 = 0 := e3_4.trans ((z 2 (by decide)).1 5)
  refine pz_aload_n C 1 dX7_add_5 rfl ?_
  refine pz_getR C (ci := 6) (k := 2) gwX7 rfl (Nat.le_of_ble_eq_true rfl) fl_X7_18 (shL h 2 rfl) (shK h 2 rfl rfl) rfl (shR h 2 2 5 rfl rfl rfl) dX7_add_6 ?_
  refine pz_iload_n C 0 dX7_add_9 rfl ?_
  refine pz_aload_n C 1 dX7_add_10 rfl ?_
  refine pz_getI C (ci := 6) (k := 6) gwX7 rfl (Nat.le_of_ble_eq_true rfl) fl_X7_33 (shL h 2 rfl) (shK h 2 rfl rfl) rfl dX7_add_11 ?_
  refine pz_iast C (shL h 5 rfl) (shK h 5 rfl rfl) (shB h 5 rfl rfl (vp_in0 (by decide))) dX7_add_14 ?_
  refine pz_lload_n C 2 dX7_add_15 rfl ?_
  refine pz_topl (fun x4_16 e4_16 => ?_)
  refine pz_lstore (loc' := [(4, .long x4_16), (3, .int 0), (0, .ref (2)), (1, .long c0)]) C dX7_add_16 (by decide) rfl ?_
  refine pz_iconst C (v := 0) dX7_add_18 (by decide) ?_
  refine pz_istore (loc' := [(6, .int 0), (4, .long x4_16), (3, .int 0), (0, .ref (2)), (1, .long c0)]) C dX7_add_19 (by decide) rfl ?_
  have LOOP : ∀ (n k t : Nat) (rest : Int64) (M1 : pzM), k + n = 12 → t ≤ k → Iv k t M M1 → pz_W p l e ({ frames := 1, cells := 0, slots := 0, locals := 22 }) s m args below meth c 7 D cy A σ.1 ad (MQ below (pz_Q D cy σ.1 ad (fun r σ' M' => r = some (.int 0) ∧ σ' = σ ∧ pz_ag M M') A) args s 0 0 A) σ M1 0 0 21 [(6, .int (nI k)), (4, .long rest), (3, .int 0), (0, .ref (2)), (1, .long c0)] [] := by
    intro n
    induction n with
    | zero =>
      intro k t rest M1 hk ht hi
      obtain rfl : k = 12 := by omega
      refine pz_iload C 0 dX7_add_21 rfl ?_
      refine pz_bipush C (v := 12) dX7_add_23 (by decide) ?_
      refine pz_icmp_ge (tgt := 59) C dX7_add_25 (by decide) (fun h25 => ?_) (fun h25 => ?_)
      · refine pz_aload_n C 3 dX7_add_59 rfl ?_
        refine pz_dup C dX7_add_60 rfl ?_
        refine pz_getI C (ci := 6) (k := 5) gwX7 rfl (Nat.le_of_ble_eq_true rfl) fl_X7_29 (shL h 2 rfl) (shK h 2 rfl rfl) rfl dX7_add_61 ?_
        refine pz_iconst C (v := 1) dX7_add_64 (by decide) ?_
        refine pz_iadd C dX7_add_65 ?_
        refine pz_putI C (ci := 6) (k := 5) gwX7 rfl (Nat.le_of_ble_eq_true rfl) fl_X7_29 (shL h 2 rfl) (shK h 2 rfl rfl) tyX7_ok nmX7 rfl rfl (by decide +kernel) dX7_add_66 ?_
        refine pz_iload_n C 2 dX7_add_69 rfl ?_
        exact pz_iret C hr (Nat.le_of_ble_eq_true rfl) (Nat.le_of_ble_eq_true rfl) dX7_add_70 (⟨rfl, rfl, pz_ag_u hi.2.2.2 rfl⟩)
      · exact absurd (by decide) h25
    | succ n ih =>
      intro k t rest M1 hk ht hi
      have hk12 : k < 12 := by omega
      refine pz_iload C 0 dX7_add_21 rfl ?_
      refine pz_bipush C (v := 12) dX7_add_23 (by decide) ?_
      refine pz_icmp_ge (tgt := 59) C dX7_add_25 (by decide) (fun h25 => ?_) (fun h25 => ?_)
      · exact absurd h25 (nI_ge hk12 (by decide))
      · refine pz_lload C 1 dX7_add_28 rfl ?_
        refine pz_lconst C (v := 0) dX7_add_30 (by decide) ?_
        refine pz_lcmp C dX7_add_31 ?_
        refine pz_if_eq (tgt := 59) C dX7_add_32 (by decide) (fun h32 => ?_) (fun h32 => ?_)
        · refine pz_aload_n C 3 dX7_add_59 rfl ?_
          refine pz_dup C dX7_add_60 rfl ?_
          refine pz_getI C (ci := 6) (k := 5) gwX7 rfl (Nat.le_of_ble_eq_true rfl) fl_X7_29 (shL h 2 rfl) (shK h 2 rfl rfl) rfl dX7_add_61 ?_
          refine pz_iconst C (v := 1) dX7_add_64 (by decide) ?_
          refine pz_iadd C dX7_add_65 ?_
          refine pz_putI C (ci := 6) (k := 5) gwX7 rfl (Nat.le_of_ble_eq_true rfl) fl_X7_29 (shL h 2 rfl) (shK h 2 rfl rfl) tyX7_ok nmX7 rfl rfl (by decide +kernel) dX7_add_66 ?_
          refine pz_iload_n C 2 dX7_add_69 rfl ?_
          exact pz_iret C hr (Nat.le_of_ble_eq_true rfl) (Nat.le_of_ble_eq_true rfl) dX7_add_70 (⟨rfl, rfl, pz_ag_u hi.2.2.2 rfl⟩)
        · refine pz_aload_n C 3 dX7_add_35 rfl ?_
          refine pz_iload_n C 2 dX7_add_36 rfl ?_
          refine pz_lload C 1 dX7_add_37 rfl ?_
          refine pz_ldc2 C kl_X7_27 dX7_add_39 ?_
          refine pz_land C dX7_add_42 ?_
          refine pz_l2i C dX7_add_43 ?_
          refine pz_callV C (As := [_, _]) (b := 2) (c_X7_addDigit l D cy h (k := k) (t := t) (M0 := M) rfl hk12 ht hi) wB_yX7_addDigit ml_X7_36 im_yX7_addDigit se_yX7_addDigit (ci := 6) rfl (shL h 2 rfl) (shK h 2 rfl rfl) rfl rfl (Nat.le_of_ble_eq_true rfl) ⟨(Nat.le_of_ble_eq_true rfl), (Nat.le_of_ble_eq_true rfl)⟩ ⟨(Nat.le_of_ble_eq_true rfl), (Nat.le_of_ble_eq_true rfl)⟩ dX7_add_44 (Nat.le_refl _) (True.intro) (And.intro True.intro (And.intro True.intro (And.intro True.intro (And.intro (shL h 2 rfl) (And.intro True.intro (True.intro)))))) (fun r44 σ44 M44 hp44 => ?_)
          obtain ⟨rfl, hsg, t9, ht9, hi9⟩ := hp44
          have hsg := hsg.symm; subst hsg
          refine pz_lload C 1 dX7_add_47 rfl ?_
          refine pz_iconst C (v := 5) dX7_add_49 (by decide) ?_
          refine pz_lshr C dX7_add_50 ?_
          refine pz_topl (fun x4_51 e4_51 => ?_)
          refine pz_lstore (loc' := [(4, .long x4_51), (6, .int (nI k)), (3, .int 0), (0, .ref (2)), (1, .long c0)]) C dX7_add_51 (by decide) rfl ?_
          obtain ⟨x6_53, e6_53⟩ : ∃ z : Int32, z = (nI k) + (1) := ⟨_, rfl⟩
          refine pz_iinc (v := x6_53) (loc' := [(6, .int x6_53), (4, .long x4_51), (3, .int 0), (0, .ref (2)), (1, .long c0)]) C 1 dX7_add_53 rfl (by rw [e6_53]; rfl) (by decide) rfl ?_
          refine pz_goto (tgt := 21) C dX7_add_56 (by decide) ?_
          obtain rfl : x6_53 = nI (k + 1) := e6_53.trans (nI_1 k)
          refine pz_locsub [0, 1, 2, 3, 4] rfl ?_
          exact ih (k + 1) t9 x4_51 M44 (by omega) ht9 hi9
  refine LOOP 12 0 0 _ _ rfl (Nat.le_refl 0) ⟨?_, ?_, ?_, ?_⟩
  · simp [pz_u, va_up]; exact (z 3 (by decide)).1 0
  · simp [pz_u, va_up]; exact (z 2 (by decide)).1 6
  · simp [pz_u, va_up]; exact (z 2 (by decide)).1 5
  · exact pz_ag_u (pz_ag_rf _) rfl
set_option maxHeartbeats 4000000 in
set_option maxRecDepth 100000 in
theorem c_X10_recipe (l : Launch) (D : va_G) (cy : Nat → ClassId) {σ : pzS} {M : pzM} {c0 : Int64} (h : pz_sh σ) (z : pz_fc M) (hl0 : l.stackTraces = false) : pz_MetX l yX10_recipe cX10_recipe 3 (some .int) 6 91 1 6 D cy σ M [.ref 0, .long c0] (fun r σ' M' => rdI c0 ≠ 0 ∧ r = some (.int 0) ∧ σ' = σ ∧ pz_ag M M') (fun E σ' M' => E = sIA ∧ rdI c0 = 0 ∧ σ' = σ ∧ M' = M) := by
  refine pz_ofWX (by decide) (Nat.le_of_ble_eq_true rfl) (fun p e s m args below meth c ad A C hr hZ hno => ?_)
  refine pz_lload_n C 1 dX10_recipe_0 rfl ?_
  refine pz_callS C (As := [_]) (c_X7_isReadable l D cy h) wB_yX7_isReadable ml_X10_71 sm_yX7_isReadable rfl rfl (Nat.le_of_ble_eq_true rfl) ⟨(Nat.le_of_ble_eq_true rfl), (Nat.le_of_ble_eq_true rfl)⟩ ⟨(Nat.le_of_ble_eq_true rfl), (Nat.le_of_ble_eq_true rfl)⟩ dX10_recipe_1 (Nat.le_refl _) (True.intro) (And.intro (shL h 0 rfl) (And.intro True.intro (True.intro))) (fun r1 σ1 M1 hp1 => ?_)
  obtain ⟨rfl, rfl, rfl⟩ := hp1
  refine pz_if_ne (tgt := 15) C dX10_recipe_4 (by decide) (fun h4 => ?_) (fun h4 => ?_)
  · refine pz_aload_n C 0 dX10_recipe_15 rfl ?_
    refine pz_getR C (ci := 9) (k := 0) gwX10 rfl (Nat.le_of_ble_eq_true rfl) fl_X10_12 (shL h 0 rfl) (shK h 0 rfl rfl) rfl (shR h 0 0 1 rfl rfl rfl) dX10_recipe_16 ?_
    refine pz_callV C (As := []) (b := 1) (c_X6_recipes l D cy h) wB_yX6_recipes ml_X10_77 im_yX6_recipes se_yX6_recipes (ci := 5) rfl (shL h 1 rfl) (shK h 1 rfl rfl) rfl rfl (Nat.le_of_ble_eq_true rfl) ⟨(Nat.le_of_ble_eq_true rfl), (Nat.le_of_ble_eq_true rfl)⟩ ⟨(Nat.le_of_ble_eq_true rfl), (Nat.le_of_ble_eq_true rfl)⟩ dX10_recipe_19 (Nat.le_refl _) (True.intro) (And.intro (shL h 0 rfl) (And.intro True.intro (True.intro))) (fun r19 σ19 M19 hp19 => ?_)
    obtain ⟨rfl, rfl, rfl⟩ := hp19
    refine pz_callV C (As := []) (b := 2) (c_X7_total l D cy h) wB_yX7_total ml_X10_81 im_yX7_total se_yX7_total (ci := 6) rfl (shL h 2 rfl) (shK h 2 rfl rfl) rfl rfl (Nat.le_of_ble_eq_true rfl) ⟨(Nat.le_of_ble_eq_true rfl), (Nat.le_of_ble_eq_true rfl)⟩ ⟨(Nat.le_of_ble_eq_true rfl), (Nat.le_of_ble_eq_true rfl)⟩ dX10_recipe_22 (Nat.le_refl _) (True.intro) (And.intro (shL h 0 rfl) (And.intro True.intro (True.intro))) (fun r22 σ22 M22 hp22 => ?_)
    obtain ⟨rfl, rfl, rfl⟩ := hp22
    refine pz_bipush C (v := 8) dX10_recipe_25 (by decide) ?_
    refine pz_icmp_ne (tgt := 38) C dX10_recipe_27 (by decide) (fun h27 => ?_) (fun h27 => ?_)
    · refine pz_aload_n C 0 dX10_recipe_38 rfl ?_
      refine pz_getR C (ci := 9) (k := 2) gwX10 rfl (Nat.le_of_ble_eq_true rfl) fl_X10_30 (shL h 0 rfl) (shK h 0 rfl rfl) rfl (shR h 0 2 16 rfl rfl rfl) dX10_recipe_39 ?_
      refine pz_callV C (As := []) (b := 16) (c_X5_forget l D cy h) wB_yX5_forget ml_X10_53 im_yX5_forget se_yX5_forget (ci := 4) rfl (shL h 16 rfl) (shK h 16 rfl rfl) rfl rfl (Nat.le_of_ble_eq_true rfl) ⟨(Nat.le_of_ble_eq_true rfl), (Nat.le_of_ble_eq_true rfl)⟩ ⟨(Nat.le_of_ble_eq_true rfl), (Nat.le_of_ble_eq_true rfl)⟩ dX10_recipe_42 (Nat.le_refl _) (True.intro) (And.intro (shL h 0 rfl) (And.intro True.intro (True.intro))) (fun r42 σ42 M42 hp42 => ?_)
      obtain ⟨rfl, rfl, rfl⟩ := hp42
      refine pz_aload_n C 0 dX10_recipe_45 rfl ?_
      refine pz_getR C (ci := 9) (k := 0) gwX10 rfl (Nat.le_of_ble_eq_true rfl) fl_X10_12 (shL h 0 rfl) (shK h 0 rfl rfl) rfl (shR h 0 0 1 rfl rfl rfl) dX10_recipe_46 ?_
      refine pz_callV C (As := []) (b := 1) (c_X6_recipes l D cy h) wB_yX6_recipes ml_X10_77 im_yX6_recipes se_yX6_recipes (ci := 5) rfl (shL h 1 rfl) (shK h 1 rfl rfl) rfl rfl (Nat.le_of_ble_eq_true rfl) ⟨(Nat.le_of_ble_eq_true rfl), (Nat.le_of_ble_eq_true rfl)⟩ ⟨(Nat.le_of_ble_eq_true rfl), (Nat.le_of_ble_eq_true rfl)⟩ dX10_recipe_49 (Nat.le_refl _) (True.intro) (And.intro (shL h 0 rfl) (And.intro True.intro (True.intro))) (fun r49 σ49 M49 hp49 => ?_)
      obtain ⟨rfl, rfl, rfl⟩ := hp49
      refine pz_lload_n C 1 dX10_recipe_52 rfl ?_
      refine pz_callV C (As := [_]) (b := 2) (c_X7_add l D cy h (pz_fc_u z)) wB_yX7_add ml_X10_84 im_yX7_add se_yX7_add (ci := 6) rfl (shL h 2 rfl) (shK h 2 rfl rfl) rfl rfl (Nat.le_of_ble_eq_true rfl) ⟨(Nat.le_of_ble_eq_true rfl), (Nat.le_of_ble_eq_true rfl)⟩ ⟨(Nat.le_of_ble_eq_true rfl), (Nat.le_of_ble_eq_true rfl)⟩ dX10_recipe_53 (Nat.le_refl _) (True.intro) (And.intro (shL h 0 rfl) (And.intro True.intro (True.intro))) (fun r53 σ53 M53 hp53 => ?_)
      obtain ⟨rfl, rfl, hag⟩ := hp53
      exact pz_retX (pz_iret C hr (Nat.le_of_ble_eq_true rfl) (Nat.le_of_ble_eq_true rfl) dX10_recipe_56 (⟨h4, rfl, rfl, fun i hi => ⟨(hag i hi).1.trans (pz_u_off _ _ _ (by omega)), (hag i hi).2⟩⟩))
    · exact absurd ((z 2 (by decide)).1 5 ▸ h27) (by decide)
  · exact pz_throw0 C hl0 hZ hno dX10_recipe_7 dX10_recipe_10 dX10_recipe_11 dX10_recipe_14 tf_IA tn_IA tw_IA (Nat.le_of_ble_eq_true rfl) (Nat.le_of_ble_eq_true rfl) (Nat.le_of_ble_eq_true rfl) (Nat.le_of_ble_eq_true rfl) (Nat.le_of_ble_eq_true rfl) (Nat.le_of_ble_eq_true rfl) (⟨rfl, h4, rfl, rfl⟩)
