def Iv (k t : Nat) (M0 M : pzM) : Prop := M.1 3 0 = nI k ∧ M.1 2 6 = nI t ∧ M.1 2 5 = 0 ∧ pz_ag M0 M
theorem cl0 : (0 : Int32).toNatClampNeg = 0 := rfl
set_option maxHeartbeats 4000000 in
set_option maxRecDepth 100000 in
theorem c_X7_addDigit (l : Launch) (D : va_G) (cy : Nat → ClassId) {σ : pzS} {M : pzM} {r0 : Int32} {dd : Int32} (h : pz_sh σ) {k t : Nat} {M0 : pzM} (hr0 : r0 = 0) (hk : k < 12) (ht : t ≤ k) (hi : Iv k t M0 M) : pz_Met l yX7_addDigit cX7_addDigit 3 none 0 0 0 0 D cy σ M [.ref 2, .int r0, .int dd] (fun r σ' M' => r = none ∧ σ' = σ ∧ ∃ t', t' ≤ k + 1 ∧ Iv (k + 1) t' M0 M') := by
  refine pz_ofW (by decide) (Nat.le_of_ble_eq_true rfl) (fun p e s m args below meth c ad A C hr hnm => ?_)
  subst hr0
  refine pz_aload_n C 0 dX7_addDigit_0 rfl ?_
  refine pz_getR C (ci := 6) (k := 3) gwX7 rfl (Nat.le_of_ble_eq_true rfl) fl_X7_21 (shL h 2 rfl) (shK h 2 rfl rfl) rfl (shR h 2 3 6 rfl rfl rfl) dX7_addDigit_1 ?_
  refine pz_iload_n C 1 dX7_addDigit_4 rfl ?_
  refine pz_bipush C (v := 12) dX7_addDigit_5 (by decide) ?_
  refine pz_imul C dX7_addDigit_7 ?_
  refine pz_aload_n C 0 dX7_addDigit_8 rfl ?_
  refine pz_getR C (ci := 6) (k := 0) gwX7 rfl (Nat.le_of_ble_eq_true rfl) fl_X7_9 (shL h 2 rfl) (shK h 2 rfl rfl) rfl (shR h 2 0 3 rfl rfl rfl) dX7_addDigit_9 ?_
  refine pz_iload_n C 1 dX7_addDigit_12 rfl ?_
  refine pz_iald C (shL h 3 rfl) (shK h 3 rfl rfl) (shB h 3 rfl rfl (vp_in0 (by decide))) dX7_addDigit_13 ?_
  refine pz_iadd C dX7_addDigit_14 ?_
  refine pz_iload_n C 2 dX7_addDigit_15 rfl ?_
  refine pz_iast C (shL h 6 rfl) (shK h 6 rfl rfl) (shB h 6 rfl rfl (by rw [show (0 : Int32) * 12 + M.1 3 (0 : Int32).toNatClampNeg = nI k from by rw [show M.1 3 (0 : Int32).toNatClampNeg = nI k from hi.1, show (0 : Int32) * 12 = 0 from rfl]; exact Int32.zero_add _]; exact (show vp_in (nI k) 96 from vp_in_nI (by omega) (by decide)))) dX7_addDigit_16 ?_
  refine pz_aload_n C 0 dX7_addDigit_17 rfl ?_
  refine pz_getR C (ci := 6) (k := 0) gwX7 rfl (Nat.le_of_ble_eq_true rfl) fl_X7_9 (shL h 2 rfl) (shK h 2 rfl rfl) rfl (shR h 2 0 3 rfl rfl rfl) dX7_addDigit_18 ?_
  refine pz_iload_n C 1 dX7_addDigit_21 rfl ?_
  refine pz_dup2 C dX7_addDigit_22 rfl rfl ?_
  refine pz_iald C (shL h 3 rfl) (shK h 3 rfl rfl) (shB h 3 rfl rfl (vp_in0 (by decide))) dX7_addDigit_23 ?_
  refine pz_iconst C (v := 1) dX7_addDigit_24 (by decide) ?_
  refine pz_iadd C dX7_addDigit_25 ?_
  refine pz_iast C (shL h 3 rfl) (shK h 3 rfl rfl) (shB h 3 rfl rfl (vp_in0 (by decide))) dX7_addDigit_26 ?_
  refine pz_iload_n C 2 dX7_addDigit_27 rfl ?_
  refine pz_bipush C (v := 27) dX7_addDigit_28 (by decide) ?_
  refine pz_icmp_ne (tgt := 46) C dX7_addDigit_30 (by decide) (fun h30 => ?_) (fun h30 => ?_)
  · refine pz_aload_n C 0 dX7_addDigit_46 rfl ?_
    refine pz_getR C (ci := 6) (k := 4) gwX7 rfl (Nat.le_of_ble_eq_true rfl) fl_X7_24 (shL h 2 rfl) (shK h 2 rfl rfl) rfl (shR h 2 4 7 rfl rfl rfl) dX7_addDigit_47 ?_
    refine pz_aload_n C 0 dX7_addDigit_50 rfl ?_
    refine pz_getI C (ci := 6) (k := 6) gwX7 rfl (Nat.le_of_ble_eq_true rfl) fl_X7_33 (shL h 2 rfl) (shK h 2 rfl rfl) rfl dX7_addDigit_51 ?_
    refine pz_iload_n C 2 dX7_addDigit_54 rfl ?_
    refine pz_iconst C (v := 1) dX7_addDigit_55 (by decide) ?_
    refine pz_isub C dX7_addDigit_56 ?_
    refine pz_iast C (shL h 7 rfl) (shK h 7 rfl rfl) (shB h 7 rfl rfl (by simp [pz_u, va_up, cl0, hi.1, hi.2.1, hi.2.2.1]; exact (show vp_in (nI t) 96 from vp_in_nI (by omega) (by decide)))) dX7_addDigit_57 ?_
    refine pz_aload_n C 0 dX7_addDigit_58 rfl ?_
    refine pz_dup C dX7_addDigit_59 rfl ?_
    refine pz_getI C (ci := 6) (k := 6) gwX7 rfl (Nat.le_of_ble_eq_true rfl) fl_X7_33 (shL h 2 rfl) (shK h 2 rfl rfl) rfl dX7_addDigit_60 ?_
    refine pz_iconst C (v := 1) dX7_addDigit_63 (by decide) ?_
    refine pz_iadd C dX7_addDigit_64 ?_
    refine pz_putI C (ci := 6) (k := 6) gwX7 rfl (Nat.le_of_ble_eq_true rfl) fl_X7_33 (shL h 2 rfl) (shK h 2 rfl rfl) tyX7_ok nmX7 rfl rfl (by decide +kernel) dX7_addDigit_65 ?_
    exact pz_vret C hr (Nat.le_of_ble_eq_true rfl) (Nat.le_of_ble_eq_true rfl) dX7_addDigit_68 (by first | exact ⟨rfl, rfl, t, Nat.le_succ_of_le ht, by simp [pz_u, va_up, cl0, hi.1, hi.2.1, hi.2.2.1]; exact nI_1 k, by simp [pz_u, va_up, cl0, hi.1, hi.2.1, hi.2.2.1], by simp [pz_u, va_up, cl0, hi.1, hi.2.1, hi.2.2.1], pz_ag_u (pz_ag_u (pz_ag_u hi.2.2.2 rfl) rfl) rfl⟩ | exact ⟨rfl, rfl, t + 1, Nat.succ_le_succ ht, by simp [pz_u, va_up, cl0, hi.1, hi.2.1, hi.2.2.1]; exact nI_1 k, by simp [pz_u, va_up, cl0, hi.1, hi.2.1, hi.2.2.1]; exact nI_1 t, by simp [pz_u, va_up, cl0, hi.1, hi.2.1, hi.2.2.1], pz_ag_u (pz_ag_u (pz_ag_u (pz_ag_u hi.2.2.2 rfl) rfl) rfl) rfl⟩)
  · refine pz_aload_n C 0 dX7_addDigit_33 rfl ?_
    refine pz_getR C (ci := 6) (k := 1) gwX7 rfl (Nat.le_of_ble_eq_true rfl) fl_X7_15 (shL h 2 rfl) (shK h 2 rfl rfl) rfl (shR h 2 1 4 rfl rfl rfl) dX7_addDigit_34 ?_
    refine pz_iload_n C 1 dX7_addDigit_37 rfl ?_
    refine pz_dup2 C dX7_addDigit_38 rfl rfl ?_
    refine pz_iald C (shL h 4 rfl) (shK h 4 rfl rfl) (shB h 4 rfl rfl (vp_in0 (by decide))) dX7_addDigit_39 ?_
    refine pz_iconst C (v := 1) dX7_addDigit_40 (by decide) ?_
    refine pz_iadd C dX7_addDigit_41 ?_
    refine pz_iast C (shL h 4 rfl) (shK h 4 rfl rfl) (shB h 4 rfl rfl (vp_in0 (by decide))) dX7_addDigit_42 ?_
    refine pz_goto (tgt := 68) C dX7_addDigit_43 (by decide) ?_
    exact pz_vret C hr (Nat.le_of_ble_eq_true rfl) (Nat.le_of_ble_eq_true rfl) dX7_addDigit_68 (by first | exact ⟨rfl, rfl, t, Nat.le_succ_of_le ht, by simp [pz_u, va_up, cl0, hi.1, hi.2.1, hi.2.2.1]; exact nI_1 k, by simp [pz_u, va_up, cl0, hi.1, hi.2.1, hi.2.2.1], by simp [pz_u, va_up, cl0, hi.1, hi.2.1, hi.2.2.1], pz_ag_u (pz_ag_u (pz_ag_u hi.2.2.2 rfl) rfl) rfl⟩ | exact ⟨rfl, rfl, t + 1, Nat.succ_le_succ ht, by simp [pz_u, va_up, cl0, hi.1, hi.2.1, hi.2.2.1]; exact nI_1 k, by simp [pz_u, va_up, cl0, hi.1, hi.2.1, hi.2.2.1]; exact nI_1 t, by simp [pz_u, va_up, cl0, hi.1, hi.2.1, hi.2.2.1], pz_ag_u (pz_ag_u (pz_ag_u (pz_ag_u hi.2.2.2 rfl) rfl) rfl) rfl⟩)
