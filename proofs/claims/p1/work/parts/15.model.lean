def goF (a b : Int32) : Int32 := if a = 0 then 1 else if b = 0 then 2 else 0
/-- the reference is as its constructor left it -/
def pz_fm (M : pzM) : Prop := ∀ i, 45 ≤ i → i < 83 → (∀ k, M.1 i k = 0) ∧ ∀ k, M.2 i k = 0
theorem vp_in0 {n : Nat} (h : 0 < n) : vp_in 0 n := by unfold vp_in; simp; omega
theorem pz_le3 {n : Int32} : (¬ n ≤ 3) ↔ 3 < n := Int32.not_le
set_option maxHeartbeats 4000000 in
set_option maxRecDepth 100000 in
theorem c_X11_thrown (l : Launch) (D : va_G) (cy : Nat → ClassId) {σ : pzS} {M : pzM}  (h : pz_sh σ)  : pz_Met l yX11_thrown cX11_thrown 1 (some .int) 0 0 0 0 D cy σ M [.ref 45] (fun r σ' M' => r = some (.int (M.1 45 0)) ∧ σ' = σ ∧ M' = M) := by
  refine pz_ofW (by decide) (Nat.le_of_ble_eq_true rfl) (fun p e s m args below meth c ad A C hr hnm => ?_)
  refine pz_aload_n C 0 dX11_thrown_0 rfl ?_
  refine pz_getI C (ci := 10) (k := 0) gwX11 rfl (Nat.le_of_ble_eq_true rfl) fl_X11_123 (shL h 45 rfl) (shK h 45 rfl rfl) rfl dX11_thrown_1 ?_
  exact pz_iret C hr (Nat.le_of_ble_eq_true rfl) (Nat.le_of_ble_eq_true rfl) dX11_thrown_4 (⟨rfl, rfl, rfl⟩)
set_option maxHeartbeats 4000000 in
set_option maxRecDepth 100000 in
theorem c_X11_goes (l : Launch) (D : va_G) (cy : Nat → ClassId) {σ : pzS} {M : pzM} {a : Int32} {b : Int32} (h : pz_sh σ)  : pz_Met l yX11_goes cX11_goes 3 (some .boolean) 0 0 0 0 D cy σ M [.ref 45, .int a, .int b] (fun r σ' M' => r = some (.int (if goF a b = 0 then 1 else 0)) ∧ σ' = σ ∧ M' = (pz_u M.1 45 0 (goF a b), M.2)) := by
  refine pz_ofW (by decide) (Nat.le_of_ble_eq_true rfl) (fun p e s m args below meth c ad A C hr hnm => ?_)
  refine pz_aload_n C 0 dX11_goes_0 rfl ?_
  refine pz_iload_n C 1 dX11_goes_1 rfl ?_
  refine pz_if_ne (tgt := 9) C dX11_goes_2 (by decide) (fun h2 => ?_) (fun h2 => ?_)
  · refine pz_iload_n C 2 dX11_goes_9 rfl ?_
    refine pz_if_ne (tgt := 17) C dX11_goes_10 (by decide) (fun h10 => ?_) (fun h10 => ?_)
    · refine pz_iconst C (v := 0) dX11_goes_17 (by decide) ?_
      refine pz_putI C (ci := 10) (k := 0) gwX11 rfl (Nat.le_of_ble_eq_true rfl) fl_X11_123 (shL h 45 rfl) (shK h 45 rfl rfl) tyX11_ok nmX11 rfl rfl (by decide +kernel) dX11_goes_18 ?_
      refine pz_aload_n C 0 dX11_goes_21 rfl ?_
      refine pz_getI C (ci := 10) (k := 0) gwX11 rfl (Nat.le_of_ble_eq_true rfl) fl_X11_123 (shL h 45 rfl) (shK h 45 rfl rfl) rfl dX11_goes_22 ?_
      refine pz_if_ne (tgt := 32) C dX11_goes_25 (by decide) (fun h25 => ?_) (fun h25 => ?_)
      · refine pz_iconst C (v := 0) dX11_goes_32 (by decide) ?_
        exact pz_zret C hr rfl (Nat.le_of_ble_eq_true rfl) (Nat.le_of_ble_eq_true rfl) dX11_goes_33 (by first | exact absurd (show (1 : Int32) = 0 from (pz_u_eq M.1 45 0 1).symm.trans h25) (by decide) | exact absurd (show (2 : Int32) = 0 from (pz_u_eq M.1 45 0 2).symm.trans h25) (by decide) | exact absurd (pz_u_eq M.1 45 0 0) h25 | (have e : goF a b = 1 := if_pos h2; rw [e]; exact ⟨rfl, rfl, rfl⟩) | (have e : goF a b = 2 := (if_neg h2).trans (if_pos h10); rw [e]; exact ⟨rfl, rfl, rfl⟩) | (have e : goF a b = 0 := (if_neg h2).trans (if_neg h10); rw [e]; exact ⟨rfl, rfl, rfl⟩))
      · refine pz_iconst C (v := 1) dX11_goes_28 (by decide) ?_
        refine pz_goto (tgt := 33) C dX11_goes_29 (by decide) ?_
        exact pz_zret C hr rfl (Nat.le_of_ble_eq_true rfl) (Nat.le_of_ble_eq_true rfl) dX11_goes_33 (by first | exact absurd (show (1 : Int32) = 0 from (pz_u_eq M.1 45 0 1).symm.trans h25) (by decide) | exact absurd (show (2 : Int32) = 0 from (pz_u_eq M.1 45 0 2).symm.trans h25) (by decide) | exact absurd (pz_u_eq M.1 45 0 0) h25 | (have e : goF a b = 1 := if_pos h2; rw [e]; exact ⟨rfl, rfl, rfl⟩) | (have e : goF a b = 2 := (if_neg h2).trans (if_pos h10); rw [e]; exact ⟨rfl, rfl, rfl⟩) | (have e : goF a b = 0 := (if_neg h2).trans (if_neg h10); rw [e]; exact ⟨rfl, rfl, rfl⟩))
    · refine pz_iconst C (v := 2) dX11_goes_13 (by decide) ?_
      refine pz_goto (tgt := 18) C dX11_goes_14 (by decide) ?_
      refine pz_putI C (ci := 10) (k := 0) gwX11 rfl (Nat.le_of_ble_eq_true rfl) fl_X11_123 (shL h 45 rfl) (shK h 45 rfl rfl) tyX11_ok nmX11 rfl rfl (by decide +kernel) dX11_goes_18 ?_
      refine pz_aload_n C 0 dX11_goes_21 rfl ?_
      refine pz_getI C (ci := 10) (k := 0) gwX11 rfl (Nat.le_of_ble_eq_true rfl) fl_X11_123 (shL h 45 rfl) (shK h 45 rfl rfl) rfl dX11_goes_22 ?_
      refine pz_if_ne (tgt := 32) C dX11_goes_25 (by decide) (fun h25 => ?_) (fun h25 => ?_)
      · refine pz_iconst C (v := 0) dX11_goes_32 (by decide) ?_
        exact pz_zret C hr rfl (Nat.le_of_ble_eq_true rfl) (Nat.le_of_ble_eq_true rfl) dX11_goes_33 (by first | exact absurd (show (1 : Int32) = 0 from (pz_u_eq M.1 45 0 1).symm.trans h25) (by decide) | exact absurd (show (2 : Int32) = 0 from (pz_u_eq M.1 45 0 2).symm.trans h25) (by decide) | exact absurd (pz_u_eq M.1 45 0 0) h25 | (have e : goF a b = 1 := if_pos h2; rw [e]; exact ⟨rfl, rfl, rfl⟩) | (have e : goF a b = 2 := (if_neg h2).trans (if_pos h10); rw [e]; exact ⟨rfl, rfl, rfl⟩) | (have e : goF a b = 0 := (if_neg h2).trans (if_neg h10); rw [e]; exact ⟨rfl, rfl, rfl⟩))
      · refine pz_iconst C (v := 1) dX11_goes_28 (by decide) ?_
        refine pz_goto (tgt := 33) C dX11_goes_29 (by decide) ?_
        exact pz_zret C hr rfl (Nat.le_of_ble_eq_true rfl) (Nat.le_of_ble_eq_true rfl) dX11_goes_33 (by first | exact absurd (show (1 : Int32) = 0 from (pz_u_eq M.1 45 0 1).symm.trans h25) (by decide) | exact absurd (show (2 : Int32) = 0 from (pz_u_eq M.1 45 0 2).symm.trans h25) (by decide) | exact absurd (pz_u_eq M.1 45 0 0) h25 | (have e : goF a b = 1 := if_pos h2; rw [e]; exact ⟨rfl, rfl, rfl⟩) | (have e : goF a b = 2 := (if_neg h2).trans (if_pos h10); rw [e]; exact ⟨rfl, rfl, rfl⟩) | (have e : goF a b = 0 := (if_neg h2).trans (if_neg h10); rw [e]; exact ⟨rfl, rfl, rfl⟩))
  · refine pz_iconst C (v := 1) dX11_goes_5 (by decide) ?_
    refine pz_goto (tgt := 18) C dX11_goes_6 (by decide) ?_
    refine pz_putI C (ci := 10) (k := 0) gwX11 rfl (Nat.le_of_ble_eq_true rfl) fl_X11_123 (shL h 45 rfl) (shK h 45 rfl rfl) tyX11_ok nmX11 rfl rfl (by decide +kernel) dX11_goes_18 ?_
    refine pz_aload_n C 0 dX11_goes_21 rfl ?_
    refine pz_getI C (ci := 10) (k := 0) gwX11 rfl (Nat.le_of_ble_eq_true rfl) fl_X11_123 (shL h 45 rfl) (shK h 45 rfl rfl) rfl dX11_goes_22 ?_
    refine pz_if_ne (tgt := 32) C dX11_goes_25 (by decide) (fun h25 => ?_) (fun h25 => ?_)
    · refine pz_iconst C (v := 0) dX11_goes_32 (by decide) ?_
      exact pz_zret C hr rfl (Nat.le_of_ble_eq_true rfl) (Nat.le_of_ble_eq_true rfl) dX11_goes_33 (by first | exact absurd (show (1 : Int32) = 0 from (pz_u_eq M.1 45 0 1).symm.trans h25) (by decide) | exact absurd (show (2 : Int32) = 0 from (pz_u_eq M.1 45 0 2).symm.trans h25) (by decide) | exact absurd (pz_u_eq M.1 45 0 0) h25 | (have e : goF a b = 1 := if_pos h2; rw [e]; exact ⟨rfl, rfl, rfl⟩) | (have e : goF a b = 2 := (if_neg h2).trans (if_pos h10); rw [e]; exact ⟨rfl, rfl, rfl⟩) | (have e : goF a b = 0 := (if_neg h2).trans (if_neg h10); rw [e]; exact ⟨rfl, rfl, rfl⟩))
    · refine pz_iconst C (v := 1) dX11_goes_28 (by decide) ?_
      refine pz_goto (tgt := 33) C dX11_goes_29 (by decide) ?_
      exact pz_zret C hr rfl (Nat.le_of_ble_eq_true rfl) (Nat.le_of_ble_eq_true rfl) dX11_goes_33 (by first | exact absurd (show (1 : Int32) = 0 from (pz_u_eq M.1 45 0 1).symm.trans h25) (by decide) | exact absurd (show (2 : Int32) = 0 from (pz_u_eq M.1 45 0 2).symm.trans h25) (by decide) | exact absurd (pz_u_eq M.1 45 0 0) h25 | (have e : goF a b = 1 := if_pos h2; rw [e]; exact ⟨rfl, rfl, rfl⟩) | (have e : goF a b = 2 := (if_neg h2).trans (if_pos h10); rw [e]; exact ⟨rfl, rfl, rfl⟩) | (have e : goF a b = 0 := (if_neg h2).trans (if_neg h10); rw [e]; exact ⟨rfl, rfl, rfl⟩))
set_option maxHeartbeats 4000000 in
set_option maxRecDepth 100000 in
theorem c_X11_isFunction (l : Launch) (D : va_G) (cy : Nat → ClassId) {σ : pzS} {M : pzM} {f : Int32} (h : pz_sh σ) (z : pz_fm M) : pz_Met l yX11_isFunction cX11_isFunction 2 (some .boolean) 0 0 0 0 D cy σ M [.ref 45, .int f] (fun r σ' M' => r = some (.int 0) ∧ σ' = σ ∧ M' = M) := by
  refine pz_ofW (by decide) (Nat.le_of_ble_eq_true rfl) (fun p e s m args below meth c ad A C hr hnm => ?_)
  refine pz_iload_n C 1 dX11_isFunction_0 rfl ?_
  refine pz_if_lt (tgt := 16) C dX11_isFunction_1 (by decide) (fun h1 => ?_) (fun h1 => ?_)
  · refine pz_iconst C (v := 0) dX11_isFunction_16 (by decide) ?_
    exact pz_zret C hr rfl (Nat.le_of_ble_eq_true rfl) (Nat.le_of_ble_eq_true rfl) dX11_isFunction_17 (⟨rfl, rfl, rfl⟩)
  · refine pz_iload_n C 1 dX11_isFunction_4 rfl ?_
    refine pz_aload_n C 0 dX11_isFunction_5 rfl ?_
    refine pz_getI C (ci := 10) (k := 1) gwX11 rfl (Nat.le_of_ble_eq_true rfl) fl_X11_127 (shL h 45 rfl) (shK h 45 rfl rfl) rfl dX11_isFunction_6 ?_
    refine pz_icmp_ge (tgt := 16) C dX11_isFunction_9 (by decide) (fun h9 => ?_) (fun h9 => ?_)
    · refine pz_iconst C (v := 0) dX11_isFunction_16 (by decide) ?_
      exact pz_zret C hr rfl (Nat.le_of_ble_eq_true rfl) (Nat.le_of_ble_eq_true rfl) dX11_isFunction_17 (⟨rfl, rfl, rfl⟩)
    · exact absurd (show M.1 45 1 ≤ f by rw [(z 45 (by decide) (by decide)).1 1]; exact Int32.not_lt.mp h1) h9
set_option maxHeartbeats 4000000 in
set_option maxRecDepth 100000 in
theorem c_X11_function (l : Launch) (D : va_G) (cy : Nat → ClassId) {σ : pzS} {M : pzM} {n : Int32} (h : pz_sh σ) (z : pz_fm M) : pz_Met l yX11_function cX11_function 2 (some .int) 1 22 0 0 D cy σ M [.ref 45, .int n] (fun r σ' M' => r = some (.int 0) ∧ σ' = σ ∧ M'.1 45 0 = (if n < 0 ∨ 3 < n then 1 else 0) ∧ M'.2 = M.2) := by
  refine pz_ofW (by decide) (Nat.le_of_ble_eq_true rfl) (fun p e s m args below meth c ad A C hr hnm => ?_)
  refine pz_aload_n C 0 dX11_function_0 rfl ?_
  refine pz_iload_n C 1 dX11_function_1 rfl ?_
  refine pz_if_lt (tgt := 14) C dX11_function_2 (by decide) (fun h2 => ?_) (fun h2 => ?_)
  · refine pz_iconst C (v := 0) dX11_function_14 (by decide) ?_
    refine pz_aload_n C 0 dX11_function_15 rfl ?_
    refine pz_getI C (ci := 10) (k := 1) gwX11 rfl (Nat.le_of_ble_eq_true rfl) fl_X11_127 (shL h 45 rfl) (shK h 45 rfl rfl) rfl dX11_function_16 ?_
    refine pz_bipush C (v := 12) dX11_function_19 (by decide) ?_
    refine pz_icmp_ge (tgt := 28) C dX11_function_21 (by decide) (fun h21 => ?_) (fun h21 => ?_)
    · exact absurd ((z 45 (by decide) (by decide)).1 1 ▸ h21) (by decide)
    · refine pz_iconst C (v := 1) dX11_function_24 (by decide) ?_
      refine pz_goto (tgt := 29) C dX11_function_25 (by decide) ?_
      refine pz_callV C (As := [_, _]) (b := 45) (c_X11_goes l D cy h) wB_yX11_goes ml_X11_130 im_yX11_goes se_yX11_goes (ci := 10) rfl (shL h 45 rfl) (shK h 45 rfl rfl) rfl rfl (Nat.le_of_ble_eq_true rfl) ⟨(Nat.le_of_ble_eq_true rfl), (Nat.le_of_ble_eq_true rfl)⟩ ⟨(Nat.le_of_ble_eq_true rfl), (Nat.le_of_ble_eq_true rfl)⟩ dX11_function_29 (Nat.le_refl _) (True.intro) (And.intro (shL h 45 rfl) (And.intro True.intro (True.intro))) (fun r29 σ29 M29 hp29 => ?_)
      obtain ⟨rfl, rfl, rfl⟩ := hp29
      refine pz_if_ne (tgt := 37) C dX11_function_32 (by decide) (fun h32 => ?_) (fun h32 => ?_)
      · first | exact absurd h32 (by decide) | exact absurd (by decide) h32 | exact absurd (by simp [goF]) h32 | exact absurd h32 (by simp [goF])
      · refine pz_iconst C (v := 0) dX11_function_35 (by decide) ?_
        exact pz_iret C hr (Nat.le_of_ble_eq_true rfl) (Nat.le_of_ble_eq_true rfl) dX11_function_36 (⟨rfl, rfl, by rw [if_pos (show n < 0 ∨ 3 < n by first | exact Or.inl h2 | exact Or.inr h7)]; simp [pz_u, va_up, goF], rfl⟩)
  · refine pz_iload_n C 1 dX11_function_5 rfl ?_
    refine pz_iconst C (v := 3) dX11_function_6 (by decide) ?_
    refine pz_icmp_gt (tgt := 14) C dX11_function_7 (by decide) (fun h7 => ?_) (fun h7 => ?_)
    · refine pz_iconst C (v := 0) dX11_function_14 (by decide) ?_
      refine pz_aload_n C 0 dX11_function_15 rfl ?_
      refine pz_getI C (ci := 10) (k := 1) gwX11 rfl (Nat.le_of_ble_eq_true rfl) fl_X11_127 (shL h 45 rfl) (shK h 45 rfl rfl) rfl dX11_function_16 ?_
      refine pz_bipush C (v := 12) dX11_function_19 (by decide) ?_
      refine pz_icmp_ge (tgt := 28) C dX11_function_21 (by decide) (fun h21 => ?_) (fun h21 => ?_)
      · exact absurd ((z 45 (by decide) (by decide)).1 1 ▸ h21) (by decide)
      · refine pz_iconst C (v := 1) dX11_function_24 (by decide) ?_
        refine pz_goto (tgt := 29) C dX11_function_25 (by decide) ?_
        refine pz_callV C (As := [_, _]) (b := 45) (c_X11_goes l D cy h) wB_yX11_goes ml_X11_130 im_yX11_goes se_yX11_goes (ci := 10) rfl (shL h 45 rfl) (shK h 45 rfl rfl) rfl rfl (Nat.le_of_ble_eq_true rfl) ⟨(Nat.le_of_ble_eq_true rfl), (Nat.le_of_ble_eq_true rfl)⟩ ⟨(Nat.le_of_ble_eq_true rfl), (Nat.le_of_ble_eq_true rfl)⟩ dX11_function_29 (Nat.le_refl _) (True.intro) (And.intro (shL h 45 rfl) (And.intro True.intro (True.intro))) (fun r29 σ29 M29 hp29 => ?_)
        obtain ⟨rfl, rfl, rfl⟩ := hp29
        refine pz_if_ne (tgt := 37) C dX11_function_32 (by decide) (fun h32 => ?_) (fun h32 => ?_)
        · first | exact absurd h32 (by decide) | exact absurd (by decide) h32 | exact absurd (by simp [goF]) h32 | exact absurd h32 (by simp [goF])
        · refine pz_iconst C (v := 0) dX11_function_35 (by decide) ?_
          exact pz_iret C hr (Nat.le_of_ble_eq_true rfl) (Nat.le_of_ble_eq_true rfl) dX11_function_36 (⟨rfl, rfl, by rw [if_pos (show n < 0 ∨ 3 < n by first | exact Or.inl h2 | exact Or.inr h7)]; simp [pz_u, va_up, goF], rfl⟩)
    · refine pz_iconst C (v := 1) dX11_function_10 (by decide) ?_
      refine pz_goto (tgt := 15) C dX11_function_11 (by decide) ?_
      refine pz_aload_n C 0 dX11_function_15 rfl ?_
      refine pz_getI C (ci := 10) (k := 1) gwX11 rfl (Nat.le_of_ble_eq_true rfl) fl_X11_127 (shL h 45 rfl) (shK h 45 rfl rfl) rfl dX11_function_16 ?_
      refine pz_bipush C (v := 12) dX11_function_19 (by decide) ?_
      refine pz_icmp_ge (tgt := 28) C dX11_function_21 (by decide) (fun h21 => ?_) (fun h21 => ?_)
      · exact absurd ((z 45 (by decide) (by decide)).1 1 ▸ h21) (by decide)
      · refine pz_iconst C (v := 1) dX11_function_24 (by decide) ?_
        refine pz_goto (tgt := 29) C dX11_function_25 (by decide) ?_
        refine pz_callV C (As := [_, _]) (b := 45) (c_X11_goes l D cy h) wB_yX11_goes ml_X11_130 im_yX11_goes se_yX11_goes (ci := 10) rfl (shL h 45 rfl) (shK h 45 rfl rfl) rfl rfl (Nat.le_of_ble_eq_true rfl) ⟨(Nat.le_of_ble_eq_true rfl), (Nat.le_of_ble_eq_true rfl)⟩ ⟨(Nat.le_of_ble_eq_true rfl), (Nat.le_of_ble_eq_true rfl)⟩ dX11_function_29 (Nat.le_refl _) (True.intro) (And.intro (shL h 45 rfl) (And.intro True.intro (True.intro))) (fun r29 σ29 M29 hp29 => ?_)
        obtain ⟨rfl, rfl, rfl⟩ := hp29
        refine pz_if_ne (tgt := 37) C dX11_function_32 (by decide) (fun h32 => ?_) (fun h32 => ?_)
        · refine pz_aload_n C 0 dX11_function_37 rfl ?_
          refine pz_iconst C (v := 0) dX11_function_38 (by decide) ?_
          refine pz_putIZ C (ci := 10) (k := 10) gwX11 rfl (Nat.le_of_ble_eq_true rfl) fl_X11_134 (shL h 45 rfl) (shK h 45 rfl rfl) tyX11_ok nmX11 rfl rfl (by decide +kernel) rfl rfl dX11_function_39 ?_
          refine pz_aload_n C 0 dX11_function_42 rfl ?_
          refine pz_getR C (ci := 10) (k := 2) gwX11 rfl (Nat.le_of_ble_eq_true rfl) fl_X11_7 (shL h 45 rfl) (shK h 45 rfl rfl) rfl (shR h 45 2 46 rfl rfl rfl) dX11_function_43 ?_
          refine pz_aload_n C 0 dX11_function_46 rfl ?_
          refine pz_getI C (ci := 10) (k := 1) gwX11 rfl (Nat.le_of_ble_eq_true rfl) fl_X11_127 (shL h 45 rfl) (shK h 45 rfl rfl) rfl dX11_function_47 ?_
          refine pz_iload_n C 1 dX11_function_50 rfl ?_
          refine pz_iast C (shL h 46 rfl) (shK h 46 rfl rfl) (shB h 46 rfl rfl (by simp [pz_u, va_up, goF, (z 45 (by decide) (by decide)).1 1]; exact vp_in0 (by decide))) dX11_function_51 ?_
          refine pz_aload_n C 0 dX11_function_52 rfl ?_
          refine pz_dup C dX11_function_53 rfl ?_
          refine pz_getI C (ci := 10) (k := 1) gwX11 rfl (Nat.le_of_ble_eq_true rfl) fl_X11_127 (shL h 45 rfl) (shK h 45 rfl rfl) rfl dX11_function_54 ?_
          refine pz_iconst C (v := 1) dX11_function_57 (by decide) ?_
          refine pz_iadd C dX11_function_58 ?_
          refine pz_putI C (ci := 10) (k := 1) gwX11 rfl (Nat.le_of_ble_eq_true rfl) fl_X11_127 (shL h 45 rfl) (shK h 45 rfl rfl) tyX11_ok nmX11 rfl rfl (by decide +kernel) dX11_function_59 ?_
          refine pz_aload_n C 0 dX11_function_62 rfl ?_
          refine pz_getI C (ci := 10) (k := 1) gwX11 rfl (Nat.le_of_ble_eq_true rfl) fl_X11_127 (shL h 45 rfl) (shK h 45 rfl rfl) rfl dX11_function_63 ?_
          refine pz_iconst C (v := 1) dX11_function_66 (by decide) ?_
          refine pz_isub C dX11_function_67 ?_
          exact pz_iret C hr (Nat.le_of_ble_eq_true rfl) (Nat.le_of_ble_eq_true rfl) dX11_function_68 (⟨by simp [pz_u, va_up, goF, (z 45 (by decide) (by decide)).1 1], rfl, by rw [if_neg (show ¬ (n < 0 ∨ 3 < n) from fun q => q.elim h2 h7)]; simp [pz_u, va_up, goF], rfl⟩)
        · first | exact absurd h32 (by decide) | exact absurd (by decide) h32 | exact absurd (by simp [goF]) h32 | exact absurd h32 (by simp [goF])
set_option maxHeartbeats 4000000 in
set_option maxRecDepth 100000 in
theorem c_X11_code (l : Launch) (D : va_G) (cy : Nat → ClassId) {σ : pzS} {M : pzM} {f : Int32} {w : Int32} {a : Int32} {b : Int32} (h : pz_sh σ) (z : pz_fm M) : pz_Met l yX11_code cX11_code 7 (some .int) 1 22 0 0 D cy σ M [.ref 45, .int f, .int w, .int a, .int b] (fun r σ' M' => r = some (.int 0) ∧ σ' = σ ∧ M'.1 45 0 = 1 ∧ M'.2 = M.2) := by
  refine pz_ofW (by decide) (Nat.le_of_ble_eq_true rfl) (fun p e s m args below meth c ad A C hr hnm => ?_)
  refine pz_aload_n C 0 dX11_code_0 rfl ?_
  refine pz_iload_n C 1 dX11_code_1 rfl ?_
  refine pz_callV C (As := [_]) (b := 45) (c_X11_isFunction l D cy h z) wB_yX11_isFunction ml_X11_138 im_yX11_isFunction se_yX11_isFunction (ci := 10) rfl (shL h 45 rfl) (shK h 45 rfl rfl) rfl rfl (Nat.le_of_ble_eq_true rfl) ⟨(Nat.le_of_ble_eq_true rfl), (Nat.le_of_ble_eq_true rfl)⟩ ⟨(Nat.le_of_ble_eq_true rfl), (Nat.le_of_ble_eq_true rfl)⟩ dX11_code_2 (Nat.le_refl _) (True.intro) (And.intro (shL h 45 rfl) (And.intro True.intro (And.intro True.intro (And.intro True.intro (And.intro True.intro (True.intro)))))) (fun r2 σ2 M2 hp2 => ?_)
  obtain ⟨rfl, rfl, rfl⟩ := hp2
  refine pz_if_eq (tgt := 22) C dX11_code_5 (by decide) (fun h5 => ?_) (fun h5 => ?_)
  · refine pz_iconst C (v := 0) dX11_code_22 (by decide) ?_
    refine pz_istore (loc' := [(5, .int 0), (0, .ref (45)), (1, .int f), (2, .int w), (3, .int a), (4, .int b)]) C dX11_code_23 (by decide) rfl ?_
    refine pz_aload_n C 1 dX11_code_25 rfl ?_
    refine pz_iload C 0 dX11_code_26 rfl ?_
    refine pz_iload C 0 dX11_code_28 rfl ?_
    refine pz_if_eq (tgt := 48) C dX11_code_30 (by decide) (fun h30 => ?_) (fun h30 => ?_)
    · refine pz_iconst C (v := 0) dX11_code_48 (by decide) ?_
      refine pz_callV C (As := [_, _]) (b := 45) (c_X11_goes l D cy h) wB_yX11_goes ml_X11_130 im_yX11_goes se_yX11_goes (ci := 10) rfl (shL h 45 rfl) (shK h 45 rfl rfl) rfl rfl (Nat.le_of_ble_eq_true rfl) ⟨(Nat.le_of_ble_eq_true rfl), (Nat.le_of_ble_eq_true rfl)⟩ ⟨(Nat.le_of_ble_eq_true rfl), (Nat.le_of_ble_eq_true rfl)⟩ dX11_code_49 (Nat.le_refl _) (True.intro) (And.intro True.intro (And.intro (shL h 45 rfl) (And.intro True.intro (And.intro True.intro (And.intro True.intro (And.intro True.intro (True.intro))))))) (fun r49 σ49 M49 hp49 => ?_)
      obtain ⟨rfl, rfl, rfl⟩ := hp49
      refine pz_if_ne (tgt := 57) C dX11_code_52 (by decide) (fun h52 => ?_) (fun h52 => ?_)
      · first | exact absurd h52 (by decide) | exact absurd (by decide) h52 | exact absurd (by simp [goF]) h52 | exact absurd h52 (by simp [goF])
      · refine pz_iconst C (v := 0) dX11_code_55 (by decide) ?_
        exact pz_iret C hr (Nat.le_of_ble_eq_true rfl) (Nat.le_of_ble_eq_true rfl) dX11_code_56 (⟨rfl, rfl, by simp [pz_u, va_up, goF], rfl⟩)
    · first | exact absurd h30 (by decide) | exact absurd (by decide) h30 | exact absurd (by simp [goF]) h30 | exact absurd h30 (by simp [goF])
  · first | exact absurd h5 (by decide) | exact absurd (by decide) h5 | exact absurd (by simp [goF]) h5 | exact absurd h5 (by simp [goF])
set_option maxHeartbeats 4000000 in
set_option maxRecDepth 100000 in
theorem c_X11_size (l : Launch) (D : va_G) (cy : Nat → ClassId) {σ : pzS} {M : pzM} {f : Int32} {w : Int32} (h : pz_sh σ) (z : pz_fm M) : pz_Met l yX11_size cX11_size 3 (some .int) 1 22 0 0 D cy σ M [.ref 45, .int f, .int w] (fun r σ' M' => r = some (.int 0) ∧ σ' = σ ∧ M'.1 45 0 = 1 ∧ M'.2 = M.2) := by
  refine pz_ofW (by decide) (Nat.le_of_ble_eq_true rfl) (fun p e s m args below meth c ad A C hr hnm => ?_)
  refine pz_aload_n C 0 dX11_size_0 rfl ?_
  refine pz_aload_n C 0 dX11_size_1 rfl ?_
  refine pz_iload_n C 1 dX11_size_2 rfl ?_
  refine pz_callV C (As := [_]) (b := 45) (c_X11_isFunction l D cy h z) wB_yX11_isFunction ml_X11_138 im_yX11_isFunction se_yX11_isFunction (ci := 10) rfl (shL h 45 rfl) (shK h 45 rfl rfl) rfl rfl (Nat.le_of_ble_eq_true rfl) ⟨(Nat.le_of_ble_eq_true rfl), (Nat.le_of_ble_eq_true rfl)⟩ ⟨(Nat.le_of_ble_eq_true rfl), (Nat.le_of_ble_eq_true rfl)⟩ dX11_size_3 (Nat.le_refl _) (And.intro (shL h 45 rfl) (True.intro)) (And.intro (shL h 45 rfl) (And.intro True.intro (And.intro True.intro (True.intro)))) (fun r3 σ3 M3 hp3 => ?_)
  obtain ⟨rfl, rfl, rfl⟩ := hp3
  refine pz_if_eq (tgt := 22) C dX11_size_6 (by decide) (fun h6 => ?_) (fun h6 => ?_)
  · refine pz_iconst C (v := 0) dX11_size_22 (by decide) ?_
    refine pz_iload_n C 2 dX11_size_23 rfl ?_
    refine pz_if_eq (tgt := 34) C dX11_size_24 (by decide) (fun h24 => ?_) (fun h24 => ?_)
    · refine pz_iconst C (v := 1) dX11_size_34 (by decide) ?_
      refine pz_goto (tgt := 39) C dX11_size_35 (by decide) ?_
      refine pz_callV C (As := [_, _]) (b := 45) (c_X11_goes l D cy h) wB_yX11_goes ml_X11_130 im_yX11_goes se_yX11_goes (ci := 10) rfl (shL h 45 rfl) (shK h 45 rfl rfl) rfl rfl (Nat.le_of_ble_eq_true rfl) ⟨(Nat.le_of_ble_eq_true rfl), (Nat.le_of_ble_eq_true rfl)⟩ ⟨(Nat.le_of_ble_eq_true rfl), (Nat.le_of_ble_eq_true rfl)⟩ dX11_size_39 (Nat.le_refl _) (True.intro) (And.intro (shL h 45 rfl) (And.intro True.intro (And.intro True.intro (True.intro)))) (fun r39 σ39 M39 hp39 => ?_)
      obtain ⟨rfl, rfl, rfl⟩ := hp39
      refine pz_if_ne (tgt := 47) C dX11_size_42 (by decide) (fun h42 => ?_) (fun h42 => ?_)
      · first | exact absurd h42 (by decide) | exact absurd (by decide) h42 | exact absurd (by simp [goF]) h42 | exact absurd h42 (by simp [goF])
      · refine pz_iconst C (v := 0) dX11_size_45 (by decide) ?_
        exact pz_iret C hr (Nat.le_of_ble_eq_true rfl) (Nat.le_of_ble_eq_true rfl) dX11_size_46 (⟨rfl, rfl, by simp [pz_u, va_up, goF], rfl⟩)
    · refine pz_aload_n C 0 dX11_size_27 rfl ?_
      refine pz_getI C (ci := 10) (k := 10) gwX11 rfl (Nat.le_of_ble_eq_true rfl) fl_X11_134 (shL h 45 rfl) (shK h 45 rfl rfl) rfl dX11_size_28 ?_
      refine pz_if_eq (tgt := 38) C dX11_size_31 (by decide) (fun h31 => ?_) (fun h31 => ?_)
      · refine pz_iconst C (v := 0) dX11_size_38 (by decide) ?_
        refine pz_callV C (As := [_, _]) (b := 45) (c_X11_goes l D cy h) wB_yX11_goes ml_X11_130 im_yX11_goes se_yX11_goes (ci := 10) rfl (shL h 45 rfl) (shK h 45 rfl rfl) rfl rfl (Nat.le_of_ble_eq_true rfl) ⟨(Nat.le_of_ble_eq_true rfl), (Nat.le_of_ble_eq_true rfl)⟩ ⟨(Nat.le_of_ble_eq_true rfl), (Nat.le_of_ble_eq_true rfl)⟩ dX11_size_39 (Nat.le_refl _) (True.intro) (And.intro (shL h 45 rfl) (And.intro True.intro (And.intro True.intro (True.intro)))) (fun r39 σ39 M39 hp39 => ?_)
        obtain ⟨rfl, rfl, rfl⟩ := hp39
        refine pz_if_ne (tgt := 47) C dX11_size_42 (by decide) (fun h42 => ?_) (fun h42 => ?_)
        · first | exact absurd h42 (by decide) | exact absurd (by decide) h42 | exact absurd (by simp [goF]) h42 | exact absurd h42 (by simp [goF])
        · refine pz_iconst C (v := 0) dX11_size_45 (by decide) ?_
          exact pz_iret C hr (Nat.le_of_ble_eq_true rfl) (Nat.le_of_ble_eq_true rfl) dX11_size_46 (⟨rfl, rfl, by simp [pz_u, va_up, goF], rfl⟩)
      · refine pz_iconst C (v := 1) dX11_size_34 (by decide) ?_
        refine pz_goto (tgt := 39) C dX11_size_35 (by decide) ?_
        refine pz_callV C (As := [_, _]) (b := 45) (c_X11_goes l D cy h) wB_yX11_goes ml_X11_130 im_yX11_goes se_yX11_goes (ci := 10) rfl (shL h 45 rfl) (shK h 45 rfl rfl) rfl rfl (Nat.le_of_ble_eq_true rfl) ⟨(Nat.le_of_ble_eq_true rfl), (Nat.le_of_ble_eq_true rfl)⟩ ⟨(Nat.le_of_ble_eq_true rfl), (Nat.le_of_ble_eq_true rfl)⟩ dX11_size_39 (Nat.le_refl _) (True.intro) (And.intro (shL h 45 rfl) (And.intro True.intro (And.intro True.intro (True.intro)))) (fun r39 σ39 M39 hp39 => ?_)
        obtain ⟨rfl, rfl, rfl⟩ := hp39
        refine pz_if_ne (tgt := 47) C dX11_size_42 (by decide) (fun h42 => ?_) (fun h42 => ?_)
        · first | exact absurd h42 (by decide) | exact absurd (by decide) h42 | exact absurd (by simp [goF]) h42 | exact absurd h42 (by simp [goF])
        · refine pz_iconst C (v := 0) dX11_size_45 (by decide) ?_
          exact pz_iret C hr (Nat.le_of_ble_eq_true rfl) (Nat.le_of_ble_eq_true rfl) dX11_size_46 (⟨rfl, rfl, by simp [pz_u, va_up, goF], rfl⟩)
  · first | exact absurd h6 (by decide) | exact absurd (by decide) h6 | exact absurd (by simp [goF]) h6 | exact absurd h6 (by simp [goF])
set_option maxHeartbeats 4000000 in
set_option maxRecDepth 100000 in
theorem c_X11_plain (l : Launch) (D : va_G) (cy : Nat → ClassId) {σ : pzS} {M : pzM} {f : Int32} {i0 : Int32} {w : Int32} (h : pz_sh σ) (z : pz_fm M) : pz_Met l yX11_plain cX11_plain 6 (some .int) 1 22 0 0 D cy σ M [.ref 45, .int f, .int i0, .int w] (fun r σ' M' => r = some (.int 0) ∧ σ' = σ ∧ M'.1 45 0 = 1 ∧ M'.2 = M.2) := by
  refine pz_ofW (by decide) (Nat.le_of_ble_eq_true rfl) (fun p e s m args below meth c ad A C hr hnm => ?_)
  refine pz_aload_n C 0 dX11_plain_0 rfl ?_
  refine pz_iload_n C 1 dX11_plain_1 rfl ?_
  refine pz_callV C (As := [_]) (b := 45) (c_X11_isFunction l D cy h z) wB_yX11_isFunction ml_X11_138 im_yX11_isFunction se_yX11_isFunction (ci := 10) rfl (shL h 45 rfl) (shK h 45 rfl rfl) rfl rfl (Nat.le_of_ble_eq_true rfl) ⟨(Nat.le_of_ble_eq_true rfl), (Nat.le_of_ble_eq_true rfl)⟩ ⟨(Nat.le_of_ble_eq_true rfl), (Nat.le_of_ble_eq_true rfl)⟩ dX11_plain_2 (Nat.le_refl _) (True.intro) (And.intro (shL h 45 rfl) (And.intro True.intro (And.intro True.intro (And.intro True.intro (True.intro))))) (fun r2 σ2 M2 hp2 => ?_)
  obtain ⟨rfl, rfl, rfl⟩ := hp2
  refine pz_if_eq (tgt := 25) C dX11_plain_5 (by decide) (fun h5 => ?_) (fun h5 => ?_)
  · refine pz_iconst C (v := 0) dX11_plain_25 (by decide) ?_
    refine pz_istore (loc' := [(4, .int 0), (0, .ref (45)), (1, .int f), (2, .int i0), (3, .int w)]) C dX11_plain_26 (by decide) rfl ?_
    refine pz_aload_n C 1 dX11_plain_28 rfl ?_
    refine pz_iload C 0 dX11_plain_29 rfl ?_
    refine pz_if_eq (tgt := 55) C dX11_plain_31 (by decide) (fun h31 => ?_) (fun h31 => ?_)
    · refine pz_iconst C (v := 0) dX11_plain_55 (by decide) ?_
      refine pz_aload_n C 1 dX11_plain_56 rfl ?_
      refine pz_getI C (ci := 10) (k := 10) gwX11 rfl (Nat.le_of_ble_eq_true rfl) fl_X11_134 (shL h 45 rfl) (shK h 45 rfl rfl) rfl dX11_plain_57 ?_
      refine pz_callV C (As := [_, _]) (b := 45) (c_X11_goes l D cy h) wB_yX11_goes ml_X11_130 im_yX11_goes se_yX11_goes (ci := 10) rfl (shL h 45 rfl) (shK h 45 rfl rfl) rfl rfl (Nat.le_of_ble_eq_true rfl) ⟨(Nat.le_of_ble_eq_true rfl), (Nat.le_of_ble_eq_true rfl)⟩ ⟨(Nat.le_of_ble_eq_true rfl), (Nat.le_of_ble_eq_true rfl)⟩ dX11_plain_60 (Nat.le_refl _) (True.intro) (And.intro True.intro (And.intro (shL h 45 rfl) (And.intro True.intro (And.intro True.intro (And.intro True.intro (True.intro)))))) (fun r60 σ60 M60 hp60 => ?_)
      obtain ⟨rfl, rfl, rfl⟩ := hp60
      refine pz_if_ne (tgt := 68) C dX11_plain_63 (by decide) (fun h63 => ?_) (fun h63 => ?_)
      · first | exact absurd h63 (by decide) | exact absurd (by decide) h63 | exact absurd (by simp [goF]) h63 | exact absurd h63 (by simp [goF])
      · refine pz_iconst C (v := 0) dX11_plain_66 (by decide) ?_
        exact pz_iret C hr (Nat.le_of_ble_eq_true rfl) (Nat.le_of_ble_eq_true rfl) dX11_plain_67 (⟨rfl, rfl, by simp [pz_u, va_up, goF], rfl⟩)
    · first | exact absurd h31 (by decide) | exact absurd (by decide) h31 | exact absurd (by simp [goF]) h31 | exact absurd h31 (by simp [goF])
  · first | exact absurd h5 (by decide) | exact absurd (by decide) h5 | exact absurd (by simp [goF]) h5 | exact absurd h5 (by simp [goF])
set_option maxHeartbeats 4000000 in
set_option maxRecDepth 100000 in
theorem c_X11_checkAll (l : Launch) (D : va_G) (cy : Nat → ClassId) {σ : pzS} {M : pzM}  (h : pz_sh σ) (zf : M.1 45 1 = 0) : pz_Met l yX11_checkAll cX11_checkAll 3 (some .int) 0 0 0 0 D cy σ M [.ref 45] (fun r σ' M' => r = some (.int (-1)) ∧ σ' = σ ∧ M' = M) := by
  refine pz_ofW (by decide) (Nat.le_of_ble_eq_true rfl) (fun p e s m args below meth c ad A C hr hnm => ?_)
  refine pz_iconst C (v := 0) dX11_checkAll_0 (by decide) ?_
  refine pz_istore_n (loc' := [(1, .int 0), (0, .ref (45))]) C dX11_checkAll_1 (by decide) rfl ?_
  refine pz_iload_n C 0 dX11_checkAll_2 rfl ?_
  refine pz_aload_n C 1 dX11_checkAll_3 rfl ?_
  refine pz_getI C (ci := 10) (k := 1) gwX11 rfl (Nat.le_of_ble_eq_true rfl) fl_X11_127 (shL h 45 rfl) (shK h 45 rfl rfl) rfl dX11_checkAll_4 ?_
  refine pz_icmp_ge (tgt := 33) C dX11_checkAll_7 (by decide) (fun h7 => ?_) (fun h7 => ?_)
  · refine pz_iconst C (v := -1) dX11_checkAll_33 (by decide) ?_
    exact pz_iret C hr (Nat.le_of_ble_eq_true rfl) (Nat.le_of_ble_eq_true rfl) dX11_checkAll_34 (⟨rfl, rfl, rfl⟩)
  · exact (h7 (by rw [zf]; decide)).elim
set_option maxHeartbeats 4000000 in
set_option maxRecDepth 100000 in
theorem c_X11_check (l : Launch) (D : va_G) (cy : Nat → ClassId) {σ : pzS} {M : pzM}  (h : pz_sh σ) (z : pz_fm M) : pz_Met l yX11_check cX11_check 1 (some .int) 1 22 0 0 D cy σ M [.ref 45] (fun r σ' M' => r = some (.int (-1)) ∧ σ' = σ ∧ M'.1 45 0 = 0 ∧ M'.2 = M.2) := by
  refine pz_ofW (by decide) (Nat.le_of_ble_eq_true rfl) (fun p e s m args below meth c ad A C hr hnm => ?_)
  refine pz_aload_n C 0 dX11_check_0 rfl ?_
  refine pz_iconst C (v := 0) dX11_check_1 (by decide) ?_
  refine pz_putI C (ci := 10) (k := 0) gwX11 rfl (Nat.le_of_ble_eq_true rfl) fl_X11_123 (shL h 45 rfl) (shK h 45 rfl rfl) tyX11_ok nmX11 rfl rfl (by decide +kernel) dX11_check_2 ?_
  refine pz_aload_n C 0 dX11_check_5 rfl ?_
  refine pz_callV C (As := []) (b := 45) (c_X11_checkAll l D cy h (by simp [pz_u, va_up, goF, (z 45 (by decide) (by decide)).1 1])) wB_yX11_checkAll ml_X11_180 im_yX11_checkAll se_yX11_checkAll (ci := 10) rfl (shL h 45 rfl) (shK h 45 rfl rfl) rfl rfl (Nat.le_of_ble_eq_true rfl) ⟨(Nat.le_of_ble_eq_true rfl), (Nat.le_of_ble_eq_true rfl)⟩ ⟨(Nat.le_of_ble_eq_true rfl), (Nat.le_of_ble_eq_true rfl)⟩ dX11_check_6 (Nat.le_refl _) (True.intro) (And.intro (shL h 45 rfl) (True.intro)) (fun r6 σ6 M6 hp6 => ?_)
  obtain ⟨rfl, rfl, rfl⟩ := hp6
  exact pz_iret C hr (Nat.le_of_ble_eq_true rfl) (Nat.le_of_ble_eq_true rfl) dX11_check_9 (⟨rfl, rfl, by simp [pz_u, va_up, goF], rfl⟩)
set_option maxHeartbeats 4000000 in
set_option maxRecDepth 100000 in
theorem c_X11_lower (l : Launch) (D : va_G) (cy : Nat → ClassId) {σ : pzS} {M : pzM}  (h : pz_sh σ) (z : pz_fm M) : pz_Met l yX11_lower cX11_lower 3 (some .int) 1 22 0 0 D cy σ M [.ref 45] (fun r σ' M' => r = some (.int 0) ∧ σ' = σ ∧ M'.1 45 0 = 0 ∧ M'.2 = M.2) := by
  refine pz_ofW (by decide) (Nat.le_of_ble_eq_true rfl) (fun p e s m args below meth c ad A C hr hnm => ?_)
  refine pz_aload_n C 0 dX11_lower_0 rfl ?_
  refine pz_iconst C (v := 0) dX11_lower_1 (by decide) ?_
  refine pz_putI C (ci := 10) (k := 0) gwX11 rfl (Nat.le_of_ble_eq_true rfl) fl_X11_123 (shL h 45 rfl) (shK h 45 rfl rfl) tyX11_ok nmX11 rfl rfl (by decide +kernel) dX11_lower_2 ?_
  refine pz_aload_n C 0 dX11_lower_5 rfl ?_
  refine pz_callV C (As := []) (b := 45) (c_X11_checkAll l D cy h (by simp [pz_u, va_up, goF, (z 45 (by decide) (by decide)).1 1])) wB_yX11_checkAll ml_X11_180 im_yX11_checkAll se_yX11_checkAll (ci := 10) rfl (shL h 45 rfl) (shK h 45 rfl rfl) rfl rfl (Nat.le_of_ble_eq_true rfl) ⟨(Nat.le_of_ble_eq_true rfl), (Nat.le_of_ble_eq_true rfl)⟩ ⟨(Nat.le_of_ble_eq_true rfl), (Nat.le_of_ble_eq_true rfl)⟩ dX11_lower_6 (Nat.le_refl _) (True.intro) (And.intro (shL h 45 rfl) (True.intro)) (fun r6 σ6 M6 hp6 => ?_)
  obtain ⟨rfl, rfl, rfl⟩ := hp6
  refine pz_if_lt (tgt := 14) C dX11_lower_9 (by decide) (fun h9 => ?_) (fun h9 => ?_)
  · refine pz_aload_n C 0 dX11_lower_14 rfl ?_
    refine pz_iconst C (v := 0) dX11_lower_15 (by decide) ?_
    refine pz_putI C (ci := 10) (k := 21) gwX11 rfl (Nat.le_of_ble_eq_true rfl) fl_X11_184 (shL h 45 rfl) (shK h 45 rfl rfl) tyX11_ok nmX11 rfl rfl (by decide +kernel) dX11_lower_16 ?_
    refine pz_aload_n C 0 dX11_lower_19 rfl ?_
    refine pz_iconst C (v := 0) dX11_lower_20 (by decide) ?_
    refine pz_putI C (ci := 10) (k := 24) gwX11 rfl (Nat.le_of_ble_eq_true rfl) fl_X11_202 (shL h 45 rfl) (shK h 45 rfl rfl) tyX11_ok nmX11 rfl rfl (by decide +kernel) dX11_lower_21 ?_
    refine pz_iconst C (v := 0) dX11_lower_24 (by decide) ?_
    refine pz_istore_n (loc' := [(1, .int 0), (0, .ref (45))]) C dX11_lower_25 (by decide) rfl ?_
    refine pz_iload_n C 0 dX11_lower_26 rfl ?_
    refine pz_aload_n C 1 dX11_lower_27 rfl ?_
    refine pz_getI C (ci := 10) (k := 7) gwX11 rfl (Nat.le_of_ble_eq_true rfl) fl_X11_146 (shL h 45 rfl) (shK h 45 rfl rfl) rfl dX11_lower_28 ?_
    refine pz_icmp_ge (tgt := 116) C dX11_lower_31 (by decide) (fun h31 => ?_) (fun h31 => ?_)
    · refine pz_iconst C (v := 0) dX11_lower_116 (by decide) ?_
      refine pz_istore_n (loc' := [(1, .int 0), (0, .ref (45))]) C dX11_lower_117 (by decide) rfl ?_
      refine pz_iconst C (v := 0) dX11_lower_118 (by decide) ?_
      refine pz_istore_n (loc' := [(2, .int 0), (1, .int 0), (0, .ref (45))]) C dX11_lower_119 (by decide) rfl ?_
      refine pz_iload_n C 0 dX11_lower_120 rfl ?_
      refine pz_aload_n C 2 dX11_lower_121 rfl ?_
      refine pz_getI C (ci := 10) (k := 1) gwX11 rfl (Nat.le_of_ble_eq_true rfl) fl_X11_127 (shL h 45 rfl) (shK h 45 rfl rfl) rfl dX11_lower_122 ?_
      refine pz_icmp_ge (tgt := 148) C dX11_lower_125 (by decide) (fun h125 => ?_) (fun h125 => ?_)
      · refine pz_aload_n C 2 dX11_lower_148 rfl ?_
        refine pz_iconst C (v := 1) dX11_lower_149 (by decide) ?_
        refine pz_putIZ C (ci := 10) (k := 10) gwX11 rfl (Nat.le_of_ble_eq_true rfl) fl_X11_134 (shL h 45 rfl) (shK h 45 rfl rfl) tyX11_ok nmX11 rfl rfl (by decide +kernel) rfl rfl dX11_lower_150 ?_
        refine pz_iload_n C 1 dX11_lower_153 rfl ?_
        exact pz_iret C hr (Nat.le_of_ble_eq_true rfl) (Nat.le_of_ble_eq_true rfl) dX11_lower_154 (⟨rfl, rfl, by simp [pz_u, va_up, goF], rfl⟩)
      · exact (h125 (by simp [pz_u, va_up, goF, (z 45 (by decide) (by decide)).1 1])).elim
    · exact (h31 (by simp [pz_u, va_up, goF, (z 45 (by decide) (by decide)).1 7])).elim
  · first | exact absurd h9 (by decide) | exact absurd (by decide) h9 | exact absurd (by simp [goF]) h9 | exact absurd h9 (by simp [goF])
