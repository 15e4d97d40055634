theorem pz_c2 {w : Int32} (h1 : ¬ w < 0) (h2 : w < 2) (h3 : w ≠ 0) (h4 : w ≠ 1) : False := by
  have a1 : ¬ w.toInt < (0 : Int32).toInt := fun q => h1 (Int32.lt_iff_toInt_lt.mpr q)
  have a2 := Int32.lt_iff_toInt_lt.mp h2
  have a3 : w.toInt ≠ 0 := fun q => h3 (Int32.toInt_inj.mp q)
  have a4 : w.toInt ≠ 1 := fun q => h4 (Int32.toInt_inj.mp q)
  have e0 : (0 : Int32).toInt = 0 := rfl
  have e2 : (2 : Int32).toInt = 2 := rfl
  omega
set_option maxHeartbeats 4000000 in
set_option maxRecDepth 100000 in
theorem c_X11_count (l : Launch) (D : va_G) (cy : Nat → ClassId) {σ : pzS} {M : pzM} {w : Int32} (h : pz_sh σ) (z : pz_fm M) : pz_Met l yX11_count cX11_count 2 (some .int) 1 22 0 0 D cy σ M [.ref 45, .int w] (fun r σ' M' => r = some (.int 0) ∧ σ' = σ ∧ M'.1 45 0 = (if w < 0 ∨ 3 < w then 1 else if w < 2 then 0 else 2) ∧ M'.2 = M.2) := by
  refine pz_ofW (by decide) (Nat.le_of_ble_eq_true rfl) (fun p e s m args below meth c ad A C hr hnm => ?_)
  refine pz_aload_n C 0 dX11_count_0 rfl ?_
  refine pz_iload_n C 1 dX11_count_1 rfl ?_
  refine pz_if_lt (tgt := 14) C dX11_count_2 (by decide) (fun h2 => ?_) (fun h2 => ?_)
  · refine pz_iconst C (v := 0) dX11_count_14 (by decide) ?_
    refine pz_iload_n C 1 dX11_count_15 rfl ?_
    refine pz_iconst C (v := 2) dX11_count_16 (by decide) ?_
    refine pz_icmp_lt (tgt := 27) C dX11_count_17 (by decide) (fun h17 => ?_) (fun h17 => ?_)
    · refine pz_iconst C (v := 1) dX11_count_27 (by decide) ?_
      refine pz_goto (tgt := 32) C dX11_count_28 (by decide) ?_
      refine pz_callV C (As := [_, _]) (b := 45) (c_X11_goes l D cy h) wB_yX11_goes ml_X11_130 im_yX11_goes se_yX11_goes (ci := 10) rfl (shL h 45 rfl) (shK h 45 rfl rfl) rfl rfl (Nat.le_of_ble_eq_true rfl) ⟨(Nat.le_of_ble_eq_true rfl), (Nat.le_of_ble_eq_true rfl)⟩ ⟨(Nat.le_of_ble_eq_true rfl), (Nat.le_of_ble_eq_true rfl)⟩ dX11_count_32 (Nat.le_refl _) (True.intro) (And.intro (shL h 45 rfl) (And.intro True.intro (True.intro))) (fun r32 σ32 M32 hp32 => ?_)
      obtain ⟨rfl, rfl, rfl⟩ := hp32
      refine pz_if_ne (tgt := 40) C dX11_count_35 (by decide) (fun h35 => ?_) (fun h35 => ?_)
      · first | exact absurd h35 (by decide) | exact absurd (by decide) h35 | exact absurd (by simp [goF]) h35 | exact absurd h35 (by simp [goF])
      · refine pz_iconst C (v := 0) dX11_count_38 (by decide) ?_
        exact pz_iret C hr (Nat.le_of_ble_eq_true rfl) (Nat.le_of_ble_eq_true rfl) dX11_count_39 (⟨rfl, rfl, by first | (rw [if_pos (show w < 0 ∨ 3 < w by first | exact Or.inl h2 | exact Or.inr h7)]; simp [pz_u, va_up, goF]) | (rw [if_neg (show ¬ (w < 0 ∨ 3 < w) from fun q => q.elim h2 h7), if_neg h17]; simp [pz_u, va_up, goF]), rfl⟩)
    · refine pz_aload_n C 0 dX11_count_20 rfl ?_
      refine pz_getI C (ci := 10) (k := 10) gwX11 rfl (Nat.le_of_ble_eq_true rfl) fl_X11_134 (shL h 45 rfl) (shK h 45 rfl rfl) rfl dX11_count_21 ?_
      refine pz_if_eq (tgt := 31) C dX11_count_24 (by decide) (fun h24 => ?_) (fun h24 => ?_)
      · refine pz_iconst C (v := 0) dX11_count_31 (by decide) ?_
        refine pz_callV C (As := [_, _]) (b := 45) (c_X11_goes l D cy h) wB_yX11_goes ml_X11_130 im_yX11_goes se_yX11_goes (ci := 10) rfl (shL h 45 rfl) (shK h 45 rfl rfl) rfl rfl (Nat.le_of_ble_eq_true rfl) ⟨(Nat.le_of_ble_eq_true rfl), (Nat.le_of_ble_eq_true rfl)⟩ ⟨(Nat.le_of_ble_eq_true rfl), (Nat.le_of_ble_eq_true rfl)⟩ dX11_count_32 (Nat.le_refl _) (True.intro) (And.intro (shL h 45 rfl) (And.intro True.intro (True.intro))) (fun r32 σ32 M32 hp32 => ?_)
        obtain ⟨rfl, rfl, rfl⟩ := hp32
        refine pz_if_ne (tgt := 40) C dX11_count_35 (by decide) (fun h35 => ?_) (fun h35 => ?_)
        · first | exact absurd h35 (by decide) | exact absurd (by decide) h35 | exact absurd (by simp [goF]) h35 | exact absurd h35 (by simp [goF])
        · refine pz_iconst C (v := 0) dX11_count_38 (by decide) ?_
          exact pz_iret C hr (Nat.le_of_ble_eq_true rfl) (Nat.le_of_ble_eq_true rfl) dX11_count_39 (⟨rfl, rfl, by first | (rw [if_pos (show w < 0 ∨ 3 < w by first | exact Or.inl h2 | exact Or.inr h7)]; simp [pz_u, va_up, goF]) | (rw [if_neg (show ¬ (w < 0 ∨ 3 < w) from fun q => q.elim h2 h7), if_neg h17]; simp [pz_u, va_up, goF]), rfl⟩)
      · exact absurd ((z 45 (by decide) (by decide)).1 10) h24
  · refine pz_iload_n C 1 dX11_count_5 rfl ?_
    refine pz_iconst C (v := 3) dX11_count_6 (by decide) ?_
    refine pz_icmp_gt (tgt := 14) C dX11_count_7 (by decide) (fun h7 => ?_) (fun h7 => ?_)
    · refine pz_iconst C (v := 0) dX11_count_14 (by decide) ?_
      refine pz_iload_n C 1 dX11_count_15 rfl ?_
      refine pz_iconst C (v := 2) dX11_count_16 (by decide) ?_
      refine pz_icmp_lt (tgt := 27) C dX11_count_17 (by decide) (fun h17 => ?_) (fun h17 => ?_)
      · refine pz_iconst C (v := 1) dX11_count_27 (by decide) ?_
        refine pz_goto (tgt := 32) C dX11_count_28 (by decide) ?_
        refine pz_callV C (As := [_, _]) (b := 45) (c_X11_goes l D cy h) wB_yX11_goes ml_X11_130 im_yX11_goes se_yX11_goes (ci := 10) rfl (shL h 45 rfl) (shK h 45 rfl rfl) rfl rfl (Nat.le_of_ble_eq_true rfl) ⟨(Nat.le_of_ble_eq_true rfl), (Nat.le_of_ble_eq_true rfl)⟩ ⟨(Nat.le_of_ble_eq_true rfl), (Nat.le_of_ble_eq_true rfl)⟩ dX11_count_32 (Nat.le_refl _) (True.intro) (And.intro (shL h 45 rfl) (And.intro True.intro (True.intro))) (fun r32 σ32 M32 hp32 => ?_)
        obtain ⟨rfl, rfl, rfl⟩ := hp32
        refine pz_if_ne (tgt := 40) C dX11_count_35 (by decide) (fun h35 => ?_) (fun h35 => ?_)
        · first | exact absurd h35 (by decide) | exact absurd (by decide) h35 | exact absurd (by simp [goF]) h35 | exact absurd h35 (by simp [goF])
        · refine pz_iconst C (v := 0) dX11_count_38 (by decide) ?_
          exact pz_iret C hr (Nat.le_of_ble_eq_true rfl) (Nat.le_of_ble_eq_true rfl) dX11_count_39 (⟨rfl, rfl, by first | (rw [if_pos (show w < 0 ∨ 3 < w by first | exact Or.inl h2 | exact Or.inr h7)]; simp [pz_u, va_up, goF]) | (rw [if_neg (show ¬ (w < 0 ∨ 3 < w) from fun q => q.elim h2 h7), if_neg h17]; simp [pz_u, va_up, goF]), rfl⟩)
      · refine pz_aload_n C 0 dX11_count_20 rfl ?_
        refine pz_getI C (ci := 10) (k := 10) gwX11 rfl (Nat.le_of_ble_eq_true rfl) fl_X11_134 (shL h 45 rfl) (shK h 45 rfl rfl) rfl dX11_count_21 ?_
        refine pz_if_eq (tgt := 31) C dX11_count_24 (by decide) (fun h24 => ?_) (fun h24 => ?_)
        · refine pz_iconst C (v := 0) dX11_count_31 (by decide) ?_
          refine pz_callV C (As := [_, _]) (b := 45) (c_X11_goes l D cy h) wB_yX11_goes ml_X11_130 im_yX11_goes se_yX11_goes (ci := 10) rfl (shL h 45 rfl) (shK h 45 rfl rfl) rfl rfl (Nat.le_of_ble_eq_true rfl) ⟨(Nat.le_of_ble_eq_true rfl), (Nat.le_of_ble_eq_true rfl)⟩ ⟨(Nat.le_of_ble_eq_true rfl), (Nat.le_of_ble_eq_true rfl)⟩ dX11_count_32 (Nat.le_refl _) (True.intro) (And.intro (shL h 45 rfl) (And.intro True.intro (True.intro))) (fun r32 σ32 M32 hp32 => ?_)
          obtain ⟨rfl, rfl, rfl⟩ := hp32
          refine pz_if_ne (tgt := 40) C dX11_count_35 (by decide) (fun h35 => ?_) (fun h35 => ?_)
          · first | exact absurd h35 (by decide) | exact absurd (by decide) h35 | exact absurd (by simp [goF]) h35 | exact absurd h35 (by simp [goF])
          · refine pz_iconst C (v := 0) dX11_count_38 (by decide) ?_
            exact pz_iret C hr (Nat.le_of_ble_eq_true rfl) (Nat.le_of_ble_eq_true rfl) dX11_count_39 (⟨rfl, rfl, by first | (rw [if_pos (show w < 0 ∨ 3 < w by first | exact Or.inl h2 | exact Or.inr h7)]; simp [pz_u, va_up, goF]) | (rw [if_neg (show ¬ (w < 0 ∨ 3 < w) from fun q => q.elim h2 h7), if_neg h17]; simp [pz_u, va_up, goF]), rfl⟩)
        · exact absurd ((z 45 (by decide) (by decide)).1 10) h24
    · refine pz_iconst C (v := 1) dX11_count_10 (by decide) ?_
      refine pz_goto (tgt := 15) C dX11_count_11 (by decide) ?_
      refine pz_iload_n C 1 dX11_count_15 rfl ?_
      refine pz_iconst C (v := 2) dX11_count_16 (by decide) ?_
      refine pz_icmp_lt (tgt := 27) C dX11_count_17 (by decide) (fun h17 => ?_) (fun h17 => ?_)
      · refine pz_iconst C (v := 1) dX11_count_27 (by decide) ?_
        refine pz_goto (tgt := 32) C dX11_count_28 (by decide) ?_
        refine pz_callV C (As := [_, _]) (b := 45) (c_X11_goes l D cy h) wB_yX11_goes ml_X11_130 im_yX11_goes se_yX11_goes (ci := 10) rfl (shL h 45 rfl) (shK h 45 rfl rfl) rfl rfl (Nat.le_of_ble_eq_true rfl) ⟨(Nat.le_of_ble_eq_true rfl), (Nat.le_of_ble_eq_true rfl)⟩ ⟨(Nat.le_of_ble_eq_true rfl), (Nat.le_of_ble_eq_true rfl)⟩ dX11_count_32 (Nat.le_refl _) (True.intro) (And.intro (shL h 45 rfl) (And.intro True.intro (True.intro))) (fun r32 σ32 M32 hp32 => ?_)
        obtain ⟨rfl, rfl, rfl⟩ := hp32
        refine pz_if_ne (tgt := 40) C dX11_count_35 (by decide) (fun h35 => ?_) (fun h35 => ?_)
        · refine pz_iload_n C 1 dX11_count_40 rfl ?_
          refine pz_if_ne (tgt := 51) C dX11_count_41 (by decide) (fun h41 => ?_) (fun h41 => ?_)
          · refine pz_iload_n C 1 dX11_count_51 rfl ?_
            refine pz_iconst C (v := 1) dX11_count_52 (by decide) ?_
            refine pz_icmp_ne (tgt := 63) C dX11_count_53 (by decide) (fun h53 => ?_) (fun h53 => ?_)
            · exact (pz_c2 h2 h17 h41 h53).elim
            · refine pz_aload_n C 0 dX11_count_56 rfl ?_
              refine pz_getI C (ci := 10) (k := 7) gwX11 rfl (Nat.le_of_ble_eq_true rfl) fl_X11_146 (shL h 45 rfl) (shK h 45 rfl rfl) rfl dX11_count_57 ?_
              refine pz_goto (tgt := 79) C dX11_count_60 (by decide) ?_
              exact pz_iret C hr (Nat.le_of_ble_eq_true rfl) (Nat.le_of_ble_eq_true rfl) dX11_count_79 (⟨by simp [pz_u, va_up, goF, (z 45 (by decide) (by decide)).1 1, (z 45 (by decide) (by decide)).1 7], rfl, by rw [if_neg (show ¬ (w < 0 ∨ 3 < w) from fun q => q.elim h2 h7), if_pos h17]; simp [pz_u, va_up, goF], rfl⟩)
          · refine pz_aload_n C 0 dX11_count_44 rfl ?_
            refine pz_getI C (ci := 10) (k := 1) gwX11 rfl (Nat.le_of_ble_eq_true rfl) fl_X11_127 (shL h 45 rfl) (shK h 45 rfl rfl) rfl dX11_count_45 ?_
            refine pz_goto (tgt := 79) C dX11_count_48 (by decide) ?_
            exact pz_iret C hr (Nat.le_of_ble_eq_true rfl) (Nat.le_of_ble_eq_true rfl) dX11_count_79 (⟨by simp [pz_u, va_up, goF, (z 45 (by decide) (by decide)).1 1, (z 45 (by decide) (by decide)).1 7], rfl, by rw [if_neg (show ¬ (w < 0 ∨ 3 < w) from fun q => q.elim h2 h7), if_pos h17]; simp [pz_u, va_up, goF], rfl⟩)
        · first | exact absurd h35 (by decide) | exact absurd (by decide) h35 | exact absurd (by simp [goF]) h35 | exact absurd h35 (by simp [goF])
      · refine pz_aload_n C 0 dX11_count_20 rfl ?_
        refine pz_getI C (ci := 10) (k := 10) gwX11 rfl (Nat.le_of_ble_eq_true rfl) fl_X11_134 (shL h 45 rfl) (shK h 45 rfl rfl) rfl dX11_count_21 ?_
        refine pz_if_eq (tgt := 31) C dX11_count_24 (by decide) (fun h24 => ?_) (fun h24 => ?_)
        · refine pz_iconst C (v := 0) dX11_count_31 (by decide) ?_
          refine pz_callV C (As := [_, _]) (b := 45) (c_X11_goes l D cy h) wB_yX11_goes ml_X11_130 im_yX11_goes se_yX11_goes (ci := 10) rfl (shL h 45 rfl) (shK h 45 rfl rfl) rfl rfl (Nat.le_of_ble_eq_true rfl) ⟨(Nat.le_of_ble_eq_true rfl), (Nat.le_of_ble_eq_true rfl)⟩ ⟨(Nat.le_of_ble_eq_true rfl), (Nat.le_of_ble_eq_true rfl)⟩ dX11_count_32 (Nat.le_refl _) (True.intro) (And.intro (shL h 45 rfl) (And.intro True.intro (True.intro))) (fun r32 σ32 M32 hp32 => ?_)
          obtain ⟨rfl, rfl, rfl⟩ := hp32
          refine pz_if_ne (tgt := 40) C dX11_count_35 (by decide) (fun h35 => ?_) (fun h35 => ?_)
          · first | exact absurd h35 (by decide) | exact absurd (by decide) h35 | exact absurd (by simp [goF]) h35 | exact absurd h35 (by simp [goF])
          · refine pz_iconst C (v := 0) dX11_count_38 (by decide) ?_
            exact pz_iret C hr (Nat.le_of_ble_eq_true rfl) (Nat.le_of_ble_eq_true rfl) dX11_count_39 (⟨rfl, rfl, by first | (rw [if_pos (show w < 0 ∨ 3 < w by first | exact Or.inl h2 | exact Or.inr h7)]; simp [pz_u, va_up, goF]) | (rw [if_neg (show ¬ (w < 0 ∨ 3 < w) from fun q => q.elim h2 h7), if_neg h17]; simp [pz_u, va_up, goF]), rfl⟩)
        · exact absurd ((z 45 (by decide) (by decide)).1 10) h24
set_option maxHeartbeats 4000000 in
set_option maxRecDepth 100000 in
theorem c_X11_made (l : Launch) (D : va_G) (cy : Nat → ClassId) {σ : pzS} {M : pzM} {c0 : Int32} {w : Int32} (h : pz_sh σ) (z : pz_fm M) : pz_Met l yX11_made cX11_made 3 (some .int) 1 22 0 0 D cy σ M [.ref 45, .int c0, .int w] (fun r σ' M' => r = some (.int 0) ∧ σ' = σ ∧ M'.1 45 0 = (if c0 < 0 ∨ w < 0 ∨ 2 < w then 1 else 2) ∧ M'.2 = M.2) := by
  refine pz_ofW (by decide) (Nat.le_of_ble_eq_true rfl) (fun p e s m args below meth c ad A C hr hnm => ?_)
  refine pz_aload_n C 0 dX11_made_0 rfl ?_
  refine pz_iload_n C 1 dX11_made_1 rfl ?_
  refine pz_if_lt (tgt := 33) C dX11_made_2 (by decide) (fun h2 => ?_) (fun h2 => ?_)
  · refine pz_iconst C (v := 0) dX11_made_33 (by decide) ?_
    refine pz_aload_n C 0 dX11_made_34 rfl ?_
    refine pz_getI C (ci := 10) (k := 10) gwX11 rfl (Nat.le_of_ble_eq_true rfl) fl_X11_134 (shL h 45 rfl) (shK h 45 rfl rfl) rfl dX11_made_35 ?_
    refine pz_callV C (As := [_, _]) (b := 45) (c_X11_goes l D cy h) wB_yX11_goes ml_X11_130 im_yX11_goes se_yX11_goes (ci := 10) rfl (shL h 45 rfl) (shK h 45 rfl rfl) rfl rfl (Nat.le_of_ble_eq_true rfl) ⟨(Nat.le_of_ble_eq_true rfl), (Nat.le_of_ble_eq_true rfl)⟩ ⟨(Nat.le_of_ble_eq_true rfl), (Nat.le_of_ble_eq_true rfl)⟩ dX11_made_38 (Nat.le_refl _) (True.intro) (And.intro (shL h 45 rfl) (And.intro True.intro (And.intro True.intro (True.intro)))) (fun r38 σ38 M38 hp38 => ?_)
    obtain ⟨rfl, rfl, rfl⟩ := hp38
    refine pz_if_ne (tgt := 46) C dX11_made_41 (by decide) (fun h41 => ?_) (fun h41 => ?_)
    · exact absurd h41 (by simp [goF, (z 45 (by decide) (by decide)).1 10])
    · refine pz_iconst C (v := 0) dX11_made_44 (by decide) ?_
      exact pz_iret C hr (Nat.le_of_ble_eq_true rfl) (Nat.le_of_ble_eq_true rfl) dX11_made_45 (⟨rfl, rfl, by first | (rw [if_pos (show c0 < 0 ∨ w < 0 ∨ 2 < w by first | exact Or.inl h2 | exact Or.inr (Or.inl h6) | exact Or.inr (Or.inr h11))]; simp [pz_u, va_up, goF, (z 45 (by decide) (by decide)).1 10]) | (rw [if_neg (show ¬ (c0 < 0 ∨ w < 0 ∨ 2 < w) from fun q => q.elim h2 (fun q2 => q2.elim h6 h11))]; simp [pz_u, va_up, goF, (z 45 (by decide) (by decide)).1 10]), rfl⟩)
  · refine pz_iload_n C 2 dX11_made_5 rfl ?_
    refine pz_if_lt (tgt := 33) C dX11_made_6 (by decide) (fun h6 => ?_) (fun h6 => ?_)
    · refine pz_iconst C (v := 0) dX11_made_33 (by decide) ?_
      refine pz_aload_n C 0 dX11_made_34 rfl ?_
      refine pz_getI C (ci := 10) (k := 10) gwX11 rfl (Nat.le_of_ble_eq_true rfl) fl_X11_134 (shL h 45 rfl) (shK h 45 rfl rfl) rfl dX11_made_35 ?_
      refine pz_callV C (As := [_, _]) (b := 45) (c_X11_goes l D cy h) wB_yX11_goes ml_X11_130 im_yX11_goes se_yX11_goes (ci := 10) rfl (shL h 45 rfl) (shK h 45 rfl rfl) rfl rfl (Nat.le_of_ble_eq_true rfl) ⟨(Nat.le_of_ble_eq_true rfl), (Nat.le_of_ble_eq_true rfl)⟩ ⟨(Nat.le_of_ble_eq_true rfl), (Nat.le_of_ble_eq_true rfl)⟩ dX11_made_38 (Nat.le_refl _) (True.intro) (And.intro (shL h 45 rfl) (And.intro True.intro (And.intro True.intro (True.intro)))) (fun r38 σ38 M38 hp38 => ?_)
      obtain ⟨rfl, rfl, rfl⟩ := hp38
      refine pz_if_ne (tgt := 46) C dX11_made_41 (by decide) (fun h41 => ?_) (fun h41 => ?_)
      · exact absurd h41 (by simp [goF, (z 45 (by decide) (by decide)).1 10])
      · refine pz_iconst C (v := 0) dX11_made_44 (by decide) ?_
        exact pz_iret C hr (Nat.le_of_ble_eq_true rfl) (Nat.le_of_ble_eq_true rfl) dX11_made_45 (⟨rfl, rfl, by first | (rw [if_pos (show c0 < 0 ∨ w < 0 ∨ 2 < w by first | exact Or.inl h2 | exact Or.inr (Or.inl h6) | exact Or.inr (Or.inr h11))]; simp [pz_u, va_up, goF, (z 45 (by decide) (by decide)).1 10]) | (rw [if_neg (show ¬ (c0 < 0 ∨ w < 0 ∨ 2 < w) from fun q => q.elim h2 (fun q2 => q2.elim h6 h11))]; simp [pz_u, va_up, goF, (z 45 (by decide) (by decide)).1 10]), rfl⟩)
    · refine pz_iload_n C 2 dX11_made_9 rfl ?_
      refine pz_iconst C (v := 2) dX11_made_10 (by decide) ?_
      refine pz_icmp_gt (tgt := 33) C dX11_made_11 (by decide) (fun h11 => ?_) (fun h11 => ?_)
      · refine pz_iconst C (v := 0) dX11_made_33 (by decide) ?_
        refine pz_aload_n C 0 dX11_made_34 rfl ?_
        refine pz_getI C (ci := 10) (k := 10) gwX11 rfl (Nat.le_of_ble_eq_true rfl) fl_X11_134 (shL h 45 rfl) (shK h 45 rfl rfl) rfl dX11_made_35 ?_
        refine pz_callV C (As := [_, _]) (b := 45) (c_X11_goes l D cy h) wB_yX11_goes ml_X11_130 im_yX11_goes se_yX11_goes (ci := 10) rfl (shL h 45 rfl) (shK h 45 rfl rfl) rfl rfl (Nat.le_of_ble_eq_true rfl) ⟨(Nat.le_of_ble_eq_true rfl), (Nat.le_of_ble_eq_true rfl)⟩ ⟨(Nat.le_of_ble_eq_true rfl), (Nat.le_of_ble_eq_true rfl)⟩ dX11_made_38 (Nat.le_refl _) (True.intro) (And.intro (shL h 45 rfl) (And.intro True.intro (And.intro True.intro (True.intro)))) (fun r38 σ38 M38 hp38 => ?_)
        obtain ⟨rfl, rfl, rfl⟩ := hp38
        refine pz_if_ne (tgt := 46) C dX11_made_41 (by decide) (fun h41 => ?_) (fun h41 => ?_)
        · exact absurd h41 (by simp [goF, (z 45 (by decide) (by decide)).1 10])
        · refine pz_iconst C (v := 0) dX11_made_44 (by decide) ?_
          exact pz_iret C hr (Nat.le_of_ble_eq_true rfl) (Nat.le_of_ble_eq_true rfl) dX11_made_45 (⟨rfl, rfl, by first | (rw [if_pos (show c0 < 0 ∨ w < 0 ∨ 2 < w by first | exact Or.inl h2 | exact Or.inr (Or.inl h6) | exact Or.inr (Or.inr h11))]; simp [pz_u, va_up, goF, (z 45 (by decide) (by decide)).1 10]) | (rw [if_neg (show ¬ (c0 < 0 ∨ w < 0 ∨ 2 < w) from fun q => q.elim h2 (fun q2 => q2.elim h6 h11))]; simp [pz_u, va_up, goF, (z 45 (by decide) (by decide)).1 10]), rfl⟩)
      · refine pz_aload_n C 0 dX11_made_14 rfl ?_
        refine pz_getI C (ci := 10) (k := 10) gwX11 rfl (Nat.le_of_ble_eq_true rfl) fl_X11_134 (shL h 45 rfl) (shK h 45 rfl rfl) rfl dX11_made_15 ?_
        refine pz_if_eq (tgt := 29) C dX11_made_18 (by decide) (fun h18 => ?_) (fun h18 => ?_)
        · refine pz_iconst C (v := 1) dX11_made_29 (by decide) ?_
          refine pz_goto (tgt := 34) C dX11_made_30 (by decide) ?_
          refine pz_aload_n C 0 dX11_made_34 rfl ?_
          refine pz_getI C (ci := 10) (k := 10) gwX11 rfl (Nat.le_of_ble_eq_true rfl) fl_X11_134 (shL h 45 rfl) (shK h 45 rfl rfl) rfl dX11_made_35 ?_
          refine pz_callV C (As := [_, _]) (b := 45) (c_X11_goes l D cy h) wB_yX11_goes ml_X11_130 im_yX11_goes se_yX11_goes (ci := 10) rfl (shL h 45 rfl) (shK h 45 rfl rfl) rfl rfl (Nat.le_of_ble_eq_true rfl) ⟨(Nat.le_of_ble_eq_true rfl), (Nat.le_of_ble_eq_true rfl)⟩ ⟨(Nat.le_of_ble_eq_true rfl), (Nat.le_of_ble_eq_true rfl)⟩ dX11_made_38 (Nat.le_refl _) (True.intro) (And.intro (shL h 45 rfl) (And.intro True.intro (And.intro True.intro (True.intro)))) (fun r38 σ38 M38 hp38 => ?_)
          obtain ⟨rfl, rfl, rfl⟩ := hp38
          refine pz_if_ne (tgt := 46) C dX11_made_41 (by decide) (fun h41 => ?_) (fun h41 => ?_)
          · exact absurd h41 (by simp [goF, (z 45 (by decide) (by decide)).1 10])
          · refine pz_iconst C (v := 0) dX11_made_44 (by decide) ?_
            exact pz_iret C hr (Nat.le_of_ble_eq_true rfl) (Nat.le_of_ble_eq_true rfl) dX11_made_45 (⟨rfl, rfl, by first | (rw [if_pos (show c0 < 0 ∨ w < 0 ∨ 2 < w by first | exact Or.inl h2 | exact Or.inr (Or.inl h6) | exact Or.inr (Or.inr h11))]; simp [pz_u, va_up, goF, (z 45 (by decide) (by decide)).1 10]) | (rw [if_neg (show ¬ (c0 < 0 ∨ w < 0 ∨ 2 < w) from fun q => q.elim h2 (fun q2 => q2.elim h6 h11))]; simp [pz_u, va_up, goF, (z 45 (by decide) (by decide)).1 10]), rfl⟩)
        · exact absurd ((z 45 (by decide) (by decide)).1 10) h18
set_option maxHeartbeats 4000000 in
set_option maxRecDepth 100000 in
theorem c_X11_character (l : Launch) (D : va_G) (cy : Nat → ClassId) {σ : pzS} {M : pzM} {k : Int32} (h : pz_sh σ) (z : pz_fm M) : pz_Met l yX11_character cX11_character 2 (some .int) 1 22 0 0 D cy σ M [.ref 45, .int k] (fun r σ' M' => r = some (.int 0) ∧ σ' = σ ∧ M'.1 45 0 = (if k < 0 then 1 else 2) ∧ M'.2 = M.2) := by
  refine pz_ofW (by decide) (Nat.le_of_ble_eq_true rfl) (fun p e s m args below meth c ad A C hr hnm => ?_)
  refine pz_aload_n C 0 dX11_character_0 rfl ?_
  refine pz_iload_n C 1 dX11_character_1 rfl ?_
  refine pz_if_lt (tgt := 24) C dX11_character_2 (by decide) (fun h2 => ?_) (fun h2 => ?_)
  · refine pz_iconst C (v := 0) dX11_character_24 (by decide) ?_
    refine pz_aload_n C 0 dX11_character_25 rfl ?_
    refine pz_getI C (ci := 10) (k := 10) gwX11 rfl (Nat.le_of_ble_eq_true rfl) fl_X11_134 (shL h 45 rfl) (shK h 45 rfl rfl) rfl dX11_character_26 ?_
    refine pz_callV C (As := [_, _]) (b := 45) (c_X11_goes l D cy h) wB_yX11_goes ml_X11_130 im_yX11_goes se_yX11_goes (ci := 10) rfl (shL h 45 rfl) (shK h 45 rfl rfl) rfl rfl (Nat.le_of_ble_eq_true rfl) ⟨(Nat.le_of_ble_eq_true rfl), (Nat.le_of_ble_eq_true rfl)⟩ ⟨(Nat.le_of_ble_eq_true rfl), (Nat.le_of_ble_eq_true rfl)⟩ dX11_character_29 (Nat.le_refl _) (True.intro) (And.intro (shL h 45 rfl) (And.intro True.intro (True.intro))) (fun r29 σ29 M29 hp29 => ?_)
    obtain ⟨rfl, rfl, rfl⟩ := hp29
    refine pz_if_eq (tgt := 44) C dX11_character_32 (by decide) (fun h32 => ?_) (fun h32 => ?_)
    · refine pz_iconst C (v := 0) dX11_character_44 (by decide) ?_
      exact pz_iret C hr (Nat.le_of_ble_eq_true rfl) (Nat.le_of_ble_eq_true rfl) dX11_character_45 (⟨rfl, rfl, by first | (rw [if_pos h2]; simp [pz_u, va_up, goF, (z 45 (by decide) (by decide)).1 10]) | (rw [if_neg h2]; simp [pz_u, va_up, goF, (z 45 (by decide) (by decide)).1 10]), rfl⟩)
    · exact absurd (by simp [goF, (z 45 (by decide) (by decide)).1 10]) h32
  · refine pz_aload_n C 0 dX11_character_5 rfl ?_
    refine pz_getI C (ci := 10) (k := 10) gwX11 rfl (Nat.le_of_ble_eq_true rfl) fl_X11_134 (shL h 45 rfl) (shK h 45 rfl rfl) rfl dX11_character_6 ?_
    refine pz_if_eq (tgt := 20) C dX11_character_9 (by decide) (fun h9 => ?_) (fun h9 => ?_)
    · refine pz_iconst C (v := 1) dX11_character_20 (by decide) ?_
      refine pz_goto (tgt := 25) C dX11_character_21 (by decide) ?_
      refine pz_aload_n C 0 dX11_character_25 rfl ?_
      refine pz_getI C (ci := 10) (k := 10) gwX11 rfl (Nat.le_of_ble_eq_true rfl) fl_X11_134 (shL h 45 rfl) (shK h 45 rfl rfl) rfl dX11_character_26 ?_
      refine pz_callV C (As := [_, _]) (b := 45) (c_X11_goes l D cy h) wB_yX11_goes ml_X11_130 im_yX11_goes se_yX11_goes (ci := 10) rfl (shL h 45 rfl) (shK h 45 rfl rfl) rfl rfl (Nat.le_of_ble_eq_true rfl) ⟨(Nat.le_of_ble_eq_true rfl), (Nat.le_of_ble_eq_true rfl)⟩ ⟨(Nat.le_of_ble_eq_true rfl), (Nat.le_of_ble_eq_true rfl)⟩ dX11_character_29 (Nat.le_refl _) (True.intro) (And.intro (shL h 45 rfl) (And.intro True.intro (True.intro))) (fun r29 σ29 M29 hp29 => ?_)
      obtain ⟨rfl, rfl, rfl⟩ := hp29
      refine pz_if_eq (tgt := 44) C dX11_character_32 (by decide) (fun h32 => ?_) (fun h32 => ?_)
      · refine pz_iconst C (v := 0) dX11_character_44 (by decide) ?_
        exact pz_iret C hr (Nat.le_of_ble_eq_true rfl) (Nat.le_of_ble_eq_true rfl) dX11_character_45 (⟨rfl, rfl, by first | (rw [if_pos h2]; simp [pz_u, va_up, goF, (z 45 (by decide) (by decide)).1 10]) | (rw [if_neg h2]; simp [pz_u, va_up, goF, (z 45 (by decide) (by decide)).1 10]), rfl⟩)
      · exact absurd (by simp [goF, (z 45 (by decide) (by decide)).1 10]) h32
    · exact absurd ((z 45 (by decide) (by decide)).1 10) h9
set_option maxHeartbeats 4000000 in
set_option maxRecDepth 100000 in
theorem c_X11_run (l : Launch) (D : va_G) (cy : Nat → ClassId) {σ : pzS} {M : pzM} {f : Int32} {x0 : Int32} {y0 : Int32} {z0 : Int32} {b0 : Int32} (h : pz_sh σ) (z : pz_fm M) : pz_Met l yX11_run cX11_run 7 (some .int) 1 22 0 0 D cy σ M [.ref 45, .int f, .int x0, .int y0, .int z0, .int b0] (fun r σ' M' => r = some (.int 0) ∧ σ' = σ ∧ M'.1 45 0 = 1 ∧ M'.2 = M.2) := by
  refine pz_ofW (by decide) (Nat.le_of_ble_eq_true rfl) (fun p e s m args below meth c ad A C hr hnm => ?_)
  refine pz_aload_n C 0 dX11_run_0 rfl ?_
  refine pz_aload_n C 0 dX11_run_1 rfl ?_
  refine pz_iload_n C 1 dX11_run_2 rfl ?_
  refine pz_callV C (As := [_]) (b := 45) (c_X11_isFunction l D cy h z) wB_yX11_isFunction ml_X11_138 im_yX11_isFunction se_yX11_isFunction (ci := 10) rfl (shL h 45 rfl) (shK h 45 rfl rfl) rfl rfl (Nat.le_of_ble_eq_true rfl) ⟨(Nat.le_of_ble_eq_true rfl), (Nat.le_of_ble_eq_true rfl)⟩ ⟨(Nat.le_of_ble_eq_true rfl), (Nat.le_of_ble_eq_true rfl)⟩ dX11_run_3 (Nat.le_refl _) (And.intro (shL h 45 rfl) (True.intro)) (And.intro (shL h 45 rfl) (And.intro True.intro (And.intro True.intro (And.intro True.intro (And.intro True.intro (And.intro True.intro (True.intro))))))) (fun r3 σ3 M3 hp3 => ?_)
  obtain ⟨rfl, rfl, rfl⟩ := hp3
  refine pz_aload_n C 0 dX11_run_6 rfl ?_
  refine pz_getI C (ci := 10) (k := 10) gwX11 rfl (Nat.le_of_ble_eq_true rfl) fl_X11_134 (shL h 45 rfl) (shK h 45 rfl rfl) rfl dX11_run_7 ?_
  refine pz_callV C (As := [_, _]) (b := 45) (c_X11_goes l D cy h) wB_yX11_goes ml_X11_130 im_yX11_goes se_yX11_goes (ci := 10) rfl (shL h 45 rfl) (shK h 45 rfl rfl) rfl rfl (Nat.le_of_ble_eq_true rfl) ⟨(Nat.le_of_ble_eq_true rfl), (Nat.le_of_ble_eq_true rfl)⟩ ⟨(Nat.le_of_ble_eq_true rfl), (Nat.le_of_ble_eq_true rfl)⟩ dX11_run_10 (Nat.le_refl _) (True.intro) (And.intro (shL h 45 rfl) (And.intro True.intro (And.intro True.intro (And.intro True.intro (And.intro True.intro (And.intro True.intro (True.intro))))))) (fun r10 σ10 M10 hp10 => ?_)
  obtain ⟨rfl, rfl, rfl⟩ := hp10
  refine pz_if_ne (tgt := 18) C dX11_run_13 (by decide) (fun h13 => ?_) (fun h13 => ?_)
  · first | exact absurd h13 (by decide) | exact absurd (by decide) h13 | exact absurd (by simp [goF]) h13 | exact absurd h13 (by simp [goF])
  · refine pz_iconst C (v := 0) dX11_run_16 (by decide) ?_
    exact pz_iret C hr (Nat.le_of_ble_eq_true rfl) (Nat.le_of_ble_eq_true rfl) dX11_run_17 (⟨rfl, rfl, by simp [pz_u, va_up, goF], rfl⟩)
set_option maxHeartbeats 4000000 in
set_option maxRecDepth 100000 in
theorem c_X11_told (l : Launch) (D : va_G) (cy : Nat → ClassId) {σ : pzS} {M : pzM} {w : Int32} (h : pz_sh σ) (z : pz_fm M) : pz_Met l yX11_told cX11_told 2 (some .int) 1 22 0 0 D cy σ M [.ref 45, .int w] (fun r σ' M' => r = some (.int 0) ∧ σ' = σ ∧ M'.1 45 0 = (if w < 0 ∨ 3 < w then 1 else 0) ∧ M'.2 = M.2) := by
  refine pz_ofW (by decide) (Nat.le_of_ble_eq_true rfl) (fun p e s m args below meth c ad A C hr hnm => ?_)
  refine pz_aload_n C 0 dX11_told_0 rfl ?_
  refine pz_iload_n C 1 dX11_told_1 rfl ?_
  refine pz_if_lt (tgt := 14) C dX11_told_2 (by decide) (fun h2 => ?_) (fun h2 => ?_)
  · refine pz_iconst C (v := 0) dX11_told_14 (by decide) ?_
    refine pz_iconst C (v := 1) dX11_told_15 (by decide) ?_
    refine pz_callV C (As := [_, _]) (b := 45) (c_X11_goes l D cy h) wB_yX11_goes ml_X11_130 im_yX11_goes se_yX11_goes (ci := 10) rfl (shL h 45 rfl) (shK h 45 rfl rfl) rfl rfl (Nat.le_of_ble_eq_true rfl) ⟨(Nat.le_of_ble_eq_true rfl), (Nat.le_of_ble_eq_true rfl)⟩ ⟨(Nat.le_of_ble_eq_true rfl), (Nat.le_of_ble_eq_true rfl)⟩ dX11_told_16 (Nat.le_refl _) (True.intro) (And.intro (shL h 45 rfl) (And.intro True.intro (True.intro))) (fun r16 σ16 M16 hp16 => ?_)
    obtain ⟨rfl, rfl, rfl⟩ := hp16
    refine pz_if_ne (tgt := 24) C dX11_told_19 (by decide) (fun h19 => ?_) (fun h19 => ?_)
    · first | exact absurd h19 (by decide) | exact absurd (by decide) h19 | exact absurd (by simp [goF]) h19 | exact absurd h19 (by simp [goF])
    · refine pz_iconst C (v := 0) dX11_told_22 (by decide) ?_
      exact pz_iret C hr (Nat.le_of_ble_eq_true rfl) (Nat.le_of_ble_eq_true rfl) dX11_told_23 (⟨rfl, rfl, by rw [if_pos (show w < 0 ∨ 3 < w by first | exact Or.inl h2 | exact Or.inr h7)]; simp [pz_u, va_up, goF], rfl⟩)
  · refine pz_iload_n C 1 dX11_told_5 rfl ?_
    refine pz_iconst C (v := 3) dX11_told_6 (by decide) ?_
    refine pz_icmp_gt (tgt := 14) C dX11_told_7 (by decide) (fun h7 => ?_) (fun h7 => ?_)
    · refine pz_iconst C (v := 0) dX11_told_14 (by decide) ?_
      refine pz_iconst C (v := 1) dX11_told_15 (by decide) ?_
      refine pz_callV C (As := [_, _]) (b := 45) (c_X11_goes l D cy h) wB_yX11_goes ml_X11_130 im_yX11_goes se_yX11_goes (ci := 10) rfl (shL h 45 rfl) (shK h 45 rfl rfl) rfl rfl (Nat.le_of_ble_eq_true rfl) ⟨(Nat.le_of_ble_eq_true rfl), (Nat.le_of_ble_eq_true rfl)⟩ ⟨(Nat.le_of_ble_eq_true rfl), (Nat.le_of_ble_eq_true rfl)⟩ dX11_told_16 (Nat.le_refl _) (True.intro) (And.intro (shL h 45 rfl) (And.intro True.intro (True.intro))) (fun r16 σ16 M16 hp16 => ?_)
      obtain ⟨rfl, rfl, rfl⟩ := hp16
      refine pz_if_ne (tgt := 24) C dX11_told_19 (by decide) (fun h19 => ?_) (fun h19 => ?_)
      · first | exact absurd h19 (by decide) | exact absurd (by decide) h19 | exact absurd (by simp [goF]) h19 | exact absurd h19 (by simp [goF])
      · refine pz_iconst C (v := 0) dX11_told_22 (by decide) ?_
        exact pz_iret C hr (Nat.le_of_ble_eq_true rfl) (Nat.le_of_ble_eq_true rfl) dX11_told_23 (⟨rfl, rfl, by rw [if_pos (show w < 0 ∨ 3 < w by first | exact Or.inl h2 | exact Or.inr h7)]; simp [pz_u, va_up, goF], rfl⟩)
    · refine pz_iconst C (v := 1) dX11_told_10 (by decide) ?_
      refine pz_goto (tgt := 15) C dX11_told_11 (by decide) ?_
      refine pz_iconst C (v := 1) dX11_told_15 (by decide) ?_
      refine pz_callV C (As := [_, _]) (b := 45) (c_X11_goes l D cy h) wB_yX11_goes ml_X11_130 im_yX11_goes se_yX11_goes (ci := 10) rfl (shL h 45 rfl) (shK h 45 rfl rfl) rfl rfl (Nat.le_of_ble_eq_true rfl) ⟨(Nat.le_of_ble_eq_true rfl), (Nat.le_of_ble_eq_true rfl)⟩ ⟨(Nat.le_of_ble_eq_true rfl), (Nat.le_of_ble_eq_true rfl)⟩ dX11_told_16 (Nat.le_refl _) (True.intro) (And.intro (shL h 45 rfl) (And.intro True.intro (True.intro))) (fun r16 σ16 M16 hp16 => ?_)
      obtain ⟨rfl, rfl, rfl⟩ := hp16
      refine pz_if_ne (tgt := 24) C dX11_told_19 (by decide) (fun h19 => ?_) (fun h19 => ?_)
      · refine pz_iload_n C 1 dX11_told_24 rfl ?_
        refine pz_if_ne (tgt := 35) C dX11_told_25 (by decide) (fun h25 => ?_) (fun h25 => ?_)
        · refine pz_iload_n C 1 dX11_told_35 rfl ?_
          refine pz_iconst C (v := 1) dX11_told_36 (by decide) ?_
          refine pz_icmp_ne (tgt := 47) C dX11_told_37 (by decide) (fun h37 => ?_) (fun h37 => ?_)
          · refine pz_iload_n C 1 dX11_told_47 rfl ?_
            refine pz_iconst C (v := 3) dX11_told_48 (by decide) ?_
            refine pz_icmp_ne (tgt := 59) C dX11_told_49 (by decide) (fun h49 => ?_) (fun h49 => ?_)
            · refine pz_aload_n C 0 dX11_told_59 rfl ?_
              refine pz_getI C (ci := 10) (k := 29) gwX11 rfl (Nat.le_of_ble_eq_true rfl) fl_X11_247 (shL h 45 rfl) (shK h 45 rfl rfl) rfl dX11_told_60 ?_
              refine pz_iconst C (v := 1) dX11_told_63 (by decide) ?_
              refine pz_icmp_ne (tgt := 74) C dX11_told_64 (by decide) (fun h64 => ?_) (fun h64 => ?_)
              · refine pz_iconst C (v := 0) dX11_told_74 (by decide) ?_
                exact pz_iret C hr (Nat.le_of_ble_eq_true rfl) (Nat.le_of_ble_eq_true rfl) dX11_told_75 (⟨by first | rfl | simp [pz_u, va_up, goF, (z 45 (by decide) (by decide)).1 31, (z 45 (by decide) (by decide)).1 27, (z 45 (by decide) (by decide)).1 29], rfl, by rw [if_neg (show ¬ (w < 0 ∨ 3 < w) from fun q => q.elim h2 h7)]; simp [pz_u, va_up, goF], rfl⟩)
              · exact absurd h64 (by simp [pz_u, va_up, goF, (z 45 (by decide) (by decide)).1 29])
            · refine pz_aload_n C 0 dX11_told_52 rfl ?_
              refine pz_getI C (ci := 10) (k := 29) gwX11 rfl (Nat.le_of_ble_eq_true rfl) fl_X11_247 (shL h 45 rfl) (shK h 45 rfl rfl) rfl dX11_told_53 ?_
              refine pz_goto (tgt := 75) C dX11_told_56 (by decide) ?_
              exact pz_iret C hr (Nat.le_of_ble_eq_true rfl) (Nat.le_of_ble_eq_true rfl) dX11_told_75 (⟨by first | rfl | simp [pz_u, va_up, goF, (z 45 (by decide) (by decide)).1 31, (z 45 (by decide) (by decide)).1 27, (z 45 (by decide) (by decide)).1 29], rfl, by rw [if_neg (show ¬ (w < 0 ∨ 3 < w) from fun q => q.elim h2 h7)]; simp [pz_u, va_up, goF], rfl⟩)
          · refine pz_aload_n C 0 dX11_told_40 rfl ?_
            refine pz_getI C (ci := 10) (k := 27) gwX11 rfl (Nat.le_of_ble_eq_true rfl) fl_X11_271 (shL h 45 rfl) (shK h 45 rfl rfl) rfl dX11_told_41 ?_
            refine pz_goto (tgt := 75) C dX11_told_44 (by decide) ?_
            exact pz_iret C hr (Nat.le_of_ble_eq_true rfl) (Nat.le_of_ble_eq_true rfl) dX11_told_75 (⟨by first | rfl | simp [pz_u, va_up, goF, (z 45 (by decide) (by decide)).1 31, (z 45 (by decide) (by decide)).1 27, (z 45 (by decide) (by decide)).1 29], rfl, by rw [if_neg (show ¬ (w < 0 ∨ 3 < w) from fun q => q.elim h2 h7)]; simp [pz_u, va_up, goF], rfl⟩)
        · refine pz_aload_n C 0 dX11_told_28 rfl ?_
          refine pz_getI C (ci := 10) (k := 31) gwX11 rfl (Nat.le_of_ble_eq_true rfl) fl_X11_229 (shL h 45 rfl) (shK h 45 rfl rfl) rfl dX11_told_29 ?_
          refine pz_goto (tgt := 75) C dX11_told_32 (by decide) ?_
          exact pz_iret C hr (Nat.le_of_ble_eq_true rfl) (Nat.le_of_ble_eq_true rfl) dX11_told_75 (⟨by first | rfl | simp [pz_u, va_up, goF, (z 45 (by decide) (by decide)).1 31, (z 45 (by decide) (by decide)).1 27, (z 45 (by decide) (by decide)).1 29], rfl, by rw [if_neg (show ¬ (w < 0 ∨ 3 < w) from fun q => q.elim h2 h7)]; simp [pz_u, va_up, goF], rfl⟩)
      · first | exact absurd h19 (by decide) | exact absurd (by decide) h19 | exact absurd (by simp [goF]) h19 | exact absurd h19 (by simp [goF])
set_option maxHeartbeats 4000000 in
set_option maxRecDepth 100000 in
theorem c_X11_said (l : Launch) (D : va_G) (cy : Nat → ClassId) {σ : pzS} {M : pzM} {k : Int32} (h : pz_sh σ) (z : pz_fm M) : pz_Met l yX11_said cX11_said 2 (some .int) 1 22 0 0 D cy σ M [.ref 45, .int k] (fun r σ' M' => r = some (.int 0) ∧ σ' = σ ∧ M'.1 45 0 = 1 ∧ M'.2 = M.2) := by
  refine pz_ofW (by decide) (Nat.le_of_ble_eq_true rfl) (fun p e s m args below meth c ad A C hr hnm => ?_)
  refine pz_aload_n C 0 dX11_said_0 rfl ?_
  refine pz_iload_n C 1 dX11_said_1 rfl ?_
  refine pz_if_lt (tgt := 17) C dX11_said_2 (by decide) (fun h2 => ?_) (fun h2 => ?_)
  · refine pz_iconst C (v := 0) dX11_said_17 (by decide) ?_
    refine pz_iconst C (v := 1) dX11_said_18 (by decide) ?_
    refine pz_callV C (As := [_, _]) (b := 45) (c_X11_goes l D cy h) wB_yX11_goes ml_X11_130 im_yX11_goes se_yX11_goes (ci := 10) rfl (shL h 45 rfl) (shK h 45 rfl rfl) rfl rfl (Nat.le_of_ble_eq_true rfl) ⟨(Nat.le_of_ble_eq_true rfl), (Nat.le_of_ble_eq_true rfl)⟩ ⟨(Nat.le_of_ble_eq_true rfl), (Nat.le_of_ble_eq_true rfl)⟩ dX11_said_19 (Nat.le_refl _) (True.intro) (And.intro (shL h 45 rfl) (And.intro True.intro (True.intro))) (fun r19 σ19 M19 hp19 => ?_)
    obtain ⟨rfl, rfl, rfl⟩ := hp19
    refine pz_if_eq (tgt := 34) C dX11_said_22 (by decide) (fun h22 => ?_) (fun h22 => ?_)
    · refine pz_iconst C (v := 0) dX11_said_34 (by decide) ?_
      exact pz_iret C hr (Nat.le_of_ble_eq_true rfl) (Nat.le_of_ble_eq_true rfl) dX11_said_35 (⟨rfl, rfl, by simp [pz_u, va_up, goF], rfl⟩)
    · first | exact absurd h22 (by decide) | exact absurd (by decide) h22 | exact absurd (by simp [goF]) h22 | exact absurd h22 (by simp [goF])
  · refine pz_iload_n C 1 dX11_said_5 rfl ?_
    refine pz_aload_n C 0 dX11_said_6 rfl ?_
    refine pz_getI C (ci := 10) (k := 31) gwX11 rfl (Nat.le_of_ble_eq_true rfl) fl_X11_229 (shL h 45 rfl) (shK h 45 rfl rfl) rfl dX11_said_7 ?_
    refine pz_icmp_ge (tgt := 17) C dX11_said_10 (by decide) (fun h10 => ?_) (fun h10 => ?_)
    · refine pz_iconst C (v := 0) dX11_said_17 (by decide) ?_
      refine pz_iconst C (v := 1) dX11_said_18 (by decide) ?_
      refine pz_callV C (As := [_, _]) (b := 45) (c_X11_goes l D cy h) wB_yX11_goes ml_X11_130 im_yX11_goes se_yX11_goes (ci := 10) rfl (shL h 45 rfl) (shK h 45 rfl rfl) rfl rfl (Nat.le_of_ble_eq_true rfl) ⟨(Nat.le_of_ble_eq_true rfl), (Nat.le_of_ble_eq_true rfl)⟩ ⟨(Nat.le_of_ble_eq_true rfl), (Nat.le_of_ble_eq_true rfl)⟩ dX11_said_19 (Nat.le_refl _) (True.intro) (And.intro (shL h 45 rfl) (And.intro True.intro (True.intro))) (fun r19 σ19 M19 hp19 => ?_)
      obtain ⟨rfl, rfl, rfl⟩ := hp19
      refine pz_if_eq (tgt := 34) C dX11_said_22 (by decide) (fun h22 => ?_) (fun h22 => ?_)
      · refine pz_iconst C (v := 0) dX11_said_34 (by decide) ?_
        exact pz_iret C hr (Nat.le_of_ble_eq_true rfl) (Nat.le_of_ble_eq_true rfl) dX11_said_35 (⟨rfl, rfl, by simp [pz_u, va_up, goF], rfl⟩)
      · first | exact absurd h22 (by decide) | exact absurd (by decide) h22 | exact absurd (by simp [goF]) h22 | exact absurd h22 (by simp [goF])
    · exact (h10 (by rw [(z 45 (by decide) (by decide)).1 31]; exact Int32.not_lt.mp h2)).elim
