set_option maxHeartbeats 4000000 in
set_option maxRecDepth 100000 in
theorem c_L_recipe (l : Launch) (D : va_G) (cy : Nat → ClassId) {σ : pzS} {M : pzM} {c0 : Int64} (h : pz_sh σ) (z : pz_fc M) (hl0 : l.stackTraces = false) : pz_MetH l yL_recipe cL_recipe 5 (some .int) [(0, 9, 12, 13), (0, 9, 16, 15)] 7 113 1 6 D cy σ M [.ref 0, .long c0, .ref 83] (fun r σ' M' => r = some (.int ((if rdI c0 = 0 then (1 : Int32) else 0))) ∧ σ' = σ ∧ pz_am M M' ∧ ((if rdI c0 = 0 then (1 : Int32) else 0) = 0 → M'.2 83 0 = 0)) := by
  refine pz_ofWH (by decide) (Nat.le_of_ble_eq_true rfl) (fun p e s m args below meth c ad A C hr hZ htab => ?_)
  refine pz_aload_n C 2 dL_recipe_0 rfl ?_
  refine pz_iconst C (v := 0) dL_recipe_1 (by decide) ?_
  refine pz_aload_n C 0 dL_recipe_2 rfl ?_
  refine pz_lload_n C 1 dL_recipe_3 rfl ?_
  refine pz_callVX C (As := [_]) (rest := [.int 0, .ref 83]) (b := 0) hZ (c_X10_recipe l D cy h z hl0) wB_yX10_recipe ml_L_21 im_yX10_recipe se_yX10_recipe (ci := 9) rfl (shL h 0 rfl) (shK h 0 rfl rfl) rfl rfl (Nat.le_of_ble_eq_true rfl) ⟨(Nat.le_of_ble_eq_true rfl), (Nat.le_of_ble_eq_true rfl)⟩ ⟨(Nat.le_of_ble_eq_true rfl), (Nat.le_of_ble_eq_true rfl)⟩ dL_recipe_4 (Nat.le_refl _) (And.intro True.intro (And.intro (shL h 83 rfl) (True.intro))) (And.intro (shL h 0 rfl) (And.intro True.intro (And.intro (shL h 83 rfl) (True.intro)))) (fun E σ9 M9 hx => ?_) (fun r9 σ9 M9 hp => ?_)
  · obtain ⟨rfl, hc, rfl, rfl⟩ := hx
    have hk : (if rdI c0 = 0 then (1 : Int32) else 0) = 1 := if_pos hc
    refine ⟨Nat.le_refl _, h.2.2.2, 12, ⟨[], ⟨0, 9, 12, 13⟩, [⟨0, 9, 16, 15⟩], sIA, htab, (fun _ hz => absurd hz List.not_mem_nil), by decide, by decide, cl_L_13, cs_IA, rfl⟩, ?_⟩
    refine pz_astore (loc' := [(4, .ref (σ9.1)), (0, .ref (0)), (1, .long c0), (3, .ref (83))]) C dL_recipe_12 (by decide) rfl ?_
    refine pz_iconst C (v := 1) dL_recipe_14 (by decide) ?_
    exact pz_iret C hr (Nat.le_of_ble_eq_true rfl) (Nat.le_of_ble_eq_true rfl) dL_recipe_15 ⟨by rw [hk], rfl, pz_am_rf _, fun q => absurd (hk ▸ q) (by decide)⟩
  · obtain ⟨hc, rfl, rfl, hag⟩ := hp
    have hk : (if rdI c0 = 0 then (1 : Int32) else 0) = 0 := if_neg hc
    refine pz_i2l C dL_recipe_7 ?_
    refine pz_last C (shL h 83 rfl) (shK h 83 rfl rfl) (shB h 83 rfl rfl (vp_in0 (by decide))) dL_recipe_8 ?_
    refine pz_goto (tgt := 20) C dL_recipe_9 (by decide) ?_
    refine pz_iconst C (v := 0) dL_recipe_20 (by decide) ?_
    exact pz_iret C hr (Nat.le_of_ble_eq_true rfl) (Nat.le_of_ble_eq_true rfl) dL_recipe_21 ⟨by rw [hk], rfl, pz_am_o (pz_am_ag hag), fun _ => show pz_u M9.2 83 0 ((0 : Int32).toInt64) 83 0 = 0 from (pz_u_eq _ _ _ _).trans (by decide)⟩
def Jv (M M1 : pzM) : Prop := M1.1 45 7 = 0 ∧ M1.1 45 0 = 0 ∧ M1.2 = M.2
theorem Jv_u {M M1 : pzM} {i k : Nat} {x : Int32} (h : Jv M M1) (hi : i ≠ 45) : Jv M (pz_u M1.1 i k x, M1.2) := ⟨(pz_u_ne _ _ (Or.inl hi.symm)).trans h.1, (pz_u_ne _ _ (Or.inl hi.symm)).trans h.2.1, h.2.2⟩
set_option maxHeartbeats 4000000 in
set_option maxRecDepth 100000 in
theorem c_X11_recipe (l : Launch) (D : va_G) (cy : Nat → ClassId) {σ : pzS} {M : pzM} {c0 : Int64} (h : pz_sh σ) (z : pz_fm M) : pz_Met l yX11_recipe cX11_recipe 6 (some .int) 1 22 0 0 D cy σ M [.ref 45, .long c0] (fun r σ' M' => r = some (.int 0) ∧ σ' = σ ∧ M'.1 45 0 = (if rdI c0 = 0 then (1 : Int32) else 0) ∧ M'.2 = M.2) := by
  refine pz_ofW (by decide) (Nat.le_of_ble_eq_true rfl) (fun p e s m args below meth c ad A C hr hnm => ?_)
  refine pz_iconst C (v := 0) dX11_recipe_0 (by decide) ?_
  refine pz_istore_n (loc' := [(3, .int 0), (0, .ref (45)), (1, .long c0)]) C dX11_recipe_1 (by decide) rfl ?_
  have LOOP3 : ∀ (d k n : Nat) (M1 : pzM), k + d = n → n ≤ 12 → Jv M M1 → rdI c0 = 1 → pz_W p l e ({ frames := 1, cells := 0, slots := 0, locals := 22 }) s m args below meth c 6 D cy A σ.1 ad (MQ below (pz_Q D cy σ.1 ad (fun r σ' M' => r = some (.int 0) ∧ σ' = σ ∧ M'.1 45 0 = (if rdI c0 = 0 then (1 : Int32) else 0) ∧ M'.2 = M.2) A) args s 0 0 A) σ M1 0 0 126 [(5, .int (nI k)), (4, .int 1), (3, .int (nI n)), (0, .ref (45)), (1, .long c0)] [] := by
    intro d
    induction d with
    | zero =>
      intro k n M1 hk hn hj hrd
      obtain rfl : k = n := by omega
      have hK0 : (if rdI c0 = 0 then (1 : Int32) else 0) = 0 := by rw [hrd]; rfl
      refine pz_iload C 0 dX11_recipe_126 rfl ?_
      refine pz_iload_n C 2 dX11_recipe_128 rfl ?_
      refine pz_icmp_ge (tgt := 164) C dX11_recipe_129 (by decide) (fun h129 => ?_) (fun h129 => ?_)
      · refine pz_aload_n C 3 dX11_recipe_164 rfl ?_
        refine pz_getR C (ci := 10) (k := 8) gwX11 rfl (Nat.le_of_ble_eq_true rfl) fl_X11_25 (shL h 45 rfl) (shK h 45 rfl rfl) rfl (shR h 45 8 51 rfl rfl rfl) dX11_recipe_165 ?_
        refine pz_aload_n C 3 dX11_recipe_168 rfl ?_
        refine pz_getI C (ci := 10) (k := 7) gwX11 rfl (Nat.le_of_ble_eq_true rfl) fl_X11_146 (shL h 45 rfl) (shK h 45 rfl rfl) rfl dX11_recipe_169 ?_
        refine pz_iload_n C 2 dX11_recipe_172 rfl ?_
        refine pz_iast C (shL h 51 rfl) (shK h 51 rfl rfl) (shB h 51 rfl rfl (by rw [show _ = (0 : Int32) from hj.1]; exact vp_in0 (by decide))) dX11_recipe_173 ?_
        refine pz_aload_n C 3 dX11_recipe_174 rfl ?_
        refine pz_dup C dX11_recipe_175 rfl ?_
        refine pz_getI C (ci := 10) (k := 7) gwX11 rfl (Nat.le_of_ble_eq_true rfl) fl_X11_146 (shL h 45 rfl) (shK h 45 rfl rfl) rfl dX11_recipe_176 ?_
        refine pz_iconst C (v := 1) dX11_recipe_179 (by decide) ?_
        refine pz_iadd C dX11_recipe_180 ?_
        refine pz_putI C (ci := 10) (k := 7) gwX11 rfl (Nat.le_of_ble_eq_true rfl) fl_X11_146 (shL h 45 rfl) (shK h 45 rfl rfl) tyX11_ok nmX11 rfl rfl (by decide +kernel) dX11_recipe_181 ?_
        refine pz_aload_n C 3 dX11_recipe_184 rfl ?_
        refine pz_getI C (ci := 10) (k := 7) gwX11 rfl (Nat.le_of_ble_eq_true rfl) fl_X11_146 (shL h 45 rfl) (shK h 45 rfl rfl) rfl dX11_recipe_185 ?_
        refine pz_iconst C (v := 1) dX11_recipe_188 (by decide) ?_
        refine pz_isub C dX11_recipe_189 ?_
        exact pz_iret C hr (Nat.le_of_ble_eq_true rfl) (Nat.le_of_ble_eq_true rfl) dX11_recipe_190 (⟨by simp [pz_u, va_up, hj.1], rfl, by rw [hK0]; simp [pz_u, va_up, hj.2.1], hj.2.2⟩)
      · exact absurd (nI_le (Nat.le_refl k) (by omega)) h129
    | succ d ih =>
      intro k n M1 hk hn hj hrd
      have hkn : k < n := by omega
      refine pz_iload C 0 dX11_recipe_126 rfl ?_
      refine pz_iload_n C 2 dX11_recipe_128 rfl ?_
      refine pz_icmp_ge (tgt := 164) C dX11_recipe_129 (by decide) (fun h129 => ?_) (fun h129 => ?_)
      · exact absurd h129 (nI_ge hkn (by omega))
      · refine pz_aload_n C 3 dX11_recipe_132 rfl ?_
        refine pz_getR C (ci := 10) (k := 9) gwX11 rfl (Nat.le_of_ble_eq_true rfl) fl_X11_28 (shL h 45 rfl) (shK h 45 rfl rfl) rfl (shR h 45 9 52 rfl rfl rfl) dX11_recipe_133 ?_
        refine pz_bipush C (v := 12) dX11_recipe_136 (by decide) ?_
        refine pz_aload_n C 3 dX11_recipe_138 rfl ?_
        refine pz_getI C (ci := 10) (k := 7) gwX11 rfl (Nat.le_of_ble_eq_true rfl) fl_X11_146 (shL h 45 rfl) (shK h 45 rfl rfl) rfl dX11_recipe_139 ?_
        refine pz_imul C dX11_recipe_142 ?_
        refine pz_iload C 0 dX11_recipe_143 rfl ?_
        refine pz_iadd C dX11_recipe_145 ?_
        refine pz_lload_n C 4 dX11_recipe_146 rfl ?_
        refine pz_iconst C (v := 5) dX11_recipe_147 (by decide) ?_
        refine pz_iload C 0 dX11_recipe_148 rfl ?_
        refine pz_imul C dX11_recipe_150 ?_
        refine pz_lshr C dX11_recipe_151 ?_
        refine pz_ldc2 C kl_X11_142 dX11_recipe_152 ?_
        refine pz_land C dX11_recipe_155 ?_
        refine pz_l2i C dX11_recipe_156 ?_
        refine pz_iast C (shL h 52 rfl) (shK h 52 rfl rfl) (shB h 52 rfl rfl (by rw [show (12 : Int32) * M1.1 45 7 + nI k = nI k from by rw [hj.1, show (12 : Int32) * 0 = 0 from rfl]; exact Int32.zero_add _]; exact (show vp_in (nI k) 96 from vp_in_nI (by omega) (by decide)))) dX11_recipe_157 ?_
        obtain ⟨x5_158, e5_158⟩ : ∃ z : Int32, z = (nI k) + (1) := ⟨_, rfl⟩
        refine pz_iinc (v := x5_158) (loc' := [(5, .int x5_158), (4, .int 1), (3, .int (nI n)), (0, .ref (45)), (1, .long c0)]) C 0 dX11_recipe_158 rfl (by rw [e5_158]; rfl) (by decide) rfl ?_
        refine pz_goto (tgt := 126) C dX11_recipe_161 (by decide) ?_
        obtain rfl : x5_158 = nI (k + 1) := e5_158.trans (nI_1 k)
        refine pz_locsub [0, 1, 2, 3, 4] rfl ?_
        exact ih (k + 1) n _ (by omega) hn (Jv_u hj (by decide)) hrd
  have LOOP2 : ∀ (d k n : Nat) (rt : Int32), k + d = n → n ≤ 12 → (∀ j, j < n → 0 < dg c0.toInt j) → (n = 12 ∨ dg c0.toInt n ≤ 0) → ((rt = 1 ∧ (0 < n ∧ qt c0.toInt n = 0) ∧ ∀ j, j < k → dg c0.toInt j ≤ 27) ∨ (rt = 0 ∧ ¬ ((0 < n ∧ qt c0.toInt n = 0) ∧ ∀ j, j < n → dg c0.toInt j ≤ 27))) → pz_W p l e ({ frames := 1, cells := 0, slots := 0, locals := 22 }) s m args below meth c 6 D cy A σ.1 ad (MQ below (pz_Q D cy σ.1 ad (fun r σ' M' => r = some (.int 0) ∧ σ' = σ ∧ M'.1 45 0 = (if rdI c0 = 0 then (1 : Int32) else 0) ∧ M'.2 = M.2) A) args s 0 0 A) σ M 0 0 52 [(5, .int (nI k)), (4, .int rt), (3, .int (nI n)), (0, .ref (45)), (1, .long c0)] [] := by
    intro d
    induction d with
    | zero =>
      intro k n rt hk hn h1 h3 hrt
      obtain rfl : k = n := by omega
      rcases hrt with ⟨rfl, hB, hd⟩ | ⟨rfl, hB⟩
      · have hrd : rdI c0 = 1 := rdI_1 (RD_of hn h1 hB.1 hB.2 hd)
        refine pz_iload C 0 dX11_recipe_52 rfl ?_
        refine pz_iload_n C 2 dX11_recipe_54 rfl ?_
        refine pz_icmp_ge (tgt := 93) C dX11_recipe_55 (by decide) (fun h55 => ?_) (fun h55 => ?_)
        · refine pz_aload_n C 3 dX11_recipe_93 rfl ?_
          refine pz_iload C 1 dX11_recipe_94 rfl ?_
          refine pz_aload_n C 3 dX11_recipe_96 rfl ?_
          refine pz_getI C (ci := 10) (k := 7) gwX11 rfl (Nat.le_of_ble_eq_true rfl) fl_X11_146 (shL h 45 rfl) (shK h 45 rfl rfl) rfl dX11_recipe_97 ?_
          refine pz_bipush C (v := 8) dX11_recipe_100 (by decide) ?_
          refine pz_icmp_ge (tgt := 109) C dX11_recipe_102 (by decide) (fun h102 => ?_) (fun h102 => ?_)
          · exact absurd ((z 45 (by decide) (by decide)).1 7 ▸ h102) (by decide)
          · refine pz_iconst C (v := 1) dX11_recipe_105 (by decide) ?_
            refine pz_goto (tgt := 110) C dX11_recipe_106 (by decide) ?_
            refine pz_callV C (As := [_, _]) (b := 45) (c_X11_goes l D cy h) wB_yX11_goes ml_X11_130 im_yX11_goes se_yX11_goes (ci := 10) rfl (shL h 45 rfl) (shK h 45 rfl rfl) rfl rfl (Nat.le_of_ble_eq_true rfl) ⟨(Nat.le_of_ble_eq_true rfl), (Nat.le_of_ble_eq_true rfl)⟩ ⟨(Nat.le_of_ble_eq_true rfl), (Nat.le_of_ble_eq_true rfl)⟩ dX11_recipe_110 (Nat.le_refl _) (True.intro) (And.intro True.intro (And.intro True.intro (And.intro True.intro (And.intro (shL h 45 rfl) (And.intro True.intro (True.intro)))))) (fun r110 σ110 M110 hp110 => ?_)
            obtain ⟨rfl, rfl, rfl⟩ := hp110
            refine pz_if_ne (tgt := 118) C dX11_recipe_113 (by decide) (fun h113 => ?_) (fun h113 => ?_)
            · refine pz_aload_n C 3 dX11_recipe_118 rfl ?_
              refine pz_iconst C (v := 0) dX11_recipe_119 (by decide) ?_
              refine pz_putIZ C (ci := 10) (k := 10) gwX11 rfl (Nat.le_of_ble_eq_true rfl) fl_X11_134 (shL h 45 rfl) (shK h 45 rfl rfl) tyX11_ok nmX11 rfl rfl (by decide +kernel) rfl rfl dX11_recipe_120 ?_
              refine pz_iconst C (v := 0) dX11_recipe_123 (by decide) ?_
              refine pz_istore (loc' := [(5, .int 0), (4, .int 1), (3, .int (nI k)), (0, .ref (45)), (1, .long c0)]) C dX11_recipe_124 (by decide) rfl ?_
              refine pz_locsub [0, 1, 2, 3, 4] rfl ?_
              exact LOOP3 k 0 k _ (by omega) hn ⟨by simp [pz_u, va_up, (z 45 (by decide) (by decide)).1 7], by simp [pz_u, va_up, goF], rfl⟩ hrd
            · first | exact absurd h113 (by decide) | exact absurd (by decide) h113 | exact absurd (by simp [goF]) h113 | exact absurd h113 (by simp [goF])
        · exact absurd (nI_le (Nat.le_refl k) (by omega)) h55
      · have hrd : rdI c0 = 0 := rdI_0 (fun q => hB (have q2 := RD_to hn h1 h3 q; ⟨⟨q2.1, q2.2.1⟩, q2.2.2⟩))
        refine pz_iload C 0 dX11_recipe_52 rfl ?_
        refine pz_iload_n C 2 dX11_recipe_54 rfl ?_
        refine pz_icmp_ge (tgt := 93) C dX11_recipe_55 (by decide) (fun h55 => ?_) (fun h55 => ?_)
        · refine pz_aload_n C 3 dX11_recipe_93 rfl ?_
          refine pz_iload C 1 dX11_recipe_94 rfl ?_
          refine pz_aload_n C 3 dX11_recipe_96 rfl ?_
          refine pz_getI C (ci := 10) (k := 7) gwX11 rfl (Nat.le_of_ble_eq_true rfl) fl_X11_146 (shL h 45 rfl) (shK h 45 rfl rfl) rfl dX11_recipe_97 ?_
          refine pz_bipush C (v := 8) dX11_recipe_100 (by decide) ?_
          refine pz_icmp_ge (tgt := 109) C dX11_recipe_102 (by decide) (fun h102 => ?_) (fun h102 => ?_)
          · exact absurd ((z 45 (by decide) (by decide)).1 7 ▸ h102) (by decide)
          · refine pz_iconst C (v := 1) dX11_recipe_105 (by decide) ?_
            refine pz_goto (tgt := 110) C dX11_recipe_106 (by decide) ?_
            refine pz_callV C (As := [_, _]) (b := 45) (c_X11_goes l D cy h) wB_yX11_goes ml_X11_130 im_yX11_goes se_yX11_goes (ci := 10) rfl (shL h 45 rfl) (shK h 45 rfl rfl) rfl rfl (Nat.le_of_ble_eq_true rfl) ⟨(Nat.le_of_ble_eq_true rfl), (Nat.le_of_ble_eq_true rfl)⟩ ⟨(Nat.le_of_ble_eq_true rfl), (Nat.le_of_ble_eq_true rfl)⟩ dX11_recipe_110 (Nat.le_refl _) (True.intro) (And.intro True.intro (And.intro True.intro (And.intro True.intro (And.intro (shL h 45 rfl) (And.intro True.intro (True.intro)))))) (fun r110 σ110 M110 hp110 => ?_)
            obtain ⟨rfl, rfl, rfl⟩ := hp110
            refine pz_if_ne (tgt := 118) C dX11_recipe_113 (by decide) (fun h113 => ?_) (fun h113 => ?_)
            · first | exact absurd h113 (by decide) | exact absurd (by decide) h113 | exact absurd (by simp [goF]) h113 | exact absurd h113 (by simp [goF])
            · refine pz_iconst C (v := 0) dX11_recipe_116 (by decide) ?_
              exact pz_iret C hr (Nat.le_of_ble_eq_true rfl) (Nat.le_of_ble_eq_true rfl) dX11_recipe_117 (⟨rfl, rfl, by rw [hrd]; simp [pz_u, va_up, goF], rfl⟩)
        · exact absurd (nI_le (Nat.le_refl k) (by omega)) h55
    | succ d ih =>
      intro k n rt hk hn h1 h3 hrt
      have hkn : k < n := by omega
      have hdk := dg_int c0 (shk c0 (k := k) (by omega))
      rcases hrt with ⟨rfl, hB, hd⟩ | ⟨rfl, hB⟩
      · refine pz_iload C 0 dX11_recipe_52 rfl ?_
        refine pz_iload_n C 2 dX11_recipe_54 rfl ?_
        refine pz_icmp_ge (tgt := 93) C dX11_recipe_55 (by decide) (fun h55 => ?_) (fun h55 => ?_)
        · exact absurd h55 (nI_ge hkn (by omega))
        · refine pz_iload C 1 dX11_recipe_58 rfl ?_
          refine pz_if_eq (tgt := 84) C dX11_recipe_60 (by decide) (fun h60 => ?_) (fun h60 => ?_)
          · first | exact absurd h60 (by decide) | exact absurd (by decide) h60 | exact absurd (by simp [goF]) h60 | exact absurd h60 (by simp [goF])
          · refine pz_lload_n C 4 dX11_recipe_63 rfl ?_
            refine pz_iconst C (v := 5) dX11_recipe_64 (by decide) ?_
            refine pz_iload C 0 dX11_recipe_65 rfl ?_
            refine pz_imul C dX11_recipe_67 ?_
            refine pz_lshr C dX11_recipe_68 ?_
            refine pz_ldc2 C kl_X11_142 dX11_recipe_69 ?_
            refine pz_land C dX11_recipe_72 ?_
            refine pz_ldc2 C kl_X11_144 dX11_recipe_73 ?_
            refine pz_lcmp C dX11_recipe_76 ?_
            refine pz_if_gt (tgt := 84) C dX11_recipe_77 (by decide) (fun h77 => ?_) (fun h77 => ?_)
            · refine pz_iconst C (v := 0) dX11_recipe_84 (by decide) ?_
              refine pz_istore (loc' := [(4, .int 0), (5, .int (nI k)), (3, .int (nI n)), (0, .ref (45)), (1, .long c0)]) C dX11_recipe_85 (by decide) rfl ?_
              obtain ⟨x5_87, e5_87⟩ : ∃ z : Int32, z = (nI k) + (1) := ⟨_, rfl⟩
              refine pz_iinc (v := x5_87) (loc' := [(5, .int x5_87), (4, .int 0), (3, .int (nI n)), (0, .ref (45)), (1, .long c0)]) C 1 dX11_recipe_87 rfl (by rw [e5_87]; rfl) (by decide) rfl ?_
              refine pz_goto (tgt := 52) C dX11_recipe_90 (by decide) ?_
              obtain rfl : x5_87 = nI (k + 1) := e5_87.trans (nI_1 k)
              refine pz_locsub [0, 1, 2, 3, 4] rfl ?_
              exact ih (k + 1) n 0 (by omega) hn h1 h3 (Or.inr ⟨rfl, fun q => absurd (q.2 k hkn) (Int.not_le.mpr (by have := cmp_gt.mp h77; rw [hdk] at this; exact this))⟩)
            · refine pz_iconst C (v := 1) dX11_recipe_80 (by decide) ?_
              refine pz_goto (tgt := 85) C dX11_recipe_81 (by decide) ?_
              refine pz_istore (loc' := [(4, .int 1), (5, .int (nI k)), (3, .int (nI n)), (0, .ref (45)), (1, .long c0)]) C dX11_recipe_85 (by decide) rfl ?_
              obtain ⟨x5_87, e5_87⟩ : ∃ z : Int32, z = (nI k) + (1) := ⟨_, rfl⟩
              refine pz_iinc (v := x5_87) (loc' := [(5, .int x5_87), (4, .int 1), (3, .int (nI n)), (0, .ref (45)), (1, .long c0)]) C 1 dX11_recipe_87 rfl (by rw [e5_87]; rfl) (by decide) rfl ?_
              refine pz_goto (tgt := 52) C dX11_recipe_90 (by decide) ?_
              obtain rfl : x5_87 = nI (k + 1) := e5_87.trans (nI_1 k)
              refine pz_locsub [0, 1, 2, 3, 4] rfl ?_
              refine ih (k + 1) n 1 (by omega) hn h1 h3 (Or.inl ⟨rfl, hB, fun j hj => ?_⟩)
              rcases Nat.lt_or_eq_of_le (Nat.le_of_lt_succ hj) with h9 | rfl
              · exact hd j h9
              · exact Int.not_lt.mp (fun q => h77 (cmp_gt.mpr (by rw [hdk]; exact q)))
      · refine pz_iload C 0 dX11_recipe_52 rfl ?_
        refine pz_iload_n C 2 dX11_recipe_54 rfl ?_
        refine pz_icmp_ge (tgt := 93) C dX11_recipe_55 (by decide) (fun h55 => ?_) (fun h55 => ?_)
        · exact absurd h55 (nI_ge hkn (by omega))
        · refine pz_iload C 1 dX11_recipe_58 rfl ?_
          refine pz_if_eq (tgt := 84) C dX11_recipe_60 (by decide) (fun h60 => ?_) (fun h60 => ?_)
          · refine pz_iconst C (v := 0) dX11_recipe_84 (by decide) ?_
            refine pz_istore (loc' := [(4, .int 0), (5, .int (nI k)), (3, .int (nI n)), (0, .ref (45)), (1, .long c0)]) C dX11_recipe_85 (by decide) rfl ?_
            obtain ⟨x5_87, e5_87⟩ : ∃ z : Int32, z = (nI k) + (1) := ⟨_, rfl⟩
            refine pz_iinc (v := x5_87) (loc' := [(5, .int x5_87), (4, .int 0), (3, .int (nI n)), (0, .ref (45)), (1, .long c0)]) C 1 dX11_recipe_87 rfl (by rw [e5_87]; rfl) (by decide) rfl ?_
            refine pz_goto (tgt := 52) C dX11_recipe_90 (by decide) ?_
            obtain rfl : x5_87 = nI (k + 1) := e5_87.trans (nI_1 k)
            refine pz_locsub [0, 1, 2, 3, 4] rfl ?_
            exact ih (k + 1) n 0 (by omega) hn h1 h3 (Or.inr ⟨rfl, hB⟩)
          · first | exact absurd h60 (by decide) | exact absurd (by decide) h60 | exact absurd (by simp [goF]) h60 | exact absurd h60 (by simp [goF])
  have LOOP1 : ∀ (d n : Nat), n + d = 12 → (∀ j, j < n → 0 < dg c0.toInt j) → pz_W p l e ({ frames := 1, cells := 0, slots := 0, locals := 22 }) s m args below meth c 6 D cy A σ.1 ad (MQ below (pz_Q D cy σ.1 ad (fun r σ' M' => r = some (.int 0) ∧ σ' = σ ∧ M'.1 45 0 = (if rdI c0 = 0 then (1 : Int32) else 0) ∧ M'.2 = M.2) A) args s 0 0 A) σ M 0 0 2 [(3, .int (nI n)), (0, .ref (45)), (1, .long c0)] [] := by
    intro d
    induction d with
    | zero =>
      intro n hn h1
      obtain rfl : n = 12 := by omega
      have h3 : (12 : Nat) = 12 ∨ dg c0.toInt 12 ≤ 0 := Or.inl rfl
      have hn2 : 12 ≤ 12 := by decide
      refine pz_iload_n C 0 dX11_recipe_2 rfl ?_
      refine pz_bipush C (v := 12) dX11_recipe_3 (by decide) ?_
      refine pz_icmp_ge (tgt := 28) C dX11_recipe_5 (by decide) (fun h5 => ?_) (fun h5 => ?_)
      · refine pz_iload_n C 0 dX11_recipe_28 rfl ?_
        refine pz_if_le (tgt := 46) C dX11_recipe_29 (by decide) (fun h29 => ?_) (fun h29 => ?_)
        · refine pz_iconst C (v := 0) dX11_recipe_46 (by decide) ?_
          refine pz_istore (loc' := [(4, .int 0), (3, .int (nI 12)), (0, .ref (45)), (1, .long c0)]) C dX11_recipe_47 (by decide) rfl ?_
          refine pz_iconst C (v := 0) dX11_recipe_49 (by decide) ?_
          refine pz_istore (loc' := [(5, .int 0), (4, .int 0), (3, .int (nI 12)), (0, .ref (45)), (1, .long c0)]) C dX11_recipe_50 (by decide) rfl ?_
          refine pz_locsub [0, 1, 2, 3, 4] rfl ?_
          exact LOOP2 12 0 12 0 (by omega) hn2 h1 h3 (Or.inr ⟨rfl, fun q => by first | exact absurd h29 (nI_nle q.1.1 (by omega)) | exact h39 (cmp_eq.mpr ((shk c0 hn2).trans q.1.2))⟩)
        · refine pz_lload_n C 2 dX11_recipe_32 rfl ?_
          refine pz_iconst C (v := 5) dX11_recipe_33 (by decide) ?_
          refine pz_iload_n C 0 dX11_recipe_34 rfl ?_
          refine pz_imul C dX11_recipe_35 ?_
          refine pz_lshr C dX11_recipe_36 ?_
          refine pz_lconst C (v := 0) dX11_recipe_37 (by decide) ?_
          refine pz_lcmp C dX11_recipe_38 ?_
          refine pz_if_ne (tgt := 46) C dX11_recipe_39 (by decide) (fun h39 => ?_) (fun h39 => ?_)
          · refine pz_iconst C (v := 0) dX11_recipe_46 (by decide) ?_
            refine pz_istore (loc' := [(4, .int 0), (3, .int (nI 12)), (0, .ref (45)), (1, .long c0)]) C dX11_recipe_47 (by decide) rfl ?_
            refine pz_iconst C (v := 0) dX11_recipe_49 (by decide) ?_
            refine pz_istore (loc' := [(5, .int 0), (4, .int 0), (3, .int (nI 12)), (0, .ref (45)), (1, .long c0)]) C dX11_recipe_50 (by decide) rfl ?_
            refine pz_locsub [0, 1, 2, 3, 4] rfl ?_
            exact LOOP2 12 0 12 0 (by omega) hn2 h1 h3 (Or.inr ⟨rfl, fun q => by first | exact absurd h29 (nI_nle q.1.1 (by omega)) | exact h39 (cmp_eq.mpr ((shk c0 hn2).trans q.1.2))⟩)
          · refine pz_iconst C (v := 1) dX11_recipe_42 (by decide) ?_
            refine pz_goto (tgt := 47) C dX11_recipe_43 (by decide) ?_
            refine pz_istore (loc' := [(4, .int 1), (3, .int (nI 12)), (0, .ref (45)), (1, .long c0)]) C dX11_recipe_47 (by decide) rfl ?_
            refine pz_iconst C (v := 0) dX11_recipe_49 (by decide) ?_
            refine pz_istore (loc' := [(5, .int 0), (4, .int 1), (3, .int (nI 12)), (0, .ref (45)), (1, .long c0)]) C dX11_recipe_50 (by decide) rfl ?_
            refine pz_locsub [0, 1, 2, 3, 4] rfl ?_
            exact LOOP2 12 0 12 1 (by omega) hn2 h1 h3 (Or.inl ⟨rfl, ⟨Nat.pos_of_ne_zero (fun q => h29 (by rw [q]; decide)), (shk c0 hn2).symm.trans (cmp_eq.mp h39)⟩, fun j hj => absurd hj (Nat.not_lt_zero j)⟩)
      · exact absurd (by decide) h5
    | succ d ih =>
      intro n hn h1
      have hn12 : n < 12 := by omega
      have hn2 : n ≤ 12 := by omega
      have hdn := dg_int c0 (shk c0 (k := n) hn2)
      refine pz_iload_n C 0 dX11_recipe_2 rfl ?_
      refine pz_bipush C (v := 12) dX11_recipe_3 (by decide) ?_
      refine pz_icmp_ge (tgt := 28) C dX11_recipe_5 (by decide) (fun h5 => ?_) (fun h5 => ?_)
      · exact absurd h5 (nI_ge hn12 (by decide))
      · refine pz_lload_n C 2 dX11_recipe_8 rfl ?_
        refine pz_iconst C (v := 5) dX11_recipe_9 (by decide) ?_
        refine pz_iload_n C 0 dX11_recipe_10 rfl ?_
        refine pz_imul C dX11_recipe_11 ?_
        refine pz_lshr C dX11_recipe_12 ?_
        refine pz_ldc2 C kl_X11_142 dX11_recipe_13 ?_
        refine pz_land C dX11_recipe_16 ?_
        refine pz_lconst C (v := 0) dX11_recipe_17 (by decide) ?_
        refine pz_lcmp C dX11_recipe_18 ?_
        refine pz_if_le (tgt := 28) C dX11_recipe_19 (by decide) (fun h19 => ?_) (fun h19 => ?_)
        · have h3 : n = 12 ∨ dg c0.toInt n ≤ 0 := Or.inr (by have := cmp_le.mp h19; rw [hdn] at this; exact this)
          refine pz_iload_n C 0 dX11_recipe_28 rfl ?_
          refine pz_if_le (tgt := 46) C dX11_recipe_29 (by decide) (fun h29 => ?_) (fun h29 => ?_)
          · refine pz_iconst C (v := 0) dX11_recipe_46 (by decide) ?_
            refine pz_istore (loc' := [(4, .int 0), (3, .int (nI n)), (0, .ref (45)), (1, .long c0)]) C dX11_recipe_47 (by decide) rfl ?_
            refine pz_iconst C (v := 0) dX11_recipe_49 (by decide) ?_
            refine pz_istore (loc' := [(5, .int 0), (4, .int 0), (3, .int (nI n)), (0, .ref (45)), (1, .long c0)]) C dX11_recipe_50 (by decide) rfl ?_
            refine pz_locsub [0, 1, 2, 3, 4] rfl ?_
            exact LOOP2 n 0 n 0 (by omega) hn2 h1 h3 (Or.inr ⟨rfl, fun q => by first | exact absurd h29 (nI_nle q.1.1 (by omega)) | exact h39 (cmp_eq.mpr ((shk c0 hn2).trans q.1.2))⟩)
          · refine pz_lload_n C 2 dX11_recipe_32 rfl ?_
            refine pz_iconst C (v := 5) dX11_recipe_33 (by decide) ?_
            refine pz_iload_n C 0 dX11_recipe_34 rfl ?_
            refine pz_imul C dX11_recipe_35 ?_
            refine pz_lshr C dX11_recipe_36 ?_
            refine pz_lconst C (v := 0) dX11_recipe_37 (by decide) ?_
            refine pz_lcmp C dX11_recipe_38 ?_
            refine pz_if_ne (tgt := 46) C dX11_recipe_39 (by decide) (fun h39 => ?_) (fun h39 => ?_)
            · refine pz_iconst C (v := 0) dX11_recipe_46 (by decide) ?_
              refine pz_istore (loc' := [(4, .int 0), (3, .int (nI n)), (0, .ref (45)), (1, .long c0)]) C dX11_recipe_47 (by decide) rfl ?_
              refine pz_iconst C (v := 0) dX11_recipe_49 (by decide) ?_
              refine pz_istore (loc' := [(5, .int 0), (4, .int 0), (3, .int (nI n)), (0, .ref (45)), (1, .long c0)]) C dX11_recipe_50 (by decide) rfl ?_
              refine pz_locsub [0, 1, 2, 3, 4] rfl ?_
              exact LOOP2 n 0 n 0 (by omega) hn2 h1 h3 (Or.inr ⟨rfl, fun q => by first | exact absurd h29 (nI_nle q.1.1 (by omega)) | exact h39 (cmp_eq.mpr ((shk c0 hn2).trans q.1.2))⟩)
            · refine pz_iconst C (v := 1) dX11_recipe_42 (by decide) ?_
              refine pz_goto (tgt := 47) C dX11_recipe_43 (by decide) ?_
              refine pz_istore (loc' := [(4, .int 1), (3, .int (nI n)), (0, .ref (45)), (1, .long c0)]) C dX11_recipe_47 (by decide) rfl ?_
              refine pz_iconst C (v := 0) dX11_recipe_49 (by decide) ?_
              refine pz_istore (loc' := [(5, .int 0), (4, .int 1), (3, .int (nI n)), (0, .ref (45)), (1, .long c0)]) C dX11_recipe_50 (by decide) rfl ?_
              refine pz_locsub [0, 1, 2, 3, 4] rfl ?_
              exact LOOP2 n 0 n 1 (by omega) hn2 h1 h3 (Or.inl ⟨rfl, ⟨Nat.pos_of_ne_zero (fun q => h29 (by rw [q]; decide)), (shk c0 hn2).symm.trans (cmp_eq.mp h39)⟩, fun j hj => absurd hj (Nat.not_lt_zero j)⟩)
        · obtain ⟨x3_22, e3_22⟩ : ∃ z : Int32, z = (nI n) + (1) := ⟨_, rfl⟩
          refine pz_iinc (v := x3_22) (loc' := [(3, .int x3_22), (0, .ref (45)), (1, .long c0)]) C 0 dX11_recipe_22 rfl (by rw [e3_22]; rfl) (by decide) rfl ?_
          refine pz_goto (tgt := 2) C dX11_recipe_25 (by decide) ?_
          obtain rfl : x3_22 = nI (n + 1) := e3_22.trans (nI_1 n)
          refine pz_locsub [0, 1, 2] rfl ?_
          refine ih (n + 1) (by omega) (fun j hj => ?_)
          rcases Nat.lt_or_eq_of_le (Nat.le_of_lt_succ hj) with h9 | rfl
          · exact h1 j h9
          · exact Int.not_le.mp (fun q => h19 (cmp_le.mpr (by rw [hdn]; exact q)))
  exact LOOP1 12 0 rfl (fun j hj => absurd hj (Nat.not_lt_zero j))
