theorem lw_nests : ∀ q ∈ pz_nests, Cond.methodLinkNest q.1 q.2.1 q.2.2.1 q.2.2.2 ∈ lw_tbl := by decide +kernel
theorem lw_st : Cond.laysStatic Bundle.tN "UNASSIGNED_STACK" Bundle.steD ∈ lw_tbl ∧ Cond.laysStatic Bundle.tN "SUPPRESSED_SENTINEL" Bundle.listD ∈ lw_tbl ∧ Cond.initialized Bundle.tN ∈ lw_tbl := ⟨by decide +kernel, by decide +kernel, by decide +kernel⟩
theorem lw_arr : Cond.arrayClass .byte ∈ lw_tbl ∧ Cond.arrayClass .int ∈ lw_tbl ∧ Cond.arrayClass .long ∈ lw_tbl ∧ Cond.arrayClass .boolean ∈ lw_tbl := ⟨lw_good_sub arr_byte, lw_good_sub arr_int, lw_good_sub arr_long, lw_good_sub arr_boolean⟩
set_option maxHeartbeats 4000000 in
set_option maxRecDepth 100000 in
/-- THE LAW, from its entry -/
theorem whole_start {p : Program} {e : Env} {s : State} {m : MethodId} {below : List Frame} {meth : Method} {c : Code} (l : Launch) (hl0 : l.stackTraces = false) {b L : Nat} {xs : Nat → Int32} (hL : L ≤ 6) (C0 : lw_At p s m meth c b L xs) : W p l e room_1 s m #[Value.ref b] below meth c s.heap [] 0 0 (lw_Z below #[Value.ref b] s) (entryFrame m ([Value.ref b] : List Value).toArray 7) := by
  obtain ⟨hx, hb, hr, hml, hown, hts, hX, hbl, hlocks, hgv⟩ := id C0
  have hbA : ¬ (fun q : Nat => s.heap.size ≤ q) b := Nat.not_le.mpr hbl
  obtain ⟨c0, i0, hk0⟩ := u_known (C := RX1) (T := TX1) (N := 7) hts (fun w h => lw_good_sub (gwX1 w h)) (hts _ (lw_good_sub inst_X1))
  obtain ⟨c1, i1, hk1⟩ := u_known (C := RX2) (T := TX2) (N := 4) hts (fun w h => lw_good_sub (gwX2 w h)) (hts _ (lw_good_sub inst_X2))
  obtain ⟨c2, i2, hk2⟩ := u_known (C := RX3) (T := TX3) (N := 5) hts (fun w h => lw_good_sub (gwX3 w h)) (hts _ (lw_good_sub inst_X3))
  obtain ⟨c3, i3, hk3⟩ := u_known (C := RX4) (T := TX4) (N := 10) hts (fun w h => lw_good_sub (gwX4 w h)) (hts _ (lw_good_sub inst_X4))
  obtain ⟨c4, i4, hk4⟩ := u_known (C := RX5) (T := TX5) (N := 11) hts (fun w h => lw_good_sub (gwX5 w h)) (hts _ (lw_good_sub inst_X5))
  obtain ⟨c5, i5, hk5⟩ := u_known (C := RX6) (T := TX6) (N := 7) hts (fun w h => lw_good_sub (gwX6 w h)) (hts _ (lw_good_sub inst_X6))
  obtain ⟨c6, i6, hk6⟩ := u_known (C := RX7) (T := TX7) (N := 7) hts (fun w h => lw_good_sub (gwX7 w h)) (hts _ (lw_good_sub inst_X7))
  obtain ⟨c7, i7, hk7⟩ := u_known (C := RX8) (T := TX8) (N := 8) hts (fun w h => lw_good_sub (gwX8 w h)) (hts _ (lw_good_sub inst_X8))
  obtain ⟨c8, i8, hk8⟩ := u_known (C := RX9) (T := TX9) (N := 3) hts (fun w h => lw_good_sub (gwX9 w h)) (hts _ (lw_good_sub inst_X9))
  obtain ⟨c9, i9, hk9⟩ := u_known (C := RX10) (T := TX10) (N := 4) hts (fun w h => lw_good_sub (gwX10 w h)) (hts _ (lw_good_sub inst_X10))
  obtain ⟨c10, i10, hk10⟩ := u_known (C := RX11) (T := TX11) (N := 54) hts (fun w h => lw_good_sub (gwX11 w h)) (hts _ (lw_good_sub inst_X11))
  obtain ⟨y0, hy0⟩ := pz_known hts (fun C h => by cases h) lw_arr.1
  obtain ⟨y1, hy1⟩ := pz_known hts (fun C h => by cases h) lw_arr.2.1
  obtain ⟨y2, hy2⟩ := pz_known hts (fun C h => by cases h) lw_arr.2.2.1
  obtain ⟨y3, hy3⟩ := pz_known hts (fun C h => by cases h) lw_arr.2.2.2
  obtain ⟨dC, dI, hKc⟩ : ∃ (dC : Nat → ClassId) (dI : Nat → Nat → Nat), ∀ (k : Nat) (q : vw_C), pz_cl[k]? = some q → u_Kn s q.1 q.2.1 q.2.2 (dC k) (dI k) := by
    refine ⟨fun k => [c0, c1, c2, c3, c4, c5, c6, c7, c8, c9, c10].getD k c0, fun k => [i0, i1, i2, i3, i4, i5, i6, i7, i8, i9, i10].getD k i0, ?_⟩
    intro k q hq
    match k, hq with
    | 0, hq => cases hq; exact hk0
    | 1, hq => cases hq; exact hk1
    | 2, hq => cases hq; exact hk2
    | 3, hq => cases hq; exact hk3
    | 4, hq => cases hq; exact hk4
    | 5, hq => cases hq; exact hk5
    | 6, hq => cases hq; exact hk6
    | 7, hq => cases hq; exact hk7
    | 8, hq => cases hq; exact hk8
    | 9, hq => cases hq; exact hk9
    | 10, hq => cases hq; exact hk10
    | k + 11, hq => simp [pz_cl] at hq
  obtain ⟨cy, hcy⟩ : ∃ cy : Nat → ClassId, ∀ (k : Nat) (q : ClassId × FieldType), (pz_tys cy)[k]? = some q → ArrOfT s q.1 q.2 ∧ va_RA s q.1 q.2 := by
    refine ⟨fun k => [y0, y1, y2, y3].getD k y0, ?_⟩
    intro k q hq
    match k, hq with
    | 0, hq => cases hq; exact hy0
    | 1, hq => cases hq; exact hy1
    | 2, hq => cases hq; exact hy2
    | 3, hq => cases hq; exact hy3
    | k + 4, hq => simp at hq
  have hK : va_K (dC, dI) pz_cl (pz_tys cy) s := ⟨hKc, hcy⟩
  have hN : pz_N s := ⟨fun q hq => va_Nw.of rfl (hts _ (lw_nests q hq)), fun w hw => by
    have hk := (List.mem_filter.mp hw).2
    simp only [Bool.and_eq_true] at hk
    exact va_Nw.of hk.1 (hts w (List.mem_filter.mp hw).1)⟩
  have hsg := flat_of_before _ hgv
  have hZ : pz_Z (fun q : Nat => s.heap.size ≤ q) s s.heap := ⟨vx_Zqof (hts _ lw_st.1) (hts _ lw_st.2.2) (hsg _ (by decide +kernel)) (fun a h => Nat.not_le.mpr h), vx_Zqof (hts _ lw_st.2.1) (hts _ lw_st.2.2) (hsg _ (by decide +kernel)) (fun a h => Nat.not_le.mpr h), va_Nc.of (hsg (Cond.not (.castable "java/lang/IllegalStateException" "java/lang/IllegalArgumentException")) (by decide +kernel))⟩
  have C : pz_C p s m #[Value.ref b] meth c cL_law 7 RL (dC, dI) cy (fun q : Nat => s.heap.size ≤ q) := ⟨⟨hx, hb, hml, hown, fun w hw => hts w (lw_good_sub hw)⟩, hK, fun _ h => h, hlocks, hN⟩
  have hS : va_S (fun q : Nat => s.heap.size ≤ q) s.heap s.heap [] := va_S.rf
  have hP : va_P (dC, dI) pz_cl (pz_w cy (fun _ => 0) pz_s0 pz_z) s.heap := fun k q h => by simp [pz_w, pz_s0] at h
  have hD : va_D (fun q : Nat => s.heap.size ≤ q) (pz_w cy (fun _ => 0) pz_s0 pz_z) := ⟨fun i j p q h => by simp [pz_w, pz_s0] at h, fun k q h => by simp [pz_w, pz_s0] at h⟩
  have hl := lv_entry ([.ref b]) (n := 7) (Nat.le_of_ble_eq_true rfl)
  rw [lg_entry_eq]
  generalize (lg_sl ([.ref b]) ++ List.replicate (7 - (lg_sl ([.ref b])).length) Slot.unset).toArray = ls at hl ⊢
  have hl : lv_has ls 7 [(0, .ref b)] := hl
  refine lx_newobj C (ci := 9) dL_law_0 gwX10 tyX10_ok cl_L_8 inst_X10 ini_X10 rfl dfX10 pz_s0_wf (Nat.le_of_ble_eq_true rfl) (Nat.le_of_ble_eq_true rfl) hP hD hS (fun ad1 H hag1 hP hD hS => ?_)
  rw [pz_nz] at hP hD
  refine lv_dup C.1.1 C.1.2.1 dL_law_3 rfl ?_
  refine lx_callI C (As := []) (b := 0) (rest := [.ref (ad1 0)]) (c_X10_init l (dC, dI) cy (σ := pz_new pz_s0 (13, 0)) (i := 0) (pz_wf_new pz_s0_wf) (by decide) (by decide)) wB_yX10_init ml_L_52 im_yX10_init rfl rfl rfl (Nat.le_of_ble_eq_true rfl) ⟨(Nat.le_of_ble_eq_true rfl), (Nat.le_of_ble_eq_true rfl)⟩ ⟨(Nat.le_of_ble_eq_true rfl), (Nat.le_of_ble_eq_true rfl)⟩ dL_law_4 hP hD hS hl.1 (fun ad2 H locs hag2 hP hD hS => ?_)
  refine lv_astore_n (lv' := [(1, .ref (ad1 0)), (0, .ref b)]) C.1.1 C.1.2.1 dL_law_7 rfl hl (by decide) rfl (fun ls hl => ?_)
  have hP : va_P (dC, dI) pz_cl (pz_w cy ad2 pz_s1 pz_z) H := hP
  have hD : va_D (fun q : Nat => s.heap.size ≤ q) (pz_w cy ad2 pz_s1 pz_z) := hD
  refine lx_newobj C (ci := 10) dL_law_8 gwX11 tyX11_ok cl_L_53 inst_X11 ini_X11 rfl dfX11 pz_s1_wf (Nat.le_of_ble_eq_true rfl) (Nat.le_of_ble_eq_true rfl) hP hD hS (fun ad3 H hag3 hP hD hS => ?_)
  rw [pz_nz] at hP hD
  rw [pz_s1_n]
  refine lv_dup C.1.1 C.1.2.1 dL_law_11 rfl ?_
  have k45 : ((pz_new pz_s1 (10 + 4, 0)).2.1 45).1 = 14 := by
    have e9 := pz_new_k (σ := pz_s1) (q := (10 + 4, 0))
    rw [pz_s1_n] at e9
    rw [e9]
  refine lx_callI C (As := []) (b := 45) (rest := [.ref (ad3 45)]) (c_X11_init l (dC, dI) cy (σ := pz_new pz_s1 (10 + 4, 0)) (i := 45) (pz_wf_new pz_s1_wf) (show 45 < pz_s1.1 + 1 by rw [pz_s1_n]; decide) k45) wB_yX11_init ml_L_55 im_yX11_init rfl rfl rfl (Nat.le_of_ble_eq_true rfl) ⟨(Nat.le_of_ble_eq_true rfl), (Nat.le_of_ble_eq_true rfl)⟩ ⟨(Nat.le_of_ble_eq_true rfl), (Nat.le_of_ble_eq_true rfl)⟩ dL_law_12 hP hD hS hl.1 (fun ad4 H locs hag4 hP hD hS => ?_)
  refine lv_astore_n (lv' := [(2, .ref (ad3 45)), (1, .ref (ad1 0)), (0, .ref b)]) C.1.1 C.1.2.1 dL_law_15 rfl hl (by decide) rfl (fun ls hl => ?_)
  have hP : va_P (dC, dI) pz_cl (pz_w cy ad4 pz_s2 pz_z) H := hP
  have hD : va_D (fun q : Nat => s.heap.size ≤ q) (pz_w cy ad4 pz_s2 pz_z) := hD
  refine lv_iconst (v := 1) C.1.1 C.1.2.1 dL_law_16 (by decide) ?_
  refine lx_newarrJ C dL_law_17 (by decide) (N' := 1) (by decide) (Nat.le_of_ble_eq_true rfl) pz_s2_wf (Nat.le_of_ble_eq_true rfl) (Nat.le_of_ble_eq_true rfl) hP hD hS (fun ad5 H hag5 hP hD hS => ?_)
  rw [pz_nz] at hP hD
  rw [pz_s2_n]
  refine lv_astore_n (lv' := [(3, .ref (ad5 83)), (2, .ref (ad3 45)), (1, .ref (ad1 0)), (0, .ref b)]) C.1.1 C.1.2.1 dL_law_19 rfl hl (by decide) rfl (fun ls hl => ?_)
  have g1 : 0 < pz_s1.1 := by rw [pz_s1_n]; decide
  have g2 : 45 < (pz_new pz_s1 (10 + 4, 0)).1 := show 45 < pz_s1.1 + 1 by rw [pz_s1_n]; decide
  have g3 : 45 < pz_s2.1 := by rw [pz_s2_n]; decide
  have e0 : ad1 0 = ad5 0 := ((hag5 0 (Nat.lt_trans (by decide) g3)).trans ((hag4 0 (Nat.lt_trans (by decide) g2)).trans ((hag3 0 g1).trans (hag2 0 (by decide))))).symm
  have e45 : ad3 45 = ad5 45 := ((hag5 45 g3).trans (hag4 45 g2)).symm
  rw [e0, e45] at hl
  have hP : va_P (dC, dI) pz_cl (pz_w cy ad5 pz_si pz_z) H := hP
  have hD : va_D (fun q : Nat => s.heap.size ≤ q) (pz_w cy ad5 pz_si pz_z) := hD
  have zc : pz_fc pz_z := fun _ _ => ⟨fun _ => rfl, fun _ => rfl⟩
  have zm : pz_fm pz_z := fun _ _ _ => ⟨fun _ => rfl, fun _ => rfl⟩
  refine lv_iconst (v := 0) C.1.1 C.1.2.1 dL_law_20 (by decide) ?_
  refine lv_istore (lv' := [(4, .int 0), (3, .ref (ad5 83)), (2, .ref (ad5 45)), (1, .ref (ad5 0)), (0, .ref b)]) C.1.1 C.1.2.1 dL_law_21 hl (by decide) rfl (fun ls hl => ?_)
  refine lv_iload C.1.1 C.1.2.1 dL_law_23 (lv_at hl 0 rfl) ?_
  refine lv_aload_n C.1.1 C.1.2.1 dL_law_25 rfl (lv_at hl 4 rfl) ?_
  refine va_slen C.1.1 C.1.2.1 hX hbl hbA hS dL_law_26 ?_
  refine lv_bipush (v := 6) C.1.1 C.1.2.1 dL_law_27 (by decide) ?_
  refine lv_isub C.1.1 C.1.2.1 dL_law_29 ?_
  refine lv_icmp_gt (tgt := 936) C.1.1 C.1.2.1 dL_law_30 (by decide) (fun h30 => ?_) (fun h30 => ?_)
  · refine lv_iconst (v := 1) C.1.1 C.1.2.1 dL_law_936 (by decide) ?_
    refine va_forget (fun q hq => hS.2.2 q hq) ?_
    refine W.widen (k := 600002) (n := 7302232) (Nat.le_of_ble_eq_true rfl) (Nat.le_of_ble_eq_true rfl) ?_
    exact lw_ret C.1.1 C.1.2.1 hr hlocks dL_law_937
  · have h6 : L = 6 := by
      match L, hL, h30 with
      | 0, _, h => exact absurd (by decide) h
      | 1, _, h => exact absurd (by decide) h
      | 2, _, h => exact absurd (by decide) h
      | 3, _, h => exact absurd (by decide) h
      | 4, _, h => exact absurd (by decide) h
      | 5, _, h => exact absurd (by decide) h
      | 6, _, _ => rfl
      | n + 7, h, _ => exact absurd h (by omega)
    subst h6
    refine lv_aload_n C.1.1 C.1.2.1 dL_law_33 rfl (lv_at hl 4 rfl) ?_
    refine lv_iload C.1.1 C.1.2.1 dL_law_34 (lv_at hl 0 rfl) ?_
    refine va_sld C.1.1 C.1.2.1 hX hbl hbA hS (show vp_in (0 : Int32) 6 from vp_in0 (by decide)) dL_law_36 ?_
    refine lv_bipush (v := 15) C.1.1 C.1.2.1 dL_law_37 (by decide) ?_
    refine lv_iand C.1.1 C.1.2.1 dL_law_39 ?_
    obtain ⟨j, hj, ej⟩ := pk_andE (xs (0 : Int32).toNatClampNeg) (m := 15) 4 (by decide)
    match j, hj, ej with
    | 0, _, ej =>
      rw [ej]
      refine lv_tableIn (tgt := 108) C.1.1 C.1.2.1 dL_law_40 (by decide) (by decide) (off := 68) rfl (by decide) ?_
      exact law_c0 C hr hX hbl hZ hl0 pz_si_sh zc zm rfl hP hD hS hl
    | 1, _, ej =>
      rw [ej]
      refine lv_tableIn (tgt := 164) C.1.1 C.1.2.1 dL_law_40 (by decide) (by decide) (off := 124) rfl (by decide) ?_
      exact law_c1 C hr hX hbl hZ hl0 pz_si_sh zc zm rfl hP hD hS hl
    | 2, _, ej =>
      rw [ej]
      refine lv_tableIn (tgt := 256) C.1.1 C.1.2.1 dL_law_40 (by decide) (by decide) (off := 216) rfl (by decide) ?_
      exact law_c2 C hr hX hbl hZ hl0 pz_si_sh zc zm rfl hP hD hS hl
    | 3, _, ej =>
      rw [ej]
      refine lv_tableIn (tgt := 344) C.1.1 C.1.2.1 dL_law_40 (by decide) (by decide) (off := 304) rfl (by decide) ?_
      exact law_c3 C hr hX hbl hZ hl0 pz_si_sh zc zm rfl hP hD hS hl
    | 4, _, ej =>
      rw [ej]
      refine lv_tableIn (tgt := 357) C.1.1 C.1.2.1 dL_law_40 (by decide) (by decide) (off := 317) rfl (by decide) ?_
      exact law_c4 C hr hX hbl hZ hl0 pz_si_sh zc zm rfl hP hD hS hl
    | 5, _, ej =>
      rw [ej]
      refine lv_tableIn (tgt := 370) C.1.1 C.1.2.1 dL_law_40 (by decide) (by decide) (off := 330) rfl (by decide) ?_
      exact law_c5 C hr hX hbl hZ hl0 pz_si_sh zc zm rfl hP hD hS hl
    | 6, _, ej =>
      rw [ej]
      refine lv_tableIn (tgt := 426) C.1.1 C.1.2.1 dL_law_40 (by decide) (by decide) (off := 386) rfl (by decide) ?_
      exact law_c6 C hr hX hbl hZ hl0 pz_si_sh zc zm rfl hP hD hS hl
    | 7, _, ej =>
      rw [ej]
      refine lv_tableIn (tgt := 494) C.1.1 C.1.2.1 dL_law_40 (by decide) (by decide) (off := 454) rfl (by decide) ?_
      exact law_c7 C hr hX hbl hZ hl0 pz_si_sh zc zm rfl hP hD hS hl
    | 8, _, ej =>
      rw [ej]
      refine lv_tableIn (tgt := 574) C.1.1 C.1.2.1 dL_law_40 (by decide) (by decide) (off := 534) rfl (by decide) ?_
      exact law_c8 C hr hX hbl hZ hl0 pz_si_sh zc zm rfl hP hD hS hl
    | 9, _, ej =>
      rw [ej]
      refine lv_tableIn (tgt := 642) C.1.1 C.1.2.1 dL_law_40 (by decide) (by decide) (off := 602) rfl (by decide) ?_
      exact law_c9 C hr hX hbl hZ hl0 pz_si_sh zc zm rfl hP hD hS hl
    | 10, _, ej =>
      rw [ej]
      refine lv_tableIn (tgt := 698) C.1.1 C.1.2.1 dL_law_40 (by decide) (by decide) (off := 658) rfl (by decide) ?_
      exact law_c10 C hr hX hbl hZ hl0 pz_si_sh zc zm rfl hP hD hS hl
    | 11, _, ej =>
      rw [ej]
      refine lv_tableIn (tgt := 818) C.1.1 C.1.2.1 dL_law_40 (by decide) (by decide) (off := 778) rfl (by decide) ?_
      exact law_c11 C hr hX hbl hZ hl0 pz_si_sh zc zm rfl hP hD hS hl
    | 12, _, ej =>
      rw [ej]
      refine lv_tableIn (tgt := 874) C.1.1 C.1.2.1 dL_law_40 (by decide) (by decide) (off := 834) rfl (by decide) ?_
      exact law_c12 C hr hX hbl hZ hl0 pz_si_sh zc zm rfl hP hD hS hl
    | 13, _, ej =>
      rw [ej]
      refine lv_tableOut (tgt := 930) C.1.1 C.1.2.1 dL_law_40 (by decide) (by decide) ?_
      exact law_tail C hr hX hbl (Nat.le_of_ble_eq_true rfl) (Nat.le_of_ble_eq_true rfl) hS (lv_sub hl [0, 4] rfl)
    | 14, _, ej =>
      rw [ej]
      refine lv_tableOut (tgt := 930) C.1.1 C.1.2.1 dL_law_40 (by decide) (by decide) ?_
      exact law_tail C hr hX hbl (Nat.le_of_ble_eq_true rfl) (Nat.le_of_ble_eq_true rfl) hS (lv_sub hl [0, 4] rfl)
    | 15, _, ej =>
      rw [ej]
      refine lv_tableOut (tgt := 930) C.1.1 C.1.2.1 dL_law_40 (by decide) (by decide) ?_
      exact law_tail C hr hX hbl (Nat.le_of_ble_eq_true rfl) (Nat.le_of_ble_eq_true rfl) hS (lv_sub hl [0, 4] rfl)
    | n + 16, h, _ => exact absurd h (by omega)
