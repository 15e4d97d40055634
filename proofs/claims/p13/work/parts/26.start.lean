theorem lw_nests : ∀ q ∈ pz_nests, Cond.methodLinkNest q.1 q.2.1 q.2.2.1 q.2.2.2 ∈ lw_tbl := by decide +kernel
theorem lw_st : Cond.laysStatic Bundle.tN "UNASSIGNED_STACK" Bundle.steD ∈ lw_tbl ∧ Cond.laysStatic Bundle.tN "SUPPRESSED_SENTINEL" Bundle.listD ∈ lw_tbl ∧ Cond.initialized Bundle.tN ∈ lw_tbl := ⟨by decide +kernel, by decide +kernel, by decide +kernel⟩
theorem lw_arr : Cond.arrayClass .byte ∈ lw_tbl ∧ Cond.arrayClass .int ∈ lw_tbl ∧ Cond.arrayClass .long ∈ lw_tbl ∧ Cond.arrayClass .boolean ∈ lw_tbl := ⟨lw_good_sub arr_byte, lw_good_sub arr_int, lw_good_sub arr_long, lw_good_sub arr_boolean⟩
set_option maxHeartbeats 4000000 in
set_option maxRecDepth 100000 in
/-- THE LAW, from its entry -/
theorem whole_start {p : Program} {e : Env} {s : State} {m : MethodId} {below : List Frame} {meth : Method} {c : Code} (l : Launch) (hl0 : l.stackTraces = false) {b L : Nat} {xs : Nat → Int32} (hL : L ≤ 3072) (hok : ∃ q, q_law_b23 xs L pv_N pv_N 0 pv_V0 = some q) (C0 : lw_At p s m meth c b L xs) : W p l e room_1 s m #[Value.ref b] below meth c s.heap [] 0 0 (lw_Z below #[Value.ref b] s) (entryFrame m ([Value.ref b] : List Value).toArray 7) := by
  obtain ⟨hx, hb, hr, hml, hown, hts, hX, hbl, hlocks, hgv⟩ := id C0
  have hbA : ¬ (fun q : Nat => s.heap.size ≤ q) b := Nat.not_le.mpr hbl
  obtain ⟨c0, i0, hk0⟩ := u_known (C := RX1) (T := TX1) (N := 7) hts (fun w h => lw_good_sub (gwX1 w h)) (hts _ (lw_good_sub inst_X1))
  obtain ⟨c1, i1, hk1⟩ := u_known (C := RX2) (T := TX2) (N := 4) hts (fun w h => lw_good_sub (gwX2 w h)) (hts _ (lw_good_sub inst_X2))
  obtain ⟨c2, i2, hk2⟩ := u_known (C := RX3) (T := TX3) (N := 5) hts (fun w h => lw_good_sub (gwX3 w h)) (hts _ (lw_good_sub inst_X3))
  obtain ⟨c3, i3, hk3⟩ := u_known (C := RX4) (T := TX4) (N := 10) hts (fun w h => lw_good_sub (gwX4 w h)) (hts _ (lw_good_sub inst_X4))
  obtain ⟨c4, i4, hk4⟩ := u_known (C := RX5) (T := TX5) (N := 11) hts (fun w h => lw_good_sub (gwX5 w h)) (hts _ (lw_good_sub inst_X5))
  obtain ⟨c5, i5, hk5⟩ := u_known (C := RX6) (T := TX6) (N := 7) hts (fun w h => lw_good_sub (gwX6 w h)) (hts _ (lw_good_sub inst_X6))
  obtain ⟨c6, i6, hk6⟩ := u_known (C := RX7) (T := TX7) (N := 7) hts (fun w h => lw_good_sub (gwX7 w h)) (hts _ (lw_good_sub inst_X7))
  obtain ⟨c7, i7, hk7⟩ := u_known (C := RX8) (T := TX8) (N := 8) hts (fun w h => lw_good_sub (gwX8 w h)) (hts _ (lw_good_sub inst_X8))
  obtain ⟨c8, i8, hk8⟩ := u_known (C := RX9) (T := TX9) (N := 3) hts (fun w h => lw_good_sub (gwX9 w h)) (hts _ (lw_good_sub inst_X9))
  obtain ⟨c9, i9, hk9⟩ := u_known (C := RX10) (T := TX10) (N := 4) hts (fun w h => lw_good_sub (gwX10 w h)) (hts _ (lw_good_sub inst_X10))
  obtain ⟨c10, i10, hk10⟩ := u_known (C := RX11) (T := TX11) (N := 54) hts (fun w h => lw_good_sub (gwX11 w h)) (hts _ (lw_good_sub inst_X11))
  obtain ⟨y0, hy0⟩ := pz_known hts (fun C h => by cases h) lw_arr.1
  obtain ⟨y1, hy1⟩ := pz_known hts (fun C h => by cases h) lw_arr.2.1
  obtain ⟨y2, hy2⟩ := pz_known hts (fun C h => by cases h) lw_arr.2.2.1
  obtain ⟨y3, hy3⟩ := pz_known hts (fun C h => by cases h) lw_arr.2.2.2
  obtain ⟨dC, dI, hKc⟩ : ∃ (dC : Nat → ClassId) (dI : Nat → Nat → Nat), ∀ (k : Nat) (q : vw_C), pz_cl[k]? = some q → u_Kn s q.1 q.2.1 q.2.2 (dC k) (dI k) := by
    refine ⟨fun k => [c0, c1, c2, c3, c4, c5, c6, c7, c8, c9, c10].getD k c0, fun k => [i0, i1, i2, i3, i4, i5, i6, i7, i8, i9, i10].getD k i0, ?_⟩
    intro k q hq
    match k, hq with
    | 0, hq => cases hq; exact hk0
    | 1, hq => cases hq; exact hk1
    | 2, hq => cases hq; exact hk2
    | 3, hq => cases hq; exact hk3
    | 4, hq => cases hq; exact hk4
    | 5, hq => cases hq; exact hk5
    | 6, hq => cases hq; exact hk6
    | 7, hq => cases hq; exact hk7
    | 8, hq => cases hq; exact hk8
    | 9, hq => cases hq; exact hk9
    | 10, hq => cases hq; exact hk10
    | k + 11, hq => simp [pz_cl] at hq
  obtain ⟨cy, hcy⟩ : ∃ cy : Nat → ClassId, ∀ (k : Nat) (q : ClassId × FieldType), (pz_tys cy)[k]? = some q → ArrOfT s q.1 q.2 ∧ va_RA s q.1 q.2 := by
    refine ⟨fun k => [y0, y1, y2, y3].getD k y0, ?_⟩
    intro k q hq
    match k, hq with
    | 0, hq => cases hq; exact hy0
    | 1, hq => cases hq; exact hy1
    | 2, hq => cases hq; exact hy2
    | 3, hq => cases hq; exact hy3
    | k + 4, hq => simp at hq
  have hK : va_K (dC, dI) pz_cl (pz_tys cy) s := ⟨hKc, hcy⟩
  have hN : pz_N s := ⟨fun q hq => va_Nw.of rfl (hts _ (lw_nests q hq)), fun w hw => by
    have hk := (List.mem_filter.mp hw).2
    simp only [Bool.and_eq_true] at hk
    exact va_Nw.of hk.1 (hts w (List.mem_filter.mp hw).1)⟩
  have hsg := flat_of_before _ hgv
  have hZ : pz_Z (fun q : Nat => s.heap.size ≤ q) s s.heap := ⟨vx_Zqof (hts _ lw_st.1) (hts _ lw_st.2.2) (hsg _ (by decide +kernel)) (fun a h => Nat.not_le.mpr h), vx_Zqof (hts _ lw_st.2.1) (hts _ lw_st.2.2) (hsg _ (by decide +kernel)) (fun a h => Nat.not_le.mpr h), va_Nc.of (hsg (Cond.not (.castable "java/lang/IllegalStateException" "java/lang/IllegalArgumentException")) (by decide +kernel))⟩
  have C : pz_C p s m #[Value.ref b] meth c cL_law 7 RL (dC, dI) cy (fun q : Nat => s.heap.size ≤ q) := ⟨⟨hx, hb, hml, hown, fun w hw => hts w (lw_good_sub hw)⟩, hK, fun _ h => h, hlocks, hN⟩
  have hS : va_S (fun q : Nat => s.heap.size ≤ q) s.heap s.heap [] := va_S.rf
  have hP : va_P (dC, dI) pz_cl (pz_w cy (fun _ => 0) pz_s0 pz_z) s.heap := fun k q h => by simp [pz_w, pz_s0] at h
  have hD : va_D (fun q : Nat => s.heap.size ≤ q) (pz_w cy (fun _ => 0) pz_s0 pz_z) := ⟨fun i j p q h => by simp [pz_w, pz_s0] at h, fun k q h => by simp [pz_w, pz_s0] at h⟩
  have hl := lv_entry ([.ref b]) (n := 7) (Nat.le_of_ble_eq_true rfl)
  rw [lg_entry_eq]
  generalize (lg_sl ([.ref b]) ++ List.replicate (7 - (lg_sl ([.ref b])).length) Slot.unset).toArray = ls at hl ⊢
  have hl : lv_has ls 7 [(0, .ref b)] := hl
  refine lx_newobj C (ci := 9) dL_law_0 gwX10 tyX10_ok cl_L_8 inst_X10 ini_X10 rfl dfX10 pz_s0_wf (Nat.le_of_ble_eq_true rfl) (Nat.le_of_ble_eq_true rfl) hP hD hS (fun ad1 H hag1 hP hD hS => ?_)
  rw [pz_nz] at hP hD
  refine lv_dup C.1.1 C.1.2.1 dL_law_3 rfl ?_
  refine lx_callI C (As := []) (b := 0) (rest := [.ref (ad1 0)]) (c_X10_init l (dC, dI) cy (σ := pz_new pz_s0 (13, 0)) (i := 0) (pz_wf_new pz_s0_wf) (by decide) (by decide)) wB_yX10_init ml_L_52 im_yX10_init rfl rfl rfl (Nat.le_of_ble_eq_true rfl) ⟨(Nat.le_of_ble_eq_true rfl), (Nat.le_of_ble_eq_true rfl)⟩ ⟨(Nat.le_of_ble_eq_true rfl), (Nat.le_of_ble_eq_true rfl)⟩ dL_law_4 hP hD hS hl.1 (fun ad2 H locs hag2 hP hD hS => ?_)
  refine lv_astore_n (lv' := [(1, .ref (ad1 0)), (0, .ref b)]) C.1.1 C.1.2.1 dL_law_7 rfl hl (by decide) rfl (fun ls hl => ?_)
  have hP : va_P (dC, dI) pz_cl (pz_w cy ad2 pz_s1 pz_z) H := hP
  have hD : va_D (fun q : Nat => s.heap.size ≤ q) (pz_w cy ad2 pz_s1 pz_z) := hD
  refine lx_newobj C (ci := 10) dL_law_8 gwX11 tyX11_ok cl_L_53 inst_X11 ini_X11 rfl dfX11 pz_s1_wf (Nat.le_of_ble_eq_true rfl) (Nat.le_of_ble_eq_true rfl) hP hD hS (fun ad3 H hag3 hP hD hS => ?_)
  rw [pz_nz] at hP hD
  rw [pz_s1_n]
  refine lv_dup C.1.1 C.1.2.1 dL_law_11 rfl ?_
  have k45 : ((pz_new pz_s1 (10 + 4, 0)).2.1 45).1 = 14 := by
    have e9 := pz_new_k (σ := pz_s1) (q := (10 + 4, 0))
    rw [pz_s1_n] at e9
    rw [e9]
  refine lx_callI C (As := []) (b := 45) (rest := [.ref (ad3 45)]) (c_X11_init l (dC, dI) cy (σ := pz_new pz_s1 (10 + 4, 0)) (i := 45) (pz_wf_new pz_s1_wf) (show 45 < pz_s1.1 + 1 by rw [pz_s1_n]; decide) k45) wB_yX11_init ml_L_55 im_yX11_init rfl rfl rfl (Nat.le_of_ble_eq_true rfl) ⟨(Nat.le_of_ble_eq_true rfl), (Nat.le_of_ble_eq_true rfl)⟩ ⟨(Nat.le_of_ble_eq_true rfl), (Nat.le_of_ble_eq_true rfl)⟩ dL_law_12 hP hD hS hl.1 (fun ad4 H locs hag4 hP hD hS => ?_)
  refine lv_astore_n (lv' := [(2, .ref (ad3 45)), (1, .ref (ad1 0)), (0, .ref b)]) C.1.1 C.1.2.1 dL_law_15 rfl hl (by decide) rfl (fun ls hl => ?_)
  have hP : va_P (dC, dI) pz_cl (pz_w cy ad4 pz_s2 pz_z) H := hP
  have hD : va_D (fun q : Nat => s.heap.size ≤ q) (pz_w cy ad4 pz_s2 pz_z) := hD
  refine lv_iconst (v := 1) C.1.1 C.1.2.1 dL_law_16 (by decide) ?_
  refine lx_newarrJ C dL_law_17 (by decide) (N' := 1) (by decide) (Nat.le_of_ble_eq_true rfl) pz_s2_wf (Nat.le_of_ble_eq_true rfl) (Nat.le_of_ble_eq_true rfl) hP hD hS (fun ad5 H hag5 hP hD hS => ?_)
  rw [pz_nz] at hP hD
  rw [pz_s2_n]
  refine lv_astore_n (lv' := [(3, .ref (ad5 83)), (2, .ref (ad3 45)), (1, .ref (ad1 0)), (0, .ref b)]) C.1.1 C.1.2.1 dL_law_19 rfl hl (by decide) rfl (fun ls hl => ?_)
  have g1 : 0 < pz_s1.1 := by rw [pz_s1_n]; decide
  have g2 : 45 < (pz_new pz_s1 (10 + 4, 0)).1 := show 45 < pz_s1.1 + 1 by rw [pz_s1_n]; decide
  have g3 : 45 < pz_s2.1 := by rw [pz_s2_n]; decide
  have e0 : ad1 0 = ad5 0 := ((hag5 0 (Nat.lt_trans (by decide) g3)).trans ((hag4 0 (Nat.lt_trans (by decide) g2)).trans ((hag3 0 g1).trans (hag2 0 (by decide))))).symm
  have e45 : ad3 45 = ad5 45 := ((hag5 45 g3).trans (hag4 45 g2)).symm
  rw [e0, e45] at hl
  have hP : va_P (dC, dI) pz_cl (pz_w cy ad5 pz_si pz_z) H := hP
  have hD : va_D (fun q : Nat => s.heap.size ≤ q) (pz_w cy ad5 pz_si pz_z) := hD
  refine lv_iconst (v := 0) C.1.1 C.1.2.1 dL_law_20 (by decide) ?_
  refine lv_istore (lv' := [(4, .int 0), (3, .ref (ad5 83)), (2, .ref (ad5 45)), (1, .ref (ad5 0)), (0, .ref b)]) C.1.1 C.1.2.1 dL_law_21 hl (by decide) rfl (fun ls hl => ?_)
  obtain ⟨q, hq⟩ := hok
  have k9 := w_law_b23 (e := e) (below := below) C hr hX hbl hL hZ hl0 pv_N 0 pz_si pv_V0 hq ad5 pz_z H _ ls pv_V0_R (Nat.le_of_ble_eq_true rfl) (Nat.le_of_ble_eq_true rfl) hP hD hS (lv_sub hl [4, 3, 2, 1, 0] rfl)
  exact k9
