/-! APPLY'S GROUP KEEPS STEP -/
theorem e_sh10F {N d h n : Nat} {f : Int} {V : pvM} (hN : 50 ≤ N) (ht : tp V d (h + n)) (hf : 0 ≤ f ∧ f < 12) (hn : V 8 f.toNat = n) (hn3 : n ≤ 3) (h30 : V 28 6 = 30) : q_X4_doShared N 10 f V = some (0, 0, pz_u (takeV V d h n) 28 8 3) := wz_to (by
  have ec : q_X4_callFunction N f V = some (0, 0, pz_u (takeV V d h n) 28 8 3) := wz_to (by
    unfold q_X4_callFunction
    rw [cL_eq (e_parametersOf hf), hn, cL_eq (e_take hN (by omega) ht), cL_eq (e_beginF (by rw [takeV_off (by decide) (by decide)]; exact h30)), if_pos rfl]
    exact wp_rT ⟨rfl, rfl, rfl⟩)
  unfold q_X4_doShared
  rw [if_neg (by decide), if_neg (by decide), if_neg (by decide), if_neg (by decide), if_neg (by decide), if_neg (by decide), if_neg (by decide), if_neg (by decide), if_neg (by decide), if_neg (by decide), if_pos rfl, cL_eq ec]
  exact wp_rT ⟨rfl, rfl, rfl⟩)
section PA
variable {N : Nat} {b : Int} {V0 V Vp : pvM} {d f p h : Nat} {ix : Nat → Nat}
theorem nxpt_fr {W : pvM} {e h' n : Nat} {q : Int} : fr [28, 30, 32, 33, 34] W (popV (takeV (nxV W e q) e (h' + 1) n) e h') := fun c hc => by
  simp at hc; rw [popV_off (by omega), takeV_off (by omega) (by omega), nxV_off (by omega) (by omega)]
theorem nxpt_28 {W : pvM} {e h' n : Nat} {q : Int} : popV (takeV (nxV W e q) e (h' + 1) n) e h' 28 = va_up (W 28) 7 (W 28 7 + 1) := by rw [popV_off (by decide), tk_28]
set_option maxHeartbeats 4000000 in
set_option maxRecDepth 100000 in
theorem pw_14 {n : Nat} (hN : 50 ≤ N) (hL : LOW V0) (hW : RW V0) (hP : PI V0) (hC : CI b V0 V (d + 1)) (hR : RP b V0 V Vp (d + 1) ix) (hm : frm V d f p (h + 1 + n)) (hh : h + 1 + n ≤ 12) (h400 : V 28 7 < 400) (h14 : cW V f p = 14) (hca : cA V f p = n) (hn3 : n ≤ 3) : RE N 8 Vp (RPO b V0 (apV (nxV V d ((p + 1 : Nat) : Int)) (d + 1) d h n)) := by
  have ht := RP_tops hC hR hm hh
  have h9 := hC.2.2.2.2.2.2.2.2.1
  have hHO := hC.2.2.2.2.1
  have hTX := hC.2.2.2.2.2.1.1
  have c286 := hC.2.1.2.2.1
  have hD := hC.2.2.1
  have hF := FT_tops ht
  obtain ⟨t1, t2, t3, t4, t5, t6⟩ := ht
  have hR' := hR
  obtain ⟨r1, r2, r3, r4, r5, r6, r7, r8⟩ := hR'
  have hix := IX_le r4 d (by omega)
  have e10 : cW V f p = cW V0 f p := by unfold cW; rw [hC.1 10 (by decide)]
  have e11 : cA V f p = cA V0 f p := by unfold cA; rw [hC.1 11 (by decide)]
  have hfn : (f : Int) < V0 1 6 := by rw [← hC.1 1 (by decide)]; exact hm.2.1.1
  have hpn : (p : Int) < V0 9 f := by rw [← hC.1 9 (by decide)]; exact hm.2.1.2
  have hn12 := hP.1
  have hG : Gp V0 f p = [(22, (n : Int), 0)] := by
    unfold Gp grp
    rw [if_neg (by omega), if_pos (by omega), ← e11, hca]
  obtain ⟨g1, -, g3⟩ := ROWS_grp hL hW hP hfn hpn hG (fun y hy => by simp at hy; rw [hy]; dsimp only; decide)
  dsimp only at g1
  rw [List.length_nil, Nat.add_zero] at g3
  obtain ⟨X, hX⟩ : ∃ X, X = nxV Vp (ix d) ((ps V0 f p + 1 : Nat) : Int) := ⟨_, rfl⟩
  have x28 : X 28 = va_up (Vp 28) 7 (Vp 28 7 + 1) := by rw [hX, nxV_28]
  have x32 : X 32 = va_up (Vp 32) (ix d) ((ps V0 f p + 1 : Nat) : Int) := by rw [hX, nxV_32]
  have xof : ∀ c, c ≠ 28 → c ≠ 32 → X c = Vp c := fun c a1 a2 => by rw [hX, nxV_off a1 a2]
  have x6 : X 28 6 = ((d + 1 : Nat) : Int) := by rw [x28, up_app, if_neg (by decide), t5.2.2.2.1, c286]
  have xt : tp X (ix d) (h + 1 + n) := by rw [hX]; exact tp_nx t6
  have e1 := t4 h (by omega)
  have xv : X 30 (33 * ix d + 20 + h) = V 30 (33 * d + 20 + h) := by rw [xof 30 (by decide) (by decide)]; exact e1
  have first : ∀ (Y : pvM), q_X4_invoke N n X = some (0, 0, Y) → RE N 7 Y (RPO b V0 (apV (nxV V d ((p + 1 : Nat) : Int)) (d + 1) d h n)) → RE N 8 Vp (RPO b V0 (apV (nxV V d ((p + 1 : Nat) : Int)) (d + 1) d h n)) := by
    intro Y hY hk
    refine RE_step (n := 7) (R := fun Z => Z = Y) t5.2.1 (by omega) ?_ (fun Z hZ => by rw [hZ]; exact hk)
    refine s_micro hF (row_fr r1 g1) (Or.inr ⟨rfl, by rw [t5.2.2.2.2]; exact h9.1, by rw [t5.2.2.2.2]; exact h400⟩) ?_
    unfold pbd pre q_X4_doPlain
    rw [if_pos rfl, ← hX, if_pos (by decide), if_pos (by decide), if_neg (by decide), if_neg (by decide), if_pos rfl, cL_eq (show (cL (q_X4_invoke N n X) fun _ V => rT V 0) = some (0, 0, Y) by rw [cL_eq hY]; rfl)]
    exact wp_rT ⟨rfl, rfl⟩
  have n30 : nxV V d ((p + 1 : Nat) : Int) 30 = V 30 := nxV_off (by decide) (by decide)
  have n36 : nxV V d ((p + 1 : Nat) : Int) 36 = V 36 := nxV_off (by decide) (by decide)
  have n37 : nxV V d ((p + 1 : Nat) : Int) 37 = V 37 := nxV_off (by decide) (by decide)
  have n8 : nxV V d ((p + 1 : Nat) : Int) 8 = V 8 := nxV_off (by decide) (by decide)
  have hv := hm.2.2.1 h (by omega)
  by_cases h3 : kd (V 30 (33 * d + 20 + h)) = 3
  · rcases vok_cases hv (by omega) (by omega) with hc9 | hc9 | hc9
    · omega
    · omega
    obtain ⟨c, hce⟩ : ∃ c : Nat, ct (V 30 (33 * d + 20 + h)) = c := ⟨(ct (V 30 (33 * d + 20 + h))).toNat, by omega⟩
    obtain ⟨k, k1, k2, k3', k4, k5⟩ := r6.2 c (by omega)
    obtain ⟨b1, b2, b3⟩ := hHO.2 c (by omega)
    have h480 := (SS_le hP hL.1 (V0 1 6).toNat (by omega)).2
    have hk480 : k < 480 := by rw [hL.2.1] at k1; omega
    obtain ⟨g, hg⟩ : ∃ g : Nat, V 36 c = g := ⟨(V 36 c).toNat, by omega⟩
    obtain ⟨own, ho⟩ : ∃ own : Nat, V 37 c = own := ⟨(V 37 c).toNat, by omega⟩
    rw [hg] at k3' b1
    rw [ho] at k4 b2 k5
    have hg12 : g < 12 := by have := b1.2; rw [hC.1 1 (by decide)] at this; omega
    have xr : ∀ i, i ∈ [1, 8, 16, 23, 24] → X i = V0 i := fun i hi => by
      simp at hi
      rw [xof i (by omega) (by omega), r1 i (by simp [rcs]; omega)]
    have e8 : V 8 = V0 8 := hC.1 8 (by decide)
    have inv := e_inv2 (N := N) (e := ix d) (h := h) (n := n) (X := X) (c := c) (k := k) hN xt hn3 (by rw [xv]; exact h3) (by rw [xv]; exact hce) (by omega) (by rw [xof 36 (by decide) (by decide)]; exact k2) hk480 (by rw [xr 23 (by decide), k3']; omega) (by rw [xr 24 (by decide), k4]; omega) (by omega) (by rw [xof 29 (by decide) (by decide)]; exact t1.2.2) (by rw [xr 1 (by decide)]; exact hn12)
    rw [xr 24 (by decide), xr 23 (by decide), xr 8 (by decide), xr 1 (by decide), k3', k4, show ((g : Int)).toNat = g by omega, ← e8, xv] at inv
    by_cases h4 : (own : Int) + n = V 8 g
    · -- the method is opened
      refine first _ (inv.2 h4) ?_
      obtain ⟨W, hWe⟩ : ∃ W, W = ivV X (ix d) h n (((V0 1 6).toNat + k : Nat) : Int) (V 30 (33 * d + 20 + h)) := ⟨_, rfl⟩
      have hI := iv_rows (X := X) (e := ix d) (h := h) (n := n) (u := (V0 1 6).toNat + k) (obj := V 30 (33 * d + 20 + h)) hn3
      rw [← hWe] at hI ⊢
      obtain ⟨i1, i31, i32, i33, i30, ilo, i5, i6⟩ := hI
      have w28 : W 28 = X 28 := i1 28 (by decide)
      obtain ⟨lo, hlo⟩ : ∃ lo : Nat → Int, lo = fun j => if j = 0 then V 30 (33 * d + 20 + h) else if j ≤ n then X 30 (33 * ix d + 20 + (h + 1) + (j - 1)) else zV := ⟨_, rfl⟩
      rw [← hlo] at ilo
      have hlo0 : lo 0 = vO 3 c := by rw [hlo]; dsimp only; rw [if_pos rfl, hc9.2.2, hce]
      have hFW : FT W (ix d + 1) ((V0 1 6).toNat + k) 0 0 lo (fun _ => 0) := by
        refine ⟨⟨i6, i5, by omega⟩, ⟨by rw [i31, up_app, if_pos rfl], by rw [i32, up_app, if_pos rfl]; rfl, by rw [i33, up_app, if_pos rfl], by omega⟩, fun j hj => ilo j hj, fun j hj => by omega, ?_, ?_⟩
        · rw [w28, x28, up_app, if_neg (by decide)]; exact t5.1
        · rw [w28, x28, up_app, if_neg (by decide)]; exact t5.2.1
      have h0W : fr rcs V0 W := r1.trans (fun i hi => by
        simp [rcs] at hi
        rw [i1 i (by simp; omega), xof i (by omega) (by omega)])
      have hp8 := (hP.2.1 g (by omega)).1
      rw [← e8] at hp8
      have hmL : mL V0 k = gS own 0 ++ (lS n 1 ++ [(10, (g : Int), 0), (11, 0, 0)]) := by
        unfold mL mG
        rw [k3', k4, show ((g : Int)).toNat = g by omega, show ((own : Int)).toNat = own by omega, ← e8, ← h4, show ((own : Int) + n - own).toNat = n by omega]
      have mlen : (mL V0 k).length = own + n + 2 := by rw [hmL]; simp [gS_len, lS_len]; omega
      have hRows : ROWS V0 ((V0 1 6).toNat + k) 0 (gS own 0 ++ (lS n 1 ++ [(10, (g : Int), 0), (11, 0, 0)])) := fun j x hx => by
        have := low_mrow hL hW hP (c := k) (j := j) (x := x) k1 (by rw [hmL]; exact hx)
        rw [Nat.zero_add]; exact this
      obtain ⟨s1, s2⟩ := ROWS_app hRows
      obtain ⟨s3, s4⟩ := ROWS_app s2
      obtain ⟨s5, s6⟩ := ROWS_cons s4
      rw [gS_len] at s3 s5
      rw [lS_len] at s5
      dsimp only at s5
      refine RE_mono (RE_gS (n := n + 1) (c := c) hlo0 (by omega) own 0 0 W _ (by omega) h0W hFW s1 (fun W1 st1 u1 u2 u3 u4 => ?_)) (show own + (n + 1) ≤ 7 by omega) (fun _ h => h)
      have h0W1 := h0W.trans (u4.2.1.mono rcs_f)
      rw [Nat.zero_add] at u1
      rw [Nat.zero_add] at s3 s5
      refine RE_lS (n := 1) (h := own) n 1 own W1 st1 (by omega) (by omega) h0W1 u1 s3 (fun W2 st2 v1 v2 v3 v4 => ?_)
      have h0W2 := h0W1.trans (v4.2.1.mono rcs_f)
      have mv := u4.trans v4
      have w2_28 : W2 28 = X 28 := by rw [mv.2.2, n28_0, w28]
      obtain ⟨Y, hY⟩ : ∃ Y, Y = pz_u W2 32 (ix d + 1) ((own + n + 1 : Nat) : Int) := ⟨_, rfl⟩
      have yof : ∀ i, i ≠ 32 → Y i = W2 i := fun i hi => by rw [hY, pu_off hi]
      have yt : tp Y (ix d + 1) (0 + (own + n)) := by
        rw [Nat.zero_add]
        exact tp_off v1.tp (by rw [yof 29 (by decide)]) (by rw [yof 33 (by decide)])
      have y6 : Y 28 6 = ((d + 1 : Nat) : Int) := by rw [yof 28 (by decide), w2_28, x6]
      have y8 : Y 8 ((g : Int)).toNat = ((own + n : Nat) : Int) := by
        rw [yof 8 (by decide), h0W2 8 (by decide), show ((g : Int)).toNat = g by omega, ← e8, ← h4]; omega
      have hst2 : ∀ j, j < own + n → st2 j = if j < own then V 38 (3 * c + j) else V 30 (33 * d + 20 + (h + 1) + (j - own)) := fun j hj => by
        by_cases hjo : j < own
        · rw [if_pos hjo, v2 j hjo, u3 j (by omega) (by omega), i1 38 (by decide), xof 38 (by decide) (by decide)]
          exact k5 j (by omega)
        · rw [if_neg hjo]
          have h8 := v3 (j - own) (by omega)
          rw [hlo] at h8
          dsimp only at h8
          rw [show own + (j - own) = j by omega, if_neg (by omega), if_pos (by omega), show 1 + (j - own) - 1 = j - own by omega, xof 30 (by decide) (by decide)] at h8
          rw [h8]
          have h7 := t4 (h + 1 + (j - own)) (by omega)
          rw [show 33 * ix d + 20 + (h + 1 + (j - own)) = 33 * ix d + 20 + (h + 1) + (j - own) by omega, show 33 * d + 20 + (h + 1 + (j - own)) = 33 * d + 20 + (h + 1) + (j - own) by omega] at h7
          exact h7
      have step : ∀ Z : pvM, q_X4_doShared N 10 g Y = some (0, 0, Z) → RPO b V0 (apV (nxV V d ((p + 1 : Nat) : Int)) (d + 1) d h n) Z → RE N 1 W2 (RPO b V0 (apV (nxV V d ((p + 1 : Nat) : Int)) (d + 1) d h n)) := by
        intro Z hZ hQ
        refine RE_step (n := 0) (R := fun A => A = Z) v1.2.2.2.2.2 (by have := v1.1.2.1; omega) ?_ (fun A hA => by rw [hA]; exact hQ)
        refine s_micro v1 (row_fr h0W2 s5) (Or.inl rfl) ?_
        unfold pbd pre
        rw [if_neg (by decide), if_neg (by decide), ← hY, cL_eq hZ]
        exact wp_rT ⟨rfl, rfl⟩
      have below : ∀ i, i < ix d → W2 31 i = Vp 31 i ∧ W2 32 i = Vp 32 i ∧ W2 33 i = Vp 33 i := fun i hi => by
        have h8 := mv.1.1 i (by omega)
        rw [h8.1, h8.2.1, h8.2.2, i31, i32, i33]
        simp only [up_app]
        rw [if_neg (by omega), if_neg (by omega), if_neg (by omega), if_neg (by omega), xof 31 (by decide) (by decide), xof 33 (by decide) (by decide), x32, up_app, if_neg (by omega)]
        exact ⟨rfl, rfl, rfl⟩
      have slots : ∀ i, i < 33 * (ix d + 1) → W2 30 i = Vp 30 i := fun i hi => by rw [mv.1.2 i hi, i30 i hi, xof 30 (by decide) (by decide)]
      by_cases h30 : d + 1 = 30
      · refine step _ (e_sh10F (d := ix d + 1) (h := 0) (n := own + n) hN yt (by omega) y8 (by omega) (by rw [y6]; omega)) ?_
        unfold apV
        rw [n30, n36, n37, n8, if_pos h3, hce, show ((c : Int)).toNat = c by omega, hg, ho, show ((g : Int)).toNat = g by omega, if_pos h4, if_pos (by rw [nxV_28, up_app, if_neg (by decide), c286]; omega)]
        have z39 : pz_u (takeV Y (ix d + 1) 0 (own + n)) 28 8 3 39 = Vp 39 := by rw [pu_off (by decide), takeV_off (by decide) (by decide), yof 39 (by decide), mv.2.1 39 (by decide), i1 39 (by decide), xof 39 (by decide) (by decide)]
        have zof : ∀ i, i ∉ [28, 29, 30, 31, 32, 33, 34] → pz_u (takeV Y (ix d + 1) 0 (own + n)) 28 8 3 i = Vp i := fun i hi => by
          simp at hi
          rw [pu_off (by omega), takeV_off (by omega) (by omega), yof i (by omega), mv.2.1 i (by simp [fcs]; omega), i1 i (by simp; omega), xof i (by omega) (by omega)]
        refine Or.inr (PFN_flt (e := 3) hR (fun i hi => zof i (fun h9 => hi (by simp at h9; simp [rcs]; omega))) ?_ (by rw [pz_u_eq]) (by rw [pz_u_eq]) (by decide) ?_ ?_ ?_ ?_ ?_)
        · rw [pu_row, up_app, if_neg (by decide), takeV_off (by decide) (by decide), yof 28 (by decide), w2_28, x28, up_app, if_pos rfl, pu_row, up_app, if_neg (by decide), nxpt_28, up_app, if_pos rfl, r2.2.2.1]
        · rw [z39, pu_off (by decide), nxpt_fr 39 (by decide)]; exact r7.2.1
        · rw [pu_row, up_app, if_neg (by decide), nxpt_28, up_app, if_neg (by decide)]; exact hC.2.1.2.2.2.2.2
        · rw [pu_row, up_app, if_neg (by decide), takeV_off (by decide) (by decide), yof 28 (by decide), w2_28, x28, up_app, if_neg (by decide)]; exact t5.2.2.1
        · unfold KS; rw [z39]; exact r8.2.1
        · exact bg_u r8.2.2 (zof 17 (by decide)) z39 (zof 84 (by decide))
      · refine step _ (e_sh10 (D := ix d + 1 + 1) (d := ix d + 1) (h := 0) (n := own + n) hN yt (by omega) y8 (by omega) (by omega) (by rw [yof 29 (by decide)]; exact v1.1.2.1) (by rw [y6]; omega)) ?_
        have hO := ap_rows (V := V) (d := d) (p := p) (n := n) (h' := h) (c := c) (own := own) (g := g) c286 (by omega) h3 hce ho hg (by omega) (by rw [ho]; exact h4)
        have hCG := cl_rowsG (X := Y) (e := ix d + 1) (h := 0) (n := own + n) (g := g) (by rw [y6]; omega) (by omega)
        obtain ⟨z1, z28, z31, z32, z33, z30, zlo, z5, z6⟩ := hCG
        have y32 : Y 32 = va_up (W2 32) (ix d + 1) ((own + n + 1 : Nat) : Int) := by rw [hY, pu_row]
        refine RPO_in (D := d + 1) (ix := fun k => if k = d + 1 then ix d + 1 + 1 else ix k) (opn_go hO hC.2.1.2.2.2.2.1) ?_
        refine RP_open (h' := h) (e' := ix d + 1 + 1) hC hR hm hh (by omega) hO (Or.inr ⟨by omega, ?_⟩) (fun i hi => ?_) ⟨?_, ?_, ?_, ?_, ?_⟩ ⟨z5, z6⟩ ⟨fun i hi => ?_, fun i hi => ?_⟩ (fun i hi => ?_) ?_ ?_ ?_ ?_ ?_ ?_ (fun j hj => ?_)
        · refine ⟨k, k1, ?_, ?_, ?_⟩
          · rw [z31, up_app, if_neg (by omega), yof 31 (by decide)]; exact v1.2.1.1
          · rw [z32, up_app, if_neg (by omega), y32, up_app, if_pos rfl, mlen]; rfl
          · rw [z33, up_app, if_neg (by omega), up_app, if_pos rfl]
        · simp at hi
          rw [z1 i (by simp; omega), yof i (by omega), mv.2.1 i (by simp [fcs]; omega), i1 i (by simp; omega), xof i (by omega) (by omega)]
        · rw [z28, up_app, if_neg (by decide), yof 28 (by decide), w2_28, x28, up_app, if_neg (by decide)]
        · rw [z28, up_app, if_pos rfl, yof 28 (by decide), w2_28, x28, up_app, if_neg (by decide)]
        · rw [z28, up_app, if_neg (by decide), yof 28 (by decide), w2_28, x28, up_app, if_pos rfl]
        · rw [z28, up_app, if_neg (by decide), yof 28 (by decide), w2_28, x28, up_app, if_neg (by decide)]; exact t5.2.1
        · rw [z28, up_app, if_neg (by decide), yof 28 (by decide), w2_28, x28, up_app, if_neg (by decide)]; exact t5.2.2.1
        · rw [z31, z32, z33]
          simp only [up_app]
          rw [if_neg (by omega), if_neg (by omega), if_neg (by omega), if_neg (by omega), yof 31 (by decide), yof 33 (by decide), y32, up_app, if_neg (by omega)]
          exact below i hi
        · rw [z30 i (by omega), yof 30 (by decide)]; exact slots i (by omega)
        · rw [z30 i (by omega), yof 30 (by decide)]; exact slots i hi
        · rw [z31, up_app, if_neg (by omega), yof 31 (by decide), mv.2.1 31 (by decide), i31, up_app, if_neg (by omega), xof 31 (by decide) (by decide)]
        · have h8 := (mv.1.1 (ix d) (by omega)).2.1
          rw [z32, up_app, if_neg (by omega), y32, up_app, if_neg (by omega), h8, i32, up_app, if_neg (by omega), x32, up_app, if_pos rfl, g3]
        · have h8 := (mv.1.1 (ix d) (by omega)).2.2
          rw [z33, up_app, if_neg (by omega), up_app, if_neg (by omega), yof 33 (by decide), h8, i33, up_app, if_neg (by omega), up_app, if_pos rfl]
        · rw [z31, up_app, if_pos rfl]
        · rw [z32, up_app, if_pos rfl]
        · rw [z33, up_app, if_pos rfl]
        · rw [zlo j (by omega), yof 30 (by decide)]
          dsimp only
          by_cases hjn : j < own + n
          · rw [if_pos hjn]
            have h8 := v1.2.2.2.1 j (by omega)
            rw [show 33 * (ix d + 1) + 20 + 0 + j = 33 * (ix d + 1) + 20 + j by omega, h8, hst2 j hjn]
            by_cases hjo : j < own
            · rw [if_pos hjo, if_pos hjo]
            · rw [if_neg hjo, if_neg hjo, if_pos hjn]
          · rw [if_neg hjn, if_neg (by omega), if_neg hjn]
    · refine first _ (inv.1 h4) (RE_done ?_)
      unfold apV
      rw [n30, n36, n37, n8, if_pos h3, hce, show ((c : Int)).toNat = c by omega, hg, ho, show ((g : Int)).toNat = g by omega, if_neg h4, hX]
      exact RP_flt hR hC nxpt_fr nxpt_fr nxpt_28 nxpt_28 (by decide)
  · refine first _ (e_inv1 hN xt hn3 (by rw [xv]; exact h3)) (RE_done ?_)
    unfold apV
    rw [n30, if_neg h3, hX]
    exact RP_flt hR hC nxpt_fr nxpt_fr nxpt_28 nxpt_28 (by decide)
end PA
