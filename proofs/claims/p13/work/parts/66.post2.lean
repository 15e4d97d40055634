section PD
variable {b : Int} {V0 V V' : pvM} {d f p h : Nat}
theorem gv_rows (hC : CI b V0 V (d + 1)) (hm : frm V d f p (h + 1)) : ∃ W, W = gvV (nxV V d ((p + 1 : Nat) : Int)) (d + 1) d h ∧ fr [28, 29, 32, 33] V W ∧ W 28 = va_up (va_up (V 28) 7 (V 28 7 + 1)) 6 (d : Int) ∧ W 29 5 = (d : Int) ∧ W 29 6 = ((d - 1 : Nat) : Int) ∧ (∀ e, e ≠ d → W 32 e = V 32 e) ∧ (∀ e, e ≠ d → W 33 e = V 33 e) := by
  have n31 : nxV V d ((p + 1 : Nat) : Int) 31 = V 31 := nxV_off (by decide) (by decide)
  have n1 : nxV V d ((p + 1 : Nat) : Int) 1 = V 1 := nxV_off (by decide) (by decide)
  have c286 : nxV V d ((p + 1 : Nat) : Int) 28 6 = ((d + 1 : Nat) : Int) := by rw [nxV_28, up_app, if_neg (by decide)]; exact hC.2.1.2.2.1
  have hnm : ¬ nxV V d ((p + 1 : Nat) : Int) 1 6 ≤ nxV V d ((p + 1 : Nat) : Int) 31 d := by rw [n31, n1, hm.1.1]; have := hm.2.1.1; omega
  refine ⟨_, rfl, fun c hc => ?_, ?_, ?_, ?_, fun e he => ?_, fun e he => ?_⟩
  · simp at hc
    unfold gvV; rw [if_neg hnm, closeV_off (by omega), pu_off (by omega), popV_off (by omega), nxV_off (by omega) (by omega)]
  · unfold gvV; rw [if_neg hnm, closeV_off (by decide), pu_row, popV_off (by decide), nxV_28, up_app, if_neg (by decide), hC.2.1.2.2.1]
    rw [show ((d + 1 : Nat) : Int) - 1 = (d : Int) by omega]
  · unfold gvV; rw [closeV_29, up_app, if_neg (by decide), up_app, if_pos rfl]; rfl
  · unfold gvV; rw [closeV_29, up_app, if_pos rfl]; rfl
  · unfold gvV; rw [if_neg hnm, closeV_off (by decide), pu_off (by decide), popV_off (by decide), nxV_32, up_app, if_neg he]
  · unfold gvV; rw [if_neg hnm, closeV_off (by decide), pu_off (by decide), popV_33, up_app, if_neg he, nxV_off (by decide) (by decide)]
theorem post_11 {h2 : Nat} (hR : RT V) (hC : CI b V0 V (d + 1)) (h400 : V 28 7 < 400) (hm : frm V d f p (h + 1)) (hh : h ≤ 12) (hbel : 0 < d → V 33 (d - 1) = ((33 * (d - 1) + 20 + h2 : Nat) : Int) ∧ h2 < 13) : (0 < d → CI b V0 (pushV (gvV (nxV V d ((p + 1 : Nat) : Int)) (d + 1) d h) (d - 1) h2 (V 30 (33 * d + 20 + h))) (d - 1 + 1)) ∧ (d = 0 → FIN b V0 (pz_u (gvV (nxV V d ((p + 1 : Nat) : Int)) (d + 1) d h) 28 9 (V 30 (33 * d + 20 + h)))) := by
  obtain ⟨W, hW, w1, w2, w3, w4, w5, w6⟩ := gv_rows hC hm
  rw [← hW]
  have hC' := hC
  obtain ⟨c1, c2, c3, c4, c5, c6, c7, c8, c9, c10⟩ := hC'
  have hv := hm.2.2.1 h (by omega)
  refine ⟨fun hd => ?_, fun hd => ?_⟩
  · obtain ⟨f2, p2, h3, z1, z2, z3⟩ := c4 (d - 1) (by omega)
    rw [if_neg (by omega)] at z3
    have h32 : h3 = h2 := by have := z1.1.2.2; have := (hbel hd).1; omega
    subst h32
    have f1 : fr [28, 29, 30, 32, 33] V (pushV W (d - 1) h3 (V 30 (33 * d + 20 + h))) := fun c hc => by
      simp at hc
      rw [pushV_off (by omega) (by omega), w1 c (by simp; omega)]
    have f2' : fr rcs V (pushV W (d - 1) h3 (V 30 (33 * d + 20 + h))) := f1.mono (by decide)
    have e39 := f1 39 (by decide)
    have e35 := f1 35 (by decide)
    have w30 : W 30 = V 30 := w1 30 (by decide)
    have hHT : Hf V f2 p2 ≤ 12 := by
      have hl := z1.2.1
      exact ((Hf_ok hR hl.1).2.1 p2 (by omega)).2
    refine ⟨c1.trans f2', ?_, by omega, ?_, ?_, ?_, ?_, bg_u c8 (f1 17 (by decide)) e39 (f1 84 (by decide)), ?_, by rw [e39]; exact c10⟩
    · rw [pushV_off (by decide) (by decide), pushV_off (by decide) (by decide), w3, w4, w2]
      refine ⟨by omega, by omega, ?_, ?_, ?_, ?_⟩
      · rw [up_app, if_pos rfl]; omega
      · rw [up_app, if_neg (by decide), up_app, if_neg (by decide)]; exact c2.2.2.2.1
      · rw [up_app, if_neg (by decide), up_app, if_neg (by decide)]; exact c2.2.2.2.2.1
      · rw [up_app, if_neg (by decide), up_app, if_neg (by decide)]; exact c2.2.2.2.2.2
    · intro e he
      by_cases hed : e = d - 1
      · subst hed
        obtain ⟨m1, m2, m3, m4⟩ := z1
        refine ⟨f2, p2, h3 + 1, ⟨⟨?_, ?_, ?_⟩, ?_, fun j hj => ?_, fun k hk => ?_⟩, ?_, ?_⟩
        · rw [f1 31 (by decide)]; exact m1.1
        · rw [pushV_off (by decide) (by decide), w5 _ (by omega)]; exact m1.2.1
        · rw [pushV_33, up_app, if_pos rfl]
        · rw [f1 1 (by decide), f1 9 (by decide)]; exact m2
        · rw [e39, e35, pushV_30, up_app, w30]
          by_cases hjh : j = h3
          · rw [if_pos (by omega)]; exact hv
          · rw [if_neg (by omega)]; exact m3 j (by omega)
        · rw [e39, e35, pushV_30, up_app, w30, if_neg (by omega)]; exact m4 k hk
        · omega
        · rw [if_pos (by omega), Hf_fr f2' pdr, z3]; omega
      · obtain ⟨f3, p3, h4, y1, y2, y3⟩ := c4 e (by omega)
        rw [if_neg (by omega)] at y3
        refine ⟨f3, p3, h4, y1.keep (by omega) (f1 1 (by decide)) (f1 9 (by decide)) (by rw [f1 31 (by decide)]) (by rw [pushV_off (by decide) (by decide), w5 _ (by omega)]) (by rw [pushV_33, up_app, if_neg hed, w6 _ (by omega)]) (fun i h5 h6 => by rw [pushV_30, up_app, w30, if_neg (by omega)]) (by rw [e39]; omega) (by rw [e35]; omega), y2, ?_⟩
        rw [if_neg (by omega), Hf_fr f2' pdr]; exact y3
    · unfold HOL at c5 ⊢
      rw [e39, e35, f1 36 (by decide), f1 37 (by decide), f1 38 (by decide), f1 1 (by decide)]; exact c5
    · unfold TX at c6 ⊢
      rw [e39, f1 40 (by decide), f1 41 (by decide)]; exact c6
    · unfold KS at c7 ⊢
      rw [e39]; exact c7
    · rw [e39, e35, pushV_off (by decide) (by decide), w2, up_app, if_neg (by decide), up_app, if_pos rfl]; omega
  · have f1 : fr [28, 29, 32, 33] V (pz_u W 28 9 (V 30 (33 * d + 20 + h))) := w1.trans (fr_u (by simp))
    have e39 := f1 39 (by decide)
    refine ⟨c1.trans (f1.mono (by decide)), ?_, bg_u c8 (f1 17 (by decide)) e39 (f1 84 (by decide)), by rw [e39]; exact c10, ?_, Or.inr ⟨?_, ?_, V 39 3, V 35 3, by omega, by omega, ?_⟩⟩
    · unfold KS at c7 ⊢
      rw [e39]; exact c7
    · rw [pu_row, up_app, if_neg (by decide), w2, up_app, if_neg (by decide), up_app, if_pos rfl]; omega
    · rw [pu_row, up_app, if_neg (by decide), w2, up_app, if_neg (by decide), up_app, if_neg (by decide)]; exact c2.2.2.2.2.1
    · rw [pu_off (by decide), w3]; omega
    · rw [pz_u_eq]; exact hv
theorem post_12 (hC : CI b V0 V (d + 1)) (h400 : V 28 7 < 400) (hm : frm V d f p (h + 1)) (hh : h ≤ 12) (hp : ((p + 1 : Nat) : Int) < V 9 f) (hHf : Hf V f (p + 1) = (h : Int)) (hs : syP (nxV V d ((p + 1 : Nat) : Int)) d h V') : V' 28 7 = V 28 7 + 1 ∧ (CI b V0 V' (d + 1) ∨ FIN b V0 V') := by
  have hC' := hC
  obtain ⟨c1, c2, c3, c4, c5, c6, c7, c8, c9, c10⟩ := hC'
  have n39 : nxV V d ((p + 1 : Nat) : Int) 39 = V 39 := nxV_off (by decide) (by decide)
  have poff : ∀ c, c ≠ 28 → c ≠ 32 → c ≠ 33 → popV (nxV V d ((p + 1 : Nat) : Int)) d h c = V c := fun c a1 a2 a3 => by rw [popV_off a3, nxV_off a1 a2]
  unfold syP at hs
  rw [nx_sp, n39] at hs
  rcases hs with ⟨s1, s2, s3, s4⟩ | ⟨s1, V1, s2, s3, rfl⟩
  · have e28 : V' 28 = va_up (V 28) 7 (V 28 7 + 1) := by rw [s3 28 (by decide), pp_28]
    have g : ∀ i, i ∉ [5, 7] → V' 39 i = V 39 i := fun i hi => by rw [s4 i hi, n39]
    have of : ∀ c, c ∉ [28, 32, 33, 39, 43, 44] → V' c = V c := fun c hc => by
      simp at hc; rw [s3 c (by simp; omega), poff c (by omega) (by omega) (by omega)]
    have f1 : fr rcs V V' := fun c hc => of c (fun h9 => hc (by simp at h9; simp [rcs]; omega))
    obtain ⟨m1, m2, m3, m4⟩ := hm
    refine ⟨by rw [e28, up_app, if_pos rfl], Or.inl ?_⟩
    refine CI_top (f := f) (p' := p + 1) (h' := h) hC f1 (of 29 (by decide)) (of 31 (by decide)) (fun i hi => by rw [e28, up_app, if_neg hi]) (by rw [e28, up_app, if_pos rfl]) h400 (fun e he => ?_) (fun e he => ?_) (fun i hi => by rw [of 30 (by decide)]) (by rw [g 3 (by decide)]; omega) (by rw [of 35 (by decide)]; omega) ?_ ?_ ?_ ?_ (by rw [s2]; omega) ⟨⟨?_, ?_, ?_⟩, ?_, ?_, ?_⟩ hh hHf
    · rw [s3 32 (by decide), popV_off (by decide), nxV_32, up_app, if_neg he]
    · rw [s3 33 (by decide), popV_33, up_app, if_neg he, nxV_off (by decide) (by decide)]
    · unfold HOL at c5 ⊢
      rw [g 3 (by decide), of 35 (by decide), of 36 (by decide), of 37 (by decide), of 38 (by decide), of 1 (by decide)]; exact c5
    · unfold TX at c6 ⊢
      rw [g 3 (by decide), g 2 (by decide), of 40 (by decide), of 41 (by decide)]; exact c6
    · unfold KS at c7 ⊢
      rw [g 2 (by decide)]; exact c7
    · unfold BG at c8 ⊢
      rw [g 2 (by decide), of 17 (by decide), of 84 (by decide)]; exact c8
    · rw [of 31 (by decide)]; exact m1.1
    · rw [s3 32 (by decide), popV_off (by decide), nxV_32, up_app, if_pos rfl]
    · rw [s3 33 (by decide), popV_33, up_app, if_pos rfl]
    · rw [of 1 (by decide), of 9 (by decide)]; exact ⟨m2.1, hp⟩
    · intro j hj
      rw [g 3 (by decide), of 35 (by decide), of 30 (by decide)]; exact m3 j (by omega)
    · intro k hk
      rw [g 3 (by decide), of 35 (by decide), of 30 (by decide)]; exact m4 k hk
  · have e28 : V1 28 = va_up (V 28) 7 (V 28 7 + 1) := by rw [s2 28 (by decide), pp_28]
    have g : ∀ i, i ∉ [5] → V1 39 i = V 39 i := fun i hi => by rw [s3 i hi, n39]
    have of : ∀ c, c ∉ [28, 32, 33, 39, 43, 44] → V1 c = V c := fun c hc => by
      simp at hc; rw [s2 c (by simp; omega), poff c (by omega) (by omega) (by omega)]
    refine ⟨by rw [pu_row, up_app, if_neg (by decide), e28, up_app, if_pos rfl], Or.inr ?_⟩
    refine FIN_flt (e := 5) hC ?_ (fun i h7 h8 => ?_) (Or.inl ?_) (Or.inl h400) (by rw [pz_u_eq]) (by decide) ?_ ?_ ?_
    · exact fun c hc => by
        rw [pu_off (fun e => hc (by simp [e, rcs]))]
        exact of c (fun h9 => hc (by simp at h9; simp [rcs]; omega))
    · rw [pu_row, up_app, if_neg h8, e28, up_app, if_neg h7]
    · rw [pu_row, up_app, if_neg (by decide), e28, up_app, if_pos rfl]
    · rw [pu_off (by decide), g 7 (by decide)]
    · unfold KS at c7 ⊢
      rw [pu_off (by decide), g 2 (by decide)]; exact c7
    · unfold BG at c8 ⊢
      rw [pu_off (by decide), pu_off (by decide), pu_off (by decide), g 2 (by decide), of 17 (by decide), of 84 (by decide)]; exact c8
theorem addV_35 (W : pvM) (H n : Nat) (ty : Int) : addV W H ty n 35 = va_up (W 35) 3 ((H + 1 : Nat) : Int) := by unfold addV; rw [up_app, if_neg (by decide), pu_off (by decide), pu_off (by decide), pu_row]
theorem addV_36 (W : pvM) (H n : Nat) (ty : Int) : addV W H ty n 36 = va_up (W 36) H ty := by unfold addV; rw [up_app, if_neg (by decide), pu_off (by decide), pu_row, pu_off (by decide)]
theorem addV_37 (W : pvM) (H n : Nat) (ty : Int) : addV W H ty n 37 = va_up (W 37) H (n : Int) := by unfold addV; rw [up_app, if_neg (by decide), pu_row, pu_off (by decide), pu_off (by decide)]
/-- rows behind FUNCTION -/
theorem fn_rows {n H : Nat} {ty q : Int} : ∃ W, W = fnW (nxV V d q) d h n H ty ∧ fr [28, 30, 32, 33, 34, 35, 36, 37, 38] V W ∧ W 28 = va_up (V 28) 7 (V 28 7 + 1) ∧ W 32 = va_up (V 32) d q ∧ (∀ e, e ≠ d → W 33 e = V 33 e) ∧ W 33 d = ((33 * d + 20 + (h + 1) : Nat) : Int) ∧ W 30 = va_up (V 30) (33 * d + 20 + h) (vO 3 H) ∧ W 35 = va_up (V 35) 3 ((H + 1 : Nat) : Int) ∧ W 36 = va_up (V 36) H ty ∧ W 37 = va_up (V 37) H (n : Int) ∧ W 38 = fun j => if 3 * H ≤ j ∧ j < 3 * H + n then V 30 (33 * d + 20 + h + (j - 3 * H)) else V 38 j := by
  have soff : ∀ c, c ≠ 38 → svV (addV (takeV (nxV V d q) d h n) H ty n) H n (takeV (nxV V d q) d h n) c = addV (takeV (nxV V d q) d h n) H ty n c := fun c hc => by unfold svV; rw [up_app, if_neg hc]
  refine ⟨_, rfl, fun c hc => ?_, ?_, ?_, fun e he => ?_, ?_, ?_, ?_, ?_, ?_, ?_⟩
  · simp at hc
    unfold fnW; rw [pushV_off (by omega) (by omega), soff c (by omega), addV_off (by omega), takeV_off (by omega) (by omega), nxV_off (by omega) (by omega)]
  · unfold fnW; rw [pushV_off (by decide) (by decide), soff 28 (by decide), addV_off (by decide), tk_28]
  · unfold fnW; rw [pushV_off (by decide) (by decide), soff 32 (by decide), addV_off (by decide), takeV_off (by decide) (by decide), nxV_32]
  · unfold fnW; rw [pushV_33, up_app, if_neg he, soff 33 (by decide), addV_off (by decide), takeV_33, up_app, if_neg he, nxV_off (by decide) (by decide)]
  · unfold fnW; rw [pushV_33, up_app, if_pos rfl]
  · unfold fnW; rw [pushV_30, soff 30 (by decide), addV_off (by decide), takeV_off (by decide) (by decide), nxV_off (by decide) (by decide)]
  · unfold fnW; rw [pushV_off (by decide) (by decide), soff 35 (by decide), addV_35, takeV_off (by decide) (by decide), nxV_off (by decide) (by decide)]
  · unfold fnW; rw [pushV_off (by decide) (by decide), soff 36 (by decide), addV_36, takeV_off (by decide) (by decide), nxV_off (by decide) (by decide)]
  · unfold fnW; rw [pushV_off (by decide) (by decide), soff 37 (by decide), addV_37, takeV_off (by decide) (by decide), nxV_off (by decide) (by decide)]
  · unfold fnW; rw [pushV_off (by decide) (by decide)]
    funext j
    unfold svV
    rw [up_app, if_pos rfl]
    by_cases hj : 3 * H ≤ j ∧ j < 3 * H + n
    · rw [if_pos hj, if_pos hj, takeV_34 (by omega), nxV_off (by decide) (by decide)]
    · rw [if_neg hj, if_neg hj]
      unfold addV
      rw [up_app, if_pos rfl, if_neg hj, takeV_off (by decide) (by decide), nxV_off (by decide) (by decide)]
theorem post_13 {n g : Nat} (hC : CI b V0 V (d + 1)) (h400 : V 28 7 < 400) (hm : frm V d f p (h + n)) (hh : h + 1 ≤ 12) (hp : ((p + 1 : Nat) : Int) < V 9 f) (hHf : Hf V f (p + 1) = ((h + 1 : Nat) : Int)) (hg : (g : Int) < V 1 6) (hn : n ≤ 3) : CI b V0 (fnW (nxV V d ((p + 1 : Nat) : Int)) d h n (V 35 3).toNat g) (d + 1) := by
  have hC' := hC
  obtain ⟨c1, c2, c3, c4, c5, c6, c7, c8, c9, c10⟩ := hC'
  obtain ⟨H, hH⟩ : ∃ H : Nat, V 35 3 = H := ⟨(V 35 3).toNat, by have := c5.1; omega⟩
  rw [hH, show ((H : Int)).toNat = H by omega]
  obtain ⟨W, hW, w1, w28, w32, w33, w33d, w30, w35, w36, w37, w38⟩ := fn_rows (V := V) (d := d) (h := h) (n := n) (H := H) (ty := (g : Int)) (q := ((p + 1 : Nat) : Int))
  rw [← hW]
  have e39 := w1 39 (by decide)
  have e353 : W 35 3 = ((H + 1 : Nat) : Int) := by rw [w35, up_app, if_pos rfl]
  obtain ⟨m1, m2, m3, m4⟩ := hm
  rw [hH] at m3 m4
  refine CI_top (f := f) (p' := p + 1) (h' := h + 1) hC (w1.mono (by decide)) (w1 29 (by decide)) (w1 31 (by decide)) (fun i hi => by rw [w28, up_app, if_neg hi]) (by rw [w28, up_app, if_pos rfl]) h400 (fun e he => by rw [w32, up_app, if_neg he]) w33 (fun i hi => by rw [w30, up_app, if_neg (by omega)]) (by rw [e39]; omega) (by rw [e353]; omega) ?_ ?_ ?_ (bg_u c8 (w1 17 (by decide)) e39 (w1 84 (by decide))) (by rw [e39]; exact c10) ⟨⟨?_, ?_, w33d⟩, ?_, ?_, ?_⟩ hh hHf
  · refine ⟨by rw [e353]; omega, fun c hc => ?_⟩
    rw [e353] at hc
    rw [w36, w37, w38, e39, e353, w1 1 (by decide), up_app, up_app]
    by_cases hcH : c = H
    · subst hcH
      rw [if_pos rfl, if_pos rfl]
      refine ⟨by omega, by omega, fun k hk => ?_⟩
      dsimp only
      rw [if_pos (by omega)]
      have h9 := m3 (h + k) (by omega)
      rw [show 33 * d + 20 + (h + k) = 33 * d + 20 + h + (3 * c + k - 3 * c) by omega] at h9
      exact h9.mono (by omega) (by omega)
    · rw [if_neg hcH, if_neg hcH]
      obtain ⟨o1, o2, o3⟩ := c5.2 c (by omega)
      refine ⟨o1, o2, fun k hk => ?_⟩
      dsimp only
      rw [if_neg (by omega)]
      have h9 := o3 k hk
      rw [hH] at h9
      exact h9.mono (by omega) (by omega)
  · unfold TX at c6 ⊢
    rw [e39, w1 40 (by decide), w1 41 (by decide)]; exact c6
  · unfold KS at c7 ⊢
    rw [e39]; exact c7
  · rw [w1 31 (by decide)]; exact m1.1
  · rw [w32, up_app, if_pos rfl]
  · rw [w1 1 (by decide), w1 9 (by decide)]; exact ⟨m2.1, hp⟩
  · intro j hj
    rw [e39, e353, w30, up_app]
    by_cases hjh : j = h
    · rw [if_pos (by omega)]; exact Or.inr (Or.inr ⟨H, by omega, rfl⟩)
    · rw [if_neg (by omega)]; exact (m3 j (by omega)).mono (by omega) (by omega)
  · intro k hk
    rw [e39, e353, w30, up_app, if_neg (by omega)]
    exact (m4 k hk).mono (by omega) (by omega)
theorem post_15 {n L : Nat} (hC : CI b V0 V (d + 1)) (h400 : V 28 7 < 400) (hm : frm V d f p (h + n)) (hh : h + 1 ≤ 12) (hp : ((p + 1 : Nat) : Int) < V 9 f) (hHf : Hf V f (p + 1) = ((h + 1 : Nat) : Int)) (hj : jnP b (takeV (nxV V d ((p + 1 : Nat) : Int)) d h n) (V 39 3).toNat d h L V') : V' 28 7 = V 28 7 + 1 ∧ (CI b V0 V' (d + 1) ∨ FIN b V0 V') := by
  have hC' := hC
  obtain ⟨c1, c2, c3, c4, c5, c6, c7, c8, c9, c10⟩ := hC'
  obtain ⟨T, hT⟩ : ∃ T : Nat, V 39 3 = T := ⟨(V 39 3).toNat, by have := c6.1; omega⟩
  rw [hT, show ((T : Int)).toNat = T by omega] at hj
  obtain ⟨W, hWd⟩ : ∃ W, W = takeV (nxV V d ((p + 1 : Nat) : Int)) d h n := ⟨_, rfl⟩
  rw [← hWd] at hj
  have wf : fr [28, 30, 32, 33, 34] V W := by rw [hWd]; exact tk_fr
  have w28 : W 28 = va_up (V 28) 7 (V 28 7 + 1) := by rw [hWd, tk_28]
  have w30 : W 30 = V 30 := by rw [hWd, takeV_off (by decide) (by decide), nxV_off (by decide) (by decide)]
  have w32 : W 32 = va_up (V 32) d ((p + 1 : Nat) : Int) := by rw [hWd, takeV_off (by decide) (by decide), nxV_32]
  have w33 : W 33 = va_up (V 33) d ((33 * d + 20 + h : Nat) : Int) := by rw [hWd, takeV_33, nxV_off (by decide) (by decide)]
  rcases hj with ⟨-, V1, ⟨a1, a2, a3, a4, a5, a6, a7, a8⟩, rfl⟩ | ⟨-, ⟨a1, a2, a3, a4, a5, a6⟩⟩
  · have of : ∀ c, c ∉ [28, 30, 32, 33, 34, 39, 40, 41, 42, 43, 84] → pushV V1 d h (vO 2 T) c = V c := fun c hc => by
      simp at hc
      rw [pushV_off (by omega) (by omega), a1 c (by simp [jcs]; omega), wf c (by simp; omega)]
    have o28 : pushV V1 d h (vO 2 T) 28 = va_up (V 28) 7 (V 28 7 + 1) := by rw [pushV_off (by decide) (by decide), a1 28 (by decide), w28]
    have o39 : pushV V1 d h (vO 2 T) 39 = V1 39 := pushV_off (by decide) (by decide)
    have o30 : pushV V1 d h (vO 2 T) 30 = va_up (V 30) (33 * d + 20 + h) (vO 2 T) := by rw [pushV_30, a1 30 (by decide), w30]
    have o35 : pushV V1 d h (vO 2 T) 35 = V 35 := of 35 (by decide)
    obtain ⟨m1, m2, m3, m4⟩ := hm
    rw [hT] at m3 m4
    refine ⟨by rw [o28, up_app, if_pos rfl], Or.inl ?_⟩
    refine CI_top (f := f) (p' := p + 1) (h' := h + 1) hC ?_ (of 29 (by decide)) (of 31 (by decide)) (fun i hi => by rw [o28, up_app, if_neg hi]) (by rw [o28, up_app, if_pos rfl]) h400 (fun e he => ?_) (fun e he => ?_) (fun i hi => by rw [o30, up_app, if_neg (by omega)]) (by rw [o39, a3, hT]; omega) (by rw [o35]; omega) ?_ ?_ ?_ (bg_u a8 (pushV_off (by decide) (by decide)) o39 (pushV_off (by decide) (by decide))) ?_ ⟨⟨?_, ?_, ?_⟩, ?_, ?_, ?_⟩ hh hHf
    · exact fun c hc => of c (fun h9 => hc (by simp at h9; simp [rcs]; omega))
    · rw [pushV_off (by decide) (by decide), a1 32 (by decide), w32, up_app, if_neg he]
    · rw [pushV_33, up_app, if_neg he, a1 33 (by decide), w33, up_app, if_neg he]
    · unfold HOL at c5 ⊢
      rw [o35, o39, a3, of 36 (by decide), of 37 (by decide), of 38 (by decide), of 1 (by decide)]
      refine ⟨c5.1, fun c hc => ?_⟩
      obtain ⟨o1, o2, o3⟩ := c5.2 c hc
      exact ⟨o1, o2, fun k hk => (o3 k hk).mono (by omega) (by omega)⟩
    · unfold TX at a6 ⊢
      rw [o39, pushV_off (by decide) (by decide), pushV_off (by decide) (by decide)]; exact a6
    · unfold KS at a7 ⊢
      rw [o39]; exact a7
    · rw [o39, a2 7 (by decide), wf 39 (by decide)]; exact c10
    · rw [of 31 (by decide)]; exact m1.1
    · rw [pushV_off (by decide) (by decide), a1 32 (by decide), w32, up_app, if_pos rfl]
    · rw [pushV_33, up_app, if_pos rfl]
    · rw [of 1 (by decide), of 9 (by decide)]; exact ⟨m2.1, hp⟩
    · intro j hj
      rw [o39, a3, o35, o30, up_app]
      by_cases hjh : j = h
      · rw [if_pos (by omega)]; exact Or.inr (Or.inl ⟨T, by omega, rfl⟩)
      · rw [if_neg (by omega)]; exact (m3 j (by omega)).mono (by omega) (by omega)
    · intro k hk
      rw [o39, a3, o35, o30, up_app, if_neg (by omega)]
      exact (m4 k hk).mono (by omega) (by omega)
  · have e287 : V' 28 7 = V 28 7 + 1 := by rw [a3 7 (by decide), w28, up_app, if_pos rfl]
    refine ⟨e287, Or.inr ?_⟩
    refine FIN_flt (e := 5) hC ?_ (fun i h7 h8 => ?_) (Or.inl e287) (Or.inl h400) a2 (by decide) ?_ a5 a6
    · exact (wf.mono (by decide)).trans (a1.mono (by decide))
    · rw [a3 i h8, w28, up_app, if_neg h7]
    · rw [a4, wf 39 (by decide)]
end PD
