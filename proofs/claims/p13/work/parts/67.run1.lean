/-! THE WHOLE RUN OF THE FIRST CODE -/
set_option maxHeartbeats 4000000 in
set_option maxRecDepth 100000 in
theorem post_ci {b : Int} {V0 V V' : pvM} {d f p h : Nat} (hP : PI V) (hR : RT V) (hC : CI b V0 V (d + 1)) (h400 : V 28 7 < 400) (hm : frm V d f p h) (hh : h ≤ 12) (hHf : Hf V f p = h) (hbd : bd V f p) (hCL : CL (cW V f) (cA V f) (cQ V f) (cP V f) (V 9 f).toNat (Hf V f) p) (hPo : POST b V d f p h V') : V' 28 7 = V 28 7 + 1 ∧ ((∃ D', CI b V0 V' (D' + 1)) ∨ FIN b V0 V') := by
  obtain ⟨b1, b2, b3, b4, b5, b6⟩ := hbd
  obtain ⟨l1, l2, l3, l4, l5⟩ := hCL
  rw [hHf] at l1 l2 l3 l4 l5
  have hpo : cQ V f p = po V (cW V f p) (cA V f p) (cB V f p) := rfl
  have hpp : cP V f p = pu (cW V f p) := rfl
  have hC' := hC
  obtain ⟨c1, c2, c3, c4, c5, c6, c7, c8, c9, c10⟩ := hC'
  have hn12 := hP.1
  have hlen := (hP.2.1 f (by have := hm.2.1; omega)).2
  have s7 : ∀ {W : pvM}, (∃ D', CI b V0 W (D' + 1)) → W 28 7 = V 28 7 + 1 → W 28 7 = V 28 7 + 1 ∧ ((∃ D', CI b V0 W (D' + 1)) ∨ FIN b V0 W) := fun h1 h2 => ⟨h2, Or.inl h1⟩
  have n287 : nxV V d ((p + 1 : Nat) : Int) 28 7 = V 28 7 + 1 := by rw [nxV_28, up_app, if_pos rfl]
  rcases hPo with ⟨h0, rfl⟩ | ⟨h0, rfl⟩ | ⟨h0, h', rfl, rfl⟩ | ⟨h0, h', rfl, rfl⟩ | ⟨h0, h', rfl, rfl⟩ | ⟨h0, h', rfl, rfl⟩ | ⟨h0, rfl⟩ | ⟨h0, h', rfl, rfl⟩ | ⟨h0, h', n, rfl, hn, rfl⟩ | ⟨h0, h', h2, rfl, hbel, rfl⟩ | ⟨h0, h', rfl, hs⟩ | ⟨h0, h', n, rfl, hn, rfl⟩ | ⟨h0, h', n, rfl, hn, rfl⟩ | ⟨h0, h', n, rfl, hn, hj⟩
  · rw [hpo, h0] at l2
    rw [hpo, hpp, h0] at l3 l4
    simp [po, pu] at l2 l3 l4
    exact s7 ⟨d, post_push hC h400 hm (by omega) (by omega) (by omega) (vok_n (hP.2.2.2.1 _).1)⟩ (by rw [pushV_off (by decide) (by decide)]; exact n287)
  · have hb1 := b1 (Or.inl h0)
    rw [hpo, h0] at l2
    rw [hpo, hpp, h0] at l3 l4
    simp [po, pu] at l2 l3 l4
    exact s7 ⟨d, post_push hC h400 hm (by omega) (by omega) (by omega) (hm.2.2.2 _ (by omega))⟩ (by rw [pushV_off (by decide) (by decide)]; exact n287)
  · have hb1 := b1 (Or.inr h0)
    rw [hpo, h0] at l2
    rw [hpo, hpp, h0] at l3 l4
    simp [po, pu] at l2 l3 l4
    exact s7 ⟨d, post_2 hC h400 hm (by omega) (by omega) (by omega) (by omega)⟩ (by rw [pu_off (by decide), popV_off (by decide)]; exact n287)
  · have hq2 : cQ V f p = 2 := by rw [hpo]; unfold po; rw [if_neg (by omega), if_pos (by omega)]
    have hp1 : cP V f p = 1 := by rw [hpp]; unfold pu; rw [if_neg (by omega), if_neg (by omega)]
    have h4 := l4 (by omega) (by omega)
    unfold rkV
    split
    · refine s7 ⟨d, post_tk hC h400 hm (by omega) (by omega) (by omega) (vok_n ?_) (by omega)⟩ (by rw [pushV_off (by decide) (by decide), takeV_off (by decide) (by decide)]; exact n287)
      unfold rk
      split
      · exact pv_w_32 _
      · split
        · exact pv_w_32 _
        · exact pv_w_32 _
    · exact ⟨by rw [pu_row, up_app, if_neg (by decide), takeV_off (by decide) (by decide)]; exact n287, Or.inr (post_flt hC h400 tk_fr tk_28 (by decide))⟩
  · rw [hpo, h0] at l2
    rw [hpo, hpp, h0] at l3 l4
    simp [po, pu] at l2 l3 l4
    have hx := hm.2.2.1 h' (by omega)
    obtain ⟨m1, m2, m3, m4⟩ := hm
    refine s7 ⟨d, ?_⟩ (by rw [pushV_off (by decide) (by decide), pushV_off (by decide) (by decide), popV_off (by decide)]; exact n287)
    refine CI_fr (f := f) (p' := p + 1) (h' := h' + 1 + 1) hC (fun c hc => ?_) ?_ h400 ?_ (fun e he => ?_) ?_ (fun i hi => ?_) ⟨m1.1, m2.1⟩ (by omega) (fun j hj => ?_) (fun k hk => ?_) (by omega) (by omega)
    · simp at hc; rw [pushV_off (by omega) (by omega), pushV_off (by omega) (by omega), popV_off (by omega), nxV_off (by omega) (by omega)]
    · rw [pushV_off (by decide) (by decide), pushV_off (by decide) (by decide), pp_28]
    · rw [pushV_off (by decide) (by decide), pushV_off (by decide) (by decide), popV_off (by decide), nxV_32]
    · rw [pushV_33, up_app, if_neg he, pushV_33, up_app, if_neg he, popV_33, up_app, if_neg he, nxV_off (by decide) (by decide)]
    · rw [pushV_33, up_app, if_pos rfl]
    · rw [pushV_30, up_app, if_neg (by omega), pushV_30, up_app, if_neg (by omega), popV_off (by decide), nxV_off (by decide) (by decide)]
    · rw [pushV_30, up_app, pushV_30, up_app, popV_off (by decide), nxV_off (by decide) (by decide)]
      by_cases hj1 : j = h' + 1
      · rw [if_pos (by omega)]; exact hx
      · rw [if_neg (by omega)]
        by_cases hj2 : j = h'
        · rw [if_pos (by omega)]; exact hx
        · rw [if_neg (by omega)]; exact m3 j (by omega)
    · rw [pushV_30, up_app, pushV_30, up_app, popV_off (by decide), nxV_off (by decide) (by decide), if_neg (by omega), if_neg (by omega)]; exact m4 k hk
  · rw [hpo, h0] at l2
    rw [hpo, hpp, h0] at l3 l4
    simp [po, pu] at l2 l3 l4
    exact s7 ⟨d, post_7 hC h400 hm (by omega) (by omega) (by omega)⟩ (by rw [popV_off (by decide)]; exact n287)
  · have hb2 := b2 (Or.inl h0)
    have h5 := l5 (Or.inl h0)
    rw [hpo, hpp, h0] at h5
    simp [po, pu] at h5
    obtain ⟨a, ha⟩ : ∃ a : Nat, cA V f p = a := ⟨(cA V f p).toNat, by omega⟩
    rw [ha, show ((a : Int)).toNat = a by omega] at h5
    have htp : tp (nxV V d ((p + 1 : Nat) : Int)) d h := tp_nx ⟨by rw [c2.2.1]; rfl, by omega, hm.1.2.2, by omega⟩
    have hk := post_go (a := a) hC h400 hm (h' := h) (by omega) hh (by omega) (by omega)
    rw [popV_self htp] at hk
    rw [ha]
    exact s7 ⟨d, hk⟩ (by rw [pu_off (by decide)]; exact n287)
  · have hb2 := b2 (Or.inr h0)
    have h5 := l5 (Or.inr h0)
    rw [hpo, h0] at l2
    rw [hpo, hpp, h0] at l4 h5
    simp [po, pu] at l2 l4 h5
    obtain ⟨a, ha⟩ : ∃ a : Nat, cA V f p = a := ⟨(cA V f p).toNat, by omega⟩
    rw [ha, show ((a : Int)).toNat = a by omega] at h5
    rw [ha]
    unfold gzV
    split
    · split
      · exact s7 ⟨d, post_go (a := a) hC h400 hm (h' := h') (by omega) hh (by omega) (by omega)⟩ (by rw [pu_off (by decide), popV_off (by decide)]; exact n287)
      · exact s7 ⟨d, post_7 hC h400 hm (by omega) (by omega) (by omega)⟩ (by rw [popV_off (by decide)]; exact n287)
    · exact ⟨by rw [pu_row, up_app, if_neg (by decide), popV_off (by decide)]; exact n287, Or.inr (post_flt hC h400 pp_fr pp_28 (by decide))⟩
  · have hb3 := b3 h0
    rw [hpo, h0] at l2
    rw [hpo, hpp, h0] at l4
    simp [po, pu] at l2 l4
    have hpa := (hP.2.1 (cA V f p).toNat (by omega)).1
    obtain ⟨g, hg⟩ : ∃ g : Nat, cA V f p = g := ⟨(cA V f p).toNat, by omega⟩
    rw [hg, show ((g : Int)).toNat = g by omega] at hn l2 l4 hpa
    rw [hg] at hb3 ⊢
    have hk := post_10 (n := n) (g := g) (h' := h') hR hC h400 hm hh (by omega) (by omega) (by omega) (hP.2.1 g (by omega)).2.1 (by omega)
    have e287 : clV (nxV V d ((p + 1 : Nat) : Int)) (d + 1) d h' n g 28 7 = V 28 7 + 1 := by
      unfold clV
      split
      · rw [pu_row, up_app, if_neg (by decide), takeV_off (by decide) (by decide)]; exact n287
      · unfold slV bfV
        rw [up_app, if_neg (by decide), openV_off (by decide), pu_row, up_app, if_neg (by decide), takeV_off (by decide) (by decide)]; exact n287
    by_cases h30 : d + 1 = 30
    · exact ⟨e287, Or.inr (hk.2 h30)⟩
    · exact s7 ⟨d + 1, hk.1 (by omega)⟩ e287
  · have hk := post_11 (h2 := h2) hR hC h400 hm (by omega) hbel
    obtain ⟨W, hW, w1, w2, -⟩ := gv_rows hC hm
    rw [← hW] at hk ⊢
    have e287 : W 28 7 = V 28 7 + 1 := by rw [w2, up_app, if_neg (by decide), up_app, if_pos rfl]
    by_cases hd0 : d = 0
    · rw [if_pos hd0]
      exact ⟨by rw [pu_row, up_app, if_neg (by decide)]; exact e287, Or.inr (hk.2 hd0)⟩
    · rw [if_neg hd0]
      exact s7 ⟨d - 1, hk.1 (by omega)⟩ (by rw [pushV_off (by decide) (by decide)]; exact e287)
  · rw [hpo, h0] at l2
    rw [hpo, hpp, h0] at l4
    simp [po, pu] at l2 l4
    have hk := post_12 hC h400 hm (by omega) (by omega) (by omega) hs
    exact ⟨hk.1, hk.2.imp (fun h => ⟨d, h⟩) id⟩
  · have hb4 := b4 h0
    rw [hpo, h0] at l2
    rw [hpo, hpp, h0] at l3 l4
    simp [po, pu] at l2 l3 l4
    have hpa := (hP.2.1 (cA V f p).toNat (by omega)).1
    obtain ⟨g, hg⟩ : ∃ g : Nat, cA V f p = g := ⟨(cA V f p).toNat, by omega⟩
    rw [hg] at hb4 ⊢
    have hk := post_13 (n := n) (g := g) hC h400 hm (by omega) (by omega) (by omega) (by omega) (by omega)
    obtain ⟨W, hW, -, w28, -⟩ := fn_rows (V := V) (d := d) (h := h') (n := n) (H := (V 35 3).toNat) (ty := (g : Int)) (q := ((p + 1 : Nat) : Int))
    rw [← hW] at hk ⊢
    exact s7 ⟨d, hk⟩ (by rw [w28, up_app, if_pos rfl])
  · have hb5 := b5 h0
    rw [hpo, h0] at l2
    rw [hpo, hpp, h0] at l3 l4
    simp [po, pu] at l2 l3 l4
    have hk := post_14 (n := n) (h' := h') hR hP hC h400 hm hh (by omega) (by omega) (by omega)
    refine ⟨?_, hk⟩
    unfold apV
    repeat' split
    · rw [pu_row, up_app, if_neg (by decide), popV_off (by decide), takeV_off (by decide) (by decide)]; exact n287
    · unfold apW slV bfV
      rw [up_app, if_neg (by decide), up_app, if_neg (by decide), openV_off (by decide), pu_row, up_app, if_neg (by decide), popV_off (by decide), takeV_off (by decide) (by decide)]; exact n287
    · rw [pu_row, up_app, if_neg (by decide), popV_off (by decide), takeV_off (by decide) (by decide)]; exact n287
    · rw [pu_row, up_app, if_neg (by decide), popV_off (by decide), takeV_off (by decide) (by decide)]; exact n287
  · have hb6 := b6 h0
    rw [hpo, h0] at l2
    rw [hpo, hpp, h0] at l3 l4
    simp [po, pu] at l2 l3 l4
    have hk := post_15 hC h400 hm (by omega) (by omega) (by omega) hj
    exact ⟨hk.1, hk.2.imp (fun h => ⟨d, h⟩) id⟩
