/-! WORD BY WORD -/
section MW
variable {N : Nat} {b : Int} {U V0 V Vr : pvM} {d f p h : Nat}
theorem RR_tops (hC : CI b V0 V (d + 1)) (hR : RR U V Vr (d + 1)) (hm : frm V d f p h) : fR V Vr d (bs V d) h ∧ Vr 45 33 = ((bs V d + h : Nat) : Int) ∧ Vr 45 36 = ((d + 1 : Nat) : Int) ∧ bs V d ≤ 12 * d ∧ d ≤ 29 := by
  obtain ⟨a1, a2, a3, a4, a5⟩ := hR
  have hh := hgt_eq hm.1.2.2
  have h1 := a3 d (by omega)
  rw [hh] at h1
  have h2 := a2.2.2.2.2.2.1
  simp only [bs] at h2
  rw [hh] at h2
  exact ⟨h1, h2, a2.2.2.2.2.2.2.1, bs_le hC.2.2.2.1 d (by omega), by have := hC.2.2.1; omega⟩
theorem mw_push {v : Int} (hC : CI b V0 V (d + 1)) (hR : RR U V Vr (d + 1)) (hm : frm V d f p h) : RR U (pushV (nxV V d ((p + 1 : Nat) : Int)) d h v) (mpV (mnx Vr d ((p + 1 : Nat) : Int)) (bs V d + h) (kd v) (ct v)) (d + 1) := by
  obtain ⟨t1, t2, t3, t4, t5⟩ := RR_tops hC hR hm
  refine RR_fr (h' := h + 1) (p' := p + 1) hC hR (fun c hc => ?_) ?_ ?_ (fun e he => ?_) ?_ (fun i hi => ?_) (fun c hc => ?_) (fun i hi => ?_) ?_ ?_ ?_ (fun i hi => ?_) (fun i hi => ?_) (fun k hk => ?_) (fun j hj => ?_)
  · simp at hc; rw [pushV_off (by omega) (by omega), nxV_off (by omega) (by omega)]
  · rw [pushV_off (by decide) (by decide), nxV_28, up_app, if_pos rfl]
  · rw [pushV_off (by decide) (by decide), nxV_32]
  · rw [pushV_33, up_app, if_neg he, nxV_off (by decide) (by decide)]
  · rw [pushV_33, up_app, if_pos rfl]
  · rw [pushV_30, up_app, if_neg (by omega), nxV_off (by decide) (by decide)]
  · simp at hc; rw [mpV_off (by omega), mnx_off (by omega) (by omega)]
  · simp at hi; rw [mpV_45, up_app, if_neg (by omega), mnx_45, up_app, if_neg (by omega)]
  · rw [mpV_45, up_app, if_neg (by decide), mnx_45, up_app, if_pos rfl]
  · rw [mpV_45, up_app, if_pos rfl]; rfl
  · rw [mpV_off (by decide), mnx_70]
  · rw [mpV_off (by decide), mpV_off (by decide), mnx_off (by decide) (by decide), mnx_off (by decide) (by decide)]; exact ⟨rfl, rfl⟩
  · rw [mpV_67, mpV_68, up_app, up_app, if_neg (by omega), if_neg (by omega), mnx_off (by decide) (by decide), mnx_off (by decide) (by decide)]; exact ⟨rfl, rfl⟩
  · rw [mpV_off (by decide), mpV_off (by decide), mnx_off (by decide) (by decide), mnx_off (by decide) (by decide), pushV_30, up_app, if_neg (by omega), nxV_off (by decide) (by decide)]; exact t1.2.1 k hk
  · rw [mpV_67, mpV_68, up_app, up_app, mnx_off (by decide) (by decide), mnx_off (by decide) (by decide), pushV_30, up_app, nxV_off (by decide) (by decide)]
    by_cases hjh : j = h
    · rw [if_pos (by omega), if_pos (by omega), if_pos (by omega)]; exact ⟨rfl, rfl⟩
    · rw [if_neg (by omega), if_neg (by omega), if_neg (by omega)]; exact t1.2.2 j (by omega)
theorem mw_0 {a at' : Int} (hC : CI b V0 V (d + 1)) (hR : RR U V Vr (d + 1)) (hm : frm V d f p h) (hh : h ≤ 12) (ha : I32 a) : wz (mbd N at' a 0 (mnx Vr d ((p + 1 : Nat) : Int))) (fun _ Vr' => RO U (pushV (nxV V d ((p + 1 : Nat) : Int)) d h (vO 1 a)) Vr') := by
  obtain ⟨t1, t2, t3, t4, t5⟩ := RR_tops hC hR hm
  have hk := k1 ha
  have h9 := mw_push (v := vO 1 a) hC hR hm
  rw [hk.1, hk.2] at h9
  unfold mbd
  rw [if_pos rfl]
  refine wp_lI ?_
  rw [cL_eq (e_mpush (s := bs V d + h) (by rw [mnx_45, up_app, if_neg (by decide)]; exact t2) (by omega))]
  exact wp_rT ⟨rfl, RO_in (D' := d) (by have h29 := hC.2.1.1; have h28 := hC.2.1.2.2.2.2.1; simp [pushV_off, popV_off, takeV_off, nxV_off, pu_off, nxV_28, up_app] <;> omega) h9⟩
theorem mw_1 {at' : Int} {a : Nat} (hC : CI b V0 V (d + 1)) (hR : RR U V Vr (d + 1)) (hm : frm V d f p h) (hh : h ≤ 12) (ha : a < 8) : wz (mbd N at' a 1 (mnx Vr d ((p + 1 : Nat) : Int))) (fun _ Vr' => RO U (pushV (nxV V d ((p + 1 : Nat) : Int)) d h (V 30 (33 * d + a))) Vr') := by
  obtain ⟨t1, t2, t3, t4, t5⟩ := RR_tops hC hR hm
  have h9 := mw_push (v := V 30 (33 * d + a)) hC hR hm
  have h8 := t1.2.1 a ha
  have e36 : mnx Vr d ((p + 1 : Nat) : Int) 45 36 = ((d + 1 : Nat) : Int) := by rw [mnx_45, up_app, if_neg (by decide)]; exact t3
  unfold mbd
  rw [if_neg (by decide), if_pos rfl]
  refine wp_lI (wp_gR ?_)
  rw [e36]
  refine wp_lw (by omega) (wp_lw (by omega) (wp_aR (by omega) (wp_lI (wp_gR ?_))))
  rw [e36]
  refine wp_lw (by omega) (wp_lw (by omega) (wp_aR (by omega) ?_))
  rw [show (8 * (((d + 1 : Nat)) : Int) + (a : Int)).toNat = 8 * (d + 1) + a by omega, mnx_off (show (72 : Nat) ≠ 45 by decide) (by decide), mnx_off (show (73 : Nat) ≠ 45 by decide) (by decide), h8.1, h8.2]
  rw [cL_eq (e_mpush (s := bs V d + h) (by rw [mnx_45, up_app, if_neg (by decide)]; exact t2) (by omega))]
  exact wp_rT ⟨rfl, RO_in (D' := d) (by have h29 := hC.2.1.1; have h28 := hC.2.1.2.2.2.2.1; simp [pushV_off, popV_off, takeV_off, nxV_off, pu_off, nxV_28, up_app] <;> omega) h9⟩
/-- values are popped: h' are left; nothing else -/
theorem mw_pop {q h' : Nat} {W Wr : pvM} (hC : CI b V0 V (d + 1)) (hR : RR U V Vr (d + 1)) (hm : frm V d f p h) (hle : h' ≤ h) (f1 : fr [28, 30, 32, 33, 34] V W) (e287 : W 28 7 = V 28 7 + 1) (e32 : W 32 = va_up (V 32) d (q : Int)) (e33 : ∀ e, e ≠ d → W 33 e = V 33 e) (e33d : W 33 d = ((33 * d + 20 + h' : Nat) : Int)) (e30 : W 30 = V 30) (g1 : fr [45, 70] Vr Wr) (g2 : f45 [27, 33] Vr Wr) (r27 : Wr 45 27 = Vr 45 27 + 1) (r33 : Wr 45 33 = ((bs V d + h' : Nat) : Int)) (r70 : Wr 70 = va_up (Vr 70) (d + 1) (q : Int)) : RR U W Wr (d + 1) := by
  obtain ⟨t1, t2, t3, t4, t5⟩ := RR_tops hC hR hm
  refine RR_fr (h' := h') (p' := q) hC hR f1 e287 e32 e33 e33d (fun i _ => by rw [e30]) (g1.mono (by decide)) (g2.mono (by decide)) r27 r33 r70 (fun i _ => ?_) (fun i _ => ?_) (fun k hk => ?_) (fun j hj => ?_)
  · rw [g1 72 (by decide), g1 73 (by decide)]; exact ⟨rfl, rfl⟩
  · rw [g1 67 (by decide), g1 68 (by decide)]; exact ⟨rfl, rfl⟩
  · rw [g1 72 (by decide), g1 73 (by decide), e30]; exact t1.2.1 k hk
  · rw [g1 67 (by decide), g1 68 (by decide), e30]; exact t1.2.2 j (by omega)
/-- the reference's counters at the step, the height set -/
def mnh (Vr : pvM) (d p s : Nat) : pvM := pz_u (mnx Vr d (p : Int)) 45 33 (s : Int)
theorem mnh_45 (Vr : pvM) (d p s : Nat) : mnh Vr d p s 45 = va_up (va_up (Vr 45) 27 (Vr 45 27 + 1)) 33 (s : Int) := by unfold mnh; rw [pu_row, mnx_45]
theorem mnh_off {Vr : pvM} {d p s c : Nat} (h0 : c ≠ 45) (h3 : c ≠ 70) : mnh Vr d p s c = Vr c := by unfold mnh; rw [pu_off h0, mnx_off h0 h3]
theorem mnh_70 (Vr : pvM) (d p s : Nat) : mnh Vr d p s 70 = va_up (Vr 70) (d + 1) (p : Int) := by unfold mnh; rw [pu_off (by decide), mnx_70]
theorem mw_2 {at' : Int} {a : Nat} (hC : CI b V0 V (d + 1)) (hR : RR U V Vr (d + 1)) (hm : frm V d f p (h + 1)) (hh : h ≤ 12) (ha : a < 8) : wz (mbd N at' a 2 (mnx Vr d ((p + 1 : Nat) : Int))) (fun _ Vr' => RO U (pz_u (popV (nxV V d ((p + 1 : Nat) : Int)) d h) 30 (33 * d + a) (V 30 (33 * d + 20 + h))) Vr') := by
  obtain ⟨t1, t2, t3, t4, t5⟩ := RR_tops hC hR hm
  have h8 := t1.2.2 h (by omega)
  have e33 : mnx Vr d ((p + 1 : Nat) : Int) 45 33 = ((bs V d + (h + 1) : Nat) : Int) := by rw [mnx_45, up_app, if_neg (by decide)]; exact t2
  have eM : pz_u (mnx Vr d ((p + 1 : Nat) : Int)) 45 33 ((bs V d + h : Nat) : Int) = mnh Vr d (p + 1) (bs V d + h) := rfl
  have m36 : mnh Vr d (p + 1) (bs V d + h) 45 36 = ((d + 1 : Nat) : Int) := by rw [mnh_45, up_app, if_neg (by decide), up_app, if_neg (by decide)]; exact t3
  have m33 : mnh Vr d (p + 1) (bs V d + h) 45 33 = ((bs V d + h : Nat) : Int) := by rw [mnh_45, up_app, if_pos rfl]
  unfold mbd
  rw [if_neg (by decide), if_neg (by decide), if_pos rfl]
  refine wp_gR (wp_lI ?_)
  rw [e33]
  refine wp_lw (by omega) (wp_gW ?_)
  rw [show (((bs V d + (h + 1) : Nat)) : Int) - 1 = ((bs V d + h : Nat) : Int) by omega, eM]
  refine wp_lI (wp_gR ?_)
  rw [m36]
  refine wp_lw (by omega) (wp_lw (by omega) (wp_gR ?_))
  rw [m33]
  refine wp_aR (by omega) (wp_aW (by omega) (wp_lI (wp_gR ?_)))
  rw [show (8 * (((d + 1 : Nat)) : Int) + (a : Int)).toNat = 8 * (d + 1) + a by omega, show (((bs V d + h : Nat)) : Int).toNat = bs V d + h by omega, pu_off (show (45 : Nat) ≠ 72 by decide), m36, mnh_off (show (67 : Nat) ≠ 45 by decide) (by decide), h8.1]
  refine wp_lw (by omega) (wp_lw (by omega) (wp_gR ?_))
  rw [pu_off (show (45 : Nat) ≠ 72 by decide), m33]
  refine wp_aR (by omega) (wp_aW (by omega) (wp_rT ⟨rfl, RO_in (D' := d) (by have h29 := hC.2.1.1; have h28 := hC.2.1.2.2.2.2.1; simp [pushV_off, popV_off, takeV_off, nxV_off, pu_off, nxV_28, up_app] <;> omega) ?_⟩))
  rw [show (8 * (((d + 1 : Nat)) : Int) + (a : Int)).toNat = 8 * (d + 1) + a by omega, show (((bs V d + h : Nat)) : Int).toNat = bs V d + h by omega, pu_off (show (68 : Nat) ≠ 72 by decide), mnh_off (show (68 : Nat) ≠ 45 by decide) (by decide), h8.2]
  obtain ⟨Wr, hWr⟩ : ∃ Wr, Wr = pz_u (pz_u (mnh Vr d (p + 1) (bs V d + h)) 72 (8 * (d + 1) + a) (kd (V 30 (33 * d + 20 + h)))) 73 (8 * (d + 1) + a) (ct (V 30 (33 * d + 20 + h))) := ⟨_, rfl⟩
  rw [← hWr]
  have r72 : Wr 72 = va_up (Vr 72) (8 * (d + 1) + a) (kd (V 30 (33 * d + 20 + h))) := by rw [hWr, pu_off (by decide), pu_row, mnh_off (by decide) (by decide)]
  have r73 : Wr 73 = va_up (Vr 73) (8 * (d + 1) + a) (ct (V 30 (33 * d + 20 + h))) := by rw [hWr, pu_row, pu_off (by decide), mnh_off (by decide) (by decide)]
  have roff : ∀ c, c ≠ 45 → c ≠ 70 → c ≠ 72 → c ≠ 73 → Wr c = Vr c := fun c h1 h2 h3 h4 => by rw [hWr, pu_off h4, pu_off h3, mnh_off h1 h2]
  have r45 : Wr 45 = mnh Vr d (p + 1) (bs V d + h) 45 := by rw [hWr, pu_off (by decide), pu_off (by decide)]
  obtain ⟨W, hW⟩ : ∃ W, W = pz_u (popV (nxV V d ((p + 1 : Nat) : Int)) d h) 30 (33 * d + a) (V 30 (33 * d + 20 + h)) := ⟨_, rfl⟩
  rw [← hW]
  have w30 : W 30 = va_up (V 30) (33 * d + a) (V 30 (33 * d + 20 + h)) := by rw [hW, pu_row, popV_off (by decide), nxV_off (by decide) (by decide)]
  have woff : ∀ c, c ≠ 30 → W c = popV (nxV V d ((p + 1 : Nat) : Int)) d h c := fun c h1 => by rw [hW, pu_off h1]
  refine RR_fr (h' := h) (p' := p + 1) hC hR (fun c hc => ?_) ?_ ?_ (fun e he => ?_) ?_ (fun i hi => ?_) (fun c hc => ?_) (fun i hi => ?_) ?_ ?_ ?_ (fun i hi => ?_) (fun i hi => ?_) (fun k hk => ?_) (fun j hj => ?_)
  · simp at hc; rw [woff c (by omega), popV_off (by omega), nxV_off (by omega) (by omega)]
  · rw [woff 28 (by decide), pp_28, up_app, if_pos rfl]
  · rw [woff 32 (by decide), popV_off (by decide), nxV_32]
  · rw [woff 33 (by decide), popV_33, up_app, if_neg he, nxV_off (by decide) (by decide)]
  · rw [woff 33 (by decide), popV_33, up_app, if_pos rfl]
  · rw [w30, up_app, if_neg (by omega)]
  · simp at hc; exact roff c (by omega) (by omega) (by omega) (by omega)
  · simp at hi; rw [r45, mnh_45, up_app, if_neg (by omega), up_app, if_neg (by omega)]
  · rw [r45, mnh_45, up_app, if_neg (by decide), up_app, if_pos rfl]
  · rw [r45, m33]
  · rw [hWr, pu_off (by decide), pu_off (by decide), mnh_70]
  · rw [r72, r73, up_app, up_app, if_neg (by omega), if_neg (by omega)]; exact ⟨rfl, rfl⟩
  · rw [roff 67 (by decide) (by decide) (by decide) (by decide), roff 68 (by decide) (by decide) (by decide) (by decide)]; exact ⟨rfl, rfl⟩
  · rw [r72, r73, w30, up_app, up_app, up_app]
    by_cases hka : k = a
    · rw [if_pos (by omega), if_pos (by omega), if_pos (by omega)]; exact ⟨rfl, rfl⟩
    · rw [if_neg (by omega), if_neg (by omega), if_neg (by omega)]; exact t1.2.1 k hk
  · rw [roff 67 (by decide) (by decide) (by decide) (by decide), roff 68 (by decide) (by decide) (by decide) (by decide), w30, up_app, if_neg (by omega)]; exact t1.2.2 j (by omega)
/-- a fault of the frames alone -/
theorem mw_flt {e : Int} {W Wr : pvM} (hC : CI b V0 V (d + 1)) (hR : RR U V Vr (d + 1)) (hW : fr [28, 30, 32, 33, 34] V W) (h28 : W 28 = va_up (V 28) 7 (V 28 7 + 1)) (he : e ≠ 0) (g1 : fr mrs Vr Wr) (g2 : f45 [27, 33, 52] Vr Wr) (r27 : Wr 45 27 = Vr 45 27 + 1) : RO U (pz_u W 28 8 e) (pz_u Wr 45 28 e) := by
  refine Or.inr (RFN_flt (e := e) hC hR (g1.trans (fr_u (by decide))) ((g2.mono (by decide)).trans (f45_u (by decide))) ?_ (by rw [pz_u_eq]) ?_ ?_ (by rw [pz_u_eq]) ?_ he)
  · rw [pu_row, up_app, if_neg (by decide), r27, pu_row, up_app, if_neg (by decide), h28, up_app, if_pos rfl, hR.2.1.1]
  · rw [pu_row, up_app, if_neg (by decide), g2 29 (by decide)]
  · rw [pu_row, up_app, if_neg (by decide), g2 31 (by decide), pu_off (by decide), hW 39 (by decide)]; exact hR.2.1.2.2.2.2.1
  · rw [pu_row, up_app, if_neg (by decide), h28, up_app, if_neg (by decide)]
theorem mnh_fr (d p s : Nat) : fr [45, 70] Vr (mnh Vr d p s) := fun c hc => by simp at hc; exact mnh_off (by omega) (by omega)
theorem mnh_f45 (d p s : Nat) : f45 [27, 33] Vr (mnh Vr d p s) := fun i hi => by simp at hi; rw [mnh_45, up_app, if_neg (by omega), up_app, if_neg (by omega)]
theorem mnh_27 (d p s : Nat) : mnh Vr d p s 45 27 = Vr 45 27 + 1 := by rw [mnh_45, up_app, if_neg (by decide), up_app, if_pos rfl]
theorem mnh_33 (d p s : Nat) : mnh Vr d p s 45 33 = s := by rw [mnh_45, up_app, if_pos rfl]
/-- pushing behind what was taken -/
theorem mw_tk {n : Nat} {v : Int} (hC : CI b V0 V (d + 1)) (hR : RR U V Vr (d + 1)) (hm : frm V d f p (h + n)) : RR U (pushV (takeV (nxV V d ((p + 1 : Nat) : Int)) d h n) d h v) (mpV (mnh Vr d (p + 1) (bs V d + h)) (bs V d + h) (kd v) (ct v)) (d + 1) := by
  obtain ⟨t1, t2, t3, t4, t5⟩ := RR_tops hC hR hm
  refine RR_fr (h' := h + 1) (p' := p + 1) hC hR (fun c hc => ?_) ?_ ?_ (fun e he => ?_) ?_ (fun i hi => ?_) (fun c hc => ?_) (fun i hi => ?_) ?_ ?_ ?_ (fun i hi => ?_) (fun i hi => ?_) (fun k hk => ?_) (fun j hj => ?_)
  · simp at hc; rw [pushV_off (by omega) (by omega), takeV_off (by omega) (by omega), nxV_off (by omega) (by omega)]
  · rw [pushV_off (by decide) (by decide), tk_28, up_app, if_pos rfl]
  · rw [pushV_off (by decide) (by decide), takeV_off (by decide) (by decide), nxV_32]
  · rw [pushV_33, up_app, if_neg he, takeV_33, up_app, if_neg he, nxV_off (by decide) (by decide)]
  · rw [pushV_33, up_app, if_pos rfl]
  · rw [pushV_30, up_app, if_neg (by omega), takeV_off (by decide) (by decide), nxV_off (by decide) (by decide)]
  · simp at hc; rw [mpV_off (by omega), mnh_off (by omega) (by omega)]
  · simp at hi; rw [mpV_45, up_app, if_neg (by omega), mnh_45, up_app, if_neg (by omega), up_app, if_neg (by omega)]
  · rw [mpV_45, up_app, if_neg (by decide), mnh_27]
  · rw [mpV_45, up_app, if_pos rfl]; rfl
  · rw [mpV_off (by decide), mnh_70]
  · rw [mpV_off (by decide), mpV_off (by decide), mnh_off (by decide) (by decide), mnh_off (by decide) (by decide)]; exact ⟨rfl, rfl⟩
  · rw [mpV_67, mpV_68, up_app, up_app, if_neg (by omega), if_neg (by omega), mnh_off (by decide) (by decide), mnh_off (by decide) (by decide)]; exact ⟨rfl, rfl⟩
  · rw [mpV_off (by decide), mpV_off (by decide), mnh_off (by decide) (by decide), mnh_off (by decide) (by decide), pushV_30, up_app, if_neg (by omega), takeV_off (by decide) (by decide), nxV_off (by decide) (by decide)]; exact t1.2.1 k hk
  · rw [mpV_67, mpV_68, up_app, up_app, mnh_off (by decide) (by decide), mnh_off (by decide) (by decide), pushV_30, up_app, takeV_off (by decide) (by decide), nxV_off (by decide) (by decide)]
    by_cases hjh : j = h
    · rw [if_pos (by omega), if_pos (by omega), if_pos (by omega)]; exact ⟨rfl, rfl⟩
    · rw [if_neg (by omega), if_neg (by omega), if_neg (by omega)]; exact t1.2.2 j (by omega)
set_option maxHeartbeats 4000000 in
set_option maxRecDepth 100000 in
theorem s_mreckon {w : Int} (hC : CI b V0 V (d + 1)) (hR : RR U V Vr (d + 1)) (hm : frm V d f p (h + 2)) (hh : h + 2 ≤ 12) (hw : w = 3 ∨ w = 4 ∨ w = 5) : wz (q_X11_reckon N w (mnx Vr d ((p + 1 : Nat) : Int))) (fun _ Vr' => RO U (rkV w (nxV V d ((p + 1 : Nat) : Int)) d h) Vr') := by
  obtain ⟨t1, t2, t3, t4, t5⟩ := RR_tops hC hR hm
  have h8 := t1.2.2 h (by omega)
  have h7 := t1.2.2 (h + 1) (by omega)
  have n30 : nxV V d ((p + 1 : Nat) : Int) 30 = V 30 := nxV_off (by decide) (by decide)
  have e33 : mnx Vr d ((p + 1 : Nat) : Int) 45 33 = ((bs V d + (h + 2) : Nat) : Int) := by rw [mnx_45, up_app, if_neg (by decide)]; exact t2
  have hfl : RO U (pz_u (takeV (nxV V d ((p + 1 : Nat) : Int)) d h 2) 28 8 1) (pz_u (mnh Vr d (p + 1) (bs V d + h)) 45 28 1) := mw_flt hC hR tk_fr tk_28 (by decide) ((mnh_fr _ _ _).mono (by decide)) ((mnh_f45 _ _ _).mono (by decide)) (mnh_27 _ _ _)
  unfold q_X11_reckon rkV
  rw [n30]
  refine wp_gR (wp_lI ?_)
  rw [e33]
  refine wp_lw (by omega) (wp_gW (wp_gR ?_))
  rw [show (((bs V d + (h + 2) : Nat)) : Int) - 2 = ((bs V d + h : Nat) : Int) by omega, show pz_u (mnx Vr d ((p + 1 : Nat) : Int)) 45 33 ((bs V d + h : Nat) : Int) = mnh Vr d (p + 1) (bs V d + h) from rfl, mnh_33]
  refine wp_aR (by omega) (wp_lI ?_)
  rw [show (((bs V d + h : Nat)) : Int).toNat = bs V d + h by omega, mnh_off (show (67 : Nat) ≠ 45 by decide) (by decide), h8.1]
  refine wp_if (fun h1 => ?_) (fun h1 => ?_)
  · rw [if_neg (fun h => h1 h.1)]
    exact wp_lI (wp_gW (wp_rT ⟨rfl, hfl⟩))
  · refine wp_gR (wp_lI ?_)
    rw [mnh_33]
    refine wp_lw (by omega) (wp_aR (by omega) (wp_lI ?_))
    rw [show ((((bs V d + h : Nat)) : Int) + 1).toNat = bs V d + (h + 1) by omega, mnh_off (show (67 : Nat) ≠ 45 by decide) (by decide), h7.1]
    refine wp_if (fun h2 => ?_) (fun h2 => ?_)
    · rw [if_pos ⟨Decidable.not_not.mp h1, h2⟩]
      refine wp_gR ?_
      rw [mnh_33]
      refine wp_aR (by omega) (wp_gR (wp_lI ?_))
      rw [mnh_33]
      refine wp_lw (by omega) (wp_aR (by omega) ?_)
      rw [show (((bs V d + h : Nat)) : Int).toNat = bs V d + h by omega, show ((((bs V d + h : Nat)) : Int) + 1).toNat = bs V d + (h + 1) by omega, mnh_off (show (68 : Nat) ≠ 45 by decide) (by decide), h8.2, h7.2]
      have k93 : ∀ s : Int, I32 s → wz (q_X11_reckon_b93 N s 1 (mnh Vr d (p + 1) (bs V d + h))) (fun _ Vr' => RO U (pushV (takeV (nxV V d ((p + 1 : Nat) : Int)) d h 2) d h (vO 1 s)) Vr') := by
        intro s hs
        have hk := k1 hs
        have h9 := mw_tk (n := 2) (v := vO 1 s) hC hR hm
        rw [hk.1, hk.2] at h9
        unfold q_X11_reckon_b93
        rw [cL_eq (e_mpush (mnh_33 _ _ _) (by omega))]
        exact wp_rT ⟨rfl, RO_in (D' := d) (by have h29 := hC.2.1.1; have h28 := hC.2.1.2.2.2.2.1; simp [pushV_off, popV_off, takeV_off, nxV_off, pu_off, nxV_28, up_app] <;> omega) h9⟩
      unfold rk
      refine wp_lI (wp_lI ?_)
      refine wp_if (fun h3 => wp_lI ?_) (fun h3 => ?_)
      · rw [if_neg h3]
        refine wp_if (fun h4 => wp_lI ?_) (fun h4 => wp_lI ?_)
        · rw [if_neg h4]; exact k93 _ (pv_w_32 _)
        · rw [if_pos (Decidable.not_not.mp h4)]; exact k93 _ (pv_w_32 _)
      · rw [if_pos (Decidable.not_not.mp h3)]; exact wp_lI (k93 _ (pv_w_32 _))
    · rw [if_neg (fun h => h2 h.2)]
      exact wp_lI (wp_gW (wp_rT ⟨rfl, hfl⟩))
theorem mw_345 {w a : Int} (hS : SP U V0) (hC : CI b V0 V (d + 1)) (hR : RR U V Vr (d + 1)) (hm : frm V d f p (h + 2)) (hh : h + 2 ≤ 12) (hf : f < 12) (hp : p < 40) (hw : w = 3 ∨ w = 4 ∨ w = 5) (hcw : cW V f p = w) : wz (mbd N (40 * (f : Int) + p) a w (mnx Vr d ((p + 1 : Nat) : Int))) (fun _ Vr' => RO U (rkV w (nxV V d ((p + 1 : Nat) : Int)) d h) Vr') := by
  have h48 := (SP_at hS hC.1 hR.1.1 f p).1
  have k9 := s_mreckon (N := N) hC hR hm hh hw
  have e48 : mnx Vr d ((p + 1 : Nat) : Int) 48 (40 * (f : Int) + p).toNat = w := by rw [mnx_off (by decide) (by decide), show (40 * (f : Int) + (p : Int)).toNat = 40 * f + p by omega, h48, hcw]
  unfold mbd
  rcases hw with rfl | rfl | rfl
  · rw [if_neg (by decide), if_neg (by decide), if_neg (by decide), if_pos rfl]
    refine wp_aR (by omega) ?_
    rw [e48]
    exact wp_cL k9 (fun _ _ h9 => wp_rT ⟨rfl, h9⟩)
  · rw [if_neg (by decide), if_neg (by decide), if_neg (by decide), if_neg (by decide), if_pos rfl]
    refine wp_aR (by omega) ?_
    rw [e48]
    exact wp_cL k9 (fun _ _ h9 => wp_rT ⟨rfl, h9⟩)
  · rw [if_neg (by decide), if_neg (by decide), if_neg (by decide), if_neg (by decide), if_neg (by decide), if_pos rfl]
    refine wp_aR (by omega) ?_
    rw [e48]
    exact wp_cL k9 (fun _ _ h9 => wp_rT ⟨rfl, h9⟩)
theorem mw_7 {a at' : Int} (hC : CI b V0 V (d + 1)) (hR : RR U V Vr (d + 1)) (hm : frm V d f p (h + 1)) (hh : h ≤ 12) : wz (mbd N at' a 7 (mnx Vr d ((p + 1 : Nat) : Int))) (fun _ Vr' => RO U (popV (nxV V d ((p + 1 : Nat) : Int)) d h) Vr') := by
  obtain ⟨t1, t2, t3, t4, t5⟩ := RR_tops hC hR hm
  have e33 : mnx Vr d ((p + 1 : Nat) : Int) 45 33 = ((bs V d + (h + 1) : Nat) : Int) := by rw [mnx_45, up_app, if_neg (by decide)]; exact t2
  unfold mbd
  rw [if_neg (by decide), if_neg (by decide), if_neg (by decide), if_neg (by decide), if_neg (by decide), if_neg (by decide), if_neg (by decide), if_pos rfl]
  refine wp_gR (wp_lI ?_)
  rw [e33]
  refine wp_lw (by omega) (wp_gW (wp_rT ⟨rfl, RO_in (D' := d) (by have h29 := hC.2.1.1; have h28 := hC.2.1.2.2.2.2.1; simp [pushV_off, popV_off, takeV_off, nxV_off, pu_off, nxV_28, up_app] <;> omega) ?_⟩))
  rw [show (((bs V d + (h + 1) : Nat)) : Int) - 1 = ((bs V d + h : Nat) : Int) by omega, show pz_u (mnx Vr d ((p + 1 : Nat) : Int)) 45 33 ((bs V d + h : Nat) : Int) = mnh Vr d (p + 1) (bs V d + h) from rfl]
  refine mw_pop (q := p + 1) (h' := h) hC hR hm (by omega) pp_fr (by rw [pp_28, up_app, if_pos rfl]) (by rw [popV_off (by decide), nxV_32]) (fun e he => by rw [popV_33, up_app, if_neg he, nxV_off (by decide) (by decide)]) (by rw [popV_33, up_app, if_pos rfl]) (by rw [popV_off (by decide), nxV_off (by decide) (by decide)]) (mnh_fr _ _ _) (mnh_f45 _ _ _) (mnh_27 _ _ _) (mnh_33 _ _ _) (mnh_70 _ _ _ _)
theorem mw_8 {at' : Int} {a : Nat} (hC : CI b V0 V (d + 1)) (hR : RR U V Vr (d + 1)) (hm : frm V d f p h) (hh : h ≤ 12) : wz (mbd N at' a 8 (mnx Vr d ((p + 1 : Nat) : Int))) (fun _ Vr' => RO U (pz_u (nxV V d ((p + 1 : Nat) : Int)) 32 d a) Vr') := by
  obtain ⟨t1, t2, t3, t4, t5⟩ := RR_tops hC hR hm
  have e36 : mnx Vr d ((p + 1 : Nat) : Int) 45 36 = ((d + 1 : Nat) : Int) := by rw [mnx_45, up_app, if_neg (by decide)]; exact t3
  unfold mbd
  rw [if_neg (by decide), if_neg (by decide), if_neg (by decide), if_neg (by decide), if_neg (by decide), if_neg (by decide), if_neg (by decide), if_neg (by decide), if_pos rfl]
  refine wp_gR ?_
  rw [e36]
  refine wp_aW (by omega) (wp_rT ⟨rfl, RO_in (D' := d) (by have h29 := hC.2.1.1; have h28 := hC.2.1.2.2.2.2.1; simp [pushV_off, popV_off, takeV_off, nxV_off, pu_off, nxV_28, up_app] <;> omega) ?_⟩)
  rw [show (((d + 1 : Nat)) : Int).toNat = d + 1 by omega]
  refine mw_pop (q := a) (h' := h) hC hR hm (by omega) (fun c hc => ?_) ?_ ?_ (fun e he => ?_) ?_ ?_ (fun c hc => ?_) (fun i hi => ?_) ?_ ?_ ?_
  · simp at hc; rw [pu_off (by omega), nxV_off (by omega) (by omega)]
  · rw [pu_off (by decide), nxV_28, up_app, if_pos rfl]
  · rw [pu_row, nxV_32]; funext j; rw [up_app, up_app, up_app]; split <;> rfl
  · rw [pu_off (by decide), nxV_off (by decide) (by decide)]
  · rw [pu_off (by decide), nxV_off (by decide) (by decide)]; exact hm.1.2.2
  · rw [pu_off (by decide), nxV_off (by decide) (by decide)]
  · simp at hc; rw [pu_off (by omega), mnx_off (by omega) (by omega)]
  · simp at hi; rw [pu_off (by decide), mnx_45, up_app, if_neg (by omega)]
  · rw [pu_off (by decide), mnx_45, up_app, if_pos rfl]
  · rw [pu_off (by decide), mnx_45, up_app, if_neg (by decide)]; exact t2
  · rw [pu_row, mnx_70]; funext j; rw [up_app, up_app, up_app]; split <;> rfl
theorem mw_6 {a at' : Int} (hC : CI b V0 V (d + 1)) (hR : RR U V Vr (d + 1)) (hm : frm V d f p (h + 1)) (hh : h + 1 ≤ 12) : wz (mbd N at' a 6 (mnx Vr d ((p + 1 : Nat) : Int))) (fun _ Vr' => RO U (pushV (pushV (popV (nxV V d ((p + 1 : Nat) : Int)) d h) d h (V 30 (33 * d + 20 + h))) d (h + 1) (V 30 (33 * d + 20 + h))) Vr') := by
  obtain ⟨t1, t2, t3, t4, t5⟩ := RR_tops hC hR hm
  have h8 := t1.2.2 h (by omega)
  have h9 := mw_push (v := V 30 (33 * d + 20 + h)) hC hR hm
  have e33 : mnx Vr d ((p + 1 : Nat) : Int) 45 33 = ((bs V d + (h + 1) : Nat) : Int) := by rw [mnx_45, up_app, if_neg (by decide)]; exact t2
  have hself : pushV (popV (nxV V d ((p + 1 : Nat) : Int)) d h) d h (V 30 (33 * d + 20 + h)) = nxV V d ((p + 1 : Nat) : Int) := by
    unfold pushV popV
    funext c k
    simp only [pu_app]
    have n30 : nxV V d ((p + 1 : Nat) : Int) 30 = V 30 := nxV_off (by decide) (by decide)
    have n33 : nxV V d ((p + 1 : Nat) : Int) 33 = V 33 := nxV_off (by decide) (by decide)
    by_cases h33 : c = 33 ∧ k = d
    · rw [if_pos h33, h33.1, h33.2, n33]; exact hm.1.2.2.symm
    · rw [if_neg h33]
      by_cases h30 : c = 30 ∧ k = 33 * d + 20 + h
      · rw [if_pos h30, h30.1, h30.2, n30]
      · rw [if_neg h30, if_neg h33]
  rw [hself]
  unfold mbd
  rw [if_neg (by decide), if_neg (by decide), if_neg (by decide), if_neg (by decide), if_neg (by decide), if_neg (by decide), if_pos rfl]
  refine wp_gR (wp_lI ?_)
  rw [e33]
  refine wp_lw (by omega) (wp_aR (by omega) (wp_gR (wp_lI ?_)))
  rw [e33]
  refine wp_lw (by omega) (wp_aR (by omega) ?_)
  rw [show ((((bs V d + (h + 1) : Nat)) : Int) - 1).toNat = bs V d + h by omega, mnx_off (show (67 : Nat) ≠ 45 by decide) (by decide), mnx_off (show (68 : Nat) ≠ 45 by decide) (by decide), h8.1, h8.2]
  rw [cL_eq (e_mpush e33 (by omega))]
  exact wp_rT ⟨rfl, RO_in (D' := d) (by have h29 := hC.2.1.1; have h28 := hC.2.1.2.2.2.2.1; simp [pushV_off, popV_off, takeV_off, nxV_off, pu_off, nxV_28, up_app] <;> omega) h9⟩
set_option maxHeartbeats 4000000 in
set_option maxRecDepth 100000 in
theorem mw_9 {at' : Int} {a : Nat} (hC : CI b V0 V (d + 1)) (hR : RR U V Vr (d + 1)) (hm : frm V d f p (h + 1)) (hh : h ≤ 12) : wz (mbd N at' a 9 (mnx Vr d ((p + 1 : Nat) : Int))) (fun _ Vr' => RO U (gzV (nxV V d ((p + 1 : Nat) : Int)) d h a) Vr') := by
  obtain ⟨t1, t2, t3, t4, t5⟩ := RR_tops hC hR hm
  have h8 := t1.2.2 h (by omega)
  have n30 : nxV V d ((p + 1 : Nat) : Int) 30 = V 30 := nxV_off (by decide) (by decide)
  have e33 : mnx Vr d ((p + 1 : Nat) : Int) 45 33 = ((bs V d + (h + 1) : Nat) : Int) := by rw [mnx_45, up_app, if_neg (by decide)]; exact t2
  obtain ⟨M, hM⟩ : ∃ M, M = mnh Vr d (p + 1) (bs V d + h) := ⟨_, rfl⟩
  have m36 : M 45 36 = ((d + 1 : Nat) : Int) := by rw [hM, mnh_45, up_app, if_neg (by decide), up_app, if_neg (by decide)]; exact t3
  have m70 : M 70 = va_up (Vr 70) (d + 1) ((p + 1 : Nat) : Int) := by rw [hM, mnh_70]
  have m28 : M 45 28 = 0 := by rw [hM, mnh_45, up_app, if_neg (by decide), up_app, if_neg (by decide)]; exact hR.2.1.2.1
  unfold mbd gzV
  rw [if_neg (by decide), if_neg (by decide), if_neg (by decide), if_neg (by decide), if_neg (by decide), if_neg (by decide), if_neg (by decide), if_neg (by decide), if_neg (by decide), if_pos rfl, n30]
  refine wp_gR (wp_lI ?_)
  rw [e33]
  refine wp_lw (by omega) (wp_gW (wp_gR ?_))
  rw [show (((bs V d + (h + 1) : Nat)) : Int) - 1 = ((bs V d + h : Nat) : Int) by omega, show pz_u (mnx Vr d ((p + 1 : Nat) : Int)) 45 33 ((bs V d + h : Nat) : Int) = mnh Vr d (p + 1) (bs V d + h) from rfl, mnh_33]
  refine wp_aR (by omega) (wp_lI ?_)
  rw [show (((bs V d + h : Nat)) : Int).toNat = bs V d + h by omega, mnh_off (show (67 : Nat) ≠ 45 by decide) (by decide), h8.1, ← hM]
  have b358 : ∀ W : pvM, W 45 36 = ((d + 1 : Nat) : Int) → q_X11_step_b358 N ((d + 1 : Nat) : Int) W = some (0, 0, W) := fun W hW => wz_to (by
    unfold q_X11_step_b358
    refine wp_gR ?_
    rw [hW]
    refine wp_aR (by omega) (wp_aW (by omega) (wp_rT ⟨rfl, rfl, ?_⟩))
    rw [show (((d + 1 : Nat)) : Int).toNat = d + 1 by omega]
    funext c k
    rw [pu_app]
    split
    · rename_i h9; rw [h9.1, h9.2]
    · rfl)
  have hz : pz_u M 45 28 0 = M := by
    funext c k
    rw [pu_app]
    split
    · rename_i h9; rw [h9.1, h9.2, m28]
    · rfl
  refine wp_if (fun h1 => ?_) (fun h1 => ?_)
  · rw [if_neg h1]
    refine wp_lI ?_
    unfold q_X11_step_b324
    refine wp_gW (wp_gR (wp_gR ?_))
    have x36 : pz_u M 45 28 1 45 36 = ((d + 1 : Nat) : Int) := by rw [pu_app, if_neg (by decide)]; exact m36
    have x33 : pz_u M 45 28 1 45 33 = ((bs V d + h : Nat) : Int) := by rw [pu_app, if_neg (by decide), hM, mnh_33]
    rw [x33, x36]
    refine wp_aR (by omega) ?_
    have fin : RO U (pz_u (popV (nxV V d ((p + 1 : Nat) : Int)) d h) 28 8 1) (pz_u M 45 28 1) := mw_flt hC hR pp_fr pp_28 (by decide) (by rw [hM]; exact (mnh_fr _ _ _).mono (by decide)) (by rw [hM]; exact (mnh_f45 _ _ _).mono (by decide)) (by rw [hM]; exact mnh_27 _ _ _)
    refine wp_if (fun _ => ?_) (fun _ => ?_)
    · rw [b358 _ x36]; exact ⟨0, 0, _, rfl, rfl, fin⟩
    · refine wp_gR ?_
      rw [pz_u_eq, if_pos (by decide), b358 _ x36]
      exact ⟨0, 0, _, rfl, rfl, fin⟩
  · rw [if_pos (Decidable.not_not.mp h1)]
    refine wp_lI ?_
    unfold q_X11_step_b324
    refine wp_gW (wp_gR (wp_gR ?_))
    rw [hz, m36, show M 45 33 = ((bs V d + h : Nat) : Int) by rw [hM, mnh_33]]
    refine wp_aR (by omega) ?_
    rw [show (((bs V d + h : Nat)) : Int).toNat = bs V d + h by omega, show M 68 = Vr 68 by rw [hM, mnh_off (by decide) (by decide)], h8.2]
    refine wp_if (fun h2 => ?_) (fun h2 => ?_)
    · rw [if_neg h2, b358 _ m36]
      refine ⟨0, 0, _, rfl, rfl, RO_in (D' := d) (by have h29 := hC.2.1.1; have h28 := hC.2.1.2.2.2.2.1; simp [pushV_off, popV_off, takeV_off, nxV_off, pu_off, nxV_28, up_app] <;> omega) ?_⟩
      rw [hM]
      exact mw_pop (q := p + 1) (h' := h) hC hR hm (by omega) pp_fr (by rw [pp_28, up_app, if_pos rfl]) (by rw [popV_off (by decide), nxV_32]) (fun e he => by rw [popV_33, up_app, if_neg he, nxV_off (by decide) (by decide)]) (by rw [popV_33, up_app, if_pos rfl]) (by rw [popV_off (by decide), nxV_off (by decide) (by decide)]) (mnh_fr _ _ _) (mnh_f45 _ _ _) (mnh_27 _ _ _) (mnh_33 _ _ _) (mnh_70 _ _ _ _)
    · rw [if_pos (Decidable.not_not.mp h2)]
      refine wp_gR ?_
      rw [m28, if_neg (by decide)]
      refine wp_aW (by omega) (wp_rT ⟨rfl, RO_in (D' := d) (by have h29 := hC.2.1.1; have h28 := hC.2.1.2.2.2.2.1; simp [pushV_off, popV_off, takeV_off, nxV_off, pu_off, nxV_28, up_app] <;> omega) ?_⟩)
      rw [show (((d + 1 : Nat)) : Int).toNat = d + 1 by omega]
      refine mw_pop (q := a) (h' := h) hC hR hm (by omega) (fun c hc => ?_) ?_ ?_ (fun e he => ?_) ?_ ?_ (fun c hc => ?_) (fun i hi => ?_) ?_ ?_ ?_
      · simp at hc; rw [pu_off (by omega), popV_off (by omega), nxV_off (by omega) (by omega)]
      · rw [pu_off (by decide), pp_28, up_app, if_pos rfl]
      · rw [pu_row, popV_off (by decide), nxV_32]; funext j; rw [up_app, up_app, up_app]; split <;> rfl
      · rw [pu_off (by decide), popV_33, up_app, if_neg he, nxV_off (by decide) (by decide)]
      · rw [pu_off (by decide), popV_33, up_app, if_pos rfl]
      · rw [pu_off (by decide), popV_off (by decide), nxV_off (by decide) (by decide)]
      · simp at hc; rw [pu_off (by omega), hM, mnh_off (by omega) (by omega)]
      · rw [pu_off (by decide), hM]; exact mnh_f45 _ _ _ i hi
      · rw [pu_off (by decide), hM]; exact mnh_27 _ _ _
      · rw [pu_off (by decide), hM]; exact mnh_33 _ _ _
      · rw [pu_row, m70]; funext j; rw [up_app, up_app, up_app]; split <;> rfl
end MW
