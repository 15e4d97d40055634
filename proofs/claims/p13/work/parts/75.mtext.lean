/-! SAY, FUNCTION AND JOIN OF THE REFERENCE -/
section MT
variable {N : Nat} {b : Int} {U V0 V Vr : pvM} {d f p h : Nat}
set_option maxHeartbeats 4000000 in
set_option maxRecDepth 100000 in
theorem s_msay60 {L : Nat} {o : Int} (ho : 0 ≤ o ∧ o + L ≤ 200) : ∀ (fu m k : Nat) (W : pvM), k + m = L → m + 1 ≤ fu → W 45 52 = L → W 45 31 = o → wz (q_X11_say_b60 N fu k W) (fun _ W' => fr [45, 66] W W' ∧ f45 [31] W W' ∧ W' 45 31 = o + L) := by
  intro fu
  induction fu with
  | zero => intro m k W h1 h2; omega
  | succ fu ih =>
    intro m k W h1 h2 h52 h31
    simp only [q_X11_say_b60]
    refine wp_gR ?_
    rw [h52]
    refine wp_if (fun h9 => ?_) (fun h9 => ?_)
    · refine wp_gR (wp_gR ?_)
      rw [h31, h52]
      refine wp_lw (by omega) (wp_gW (wp_rT ⟨rfl, fr_u (by simp), f45_u (by simp), by rw [pz_u_eq]⟩))
    · refine wp_gR ?_
      rw [h31]
      refine wp_lw (by omega) (wp_aR (by omega) (wp_aW (by omega) (wp_lw (by omega) ?_)))
      have hf : ∀ i x, fr [66] W (pz_u W 66 i x) := fun i x => fr_u (by simp)
      refine wp_mono (ih (m - 1) (k + 1) _ (by omega) (by omega) (by rw [hf _ _ 45 (by decide)]; exact h52) (by rw [hf _ _ 45 (by decide)]; exact h31)) (fun _ _ W9 h8 => ⟨h8.1, ((hf _ _).mono (by decide)).trans h8.2.1, (f45.of_fr (hf _ _) (by decide)).trans h8.2.2.1, h8.2.2.2⟩)
theorem TR_76 (hC : CI b V0 V (d + 1)) (hR : RR U V Vr (d + 1)) : ∀ t : Nat, (t : Int) < V 39 3 → Vr 76 t = V 41 t ∧ 0 ≤ V 41 t ∧ V 41 t ≤ 200 := fun t ht => ⟨hR.2.2.2.2 t ht, (hC.2.2.2.2.2.1.2 t ht).1⟩
set_option maxHeartbeats 4000000 in
set_option maxRecDepth 100000 in
theorem mw_12 {V' : pvM} {a at' : Int} (hN : 300 ≤ N) (hC : CI b V0 V (d + 1)) (hR : RR U V Vr (d + 1)) (hm : frm V d f p (h + 1)) (hh : h ≤ 12) (hs : syP (nxV V d ((p + 1 : Nat) : Int)) d h V') : wz (mbd N at' a 12 (mnx Vr d ((p + 1 : Nat) : Int))) (fun _ Vr' => RO U V' Vr') := by
  obtain ⟨t1, t2, t3, t4, t5⟩ := RR_tops hC hR hm
  have h8 := t1.2.2 h (by omega)
  have h76 := TR_76 hC hR
  have hC' := hC
  obtain ⟨c1, c2, c3, c4, c5, c6, c7, c8, c9, c10⟩ := hC'
  have hR' := hR
  obtain ⟨a1, ⟨u1, u2, u3, u4, u5, u6, u7, u8, u9⟩, a3, a4, a5⟩ := hR'
  have hv := hm.2.2.1 h (by omega)
  have n39 : nxV V d ((p + 1 : Nat) : Int) 39 = V 39 := nxV_off (by decide) (by decide)
  have n30 : nxV V d ((p + 1 : Nat) : Int) 30 = V 30 := nxV_off (by decide) (by decide)
  unfold syP at hs
  rw [nx_sp, n39, n30] at hs
  have hsb := spL_b c6 hv (by omega)
  have e33 : mnx Vr d ((p + 1 : Nat) : Int) 45 33 = ((bs V d + (h + 1) : Nat) : Int) := by rw [mnx_45, up_app, if_neg (by decide)]; exact t2
  obtain ⟨M, hM⟩ : ∃ M, M = pz_u (pz_u (mnx Vr d ((p + 1 : Nat) : Int)) 45 52 0) 45 33 ((bs V d + h : Nat) : Int) := ⟨_, rfl⟩
  have m45 : M 45 = va_up (va_up (va_up (Vr 45) 27 (Vr 45 27 + 1)) 52 0) 33 ((bs V d + h : Nat) : Int) := by rw [hM, pu_row, pu_row, mnx_45]
  have moff : ∀ c, c ≠ 45 → c ≠ 70 → M c = Vr c := fun c b1 b2 => by rw [hM, pu_off b1, pu_off b1, mnx_off b1 b2]
  have m33 : M 45 33 = ((bs V d + h : Nat) : Int) := by rw [m45, up_app, if_pos rfl]
  have m52 : M 45 52 = 0 := by rw [m45]; simp [up_app]
  have m70 : M 70 = va_up (Vr 70) (d + 1) ((p + 1 : Nat) : Int) := by rw [hM, pu_off (by decide), pu_off (by decide), mnx_70]
  have mg : f45 [27, 33, 52] Vr M := fun i hi => by simp at hi; rw [m45]; simp only [up_app]; rw [if_neg (by omega), if_neg (by omega), if_neg (by omega)]
  have m27 : M 45 27 = Vr 45 27 + 1 := by rw [m45]; simp [up_app]
  unfold mbd
  rw [if_neg (by decide), if_neg (by decide), if_neg (by decide), if_neg (by decide), if_neg (by decide), if_neg (by decide), if_neg (by decide), if_neg (by decide), if_neg (by decide), if_neg (by decide), if_neg (by decide), if_neg (by decide), if_pos rfl]
  refine wp_cL (R := fun _ Vr' => RO U V' Vr') ?_ (fun _ _ h9 => wp_rT ⟨rfl, h9⟩)
  unfold q_X11_say
  refine wp_lI (wp_gW (wp_gR (wp_lI ?_)))
  rw [show pz_u (mnx Vr d ((p + 1 : Nat) : Int)) 45 52 0 45 33 = ((bs V d + (h + 1) : Nat) : Int) by rw [pu_app, if_neg (by decide)]; exact e33]
  refine wp_lw (by omega) (wp_gW (wp_gR ?_))
  rw [show (((bs V d + (h + 1) : Nat)) : Int) - 1 = ((bs V d + h : Nat) : Int) by omega, ← hM, m33]
  refine wp_aR (by omega) (wp_gR ?_)
  rw [m33]
  refine wp_aR (by omega) ?_
  rw [show (((bs V d + h : Nat)) : Int).toNat = bs V d + h by omega, moff 67 (by decide) (by decide), moff 68 (by decide) (by decide), h8.1, h8.2]
  refine wp_cL (s_mwrite (N := N) (T := V 39 3) (H := V 35 3) (v := V 30 (33 * d + 20 + h)) (V := M) (W := V) hN hv (by omega) (by omega) (by rw [moff 76 (by decide) (by decide)]; exact h76) (by omega)) (fun _ M2 hM2 => ?_)
  obtain ⟨w1, w2, w3⟩ := hM2
  rw [m52] at w3
  have x31 : M2 45 31 = V 39 7 := by rw [w2 31 (by decide), mg 31 (by decide)]; exact u5
  have x52 : M2 45 52 = (spL V (V 30 (33 * d + 20 + h)) : Int) := by rw [w3]; omega
  have xf : fr [45, 70, 82] Vr M2 := fun c hc => by simp at hc; rw [w1 c (by simp; omega), moff c (by omega) (by omega)]
  have xg : f45 [27, 33, 52] Vr M2 := fun i hi => by rw [w2 i (by simp at hi; simp; omega)]; exact mg i hi
  have x27 : M2 45 27 = Vr 45 27 + 1 := by rw [w2 27 (by decide), m27]
  refine wp_gR (wp_gR ?_)
  rw [x31, x52]
  refine wp_lw (by omega) (wp_lI ?_)
  rcases hs with ⟨s1, s2, s3, s4⟩ | ⟨s1, V1, s2, s3, rfl⟩
  · rw [if_pos s1]
    refine wp_lI ?_
    have k9 := s_msay60 (N := N) (L := spL V (V 30 (33 * d + 20 + h))) (o := V 39 7) (by omega) N (spL V (V 30 (33 * d + 20 + h))) 0 M2 (by omega) (by omega) x52 x31
    refine wp_mono k9 (fun _ _ M3 h9 => ⟨h9.1, RO_in (D' := d) ⟨by rw [s3 29 (by decide), popV_off (by decide), nxV_off (by decide) (by decide)]; exact hC.2.1.1, by rw [s3 28 (by decide), pp_28, up_app, if_neg (by decide)]; exact hC.2.1.2.2.2.2.1⟩ ?_⟩)
    obtain ⟨-, y1, y2, y3⟩ := h9
    have e28 : V' 28 = va_up (V 28) 7 (V 28 7 + 1) := by rw [s3 28 (by decide), pp_28]
    have g : ∀ i, i ∉ [5, 7] → V' 39 i = V 39 i := fun i hi => by rw [s4 i hi, n39]
    have of : ∀ c, c ∉ [28, 32, 33, 39, 43, 44] → V' c = V c := fun c hc => by
      simp at hc; rw [s3 c (by simp; omega), popV_off (by omega), nxV_off (by omega) (by omega)]
    have roff : ∀ c, c ∉ [45, 66, 70, 82] → M3 c = Vr c := fun c hc => by
      simp at hc; rw [y1 c (by simp; omega), xf c (by simp; omega)]
    have r45 : ∀ i, i ∉ [27, 31, 33, 52] → M3 45 i = Vr 45 i := fun i hi => by
      simp at hi; rw [y2 i (by simp; omega), xg i (by simp; omega)]
    have r70 : M3 70 = va_up (Vr 70) (d + 1) ((p + 1 : Nat) : Int) := by rw [y1 70 (by decide), w1 70 (by decide), m70]
    refine RR_top (h' := h) hC hR (fun c hc => roff c (fun h9 => hc (by simp at h9; simp [mrs]; omega))) (fun i hi => r45 i (fun h9 => hi (by simp at h9; simp [rfs]; omega))) (of 31 (by decide)) (fun e he => ?_) (fun e he => ?_) (fun i hi => by rw [of 30 (by decide)]) (roff 69 (by decide)) (roff 71 (by decide)) (fun e he => by rw [r70, up_app, if_neg he]) (fun i hi => by rw [roff 72 (by decide), roff 73 (by decide)]; exact ⟨rfl, rfl⟩) (fun i hi => by rw [roff 67 (by decide), roff 68 (by decide)]; exact ⟨rfl, rfl⟩) ?_ ?_ (fun k hk => ?_) (fun j hj => ?_) ?_ ?_ ?_ ?_ ?_ ?_ ?_ ?_ ?_ ?_ ?_
    · rw [s3 32 (by decide), popV_off (by decide), nxV_32, up_app, if_neg he]
    · rw [s3 33 (by decide), popV_33, up_app, if_neg he, nxV_off (by decide) (by decide)]
    · rw [s3 33 (by decide), popV_33, up_app, if_pos rfl]
    · rw [r70, up_app, if_pos rfl, s3 32 (by decide), popV_off (by decide), nxV_32, up_app, if_pos rfl]
    · rw [roff 72 (by decide), roff 73 (by decide), of 30 (by decide)]; exact t1.2.1 k hk
    · rw [roff 67 (by decide), roff 68 (by decide), of 30 (by decide)]; exact t1.2.2 j (by omega)
    · rw [y2 27 (by decide), x27, e28, up_app, if_pos rfl, u1]
    · rw [r45 28 (by decide)]; exact u2
    · rw [r45 29 (by decide)]; exact u3
    · rw [r45 30 (by decide)]; exact u4
    · rw [y3, s2]
    · rw [y2 33 (by decide), w2 33 (by decide), m33]
    · rw [r45 36 (by decide)]; exact t3
    · rw [r45 44 (by decide), g 3 (by decide)]; exact u8
    · rw [r45 47 (by decide), of 35 (by decide)]; exact u9
    · exact HR_fr a4 (of 35 (by decide)) (of 36 (by decide)) (of 37 (by decide)) (of 38 (by decide)) (fun c hc => roff c (by simp at hc; simp; omega))
    · exact TR_fr a5 (g 3 (by decide)) (of 41 (by decide)) (roff 76 (by decide))
  · rw [if_neg (by omega)]
    refine wp_lI (wp_gW (wp_rT ⟨rfl, Or.inr ?_⟩))
    have e28 : V1 28 = va_up (V 28) 7 (V 28 7 + 1) := by rw [s2 28 (by decide), pp_28]
    refine RFN_flt (e := 5) hC hR ((xf.mono (by decide)).trans (fr_u (by decide))) ((xg.mono (by decide)).trans (f45_u (by decide))) ?_ (by rw [pz_u_eq]) ?_ ?_ (by rw [pz_u_eq]) ?_ (by decide)
    · rw [pu_row, up_app, if_neg (by decide), x27, pu_row, up_app, if_neg (by decide), e28, up_app, if_pos rfl, u1]
    · rw [pu_row, up_app, if_neg (by decide), xg 29 (by decide)]
    · rw [pu_row, up_app, if_neg (by decide), x31, pu_off (by decide), s3 7 (by decide), n39]
    · rw [pu_row, up_app, if_neg (by decide), e28, up_app, if_neg (by decide)]
/-! close -/
def mcV (W : pvM) (s n C : Nat) : pvM := va_up (va_up W 80 (fun j => if 3 * C ≤ j ∧ j < 3 * C + n then W 67 (s + (j - 3 * C)) else W 80 j)) 81 (fun j => if 3 * C ≤ j ∧ j < 3 * C + n then W 68 (s + (j - 3 * C)) else W 81 j)
theorem mcV_off {W : pvM} {s n C c : Nat} (h0 : c ≠ 80) (h1 : c ≠ 81) : mcV W s n C c = W c := by unfold mcV; rw [up_app, if_neg h1, up_app, if_neg h0]
theorem mcV_0 (W : pvM) (s C : Nat) : mcV W s 0 C = W := by
  unfold mcV
  funext e j
  simp only [up_app]
  by_cases h75 : e = 81
  · subst h75; rw [if_pos rfl, if_neg (by omega)]
  · rw [if_neg h75]
    by_cases h74 : e = 80
    · subst h74; rw [if_pos rfl, if_neg (by omega)]
    · rw [if_neg h74]
set_option maxHeartbeats 4000000 in
set_option maxRecDepth 100000 in
theorem s_mclose {s n C g : Nat} {W : pvM} {Q : Nat → Int → pvM → Prop} (hn : n ≤ 3) (hs : s + n ≤ 480) (hC : C < 400) (h33 : W 45 33 = s) (h47 : W 45 47 = C) (hk : wp (rT (mpV (pz_u (pz_u (pz_u (mcV W s n C) 78 C g) 79 C n) 45 47 ((C + 1 : Nat) : Int)) s 3 C) 0) Q) : ∀ (fu m k : Nat) (X : pvM), k + m = n → m + 1 ≤ fu → X = mcV W s k C → wp (q_X11_close_b12 N fu g n k X) Q := by
  intro fu
  induction fu with
  | zero => intro m k X h1 h2; omega
  | succ fu ih =>
    intro m k X h1 h2 hX
    have xoff : ∀ e, e ≠ 80 → e ≠ 81 → X e = W e := fun e a1 a2 => by rw [hX, mcV_off a1 a2]
    have x33 : X 45 33 = s := by rw [xoff 45 (by decide) (by decide)]; exact h33
    have x47 : X 45 47 = C := by rw [xoff 45 (by decide) (by decide)]; exact h47
    simp only [q_X11_close_b12]
    refine wp_if (fun h9 => ?_) (fun h9 => ?_)
    · have hk9 : k = n := by omega
      subst hk9
      refine wp_gR ?_
      rw [x47]
      refine wp_aW (by omega) (wp_gR ?_)
      rw [show ((C : Int)).toNat = C by omega, pu_off (show (45 : Nat) ≠ 78 by decide), x47]
      refine wp_aW (by omega) (wp_gR (wp_lI ?_))
      rw [show ((C : Int)).toNat = C by omega, pu_off (show (45 : Nat) ≠ 79 by decide), pu_off (show (45 : Nat) ≠ 78 by decide), x47]
      refine wp_lw (by omega) (wp_gW (wp_lI (wp_gR (wp_lI ?_))))
      rw [pz_u_eq]
      refine wp_lw (by omega) ?_
      rw [show (C : Int) + 1 - 1 = (C : Int) by omega, show (C : Int) + 1 = ((C + 1 : Nat) : Int) by omega]
      rw [cL_eq (e_mpush (s := s) (by rw [pu_app, if_neg (by decide), pu_off (by decide), pu_off (by decide)]; exact x33) (by omega)), hX]
      exact hk
    · refine wp_lI (wp_gR ?_)
      rw [x47]
      refine wp_lw (by omega) (wp_lw (by omega) (wp_gR ?_))
      rw [x33]
      refine wp_lw (by omega) (wp_aR (by omega) (wp_aW (by omega) (wp_lI (wp_gR ?_))))
      rw [pu_off (show (45 : Nat) ≠ 80 by decide), x47]
      refine wp_lw (by omega) (wp_lw (by omega) (wp_gR ?_))
      rw [pu_off (show (45 : Nat) ≠ 80 by decide), x33]
      refine wp_lw (by omega) (wp_aR (by omega) (wp_aW (by omega) (wp_lw (by omega) ?_)))
      rw [show ((s : Int) + (k : Int)).toNat = s + k by omega, show (3 * (C : Int) + (k : Int)).toNat = 3 * C + k by omega, pu_off (show (68 : Nat) ≠ 80 by decide), xoff 67 (by decide) (by decide), xoff 68 (by decide) (by decide)]
      refine ih (m - 1) (k + 1) _ (by omega) (by omega) ?_
      rw [hX]
      unfold mcV
      funext e j
      simp only [pu_app, up_app]
      by_cases h75 : e = 81
      · subst h75
        by_cases hj : j = 3 * C + k
        · simp [hj]
        · have : (3 * C ≤ j ∧ j < 3 * C + (k + 1)) ↔ (3 * C ≤ j ∧ j < 3 * C + k) := by omega
          simp [hj, this]
      · by_cases h74 : e = 80
        · subst h74
          by_cases hj : j = 3 * C + k
          · simp [hj]
          · have : (3 * C ≤ j ∧ j < 3 * C + (k + 1)) ↔ (3 * C ≤ j ∧ j < 3 * C + k) := by omega
            simp [hj, this]
        · simp [h74, h75]
set_option maxHeartbeats 4000000 in
set_option maxRecDepth 100000 in
theorem mw_13 {n g : Nat} (hN : 50 ≤ N) (hS : SP U V0) (hC : CI b V0 V (d + 1)) (hR : RR U V Vr (d + 1)) (hm : frm V d f p (h + n)) (hh : h + n ≤ 12) (hf : f < 12) (hp : p < 40) (hn3 : n ≤ 3) (hcb : cB V f p = n) (h400 : V 28 7 < 400) : wz (mbd N (40 * (f : Int) + p) g 13 (mnx Vr d ((p + 1 : Nat) : Int))) (fun _ Vr' => RO U (fnW (nxV V d ((p + 1 : Nat) : Int)) d h n (V 35 3).toNat g) Vr') := by
  obtain ⟨t1, t2, t3, t4, t5⟩ := RR_tops hC hR hm
  have hC' := hC
  obtain ⟨c1, c2, c3, c4, c5, c6, c7, c8, c9, c10⟩ := hC'
  have hR' := hR
  obtain ⟨a1, ⟨u1, u2, u3, u4, u5, u6, u7, u8, u9⟩, a3, a4, a5⟩ := hR'
  have h50 := (SP_at hS hC.1 hR.1.1 f p).2.2.1
  obtain ⟨H, hH⟩ : ∃ H : Nat, V 35 3 = H := ⟨(V 35 3).toNat, by have := c5.1; omega⟩
  rw [hH, show ((H : Int)).toNat = H by omega]
  obtain ⟨W, hW, w1, w28, w32, w33, w33d, w30, w35, w36, w37, w38⟩ := fn_rows (V := V) (d := d) (h := h) (n := n) (H := H) (ty := (g : Int)) (q := ((p + 1 : Nat) : Int))
  rw [← hW]
  have e33 : mnx Vr d ((p + 1 : Nat) : Int) 45 33 = ((bs V d + (h + n) : Nat) : Int) := by rw [mnx_45, up_app, if_neg (by decide)]; exact t2
  obtain ⟨M, hM⟩ : ∃ M, M = mnh Vr d (p + 1) (bs V d + h) := ⟨_, rfl⟩
  have m47 : M 45 47 = H := by rw [hM, mnh_45, up_app, if_neg (by decide), up_app, if_neg (by decide), u9, hH]
  have m33 : M 45 33 = ((bs V d + h : Nat) : Int) := by rw [hM, mnh_33]
  unfold mbd
  rw [if_neg (by decide), if_neg (by decide), if_neg (by decide), if_neg (by decide), if_neg (by decide), if_neg (by decide), if_neg (by decide), if_neg (by decide), if_neg (by decide), if_neg (by decide), if_neg (by decide), if_neg (by decide), if_neg (by decide), if_pos rfl]
  refine wp_aR (by omega) ?_
  rw [show (40 * (f : Int) + (p : Int)).toNat = 40 * f + p by omega, mnx_off (show (50 : Nat) ≠ 45 by decide) (by decide), h50, hcb]
  refine wp_cL (R := fun _ Vr' => RO U W Vr') ?_ (fun _ _ h9 => wp_rT ⟨rfl, h9⟩)
  unfold q_X11_close
  refine wp_gR ?_
  rw [e33]
  refine wp_lw (by omega) (wp_gW (wp_lI ?_))
  rw [show (((bs V d + (h + n) : Nat)) : Int) - (n : Int) = ((bs V d + h : Nat) : Int) by omega, show pz_u (mnx Vr d ((p + 1 : Nat) : Int)) 45 33 ((bs V d + h : Nat) : Int) = mnh Vr d (p + 1) (bs V d + h) from rfl, ← hM]
  refine s_mclose (N := N) (s := bs V d + h) (n := n) (C := H) (g := g) (W := M) hn3 (by omega) (by omega) m33 m47 ?_ N n 0 M (by omega) (by omega) (mcV_0 _ _ _).symm
  refine wp_rT ⟨rfl, RO_in (D' := d) ⟨by rw [w1 29 (by decide)]; exact hC.2.1.1, by rw [w28, up_app, if_neg (by decide)]; exact hC.2.1.2.2.2.2.1⟩ ?_⟩
  obtain ⟨X, hX⟩ : ∃ X, X = pz_u (pz_u (pz_u (mcV M (bs V d + h) n H) 78 H g) 79 H n) 45 47 ((H + 1 : Nat) : Int) := ⟨_, rfl⟩
  rw [← hX]
  have x45 : X 45 = va_up (M 45) 47 ((H + 1 : Nat) : Int) := by rw [hX, pu_row, pu_off (by decide), pu_off (by decide), mcV_off (by decide) (by decide)]
  have xoff : ∀ c, c ∉ [45, 70, 78, 79, 80, 81] → X c = Vr c := fun c hc => by
    simp at hc
    rw [hX, pu_off (by omega), pu_off (by omega), pu_off (by omega), mcV_off (by omega) (by omega), hM, mnh_off (by omega) (by omega)]
  have x70 : X 70 = va_up (Vr 70) (d + 1) ((p + 1 : Nat) : Int) := by rw [hX, pu_off (by decide), pu_off (by decide), pu_off (by decide), mcV_off (by decide) (by decide), hM, mnh_70]
  have x78 : X 78 = va_up (Vr 78) H g := by rw [hX, pu_off (by decide), pu_off (by decide), pu_row, mcV_off (by decide) (by decide), hM, mnh_off (by decide) (by decide)]
  have x79 : X 79 = va_up (Vr 79) H n := by rw [hX, pu_off (by decide), pu_row, pu_off (by decide), mcV_off (by decide) (by decide), hM, mnh_off (by decide) (by decide)]
  have x80 : X 80 = fun j => if 3 * H ≤ j ∧ j < 3 * H + n then Vr 67 (bs V d + h + (j - 3 * H)) else Vr 80 j := by
    rw [hX, pu_off (by decide), pu_off (by decide), pu_off (by decide)]
    unfold mcV
    rw [up_app, if_neg (by decide), up_app, if_pos rfl, hM, mnh_off (by decide) (by decide), mnh_off (by decide) (by decide)]
  have x81 : X 81 = fun j => if 3 * H ≤ j ∧ j < 3 * H + n then Vr 68 (bs V d + h + (j - 3 * H)) else Vr 81 j := by
    rw [hX, pu_off (by decide), pu_off (by decide), pu_off (by decide)]
    unfold mcV
    rw [up_app, if_pos rfl, hM, mnh_off (by decide) (by decide), mnh_off (by decide) (by decide)]
  have y45 : ∀ i, i ∉ [27, 33, 47] → mpV X (bs V d + h) 3 H 45 i = Vr 45 i := fun i hi => by
    simp at hi
    rw [mpV_45, up_app, if_neg (by omega), x45, up_app, if_neg (by omega), hM, mnh_45, up_app, if_neg (by omega), up_app, if_neg (by omega)]
  have k3H := k3 (c := (H : Int)) (by unfold I32; omega)
  have e39 := w1 39 (by decide)
  have e353 : W 35 3 = ((H + 1 : Nat) : Int) := by rw [w35, up_app, if_pos rfl]
  refine RR_top (h' := h + 1) hC hR (fun c hc => ?_) (fun i hi => y45 i (fun h9 => hi (by simp at h9; simp [rfs]; omega))) (w1 31 (by decide)) (fun e he => by rw [w32, up_app, if_neg he]) w33 (fun i hi => by rw [w30, up_app, if_neg (by omega)]) (by rw [mpV_off (by decide), xoff 69 (by decide)]) (by rw [mpV_off (by decide), xoff 71 (by decide)]) (fun e he => by rw [mpV_off (by decide), x70, up_app, if_neg he]) (fun i hi => ?_) (fun i hi => ?_) w33d ?_ (fun k hk => ?_) (fun j hj => ?_) ?_ ?_ ?_ ?_ ?_ ?_ ?_ ?_ ?_ (fun c hc => ?_) ?_
  · rw [mpV_off ⟨fun e => hc (by simp [e, mrs]), fun e => hc (by simp [e, mrs]), fun e => hc (by simp [e, mrs])⟩]
    exact xoff c (fun h9 => hc (by simp at h9; simp [mrs]; omega))
  · rw [mpV_off (by decide), mpV_off (by decide), xoff 72 (by decide), xoff 73 (by decide)]; exact ⟨rfl, rfl⟩
  · rw [mpV_67, mpV_68, up_app, up_app, if_neg (by omega), if_neg (by omega), xoff 67 (by decide), xoff 68 (by decide)]; exact ⟨rfl, rfl⟩
  · rw [mpV_off (by decide), x70, up_app, if_pos rfl, w32, up_app, if_pos rfl]
  · rw [mpV_off (by decide), mpV_off (by decide), xoff 72 (by decide), xoff 73 (by decide), w30, up_app, if_neg (by omega)]; exact t1.2.1 k hk
  · rw [mpV_67, mpV_68, up_app, up_app, xoff 67 (by decide), xoff 68 (by decide), w30, up_app]
    by_cases hjh : j = h
    · rw [if_pos (by omega), if_pos (by omega), if_pos (by omega), k3H.1, k3H.2]; exact ⟨rfl, rfl⟩
    · rw [if_neg (by omega), if_neg (by omega), if_neg (by omega)]; exact t1.2.2 j (by omega)
  · rw [mpV_45, up_app, if_neg (by decide), x45, up_app, if_neg (by decide), hM, mnh_27, w28, up_app, if_pos rfl, u1]
  · rw [y45 28 (by decide)]; exact u2
  · rw [y45 29 (by decide)]; exact u3
  · rw [y45 30 (by decide)]; exact u4
  · rw [y45 31 (by decide), e39]; exact u5
  · rw [mpV_45, up_app, if_pos rfl]; rfl
  · rw [y45 36 (by decide)]; exact t3
  · rw [y45 44 (by decide), e39]; exact u8
  · rw [mpV_45, up_app, if_neg (by decide), x45, up_app, if_pos rfl, e353]
  · rw [e353] at hc
    rw [mpV_off (by decide), mpV_off (by decide), mpV_off (by decide), mpV_off (by decide), x78, x79, x80, x81, w36, w37, w38, up_app, up_app, up_app, up_app]
    by_cases hcH : c = H
    · subst hcH
      rw [if_pos rfl, if_pos rfl, if_pos rfl, if_pos rfl]
      refine ⟨rfl, rfl, fun k hk => ?_⟩
      dsimp only
      have hin : 3 * c ≤ 3 * c + k ∧ 3 * c + k < 3 * c + n := by omega
      rw [if_pos hin, if_pos hin, if_pos hin]
      have h9 := t1.2.2 (h + k) (by omega)
      rw [show bs V d + (h + k) = bs V d + h + (3 * c + k - 3 * c) by omega, show 33 * d + 20 + (h + k) = 33 * d + 20 + h + (3 * c + k - 3 * c) by omega] at h9
      exact h9
    · rw [if_neg hcH, if_neg hcH, if_neg hcH, if_neg hcH]
      obtain ⟨o1, o2, o3⟩ := a4 c (by omega)
      refine ⟨o1, o2, fun k hk => ?_⟩
      have hk3 := (c5.2 c (by omega)).2.1
      dsimp only
      have hni : ¬ (3 * H ≤ 3 * c + k ∧ 3 * c + k < 3 * H + n) := by omega
      rw [if_neg hni, if_neg hni, if_neg hni]
      exact o3 k hk
  · exact TR_fr a5 (by rw [e39]) (w1 41 (by decide)) (by rw [mpV_off (by decide), xoff 76 (by decide)])
end MT
