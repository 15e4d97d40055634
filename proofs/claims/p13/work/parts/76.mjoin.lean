/-! JOIN OF THE REFERENCE -/
theorem PI_of {V V' : pvM} (h : PI V) (hf : ∀ c, c ∈ prog → V' c = V c) : PI V' := by
  unfold PI at h ⊢
  rw [hf 1 (by decide), hf 8 (by decide), hf 9 (by decide), hf 10 (by decide), hf 11 (by decide), hf 12 (by decide), hf 2 (by decide), hf 3 (by decide)]
  refine ⟨h.1, h.2.1, h.2.2.1, h.2.2.2.1, h.2.2.2.2.1, ?_, h.2.2.2.2.2.2⟩
  exact h.2.2.2.2.2.1.congr (by rw [hf 2 (by decide)]) (hf 3 (by decide)) (hf 4 (by decide)) (hf 5 (by decide)) (hf 6 (by decide)) (hf 7 (by decide))
theorem RI_of {V V' : pvM} (h : RI V) (hf : ∀ c, c ∈ prog → V' c = V c) (hg : ∀ c, c ∈ [46, 47, 48, 49, 50, 51, 52] → V' c = V c) (h1 : V' 45 1 = V 45 1) (h7 : V' 45 7 = V 45 7) : RI V' := by
  unfold RI at h ⊢
  rw [h1, h7, hf 1 (by decide), hf 8 (by decide), hf 9 (by decide), hf 10 (by decide), hf 11 (by decide), hf 12 (by decide), hf 2 (by decide), hf 3 (by decide), hf 6 (by decide), hg 46 (by decide), hg 47 (by decide), hg 48 (by decide), hg 49 (by decide), hg 50 (by decide), hg 51 (by decide), hg 52 (by decide)]
  exact h
theorem jl_le {V : pvM} {r n : Nat} {sp : Nat → Nat} (h : ∀ j : Nat, (j : Int) < c27 (V 6) (12 * r) n → sp j ≤ 200) : ∀ k : Nat, k ≤ n → jl V r sp k ≤ 200 * k
  | 0, _ => Nat.le_refl _
  | k + 1, hk => by
    have h1 := jl_le h k (by omega)
    simp only [jl]
    split
    · rename_i h27
      have hcm := c27_mono (V 6) (12 * r) (k := k + 1) (n := n) hk
      simp only [c27] at hcm
      rw [if_pos h27] at hcm
      have hcb := c27_bd (V 6) (12 * r) k
      have := h (c27 (V 6) (12 * r) k).toNat (by omega)
      omega
    · omega
section MJ
variable {N : Nat} {b : Int} {U V0 V Vr : pvM} {d f p h : Nat}
set_option maxHeartbeats 4000000 in
set_option maxRecDepth 100000 in
theorem s_mjoin26 {r s n : Nat} {M : pvM} {Q : Nat → Int → pvM → Prop} (hN : 300 ≤ N) (hP : PI V) (hX : TX V) (hH : V 35 3 ≤ 400) (hr : (r : Int) < V 2 5) (hn : V 4 r = n) (m51 : M 51 = V 3) (m52 : M 52 = V 6) (h33 : M 45 33 = s) (hs : s + n ≤ 480) (h0 : M 45 52 = 0) (h76 : ∀ t : Nat, (t : Int) < V 39 3 → M 76 t = V 41 t) (va : Nat → Int) (hv : ∀ j, j < n → vok (V 39 3) (V 35 3) (va j) ∧ M 67 (s + j) = kd (va j) ∧ M 68 (s + j) = ct (va j))
    (hk : ∀ W, WR M (jl V r (fun j => spL V (va j)) (V 3 r).toNat) W → wp (if W 45 52 ≤ 200 then q_X11_join_b124 N N 0 W else rT (pz_u W 45 28 5) 0) Q) : ∀ (fu m k : Nat) (W : pvM), k + m = (V 3 r).toNat → m + 1 ≤ fu → WR M (jl V r (fun j => spL V (va j)) k) W → wp (q_X11_join_b26 N fu r (c27 (V 6) (12 * r) k) k W) Q := by
  have h25 := hP.2.2.2.2.1
  have hhol := hP.hol hr
  have hr3 := hP.2.2.2.2.2.1.hb r (by omega)
  have h4 := (hP.2.2.2.2.2.1.2.2.2 r (by omega)).2.1
  have h39 := hX.1
  have hb : ∀ j : Nat, (j : Int) < c27 (V 6) (12 * r) (V 3 r).toNat → spL V (va j) ≤ 200 := fun j hj => spL_b hX (hv j (by omega)).1 (by omega)
  intro fu
  induction fu with
  | zero => intro m k W h1 h2; omega
  | succ fu ih =>
    intro m k W h1 h2 hW
    have hjk := jl_le hb k (by omega)
    obtain ⟨w1, w2, w3⟩ := hW
    rw [h0] at w3
    have x51 : W 51 = V 3 := by rw [w1 51 (by decide), m51]
    have x52 : W 52 = V 6 := by rw [w1 52 (by decide), m52]
    have x33 : W 45 33 = s := by rw [w2 33 (by decide), h33]
    have hcb := c27_bd (V 6) (12 * r) k
    have hcm := c27_mono (V 6) (12 * r) (k := k) (n := (V 3 r).toNat) (by omega)
    simp only [q_X11_join_b26]
    refine wp_aR (by omega) ?_
    rw [show ((r : Int)).toNat = r by omega, x51]
    refine wp_if (fun h9 => ?_) (fun h9 => ?_)
    · have hkn : k = (V 3 r).toNat := by omega
      subst hkn
      refine wp_gR (wp_lI ?_)
      have h8 := hk W ⟨w1, w2, by rw [h0]; exact w3⟩
      refine wp_if (fun h7 => ?_) (fun h7 => ?_)
      · rw [if_pos h7] at h8
        exact wp_lI h8
      · rw [if_neg h7] at h8
        exact wp_lI (wp_gW h8)
    · refine wp_lI (wp_lw (by omega) (wp_lw (by omega) (wp_aR (by omega) (wp_lI ?_))))
      rw [show (12 * (r : Int) + (k : Int)).toNat = 12 * r + k by omega, x52]
      by_cases h27 : V 6 (12 * r + k) = 27
      · rw [if_neg (by omega)]
        have hcm1 := c27_mono (V 6) (12 * r) (k := k + 1) (n := (V 3 r).toNat) (by omega)
        simp only [c27] at hcm1
        rw [if_pos h27] at hcm1
        obtain ⟨j, hj⟩ : ∃ j : Nat, c27 (V 6) (12 * r) k = j := ⟨(c27 (V 6) (12 * r) k).toNat, by omega⟩
        have hvj := hv j (by omega)
        refine wp_gR ?_
        rw [x33, hj]
        refine wp_lw (by omega) (wp_aR (by omega) (wp_gR ?_))
        rw [x33]
        refine wp_lw (by omega) (wp_aR (by omega) ?_)
        rw [show ((s : Int) + (j : Int)).toNat = s + j by omega, w1 67 (by decide), w1 68 (by decide), hvj.2.1, hvj.2.2]
        refine wp_cL (s_mwrite (N := N) (T := V 39 3) (H := V 35 3) (v := va j) (V := W) (W := V) hN hvj.1 (by omega) (by omega) (fun t ht => ⟨by rw [w1 76 (by decide)]; exact h76 t ht, (hX.2 t ht).1⟩) (by omega)) (fun _ W2 hW2 => ?_)
        refine wp_lw (by omega) ?_
        unfold q_X11_join_b99
        refine wp_lw (by omega) ?_
        have h8 := ih (m - 1) (k + 1) W2 (by omega) (by omega) (by
          have h9 := WR.trans (⟨w1, w2, by rw [h0]; exact w3⟩ : WR M _ W) hW2
          simp only [jl]
          rw [if_pos h27, hj]
          exact h9)
        simp only [c27] at h8
        rw [if_pos h27, hj] at h8
        exact h8
      · rw [if_pos h27]
        refine wp_lI (wp_lI ?_)
        refine wp_cL (s_mletter (by omega)) (fun _ W2 hW2 => ?_)
        unfold q_X11_join_b99
        refine wp_lw (by omega) ?_
        have h8 := ih (m - 1) (k + 1) W2 (by omega) (by omega) (by
          have h9 := WR.trans (⟨w1, w2, by rw [h0]; exact w3⟩ : WR M _ W) hW2
          simp only [jl]
          rw [if_neg h27]
          exact h9)
        simp only [c27] at h8
        rw [if_neg h27, Int.add_zero] at h8
        exact h8
set_option maxHeartbeats 4000000 in
set_option maxRecDepth 100000 in
theorem s_mjoin124 {s T L : Nat} {M : pvM} (hT : T < 400) (hL : L ≤ 200) (h33 : M 45 33 = s) (hs : s < 480) (h44 : M 45 44 = T) (h52 : M 45 52 = L) : ∀ (fu m k : Nat) (W : pvM), k + m = L → m + 1 ≤ fu → fr [77] M W → wz (q_X11_join_b124 N fu k W) (fun _ W' => ∃ W1, fr [77] M W1 ∧ W' = mpV (pz_u (pz_u W1 76 T L) 45 44 ((T + 1 : Nat) : Int)) s 2 T) := by
  intro fu
  induction fu with
  | zero => intro m k W h1 h2; omega
  | succ fu ih =>
    intro m k W h1 h2 hW
    have x44 : W 45 44 = T := by rw [hW 45 (by decide)]; exact h44
    have x52 : W 45 52 = L := by rw [hW 45 (by decide)]; exact h52
    have x33 : W 45 33 = s := by rw [hW 45 (by decide)]; exact h33
    simp only [q_X11_join_b124]
    refine wp_gR ?_
    rw [x52]
    refine wp_if (fun h9 => ?_) (fun h9 => ?_)
    · refine wp_gR (wp_gR ?_)
      rw [x44, x52]
      refine wp_aW (by omega) (wp_gR (wp_lI ?_))
      rw [show ((T : Int)).toNat = T by omega, pu_off (show (45 : Nat) ≠ 76 by decide), x44]
      refine wp_lw (by omega) (wp_gW (wp_lI (wp_gR (wp_lI ?_))))
      rw [pz_u_eq]
      refine wp_lw (by omega) ?_
      rw [show (T : Int) + 1 - 1 = (T : Int) by omega, show (T : Int) + 1 = ((T + 1 : Nat) : Int) by omega]
      rw [cL_eq (e_mpush (s := s) (by rw [pu_app, if_neg (by decide), pu_off (by decide)]; exact x33) (by omega))]
      exact wp_rT ⟨rfl, W, hW, rfl⟩
    · refine wp_lI (wp_gR ?_)
      rw [x44]
      refine wp_lw (by omega) (wp_lw (by omega) (wp_aR (by omega) (wp_aW (by omega) (wp_lw (by omega) ?_))))
      exact ih (m - 1) (k + 1) _ (by omega) (by omega) (hW.trans (fr_u (by simp)))
set_option maxHeartbeats 4000000 in
set_option maxRecDepth 100000 in
theorem mw_15 {V' : pvM} {r n : Nat} {at' : Int} (hN : 300 ≤ N) (hS : SP U V0) (hP : PI V) (hC : CI b V0 V (d + 1)) (hR : RR U V Vr (d + 1)) (hm : frm V d f p (h + n)) (hh : h + n ≤ 12) (hr : (r : Int) < V 2 5) (hn : V 4 r = n) (h400 : V 28 7 < 400) (hs : jnP b (takeV (nxV V d ((p + 1 : Nat) : Int)) d h n) (V 39 3).toNat d h (jl V r (fun j => spL V (V 30 (33 * d + 20 + h + j))) (V 3 r).toNat) V') : wz (mbd N at' r 15 (mnx Vr d ((p + 1 : Nat) : Int))) (fun _ Vr' => RO U V' Vr') := by
  obtain ⟨t1, t2, t3, t4, t5⟩ := RR_tops hC hR hm
  have hC' := hC
  obtain ⟨c1, c2, c3, c4, c5, c6, c7, c8, c9, c10⟩ := hC'
  have hR' := hR
  obtain ⟨a1, ⟨u1, u2, u3, u4, u5, u6, u7, u8, u9⟩, a3, a4, a5⟩ := hR'
  have h25 := hP.2.2.2.2.1
  have h39 := c6.1
  obtain ⟨T, hT⟩ : ∃ T : Nat, V 39 3 = T := ⟨(V 39 3).toNat, by omega⟩
  rw [hT, show ((T : Int)).toNat = T by omega] at hs
  have e33 : mnx Vr d ((p + 1 : Nat) : Int) 45 33 = ((bs V d + (h + n) : Nat) : Int) := by rw [mnx_45, up_app, if_neg (by decide)]; exact t2
  -- the program as the reference sees it
  have pU : ∀ c, c ∈ prog → U c = V c := fun c hc => by rw [hS.1 c hc, c1 c (pdr c hc)]
  have gU : ∀ c, c ∈ [46, 47, 48, 49, 50, 51, 52] → Vr c = U c := fun c hc => a1.1 c (by simp at hc; simp [mrs]; omega)
  have pr : ∀ c, c ∈ prog → Vr c = U c := fun c hc => a1.1 c (by simp [prog] at hc; simp [mrs]; omega)
  have hPU : PI U := PI_of hP pU
  obtain ⟨X, hX⟩ : ∃ X, X = pz_u (mnx Vr d ((p + 1 : Nat) : Int)) 45 52 0 := ⟨_, rfl⟩
  have x45 : X 45 = va_up (va_up (Vr 45) 27 (Vr 45 27 + 1)) 52 0 := by rw [hX, pu_row, mnx_45]
  have xoff : ∀ c, c ≠ 45 → c ≠ 70 → X c = Vr c := fun c b1 b2 => by rw [hX, pu_off b1, mnx_off b1 b2]
  have pX : ∀ c, c ∈ prog → X c = U c := fun c hc => by rw [xoff c (by simp [prog] at hc; omega) (by simp [prog] at hc; omega), pr c hc]
  have hPX : PI X := PI_of hPU pX
  have hIX : RI X := RI_of hS.2 pX (fun c hc => by rw [xoff c (by simp at hc; omega) (by simp at hc; omega), gU c hc]) (by rw [x45]; simp only [up_app]; rw [if_neg (by decide), if_neg (by decide)]; exact a1.2 1 (by decide)) (by rw [x45]; simp only [up_app]; rw [if_neg (by decide), if_neg (by decide)]; exact a1.2 7 (by decide))
  obtain ⟨M, hM⟩ : ∃ M, M = pz_u X 45 33 ((bs V d + h : Nat) : Int) := ⟨_, rfl⟩
  have m45 : M 45 = va_up (va_up (va_up (Vr 45) 27 (Vr 45 27 + 1)) 52 0) 33 ((bs V d + h : Nat) : Int) := by rw [hM, pu_row, x45]
  have moff : ∀ c, c ≠ 45 → c ≠ 70 → M c = Vr c := fun c b1 b2 => by rw [hM, pu_off b1, xoff c b1 b2]
  have m33 : M 45 33 = ((bs V d + h : Nat) : Int) := by rw [m45, up_app, if_pos rfl]
  have m52 : M 45 52 = 0 := by rw [m45]; simp [up_app]
  have m70 : M 70 = va_up (Vr 70) (d + 1) ((p + 1 : Nat) : Int) := by rw [hM, pu_off (by decide), hX, pu_off (by decide), mnx_70]
  have mg : f45 [27, 33, 52] Vr M := fun i hi => by simp at hi; rw [m45]; simp only [up_app]; rw [if_neg (by omega), if_neg (by omega), if_neg (by omega)]
  have m27 : M 45 27 = Vr 45 27 + 1 := by rw [m45]; simp [up_app]
  have z51 : M 51 = V 3 := by rw [moff 51 (by decide) (by decide), gU 51 (by decide), hS.2.2.2.2.2.2.2.2.1, pU 3 (by decide)]
  have z52 : M 52 = V 6 := by rw [moff 52 (by decide) (by decide), gU 52 (by decide), hS.2.2.2.2.2.2.2.2.2, pU 6 (by decide)]
  unfold mbd
  rw [if_neg (by decide), if_neg (by decide), if_neg (by decide), if_neg (by decide), if_neg (by decide), if_neg (by decide), if_neg (by decide), if_neg (by decide), if_neg (by decide), if_neg (by decide), if_neg (by decide), if_neg (by decide), if_neg (by decide), if_neg (by decide), if_neg (by decide)]
  refine wp_cL (R := fun _ Vr' => RO U V' Vr') ?_ (fun _ _ h9 => wp_rT ⟨rfl, h9⟩)
  unfold q_X11_join
  refine wp_lI (wp_gW ?_)
  rw [← hX, cL_eq (e_mholes (by omega) hPX hIX (by rw [pX 2 (by decide), pU 2 (by decide)]; omega)), show ((r : Int)).toNat = r by omega, pX 4 (by decide), pU 4 (by decide), hn]
  refine wp_gR ?_
  rw [show X 45 33 = ((bs V d + (h + n) : Nat) : Int) by rw [hX, pu_app, if_neg (by decide)]; exact e33]
  refine wp_lw (by omega) (wp_gW (wp_lI (wp_lI ?_)))
  rw [show (((bs V d + (h + n) : Nat)) : Int) - (n : Int) = ((bs V d + h : Nat) : Int) by omega, ← hM]
  have ew : Vr 45 27 + 1 = V 28 7 + 1 := by rw [u1]
  refine s_mjoin26 (N := N) (V := V) (r := r) (s := bs V d + h) (n := n) (M := M) hN hP c6 (by omega) hr hn z51 z52 m33 (by omega) m52 (fun t ht => by rw [moff 76 (by decide) (by decide)]; exact a5 t ht) (fun j => V 30 (33 * d + 20 + h + j)) (fun j hj => ?_) (fun W hW => ?_) N (V 3 r).toNat 0 M (by omega) (by have := hP.2.2.2.2.2.1.hb r (by omega); omega) (WR.refl M)
  · have h8 := t1.2.2 (h + j) (by omega)
    have h7 := hm.2.2.1 (h + j) (by omega)
    rw [show 33 * d + 20 + (h + j) = 33 * d + 20 + h + j by omega] at h7 h8
    rw [show bs V d + (h + j) = bs V d + h + j by omega] at h8
    rw [moff 67 (by decide) (by decide), moff 68 (by decide) (by decide)]
    exact ⟨h7, h8⟩
  · obtain ⟨L, hL⟩ : ∃ L, L = jl V r (fun j => spL V (V 30 (33 * d + 20 + h + j))) (V 3 r).toNat := ⟨_, rfl⟩
    rw [← hL] at hW hs
    obtain ⟨w1, w2, w3⟩ := hW
    rw [m52, Int.zero_add] at w3
    have xf : fr [45, 70, 82] Vr W := fun c hc => by simp at hc; rw [w1 c (by simp; omega), moff c (by omega) (by omega)]
    have xg : f45 [27, 33, 52] Vr W := fun i hi => by rw [w2 i (by simp at hi; simp; omega)]; exact mg i hi
    have x27 : W 45 27 = Vr 45 27 + 1 := by rw [w2 27 (by decide), m27]
    have tf : fr [28, 30, 32, 33, 34] V (takeV (nxV V d ((p + 1 : Nat) : Int)) d h n) := tk_fr
    have t28 : takeV (nxV V d ((p + 1 : Nat) : Int)) d h n 28 = va_up (V 28) 7 (V 28 7 + 1) := tk_28
    obtain ⟨A, hA⟩ : ∃ A, A = takeV (nxV V d ((p + 1 : Nat) : Int)) d h n := ⟨_, rfl⟩
    rw [← hA] at tf t28 hs
    rcases hs with ⟨s1, V1, s2, rfl⟩ | ⟨s1, s2⟩
    · rw [w3, if_pos (by omega)]
      have k9 := s_mjoin124 (N := N) (s := bs V d + h) (T := T) (L := L) (M := W) (by omega) s1 (by rw [w2 33 (by decide), m33]) (by omega) (by rw [xg 44 (by decide), u8, hT]) w3 N L 0 W (by omega) (by omega) (fr.refl _ _)
      refine wp_mono k9 (fun _ _ W' h9 => ⟨h9.1, RO_in (D' := d) ⟨by rw [pushV_off (by decide) (by decide), s2.1 29 (by decide), tf 29 (by decide)]; exact hC.2.1.1, by rw [pushV_off (by decide) (by decide), s2.1 28 (by decide), t28, up_app, if_neg (by decide)]; exact hC.2.1.2.2.2.2.1⟩ ?_⟩)
      obtain ⟨-, W1, y1, rfl⟩ := h9
      obtain ⟨j1, j2, j3, j4, j5, j6, j7, j8⟩ := s2
      obtain ⟨Y, hY⟩ : ∃ Y, Y = pz_u (pz_u W1 76 T L) 45 44 ((T + 1 : Nat) : Int) := ⟨_, rfl⟩
      rw [← hY]
      have y45 : Y 45 = va_up (W 45) 44 ((T + 1 : Nat) : Int) := by rw [hY, pu_row, pu_off (by decide), y1 45 (by decide)]
      have y76 : Y 76 = va_up (Vr 76) T L := by rw [hY, pu_off (by decide), pu_row, y1 76 (by decide), xf 76 (by decide)]
      have yoff : ∀ c, c ∉ [45, 70, 76, 77, 82] → Y c = Vr c := fun c hc => by
        simp at hc
        rw [hY, pu_off (by omega), pu_off (by omega), y1 c (by simp; omega), xf c (by simp; omega)]
      have y70 : Y 70 = va_up (Vr 70) (d + 1) ((p + 1 : Nat) : Int) := by rw [hY, pu_off (by decide), pu_off (by decide), y1 70 (by decide), w1 70 (by decide), m70]
      have r45 : ∀ i, i ∉ [27, 33, 44, 52] → mpV Y (bs V d + h) 2 T 45 i = Vr 45 i := fun i hi => by
        simp at hi
        rw [mpV_45, up_app, if_neg (by omega), y45, up_app, if_neg (by omega), xg i (by simp; omega)]
      obtain ⟨Z, hZ⟩ : ∃ Z, Z = pushV V1 d h (vO 2 T) := ⟨_, rfl⟩
      rw [← hZ]
      have vf : ∀ c, c ∉ [28, 30, 32, 33, 34, 39, 40, 41, 42, 43, 84] → Z c = V c := fun c hc => by
        simp at hc
        rw [hZ, pushV_off (by omega) (by omega), j1 c (by simp [jcs]; omega), tf c (by simp; omega)]
      have z28 : Z 28 = va_up (V 28) 7 (V 28 7 + 1) := by rw [hZ, pushV_off (by decide) (by decide), j1 28 (by decide), t28]
      have z32 : Z 32 = va_up (V 32) d ((p + 1 : Nat) : Int) := by rw [hZ, pushV_off (by decide) (by decide), j1 32 (by decide), hA, takeV_off (by decide) (by decide), nxV_32]
      have z33 : Z 33 = va_up (va_up (V 33) d ((33 * d + 20 + h : Nat) : Int)) d ((33 * d + 20 + (h + 1) : Nat) : Int) := by rw [hZ, pushV_33, j1 33 (by decide), hA, takeV_33, nxV_off (by decide) (by decide)]
      have z30 : Z 30 = va_up (V 30) (33 * d + 20 + h) (vO 2 T) := by rw [hZ, pushV_30, j1 30 (by decide), hA, takeV_off (by decide) (by decide), nxV_off (by decide) (by decide)]
      have z39 : ∀ i, i ∉ [2, 3, 5] → Z 39 i = V 39 i := fun i hi => by rw [hZ, pushV_off (by decide) (by decide), j2 i hi, tf 39 (by decide)]
      have z393 : Z 39 3 = ((T + 1 : Nat) : Int) := by rw [hZ, pushV_off (by decide) (by decide), j3]
      have z41 : Z 41 = va_up (V 41) T L := by rw [hZ, pushV_off (by decide) (by decide), j4, tf 41 (by decide)]
      have k2T := k2 (c := (T : Int)) (by unfold I32; omega)
      refine RR_top (h' := h + 1) hC hR (fun c hc => ?_) (fun i hi => r45 i (fun h9 => hi (by simp at h9; simp [rfs]; omega))) (vf 31 (by decide)) (fun e he => by rw [z32, up_app, if_neg he]) (fun e he => by rw [z33, up_app, if_neg he, up_app, if_neg he]) (fun i hi => by rw [z30, up_app, if_neg (by omega)]) (by rw [mpV_off (by decide), yoff 69 (by decide)]) (by rw [mpV_off (by decide), yoff 71 (by decide)]) (fun e he => by rw [mpV_off (by decide), y70, up_app, if_neg he]) (fun i hi => ?_) (fun i hi => ?_) ?_ ?_ (fun k hk => ?_) (fun j hj => ?_) ?_ ?_ ?_ ?_ ?_ ?_ ?_ ?_ ?_ ?_ (fun t ht => ?_)
      · rw [mpV_off ⟨fun e => hc (by simp [e, mrs]), fun e => hc (by simp [e, mrs]), fun e => hc (by simp [e, mrs])⟩]
        exact yoff c (fun h9 => hc (by simp at h9; simp [mrs]; omega))
      · rw [mpV_off (by decide), mpV_off (by decide), yoff 72 (by decide), yoff 73 (by decide)]; exact ⟨rfl, rfl⟩
      · rw [mpV_67, mpV_68, up_app, up_app, if_neg (by omega), if_neg (by omega), yoff 67 (by decide), yoff 68 (by decide)]; exact ⟨rfl, rfl⟩
      · rw [z33, up_app, if_pos rfl]
      · rw [mpV_off (by decide), y70, up_app, if_pos rfl, z32, up_app, if_pos rfl]
      · rw [mpV_off (by decide), mpV_off (by decide), yoff 72 (by decide), yoff 73 (by decide), z30, up_app, if_neg (by omega)]; exact t1.2.1 k hk
      · rw [mpV_67, mpV_68, up_app, up_app, yoff 67 (by decide), yoff 68 (by decide), z30, up_app]
        by_cases hjh : j = h
        · rw [if_pos (by omega), if_pos (by omega), if_pos (by omega), k2T.1, k2T.2]; exact ⟨rfl, rfl⟩
        · rw [if_neg (by omega), if_neg (by omega), if_neg (by omega)]; exact t1.2.2 j (by omega)
      · rw [mpV_45, up_app, if_neg (by decide), y45, up_app, if_neg (by decide), x27, z28, up_app, if_pos rfl, u1]
      · rw [r45 28 (by decide)]; exact u2
      · rw [r45 29 (by decide)]; exact u3
      · rw [r45 30 (by decide)]; exact u4
      · rw [r45 31 (by decide), z39 7 (by decide)]; exact u5
      · rw [mpV_45, up_app, if_pos rfl]; rfl
      · rw [r45 36 (by decide)]; exact t3
      · rw [mpV_45, up_app, if_neg (by decide), y45, up_app, if_pos rfl, z393]
      · rw [r45 47 (by decide), vf 35 (by decide)]; exact u9
      · exact HR_fr a4 (vf 35 (by decide)) (vf 36 (by decide)) (vf 37 (by decide)) (vf 38 (by decide)) (fun c hc => by rw [mpV_off (by simp at hc; omega)]; exact yoff c (by simp at hc; simp; omega))
      · rw [z393] at ht
        rw [mpV_off (by decide), y76, z41, up_app, up_app]
        by_cases htT : t = T
        · rw [if_pos htT, if_pos htT]
        · rw [if_neg htT, if_neg htT]; exact a5 t (by omega)
    · rw [w3, if_neg (by omega)]
      obtain ⟨g1, g2, g3, g4, g5, g6⟩ := s2
      refine wp_rT ⟨rfl, Or.inr ?_⟩
      refine RFN_flt (e := 5) hC hR ((xf.mono (by decide)).trans (fr_u (by decide))) ((xg.mono (by decide)).trans (f45_u (by decide))) ?_ (by rw [pz_u_eq]) ?_ ?_ g2 ?_ (by decide)
      · rw [pu_row, up_app, if_neg (by decide), x27, g3 7 (by decide), t28, up_app, if_pos rfl, u1]
      · rw [pu_row, up_app, if_neg (by decide), xg 29 (by decide)]
      · rw [pu_row, up_app, if_neg (by decide), xg 31 (by decide), g4, tf 39 (by decide)]; exact u5
      · rw [g3 9 (by decide), t28, up_app, if_neg (by decide)]
end MJ
