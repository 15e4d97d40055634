/-! WORDS OF THE FIRST CODE -/
def svV (V : pvM) (H n : Nat) (W : pvM) : pvM := va_up V 38 (fun j => if 3 * H ≤ j ∧ j < 3 * H + n then W 34 (j - 3 * H) else V 38 j)
def fnW (V : pvM) (d h n H : Nat) (ty : Int) : pvM := pushV (svV (addV (takeV V d h n) H ty n) H n (takeV V d h n)) d h (vO 3 H)
theorem addV_off {V : pvM} {H n c : Nat} {ty : Int} (h : c ≠ 35 ∧ c ≠ 36 ∧ c ≠ 37 ∧ c ≠ 38) : addV V H ty n c = V c := by
  obtain ⟨a, b, c1, e⟩ := h
  unfold addV
  rw [up_app, if_neg e, pu_off c1, pu_off b, pu_off a]
set_option maxHeartbeats 4000000 in
set_option maxRecDepth 100000 in
theorem s_first_b28 {N d h n H : Nat} {W : pvM} (hH : H < 400) (hn : n ≤ 3) (ht : tp W d h) (hh : h < 13) : ∀ (fu m k : Nat) (V : pvM), k + m = n → m + 1 ≤ fu → V = svV W H k W → q_X4_doFirst_b28 N fu n (vO 3 H) k V = some (0, 0, pushV (svV W H n W) d h (vO 3 H)) := by
  intro fu
  induction fu with
  | zero => intro m k V h1 h2; omega
  | succ fu ih =>
    intro m k V h1 h2 hV
    have hoff : ∀ c, c ≠ 38 → V c = W c := fun c hc => by rw [hV]; unfold svV; rw [up_app, if_neg hc]
    refine wz_to ?_
    simp only [q_X4_doFirst_b28]
    refine wp_if (fun h9 => ?_) (fun h9 => ?_)
    · have hk : k = n := by omega
      subst hk
      rw [cL_eq (e_push (d := d) (h := h) (tp_off ht (by rw [hoff 29 (by decide)]) (by rw [hoff 33 (by decide)])) hh), hV]
      exact wp_rT ⟨rfl, rfl, rfl⟩
    · rw [cL_eq e_contentOf, (k3 (c := (H : Int)) (by unfold I32; omega)).2, cL_eq (e_takenAt (by omega)), hoff 34 (by decide), cL_eq (e_setValue hH (by omega))]
      refine wp_lw (by omega) ?_
      have k9 := ih (m - 1) (k + 1) (pz_u V 38 (3 * H + k) (W 34 k)) (by omega) (by omega) (by
        rw [hV]
        unfold svV
        funext c j
        rw [pu_app, up_app, up_app]
        by_cases hc : c = 38
        · subst hc
          by_cases hj : j = 3 * H + k
          · rw [if_pos ⟨rfl, hj⟩, if_pos rfl, if_pos (by omega), show j - 3 * H = k by omega]
          · rw [if_neg (by omega), if_pos rfl, if_pos rfl]
            by_cases h8 : 3 * H ≤ j ∧ j < 3 * H + k
            · rw [if_pos h8, if_pos (by omega)]
            · rw [if_neg h8, if_neg (by omega)]
        · rw [if_neg (by omega), if_neg hc, if_neg hc])
      rw [show (((k + 1 : Nat)) : Int) = (k : Int) + 1 by omega] at k9
      rw [k9]
      exact ⟨0, _, _, rfl, rfl, rfl, rfl⟩
theorem svV_0 (V : pvM) (H : Nat) (W : pvM) : svV V H 0 W = V := by
  unfold svV
  funext c j
  rw [up_app]
  by_cases hc : c = 38
  · subst hc; rw [if_pos rfl, if_neg (by omega)]
  · rw [if_neg hc]
set_option maxHeartbeats 4000000 in
set_option maxRecDepth 100000 in
theorem e_fi13 {N d h n H : Nat} {f : Int} {V : pvM} (hN : 50 ≤ N) (ht : tp V d (h + n)) (hn : n ≤ 3) (hh : h < 13) (hH : H < 400) (h3 : V 35 3 = H) : q_X4_doFirst N 13 f n V = some (0, 0, fnW V d h n H f) := wz_to (by
  unfold q_X4_doFirst fnW
  refine wp_lI ?_
  have e35 : takeV V d h n 35 = V 35 := takeV_off (by decide) (by decide)
  rw [if_neg (by decide), cL_eq (e_take hN (by omega) ht), cL_eq (e_hadd hN hH hn (by rw [e35]; exact h3))]
  refine wp_lI ?_
  have ht2 := tp_take (n := n) ht
  have k9 := s_first_b28 (N := N) (d := d) (h := h) (n := n) (H := H) (W := addV (takeV V d h n) H f n) hH hn (tp_off ht2 (by rw [addV_off (by decide)]) (by rw [addV_off (by decide)])) hh N n 0 _ (by omega) (by omega) (svV_0 _ _ _).symm
  refine ⟨0, 0, _, k9, rfl, rfl, ?_⟩
  congr 1)
/-! apply -/
/-- a function is begun with own values of holder c and n that were taken -/
def apW (W : pvM) (D own n c : Nat) (f : Int) : pvM := slV (va_up (bfV W D f) 30 (fun j => if 33 * D ≤ j ∧ j < 33 * D + own then W 38 (3 * c + (j - 33 * D)) else bfV W D f 30 j)) D own n
def apV (V : pvM) (D d h n : Nat) : pvM :=
  if kd (V 30 (33 * d + 20 + h)) = 3 then
    (if V 37 (ct (V 30 (33 * d + 20 + h))).toNat + n = V 8 (V 36 (ct (V 30 (33 * d + 20 + h))).toNat).toNat then
      (if V 28 6 = 30 then pz_u (popV (takeV V d (h + 1) n) d h) 28 8 3 else apW (popV (takeV V d (h + 1) n) d h) D (V 37 (ct (V 30 (33 * d + 20 + h))).toNat).toNat n (ct (V 30 (33 * d + 20 + h))).toNat (V 36 (ct (V 30 (33 * d + 20 + h))).toNat))
     else pz_u (popV (takeV V d (h + 1) n) d h) 28 8 2)
  else pz_u (popV (takeV V d (h + 1) n) d h) 28 8 1
set_option maxHeartbeats 4000000 in
set_option maxRecDepth 100000 in
theorem s_apply_b92 {N D own n c : Nat} {f : Int} {W : pvM} (hN : 50 ≤ N) (hD : D < 60) (hown : own ≤ 3) (hn : n ≤ 3) (hc : c < 400) : ∀ (fu m k : Nat) (V : pvM), k + m = own → m + 1 ≤ fu → V = va_up (bfV W D f) 30 (fun j => if 33 * D ≤ j ∧ j < 33 * D + k then W 38 (3 * c + (j - 33 * D)) else bfV W D f 30 j) → q_X4_applyTo_b92 N fu n c own k V = some (0, 0, apW W D own n c f) := by
  intro fu
  induction fu with
  | zero => intro m k V h1 h2; omega
  | succ fu ih =>
    intro m k V h1 h2 hV
    have hoff : ∀ c, c ≠ 30 → V c = bfV W D f c := fun c hc => by rw [hV]; rw [up_app, if_neg hc]
    have e29 : V 29 6 = D := by rw [hoff 29 (by decide)]; exact (tp_open hD).1
    have e38 : V 38 = W 38 := by rw [hoff 38 (by decide)]; unfold bfV; rw [openV_off (by decide), pu_off (by decide)]
    refine wz_to ?_
    simp only [q_X4_applyTo_b92]
    refine wp_if (fun h9 => ?_) (fun h9 => ?_)
    · have hk : k = own := by omega
      subst hk
      rw [cL_eq (e_slt hN e29 hD (by omega) (by omega)), hV]
      exact wp_rT ⟨rfl, rfl, rfl⟩
    · rw [cL_eq (e_valueAt hc (by omega)), cL_eq (e_setLocal e29 hD (by omega)), e38]
      refine wp_lw (by omega) ?_
      have k9 := ih (m - 1) (k + 1) (pz_u V 30 (33 * D + k) (W 38 (3 * c + k))) (by omega) (by omega) (by
        rw [hV]
        funext e j
        rw [pu_app, up_app, up_app]
        by_cases hc : e = 30
        · subst hc
          by_cases hj : j = 33 * D + k
          · rw [if_pos ⟨rfl, hj⟩, if_pos rfl, if_pos (by omega), show j - 33 * D = k by omega]
          · rw [if_neg (by omega), if_pos rfl, if_pos rfl]
            by_cases h8 : 33 * D ≤ j ∧ j < 33 * D + k
            · rw [if_pos h8, if_pos (by omega)]
            · rw [if_neg h8, if_neg (by omega)]
        · rw [if_neg (by omega), if_neg hc, if_neg hc])
      rw [show (((k + 1 : Nat)) : Int) = (k : Int) + 1 by omega] at k9
      rw [k9]
      exact ⟨0, _, _, rfl, rfl, rfl, rfl⟩
theorem popV_off {V : pvM} {d h c : Nat} (hc : c ≠ 33) : popV V d h c = V c := by unfold popV; rw [pu_off hc]
set_option maxHeartbeats 4000000 in
set_option maxRecDepth 100000 in
theorem e_fi14 {N D d h n : Nat} {T H : Int} {V : pvM} (hN : 50 ≤ N) (ht : tp V d (h + 1 + n)) (hn : n ≤ 3) (hD : D < 60) (h5 : V 29 5 = D) (h6 : 0 ≤ V 28 6 ∧ V 28 6 ≤ 30) (hv : vok T H (V 30 (33 * d + 20 + h))) (hT : T ≤ 400) (hH : H ≤ 400) (hho : ∀ c : Nat, (c : Int) < H → (0 ≤ V 36 c ∧ V 36 c < 12) ∧ 0 ≤ V 37 c ∧ V 37 c ≤ 3) : q_X4_applyTo N n V = some (0, 0, apV V D d h n) := wz_to (by
  have ht2 := tp_take (h := h + 1) (n := n) ht
  have hoff : ∀ c, c ≠ 33 → c ≠ 34 → popV (takeV V d (h + 1) n) d h c = V c := fun c h3 h4 => by rw [popV_off h3, takeV_off h3 h4]
  have e30 : takeV V d (h + 1) n 30 = V 30 := takeV_off (by decide) (by decide)
  unfold q_X4_applyTo apV
  rw [cL_eq (e_take (h := h + 1) hN (by omega) ht), cL_eq (e_pop ht2), e30, cL_eq e_kindOf]
  refine wp_lI ?_
  refine wp_if (fun h3 => ?_) (fun h3 => ?_)
  · rw [if_pos h3, cL_eq e_contentOf]
    rcases vok_cases hv (by omega) (by omega) with hc | hc | hc
    · omega
    · omega
    · obtain ⟨c, hce⟩ : ∃ c : Nat, ct (V 30 (33 * d + 20 + h)) = c := ⟨(ct (V 30 (33 * d + 20 + h))).toNat, by omega⟩
      rw [hce, show ((c : Int)).toNat = c by omega]
      obtain ⟨q1, q2⟩ := hho c (by omega)
      rw [cL_eq (e_typeOf (by omega)), cL_eq (e_sizeOf (by omega)), hoff 36 (by decide) (by decide), hoff 37 (by decide) (by decide)]
      refine wp_lw (by omega) ?_
      rw [cL_eq (e_parametersOf (by omega)), hoff 8 (by decide) (by decide)]
      refine wp_if (fun h4 => ?_) (fun h4 => ?_)
      · rw [if_pos h4]
        by_cases h30 : V 28 6 = 30
        · rw [if_pos h30, cL_eq (e_beginF (by rw [hoff 28 (by decide) (by decide)]; exact h30)), if_pos rfl]
          exact wp_rT ⟨rfl, rfl, rfl⟩
        · rw [if_neg h30, cL_eq (e_beginT hN hD (by rw [hoff 29 (by decide) (by decide)]; exact h5) (by rw [hoff 28 (by decide) (by decide)]; omega)), if_neg (by decide)]
          refine wp_lI ?_
          have k9 := s_apply_b92 (N := N) (D := D) (own := (V 37 c).toNat) (n := n) (c := c) (f := V 36 c) (W := popV (takeV V d (h + 1) n) d h) hN hD (by omega) hn (by omega) N (V 37 c).toNat 0 (bfV (popV (takeV V d (h + 1) n) d h) D (V 36 c)) (by omega) (by omega) (by
            funext e j
            rw [up_app]
            by_cases hc : e = 30
            · subst hc; rw [if_pos rfl, if_neg (by omega)]
            · rw [if_neg hc])
          rw [show (((V 37 c).toNat : Nat) : Int) = V 37 c by omega] at k9
          exact ⟨0, 0, _, k9, rfl, rfl, rfl⟩
      · rw [if_neg h4]
        exact wp_lI (wp_gW (wp_rT ⟨rfl, rfl, rfl⟩))
  · rw [if_neg h3]
    exact wp_lI (wp_gW (wp_rT ⟨rfl, rfl, rfl⟩)))
/-! join -/
def jl (V : pvM) (r : Nat) (sp : Nat → Nat) : Nat → Nat
  | 0 => 0
  | k + 1 => jl V r sp k + (if V 6 (12 * r + k) = 27 then sp (c27 (V 6) (12 * r) k).toNat else 1)
theorem jl_mono {V : pvM} {r : Nat} {sp : Nat → Nat} {k n : Nat} (h : k ≤ n) : jl V r sp k ≤ jl V r sp n := by
  induction h with
  | refl => exact Nat.le_refl _
  | step _ ih => exact Nat.le_trans ih (Nat.le_add_right _ _)
def jcs : List Nat := [39, 40, 41, 42, 43, 84]
/-- text T has n characters now; it was begun in V0 -/
def JI (b : Int) (V0 V : pvM) (T n : Nat) : Prop := fr jcs V0 V ∧ f39 [2, 3, 5] V0 V ∧ V 39 3 = ((T + 1 : Nat) : Int) ∧ V 41 = va_up (V0 41) T (n : Int) ∧ V 40 = va_up (V0 40) T (if T = 0 then 0 else V0 40 (T - 1) + V0 41 (T - 1)) ∧ TX V ∧ KS V ∧ BG b V
theorem JI_begin {b : Int} {V : pvM} {T : Nat} (hT : T < 400) (h3 : V 39 3 = T) (hX : TX V) (hK : KS V) (hB : BG b V) : JI b V (beginV V T) T 0 := by
  have e39 : beginV V T 39 = va_up (V 39) 3 ((T + 1 : Nat) : Int) := by unfold beginV; rw [pu_row, pu_off (by decide), pu_off (by decide)]
  have e41 : beginV V T 41 = va_up (V 41) T 0 := by unfold beginV; rw [pu_off (by decide), pu_row, pu_off (by decide)]
  have e40 : beginV V T 40 = va_up (V 40) T (if T = 0 then 0 else V 40 (T - 1) + V 41 (T - 1)) := by unfold beginV; rw [pu_off (by decide), pu_off (by decide), pu_row]
  have hf : fr [39, 40, 41] V (beginV V T) := by unfold beginV; exact ((fr_u (by simp)).trans (fr_u (by simp))).trans (fr_u (by simp))
  refine ⟨hf.mono (by decide), ?_, ?_, e41, e40, ?_, ?_, ?_⟩
  · intro i hi
    rw [e39, up_app, if_neg (fun e => hi (by simp [e]))]
  · rw [e39, up_app, if_pos rfl]
  · unfold TX
    rw [e39, e40, e41, up_app, if_pos rfl]
    refine ⟨by omega, fun t ht => ?_⟩
    rw [up_app, up_app, up_app, if_neg (show ¬ (2 : Nat) = 3 by decide)]
    by_cases htT : t = T
    · subst htT
      rw [if_pos rfl, if_pos rfl]
      have hkp := hK.kp
      unfold KP at hkp
      by_cases h0 : t = 0
      · rw [if_pos h0]; omega
      · rw [if_neg h0]
        have := hX.2 (t - 1) (by omega)
        omega
    · rw [if_neg htT, if_neg htT]
      exact hX.2 t (by omega)
  · unfold KS at hK ⊢
    rw [e39, up_app, if_neg (by decide)]; exact hK
  · unfold BG at hB ⊢
    rw [hf 84 (by decide), hf 17 (by decide), e39, up_app, if_neg (by decide)]; exact hB
theorem JI.app {b : Int} {V0 V V' : pvM} {T n m : Nat} (h : JI b V0 V T n) (ha : n + m ≤ 200) (e41 : V' 41 = va_up (V 41) T (V 41 T + m)) (hf : fr [39, 41, 42, 43, 84] V V') (hg : f39 [2, 5] V V') (h2 : V 39 2 ≤ V' 39 2) (h3 : V 40 T + V 41 T + m ≤ V' 39 2) (hK : KS V') (hB : BG b V') : JI b V0 V' T (n + m) := by
  obtain ⟨a1, a2, a3, a4, a5, a6, a7, a8⟩ := h
  have eT : V 41 T = n := by rw [a4, up_app, if_pos rfl]
  refine ⟨a1.trans (hf.mono (by decide)), a2.trans (hg.mono (by decide)), by rw [hg 3 (by decide)]; exact a3, ?_, by rw [hf 40 (by decide)]; exact a5, ?_, hK, hB⟩
  · rw [e41, a4]
    funext j
    simp only [up_app]
    by_cases hj : j = T
    · simp [hj]
    · simp [hj]
  · unfold TX at a6 ⊢
    rw [hg 3 (by decide), hf 40 (by decide), e41]
    refine ⟨a6.1, fun t ht => ?_⟩
    have h9 := a6.2 t ht
    rw [up_app]
    by_cases htT : t = T
    · subst htT
      rw [if_pos rfl]; omega
    · rw [if_neg htT]; omega
theorem spL_eq {V V' : pvM} {H v : Int} {T : Nat} (hv : vok (T : Int) H v) (hT : T ≤ 1000) (hH : H ≤ 1000) (he : ∀ t, t < T → V' 41 t = V 41 t) : spL V' v = spL V v := by
  unfold spL
  rcases vok_cases hv (by omega) hH with h | h | h
  · rw [if_pos h.1, if_pos h.1]
  · rw [if_neg (by omega), if_pos h.1, if_neg (by omega), if_pos h.1, he _ (by omega)]
  · rw [if_neg (by omega), if_neg (by omega), if_neg (by omega), if_neg (by omega)]
theorem JI.old {b : Int} {V0 V : pvM} {T n : Nat} (h : JI b V0 V T n) : ∀ t, t < T → V 41 t = V0 41 t := fun t ht => by
  rw [h.2.2.2.1, up_app, if_neg (by omega)]
/-- the fault's state: what still counts -/
def FLT (b : Int) (V0 V : pvM) (cs : List Nat) (e : Int) : Prop := fr cs V0 V ∧ V 28 8 = e ∧ (∀ i, i ≠ 8 → V 28 i = V0 28 i) ∧ V 39 7 = V0 39 7 ∧ KS V ∧ BG b V
/-- what join leaves behind -/
def jnP (b : Int) (V0 : pvM) (T d h L : Nat) (V' : pvM) : Prop := (L ≤ 200 ∧ ∃ V1, JI b V0 V1 T L ∧ V' = pushV V1 d h (vO 2 T)) ∨ (200 < L ∧ FLT b V0 V' [28, 30, 33, 39, 40, 41, 42, 43, 84] 5)
theorem letter_at {V : pvM} (hP : PI V) {r k : Nat} (hr : (r : Int) < V 2 5) (hk : (k : Int) < V 3 r) (h27 : V 6 (12 * r + k) ≠ 27) : 0 ≤ V 5 r + k - c27 (V 6) (12 * r) k ∧ V 5 r + k - c27 (V 6) (12 * r) k < 96 := by
  have h8 := hP.2.2.2.2.1
  have hRC := hP.2.2.2.2.2.1
  have hrc := hRC.2.2.2 r (by omega)
  have hb := hRC.hb
  have hcb := c27_bd (V 6) (12 * r) k
  have hcm := c27_mono (V 6) (12 * r) (k := k + 1) (n := (V 3 r).toNat) (by omega)
  simp only [c27] at hcm
  rw [if_neg h27] at hcm
  have hlb := ls_bd (L := V 3) (H := V 4) r (fun q hq => by have := hb q (by omega); omega)
  have hlb1 := ls_bd (L := V 3) (H := V 4) (r + 1) (fun q hq => by have := hb q (by omega); omega)
  simp only [ls] at hlb1
  have h1 := hrc.2.1
  have h2 := hrc.2.2.1
  omega
theorem FLT_push {b : Int} {V0 V : pvM} {cs : List Nat} {d h : Nat} {v e : Int} (hF : FLT b V0 V cs e) (h30 : 30 ∈ cs) (h33 : 33 ∈ cs) : FLT b V0 (pushV V d h v) cs e := by
  have hf : fr [30, 33] V (pushV V d h v) := by unfold pushV; exact (fr_u (by simp)).trans (fr_u (by simp))
  obtain ⟨a1, a2, a3, a4, a5, a6⟩ := hF
  refine ⟨fun c hc => ?_, by rw [hf 28 (by decide)]; exact a2, fun i hi => by rw [hf 28 (by decide)]; exact a3 i hi, by rw [hf 39 (by decide)]; exact a4, ?_, bg_u a6 (hf 17 (by decide)) (hf 39 (by decide)) (hf 84 (by decide))⟩
  · rw [hf c (fun h9 => hc (by simp at h9; rcases h9 with rfl | rfl; exact h30; exact h33)), a1 c hc]
  · unfold KS at a5 ⊢
    rw [hf 39 (by decide)]; exact a5
set_option maxHeartbeats 4000000 in
set_option maxRecDepth 100000 in
theorem s_join39 {N r T d h len : Nat} {b H : Int} {V0 : pvM} (hN : 50 ≤ N) (hP : PI V0) (hr : (r : Int) < V0 2 5) (hlen : V0 3 r = len) (hW : RW V0) (hb : 0 ≤ b ∧ b ≤ 600) (hT : T < 400) (hH : H ≤ 400) (h8 : V0 28 8 = 0) (hv : ∀ k : Nat, (k : Int) < V0 4 r → vok (T : Int) H (V0 34 k)) (ht : tp V0 d h) (hh : h < 13) : ∀ (fu m k : Nat) (V : pvM), k + m = len → m + 2 ≤ fu → jl V0 r (fun j => spL V0 (V0 34 j)) k ≤ 200 → JI b V0 V T (jl V0 r (fun j => spL V0 (V0 34 j)) k) → wz (q_X4_join_b39 N fu r (vO 2 T) T (V0 5 r + k - c27 (V0 6) (12 * r) k) (c27 (V0 6) (12 * r) k) k V) (fun _ V' => jnP b V0 T d h (jl V0 r (fun j => spL V0 (V0 34 j)) len) V') := by
  have h25 := hP.2.2.2.2.1
  have hrc := hP.2.2.2.2.2.1.2.2.2 r (by omega)
  intro fu
  induction fu with
  | zero => intro m k V h1 h2; omega
  | succ fu ih =>
    intro m k V h1 h2 hl hJ
    have hJ' := hJ
    obtain ⟨a1, a2, a3, a4, a5, a6, a7, a8⟩ := hJ'
    have hcb := c27_bd (V0 6) (12 * r) k
    have hpush : ∀ V1 : pvM, V1 29 = V0 29 → V1 33 = V0 33 → q_X4_join_b124 N (vO 2 T) V1 = some (0, 0, pushV V1 d h (vO 2 T)) := fun V1 e1 e2 => wz_to (by
      unfold q_X4_join_b124
      rw [cL_eq (e_push (tp_off ht (by rw [e1]) (by rw [e2])) hh)]
      exact wp_rT ⟨rfl, rfl, rfl⟩)
    have eT41 : V 41 T = ((jl V0 r (fun j => spL V0 (V0 34 j)) k : Nat) : Int) := by rw [a4, up_app, if_pos rfl]
    simp only [q_X4_join_b39]
    rw [cL_eq (e_rlengthOf (by omega)), show ((r : Int)).toNat = r by omega, a1 3 (by decide), hlen]
    refine wp_if (fun h9 => ?_) (fun h9 => ?_)
    · have hk : k = len := by omega
      subst hk
      rw [hpush V (a1 29 (by decide)) (a1 33 (by decide))]
      exact ⟨0, 0, _, rfl, rfl, Or.inl ⟨hl, V, hJ, rfl⟩⟩
    · refine wp_gR ?_
      rw [a1 28 (by decide), h8, if_neg (by decide), cL_eq (e_isHole (by omega) (by omega)), a1 6 (by decide)]
      have hfl : ∀ (V1 : pvM) (mm : Nat), 200 < jl V0 r (fun j => spL V0 (V0 34 j)) k + mm → jl V0 r (fun j => spL V0 (V0 34 j)) k + mm ≤ jl V0 r (fun j => spL V0 (V0 34 j)) len → fr [39, 43] V V1 → f39 [5] V V1 → ∀ (x6 x7 : Int), wz (q_X4_join_b118 N (q_X4_join_b39 N fu) r (vO 2 T) T x6 x7 k (pz_u V1 28 8 5)) (fun _ V' => jnP b V0 T d h (jl V0 r (fun j => spL V0 (V0 34 j)) len) V') := by
        intro V1 mm hgt hle f1 g1 x6 x7
        unfold q_X4_join_b118
        refine wp_lw (by omega) ?_
        obtain ⟨fu', rfl⟩ : ∃ fu', fu = fu' + 1 := ⟨fu - 1, by omega⟩
        have fl : FLT b V0 (pz_u V1 28 8 5) [28, 30, 33, 39, 40, 41, 42, 43, 84] 5 := by
          refine ⟨?_, by rw [pz_u_eq], fun i hi => ?_, ?_, ?_, ?_⟩
          · exact ((a1.mono (by decide)).trans (f1.mono (by decide))).trans (fr_u (by decide))
          · rw [pu_row, up_app, if_neg hi, f1 28 (by decide), a1 28 (by decide)]
          · rw [pu_off (by decide), g1 7 (by decide), a2 7 (by decide)]
          · unfold KS at a7 ⊢
            rw [pu_off (by decide), g1 2 (by decide)]; exact a7
          · exact bg_u (BG_sp a8 f1 g1) (pu_off (by decide)) (pu_off (by decide)) (pu_off (by decide))
        have fin : wz (q_X4_join_b124 N (vO 2 T) (pz_u V1 28 8 5)) (fun _ V' => jnP b V0 T d h (jl V0 r (fun j => spL V0 (V0 34 j)) len) V') := by
          rw [hpush (pz_u V1 28 8 5) (by rw [pu_off (by decide), f1 29 (by decide), a1 29 (by decide)]) (by rw [pu_off (by decide), f1 33 (by decide), a1 33 (by decide)])]
          exact ⟨0, 0, _, rfl, rfl, Or.inr ⟨by omega, FLT_push fl (by decide) (by decide)⟩⟩
        simp only [q_X4_join_b39]
        rw [cL_eq (e_rlengthOf (by omega))]
        refine wp_if (fun _ => fin) (fun _ => ?_)
        refine wp_gR ?_
        rw [pz_u_eq, if_pos (by decide)]
        exact fin
      by_cases h27 : V0 6 (12 * r + k) = 27
      · rw [if_pos h27, if_neg (by decide)]
        have hcm := c27_mono (V0 6) (12 * r) (k := k + 1) (n := (V0 3 r).toNat) (by omega)
        simp only [c27] at hcm
        rw [if_pos h27] at hcm
        have hh4 := hrc.2.1
        have hL : jl V0 r (fun j => spL V0 (V0 34 j)) (k + 1) = jl V0 r (fun j => spL V0 (V0 34 j)) k + spL V0 (V0 34 (c27 (V0 6) (12 * r) k).toNat) := by simp only [jl]; rw [if_pos h27]
        obtain ⟨j, hj⟩ : ∃ j : Nat, c27 (V0 6) (12 * r) k = j := ⟨(c27 (V0 6) (12 * r) k).toNat, by omega⟩
        rw [hj, show ((j : Int)).toNat = j by omega] at hL
        have hvj := hv j (by omega)
        have eta : q_X1_takenAt N (c27 (V0 6) (12 * r) k) V = some (0, V0 34 j, V) := by
          rw [hj, e_takenAt (by omega), a1 34 (by decide)]
        rw [cL_eq eta]
        have hvv : vok (V 39 3) H (V0 34 j) := by rw [a3]; exact hvj.mono (by omega) (by omega)
        refine wp_cL (s_appendValue (N := N) (t := T) (b := b) (H := H) hN a6 a7 (rw_u hW (a1 17 (by decide))) a8 hb (by rw [a3]; omega) hvv (by omega)) (fun rr V1 hV1 => wp_lI ?_)
        rw [spL_eq hvj (by omega) (by omega) hJ.old] at hV1
        obtain ⟨-, hV1⟩ := hV1
        rcases hV1 with ⟨c1, rfl, c3, c4, c5, c6, c7, c8, c9⟩ | ⟨c1, rfl, c3, c4⟩
        · rw [cL_eq e_faultT]
          refine wp_lw (by omega) ?_
          unfold q_X4_join_b118
          refine wp_lw (by omega) ?_
          have k9 := ih (m - 1) (k + 1) V1 (by omega) (by omega) (by rw [hL]; omega) (by rw [hL]; exact hJ.app (by omega) c3 c4 c5 c6 c7 c8 c9)
          simp only [c27] at k9
          rw [if_pos h27, show V0 5 r + ((k + 1 : Nat) : Int) - (c27 (V0 6) (12 * r) k + 1) = V0 5 r + k - c27 (V0 6) (12 * r) k by omega] at k9
          exact k9
        · rw [cL_eq e_faultF]
          refine wp_lw (by omega) ?_
          have hm := jl_mono (V := V0) (r := r) (sp := fun j => spL V0 (V0 34 j)) (k := k + 1) (n := len) (by omega)
          exact hfl V1 (spL V0 (V0 34 j)) (by omega) (by rw [← hL]; exact hm) c3 c4 _ _
      · rw [if_neg h27, if_pos rfl]
        have hla := letter_at hP hr (k := k) (by omega) h27
        have hL : jl V0 r (fun j => spL V0 (V0 34 j)) (k + 1) = jl V0 r (fun j => spL V0 (V0 34 j)) k + 1 := by simp only [jl]; rw [if_neg h27]
        have ela : q_X7_letterAt N (V0 5 r + k - c27 (V0 6) (12 * r) k) V = some (0, V 7 (V0 5 r + k - c27 (V0 6) (12 * r) k).toNat, V) := by unfold q_X7_letterAt; rw [e_aR (by omega)]; rfl
        rw [cL_eq ela]
        refine wp_cL (s_appendLetter (N := N) (t := T) (b := b) a6 a7 (rw_u hW (a1 17 (by decide))) a8 hb (by rw [a3]; omega)) (fun rr V1 hV1 => wp_lI ?_)
        obtain ⟨-, hV1⟩ := hV1
        rcases hV1 with ⟨c1, rfl, c3, c4, c5, c6, c7, c8, c9⟩ | ⟨c1, rfl, c3, c4⟩
        · rw [cL_eq e_faultT]
          refine wp_lw (by omega) ?_
          unfold q_X4_join_b118
          refine wp_lw (by omega) ?_
          have k9 := ih (m - 1) (k + 1) V1 (by omega) (by omega) (by rw [hL]; omega) (by rw [hL]; exact hJ.app (by omega) c3 c4 c5 c6 c7 c8 c9)
          simp only [c27] at k9
          rw [if_neg h27, Int.add_zero, show V0 5 r + ((k + 1 : Nat) : Int) - c27 (V0 6) (12 * r) k = V0 5 r + k - c27 (V0 6) (12 * r) k + 1 by omega] at k9
          exact k9
        · rw [cL_eq e_faultF]
          refine wp_lw (by omega) ?_
          have hm := jl_mono (V := V0) (r := r) (sp := fun j => spL V0 (V0 34 j)) (k := k + 1) (n := len) (by omega)
          exact hfl V1 1 (by omega) (by rw [← hL]; exact hm) c3 c4 _ _
