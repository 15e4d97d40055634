/-! WORDS THAT STAY AS THEY ARE -/
theorem wz_of {o : Option pvO} {r : Int} {W : pvM} {Q : Int → pvM → Prop} (h : o = some (0, r, W)) (hq : Q r W) : wz o Q := ⟨0, r, W, h, rfl, hq⟩
theorem RPO_in {b : Int} {V0 V' Vp' : pvM} {D : Nat} {ix : Nat → Nat} (h29 : V' 29 5 = ((D + 1 : Nat) : Int) ∧ V' 28 8 = 0) (h : RP b V0 V' Vp' (D + 1) ix) : RPO b V0 V' Vp' := Or.inl ⟨D, ix, h29, h⟩
def TOPS (V Vp : pvM) (d e f q h : Nat) : Prop := (e ≤ 58 ∧ Vp 29 6 = e ∧ Vp 29 5 = ((e + 1 : Nat) : Int)) ∧ (Vp 31 e = f ∧ Vp 32 e = q ∧ Vp 33 e = ((33 * e + 20 + h : Nat) : Int)) ∧ (∀ k, k < 8 → Vp 30 (33 * e + k) = V 30 (33 * d + k)) ∧ (∀ j, j < h → Vp 30 (33 * e + 20 + j) = V 30 (33 * d + 20 + j)) ∧ (Vp 28 5 = 16 ∧ Vp 28 8 = 0 ∧ Vp 28 9 = 0 ∧ Vp 28 6 = V 28 6 ∧ Vp 28 7 = V 28 7) ∧ tp Vp e h
section PW
variable {N : Nat} {b : Int} {V0 V Vp : pvM} {d f p h : Nat} {ix : Nat → Nat}
theorem RP_tops (hC : CI b V0 V (d + 1)) (hR : RP b V0 V Vp (d + 1) ix) (hm : frm V d f p h) (hh : h ≤ 12) : TOPS V Vp d (ix d) f (ps V0 f p) h := by
  obtain ⟨r1, r2, r3, r4, r5, r6, r7, r8⟩ := hR
  obtain ⟨f9, p9, h9, q1, q2, q3, q4, q5⟩ := r5 d (by omega)
  have e1 : f9 = f := by have := q1.1; have := hm.1.1; omega
  have e2 : p9 = p := by have := q1.2.1; have := hm.1.2.1; omega
  have e3 : h9 = h := by have := q1.2.2; have := hm.1.2.2; omega
  subst e1; subst e2; subst e3
  have hix := IX_le r4 d (by omega)
  have hD := hC.2.2.1
  rw [show d + 1 - 1 = d by omega] at r3
  exact ⟨⟨by omega, r3.2, r3.1⟩, q2, q4, q5, ⟨r2.1, r2.2.2.2.1, r2.2.2.2.2, r2.2.1, r2.2.2.1⟩, r3.2, by omega, q2.2.2, by omega⟩
theorem row1 (hL : LOW V0) (hW : RW V0) (hP : PI V0) (hC : CI b V0 V (d + 1)) (hm : frm V d f p h) (hw : cW V f p ≤ 12) : row V0 f (ps V0 f p) (cW V f p) (if cW V f p = 8 ∨ cW V f p = 9 then ((ps V0 f (cA V f p).toNat : Nat) : Int) else cA V f p) 0 1 ∧ ps V0 f (p + 1) = ps V0 f p + 1 := by
  have e10 : cW V f p = cW V0 f p := by unfold cW; rw [hC.1 10 (by decide)]
  have e11 : cA V f p = cA V0 f p := by unfold cA; rw [hC.1 11 (by decide)]
  have hf := hm.2.1.1
  have hp := hm.2.1.2
  rw [hC.1 1 (by decide)] at hf
  rw [hC.1 9 (by decide)] at hp
  have hG : Gp V0 f p = [(cW V0 f p, cA V0 f p, 0)] := by
    unfold Gp grp
    rw [if_neg (by omega), if_neg (by omega), if_neg (by omega)]
  have h1 := low_row hL hW hP (j := 0) (x := (cW V0 f p, cA V0 f p, 0)) hf hp (by rw [hG]; rfl)
  rw [e10, e11]
  refine ⟨?_, ?_⟩
  · rw [Nat.add_zero, if_pos rfl] at h1
    unfold mvA at h1
    dsimp only at h1
    by_cases h89 : cW V0 f p = 8 ∨ cW V0 f p = 9
    · rw [if_pos ⟨rfl, h89⟩] at h1
      rw [if_pos h89]; exact h1
    · rw [if_neg (fun h => h89 h.2)] at h1
      rw [if_neg h89]; exact h1
  · simp only [ps]
    rw [← Gp_len, hG]; rfl
/-- one row, marked as a step, of a word of both codes -/
theorem RE_one {e q : Nat} {w a : Int} {Q : pvM → Prop} (hf : fr rcs V0 Vp) (ht : TOPS V Vp d e f q h) (h7 : 0 ≤ V 28 7 ∧ V 28 7 < 400) (hw : w ≤ 12) (hr : row V0 f q w a 0 1) (hs : wz (q_X4_doShared N w a (nxV Vp e ((q + 1 : Nat) : Int))) (fun _ V' => Q V')) : RE N 1 Vp Q := by
  obtain ⟨t1, t2, t3, t4, t5, t6⟩ := ht
  refine RE_step (R := Q) t5.2.1 (by omega) ?_ (fun V' h => h)
  refine s_pnext (e := e) (u := f) (q := q) (by rw [t5.1]; decide) t1.2.1 (by omega) t2.1 t2.2.1 (row_fr hf hr) (Or.inr ⟨rfl, by omega, by omega⟩) ?_
  unfold pbd pre
  rw [if_pos rfl, if_neg (by omega)]
  exact wp_cL hs (fun _ V' h => wp_rT ⟨rfl, h⟩)
theorem RP_flt {e : Int} {W Wp : pvM} (hR : RP b V0 V Vp (d + 1) ix) (hC : CI b V0 V (d + 1)) (f1 : fr [28, 30, 32, 33, 34] V W) (f2 : fr [28, 30, 32, 33, 34] Vp Wp) (a28 : W 28 = va_up (V 28) 7 (V 28 7 + 1)) (b28 : Wp 28 = va_up (Vp 28) 7 (Vp 28 7 + 1)) (he : e ≠ 0) : RPO b V0 (pz_u W 28 8 e) (pz_u Wp 28 8 e) := by
  have hR' := hR
  obtain ⟨r1, r2, r3, r4, r5, r6, r7, r8⟩ := hR'
  have g1 : fr rcs Vp (pz_u Wp 28 8 e) := (f2.mono (by decide)).trans (fr_u (by decide))
  have g39 : pz_u Wp 28 8 e 39 = Vp 39 := by rw [pu_off (by decide), f2 39 (by decide)]
  refine Or.inr (PFN_flt (e := e) hR g1 ?_ (by rw [pz_u_eq]) (by rw [pz_u_eq]) he ?_ ?_ ?_ ?_ ?_)
  · rw [pu_row, up_app, if_neg (by decide), pu_row, up_app, if_neg (by decide), a28, b28, up_app, up_app, if_pos rfl, if_pos rfl, r2.2.2.1]
  · rw [g39, pu_off (by decide), f1 39 (by decide)]; exact r7.2.1
  · rw [pu_row, up_app, if_neg (by decide), a28, up_app, if_neg (by decide)]; exact hC.2.1.2.2.2.2.2
  · rw [pu_row, up_app, if_neg (by decide), b28, up_app, if_neg (by decide)]; exact r2.2.2.2.2
  · unfold KS; rw [g39]; exact r8.2.1
  · exact bg_u r8.2.2 (by rw [pu_off (by decide), f2 17 (by decide)]) g39 (by rw [pu_off (by decide), f2 84 (by decide)])
theorem RP_push {v : Int} (hC : CI b V0 V (d + 1)) (hR : RP b V0 V Vp (d + 1) ix) (hm : frm V d f p h) (hh : h ≤ 12) (hq : ps V0 f (p + 1) = ps V0 f p + 1) : RP b V0 (pushV (nxV V d ((p + 1 : Nat) : Int)) d h v) (pushV (nxV Vp (ix d) ((ps V0 f p + 1 : Nat) : Int)) (ix d) h v) (d + 1) ix := by
  obtain ⟨t1, t2, t3, t4, t5, t6⟩ := RP_tops hC hR hm hh
  refine RP_same (f := f) (p' := p + 1) (h' := h + 1) hR (fun c hc => ?_) (fun c hc => ?_) ?_ ?_ ?_ ?_ (fun k hk => ?_) (fun k hk => ?_) ?_ ?_ (fun i hi => ?_) (fun i hi => ?_) hm.1.1 (by omega) (fun k hk => ?_) (fun j hj => ?_)
  · simp at hc; rw [pushV_off (by omega) (by omega), nxV_off (by omega) (by omega)]
  · simp at hc; rw [pushV_off (by omega) (by omega), nxV_off (by omega) (by omega)]
  · rw [pushV_off (by decide) (by decide), nxV_28]
  · rw [pushV_off (by decide) (by decide), nxV_28]
  · rw [pushV_off (by decide) (by decide), nxV_32]
  · rw [pushV_off (by decide) (by decide), nxV_32, hq]
  · rw [pushV_33, up_app, if_neg hk, nxV_off (by decide) (by decide)]
  · rw [pushV_33, up_app, if_neg hk, nxV_off (by decide) (by decide)]
  · rw [pushV_33, up_app, if_pos rfl]
  · rw [pushV_33, up_app, if_pos rfl]
  · rw [pushV_30, up_app, if_neg (by omega), nxV_off (by decide) (by decide)]
  · rw [pushV_30, up_app, if_neg (by omega), nxV_off (by decide) (by decide)]
  · rw [pushV_30, pushV_30, up_app, up_app, if_neg (by omega), if_neg (by omega), nxV_off (by decide) (by decide), nxV_off (by decide) (by decide)]; exact t3 k hk
  · rw [pushV_30, pushV_30, up_app, up_app, nxV_off (by decide) (by decide), nxV_off (by decide) (by decide)]
    by_cases hjh : j = h
    · rw [if_pos (by omega), if_pos (by omega)]
    · rw [if_neg (by omega), if_neg (by omega)]; exact t4 j (by omega)
/-- values were taken, at most one put there -/
theorem RP_pop {W Wp : pvM} {q' h' : Nat} (hC : CI b V0 V (d + 1)) (hR : RP b V0 V Vp (d + 1) ix) (hm : frm V d f p h) (hh : h ≤ 12) (hle : h' ≤ h) (f1 : fr [28, 32, 33, 34] V W) (f2 : fr [28, 32, 33, 34] Vp Wp) (a28 : W 28 = va_up (V 28) 7 (V 28 7 + 1)) (b28 : Wp 28 = va_up (Vp 28) 7 (Vp 28 7 + 1)) (a32 : W 32 = va_up (V 32) d (q' : Int)) (b32 : Wp 32 = va_up (Vp 32) (ix d) ((ps V0 f q' : Nat) : Int)) (a33 : W 33 = va_up (V 33) d ((33 * d + 20 + h' : Nat) : Int)) (b33 : Wp 33 = va_up (Vp 33) (ix d) ((33 * ix d + 20 + h' : Nat) : Int)) : RP b V0 W Wp (d + 1) ix ∧ ∀ v : Int, h' ≤ 12 → RP b V0 (pushV W d h' v) (pushV Wp (ix d) h' v) (d + 1) ix := by
  obtain ⟨t1, t2, t3, t4, t5, t6⟩ := RP_tops hC hR hm hh
  refine ⟨RP_same (f := f) (p' := q') (h' := h') hR (f1.mono (by decide)) (f2.mono (by decide)) a28 b28 a32 b32 (fun k hk => by rw [a33, up_app, if_neg hk]) (fun k hk => by rw [b33, up_app, if_neg hk]) (by rw [a33, up_app, if_pos rfl]) (by rw [b33, up_app, if_pos rfl]) (fun i hi => by rw [f1 30 (by decide)]) (fun i hi => by rw [f2 30 (by decide)]) hm.1.1 (by omega) (fun k hk => by rw [f1 30 (by decide), f2 30 (by decide)]; exact t3 k hk) (fun j hj => by rw [f1 30 (by decide), f2 30 (by decide)]; exact t4 j (by omega)), fun v hv => ?_⟩
  refine RP_same (f := f) (p' := q') (h' := h' + 1) hR (fun c hc => ?_) (fun c hc => ?_) ?_ ?_ ?_ ?_ (fun k hk => ?_) (fun k hk => ?_) ?_ ?_ (fun i hi => ?_) (fun i hi => ?_) hm.1.1 (by omega) (fun k hk => ?_) (fun j hj => ?_)
  · simp at hc; rw [pushV_off (by omega) (by omega), f1 c (by simp; omega)]
  · simp at hc; rw [pushV_off (by omega) (by omega), f2 c (by simp; omega)]
  · rw [pushV_off (by decide) (by decide), a28]
  · rw [pushV_off (by decide) (by decide), b28]
  · rw [pushV_off (by decide) (by decide), a32]
  · rw [pushV_off (by decide) (by decide), b32]
  · rw [pushV_33, up_app, if_neg hk, a33, up_app, if_neg hk]
  · rw [pushV_33, up_app, if_neg hk, b33, up_app, if_neg hk]
  · rw [pushV_33, up_app, if_pos rfl]
  · rw [pushV_33, up_app, if_pos rfl]
  · rw [pushV_30, up_app, if_neg (by omega), f1 30 (by decide)]
  · rw [pushV_30, up_app, if_neg (by omega), f2 30 (by decide)]
  · rw [pushV_30, pushV_30, up_app, up_app, if_neg (by omega), if_neg (by omega), f1 30 (by decide), f2 30 (by decide)]; exact t3 k hk
  · rw [pushV_30, pushV_30, up_app, up_app, f1 30 (by decide), f2 30 (by decide)]
    by_cases hjh : j = h'
    · rw [if_pos (by omega), if_pos (by omega)]
    · rw [if_neg (by omega), if_neg (by omega)]; exact t4 j (by omega)
theorem nxpop_fr {W : pvM} {e h' : Nat} {q : Int} : fr [28, 32, 33, 34] W (popV (nxV W e q) e h') := fun c hc => by
  simp at hc; rw [popV_off (by omega), nxV_off (by omega) (by omega)]
theorem nxtk_fr {W : pvM} {e h' n : Nat} {q : Int} : fr [28, 32, 33, 34] W (takeV (nxV W e q) e h' n) := fun c hc => by
  simp at hc; rw [takeV_off (by omega) (by omega), nxV_off (by omega) (by omega)]
theorem pw_0 {a : Int} (hC : CI b V0 V (d + 1)) (hR : RP b V0 V Vp (d + 1) ix) (hm : frm V d f p h) (hh : h ≤ 12) (h400 : V 28 7 < 400) (hr : row V0 f (ps V0 f p) 0 a 0 1) (hq : ps V0 f (p + 1) = ps V0 f p + 1) : RE N 1 Vp (RPO b V0 (pushV (nxV V d ((p + 1 : Nat) : Int)) d h (vO 1 a))) := by
  have ht := RP_tops hC hR hm hh
  have h7 := hC.2.2.2.2.2.2.2.2.1.1
  refine RE_one hR.1 ht ⟨h7, h400⟩ (by decide) hr (wz_of (e_sh0 (tp_nx ht.2.2.2.2.2) (by omega)) (RPO_in (D := d) (ix := ix) (by have h29 := hC.2.1.1; have h28 := hC.2.1.2.2.2.2.1; simp [pushV_off, popV_off, takeV_off, nxV_off, pu_off, nxV_28, up_app] <;> omega) (RP_push hC hR hm hh hq)))
theorem pw_1 {a : Nat} (hC : CI b V0 V (d + 1)) (hR : RP b V0 V Vp (d + 1) ix) (hm : frm V d f p h) (hh : h ≤ 12) (h400 : V 28 7 < 400) (hr : row V0 f (ps V0 f p) 1 a 0 1) (hq : ps V0 f (p + 1) = ps V0 f p + 1) (ha : a < 8) : RE N 1 Vp (RPO b V0 (pushV (nxV V d ((p + 1 : Nat) : Int)) d h (V 30 (33 * d + a)))) := by
  have ht := RP_tops hC hR hm hh
  have h7 := hC.2.2.2.2.2.2.2.2.1.1
  refine RE_one hR.1 ht ⟨h7, h400⟩ (by decide) hr (wz_of (e_sh1 (tp_nx ht.2.2.2.2.2) (by omega) (by omega)) (RPO_in (D := d) (ix := ix) (by have h29 := hC.2.1.1; have h28 := hC.2.1.2.2.2.2.1; simp [pushV_off, popV_off, takeV_off, nxV_off, pu_off, nxV_28, up_app] <;> omega) ?_))
  rw [nxV_off (show (30 : Nat) ≠ 28 by decide) (by decide), ht.2.2.1 a ha]
  exact RP_push hC hR hm hh hq
theorem pw_2 {a : Nat} (hC : CI b V0 V (d + 1)) (hR : RP b V0 V Vp (d + 1) ix) (hm : frm V d f p (h + 1)) (hh : h + 1 ≤ 12) (h400 : V 28 7 < 400) (hr : row V0 f (ps V0 f p) 2 a 0 1) (hq : ps V0 f (p + 1) = ps V0 f p + 1) (ha : a < 8) : RE N 1 Vp (RPO b V0 (pz_u (popV (nxV V d ((p + 1 : Nat) : Int)) d h) 30 (33 * d + a) (V 30 (33 * d + 20 + h)))) := by
  have ht := RP_tops hC hR hm hh
  have h7 := hC.2.2.2.2.2.2.2.2.1.1
  refine RE_one hR.1 ht ⟨h7, h400⟩ (by decide) hr (wz_of (e_sh2 (tp_nx ht.2.2.2.2.2) (by omega)) (RPO_in (D := d) (ix := ix) (by have h29 := hC.2.1.1; have h28 := hC.2.1.2.2.2.2.1; simp [pushV_off, popV_off, takeV_off, nxV_off, pu_off, nxV_28, up_app] <;> omega) ?_))
  rw [nxV_off (show (30 : Nat) ≠ 28 by decide) (by decide), ht.2.2.2.1 h (by omega)]
  obtain ⟨t1, t2, t3, t4, t5, t6⟩ := ht
  refine RP_same (f := f) (p' := p + 1) (h' := h) hR (fun c hc => ?_) (fun c hc => ?_) ?_ ?_ ?_ ?_ (fun k hk => ?_) (fun k hk => ?_) ?_ ?_ (fun i hi => ?_) (fun i hi => ?_) hm.1.1 (by omega) (fun k hk => ?_) (fun j hj => ?_)
  · simp at hc; rw [pu_off (by omega), popV_off (by omega), nxV_off (by omega) (by omega)]
  · simp at hc; rw [pu_off (by omega), popV_off (by omega), nxV_off (by omega) (by omega)]
  · rw [pu_off (by decide), popV_off (by decide), nxV_28]
  · rw [pu_off (by decide), popV_off (by decide), nxV_28]
  · rw [pu_off (by decide), popV_off (by decide), nxV_32]
  · rw [pu_off (by decide), popV_off (by decide), nxV_32, hq]
  · rw [pu_off (by decide), popV_33, up_app, if_neg hk, nxV_off (by decide) (by decide)]
  · rw [pu_off (by decide), popV_33, up_app, if_neg hk, nxV_off (by decide) (by decide)]
  · rw [pu_off (by decide), popV_33, up_app, if_pos rfl]
  · rw [pu_off (by decide), popV_33, up_app, if_pos rfl]
  · rw [pu_row, up_app, if_neg (by omega), popV_off (by decide), nxV_off (by decide) (by decide)]
  · rw [pu_row, up_app, if_neg (by omega), popV_off (by decide), nxV_off (by decide) (by decide)]
  · rw [pu_row, pu_row, up_app, up_app, popV_off (by decide), popV_off (by decide), nxV_off (by decide) (by decide), nxV_off (by decide) (by decide)]
    by_cases hka : k = a
    · rw [if_pos (by omega), if_pos (by omega)]
    · rw [if_neg (by omega), if_neg (by omega)]; exact t3 k hk
  · rw [pu_row, pu_row, up_app, up_app, popV_off (by decide), popV_off (by decide), nxV_off (by decide) (by decide), nxV_off (by decide) (by decide), if_neg (by omega), if_neg (by omega)]
    exact t4 j (by omega)
theorem pw_345 {w a : Int} (hN : 50 ≤ N) (hC : CI b V0 V (d + 1)) (hR : RP b V0 V Vp (d + 1) ix) (hm : frm V d f p (h + 2)) (hh : h + 2 ≤ 12) (h400 : V 28 7 < 400) (hw : w = 3 ∨ w = 4 ∨ w = 5) (hr : row V0 f (ps V0 f p) w a 0 1) (hq : ps V0 f (p + 1) = ps V0 f p + 1) : RE N 1 Vp (RPO b V0 (rkV w (nxV V d ((p + 1 : Nat) : Int)) d h)) := by
  have ht := RP_tops hC hR hm hh
  have h7 := hC.2.2.2.2.2.2.2.2.1.1
  refine RE_one hR.1 ht ⟨h7, h400⟩ (by omega) hr (wz_of (e_sh345 hN hw (tp_nx ht.2.2.2.2.2)) ?_)
  have e1 := ht.2.2.2.1 h (by omega)
  have e2 := ht.2.2.2.1 (h + 1) (by omega)
  unfold rkV
  rw [nxV_off (show (30 : Nat) ≠ 28 by decide) (by decide), nxV_off (show (30 : Nat) ≠ 28 by decide) (by decide), e1, e2]
  split
  · refine RPO_in (D := d) (ix := ix) (by have h29 := hC.2.1.1; have h28 := hC.2.1.2.2.2.2.1; simp [pushV_off, popV_off, takeV_off, nxV_off, pu_off, nxV_28, up_app] <;> omega) ?_
    exact (RP_pop (q' := p + 1) (h' := h) hC hR hm hh (by omega) nxtk_fr nxtk_fr (by rw [takeV_off (by decide) (by decide), nxV_28]) (by rw [takeV_off (by decide) (by decide), nxV_28]) (by rw [takeV_off (by decide) (by decide), nxV_32]) (by rw [takeV_off (by decide) (by decide), nxV_32, hq]) (by rw [takeV_33, nxV_off (by decide) (by decide)]) (by rw [takeV_33, nxV_off (by decide) (by decide)])).2 _ (by omega)
  · exact RP_flt hR hC tk_fr tk_fr tk_28 tk_28 (by decide)
theorem pw_6 {a : Int} (hC : CI b V0 V (d + 1)) (hR : RP b V0 V Vp (d + 1) ix) (hm : frm V d f p (h + 1)) (hh : h + 1 ≤ 12) (h400 : V 28 7 < 400) (hr : row V0 f (ps V0 f p) 6 a 0 1) (hq : ps V0 f (p + 1) = ps V0 f p + 1) : RE N 1 Vp (RPO b V0 (pushV (pushV (popV (nxV V d ((p + 1 : Nat) : Int)) d h) d h (V 30 (33 * d + 20 + h))) d (h + 1) (V 30 (33 * d + 20 + h)))) := by
  have ht := RP_tops hC hR hm hh
  have h7 := hC.2.2.2.2.2.2.2.2.1.1
  refine RE_one hR.1 ht ⟨h7, h400⟩ (by decide) hr (wz_of (e_sh6 (tp_nx ht.2.2.2.2.2) (by omega)) (RPO_in (D := d) (ix := ix) (by have h29 := hC.2.1.1; have h28 := hC.2.1.2.2.2.2.1; simp [pushV_off, popV_off, takeV_off, nxV_off, pu_off, nxV_28, up_app] <;> omega) ?_))
  rw [nxV_off (show (30 : Nat) ≠ 28 by decide) (by decide), ht.2.2.2.1 h (by omega)]
  obtain ⟨t1, t2, t3, t4, t5, t6⟩ := ht
  refine RP_same (f := f) (p' := p + 1) (h' := h + 2) hR (fun c hc => ?_) (fun c hc => ?_) ?_ ?_ ?_ ?_ (fun k hk => ?_) (fun k hk => ?_) ?_ ?_ (fun i hi => ?_) (fun i hi => ?_) hm.1.1 (by omega) (fun k hk => ?_) (fun j hj => ?_)
  · simp at hc; rw [pushV_off (by omega) (by omega), pushV_off (by omega) (by omega), popV_off (by omega), nxV_off (by omega) (by omega)]
  · simp at hc; rw [pushV_off (by omega) (by omega), pushV_off (by omega) (by omega), popV_off (by omega), nxV_off (by omega) (by omega)]
  · rw [pushV_off (by decide) (by decide), pushV_off (by decide) (by decide), popV_off (by decide), nxV_28]
  · rw [pushV_off (by decide) (by decide), pushV_off (by decide) (by decide), popV_off (by decide), nxV_28]
  · rw [pushV_off (by decide) (by decide), pushV_off (by decide) (by decide), popV_off (by decide), nxV_32]
  · rw [pushV_off (by decide) (by decide), pushV_off (by decide) (by decide), popV_off (by decide), nxV_32, hq]
  · rw [pushV_33, up_app, if_neg hk, pushV_33, up_app, if_neg hk, popV_33, up_app, if_neg hk, nxV_off (by decide) (by decide)]
  · rw [pushV_33, up_app, if_neg hk, pushV_33, up_app, if_neg hk, popV_33, up_app, if_neg hk, nxV_off (by decide) (by decide)]
  · rw [pushV_33, up_app, if_pos rfl]
  · rw [pushV_33, up_app, if_pos rfl]
  · rw [pushV_30, up_app, if_neg (by omega), pushV_30, up_app, if_neg (by omega), popV_off (by decide), nxV_off (by decide) (by decide)]
  · rw [pushV_30, up_app, if_neg (by omega), pushV_30, up_app, if_neg (by omega), popV_off (by decide), nxV_off (by decide) (by decide)]
  · rw [pushV_30, pushV_30, pushV_30, pushV_30, up_app, up_app, up_app, up_app, if_neg (by omega), if_neg (by omega), if_neg (by omega), if_neg (by omega), popV_off (by decide), popV_off (by decide), nxV_off (by decide) (by decide), nxV_off (by decide) (by decide)]; exact t3 k hk
  · rw [pushV_30, pushV_30, pushV_30, pushV_30, up_app, up_app, up_app, up_app, popV_off (by decide), popV_off (by decide), nxV_off (by decide) (by decide), nxV_off (by decide) (by decide)]
    by_cases hjh : j = h + 1
    · rw [if_pos (by omega), if_pos (by omega)]
    · by_cases hj2 : j = h
      · rw [if_neg (by omega), if_pos (by omega), if_neg (by omega), if_pos (by omega)]
      · rw [if_neg (by omega), if_neg (by omega), if_neg (by omega), if_neg (by omega)]; exact t4 j (by omega)
theorem pw_7 {a : Int} (hC : CI b V0 V (d + 1)) (hR : RP b V0 V Vp (d + 1) ix) (hm : frm V d f p (h + 1)) (hh : h + 1 ≤ 12) (h400 : V 28 7 < 400) (hr : row V0 f (ps V0 f p) 7 a 0 1) (hq : ps V0 f (p + 1) = ps V0 f p + 1) : RE N 1 Vp (RPO b V0 (popV (nxV V d ((p + 1 : Nat) : Int)) d h)) := by
  have ht := RP_tops hC hR hm hh
  have h7 := hC.2.2.2.2.2.2.2.2.1.1
  refine RE_one hR.1 ht ⟨h7, h400⟩ (by decide) hr (wz_of (e_sh7 (tp_nx ht.2.2.2.2.2)) (RPO_in (D := d) (ix := ix) (by have h29 := hC.2.1.1; have h28 := hC.2.1.2.2.2.2.1; simp [pushV_off, popV_off, takeV_off, nxV_off, pu_off, nxV_28, up_app] <;> omega) ?_))
  exact (RP_pop (q' := p + 1) (h' := h) hC hR hm hh (by omega) nxpop_fr nxpop_fr (by rw [popV_off (by decide), nxV_28]) (by rw [popV_off (by decide), nxV_28]) (by rw [popV_off (by decide), nxV_32]) (by rw [popV_off (by decide), nxV_32, hq]) (by rw [popV_33, nxV_off (by decide) (by decide)]) (by rw [popV_33, nxV_off (by decide) (by decide)])).1
theorem pw_8 {a : Nat} (hC : CI b V0 V (d + 1)) (hR : RP b V0 V Vp (d + 1) ix) (hm : frm V d f p h) (hh : h ≤ 12) (h400 : V 28 7 < 400) (hr : row V0 f (ps V0 f p) 8 ((ps V0 f a : Nat) : Int) 0 1) : RE N 1 Vp (RPO b V0 (pz_u (nxV V d ((p + 1 : Nat) : Int)) 32 d a)) := by
  have ht := RP_tops hC hR hm hh
  have h7 := hC.2.2.2.2.2.2.2.2.1.1
  refine RE_one hR.1 ht ⟨h7, h400⟩ (by decide) hr (wz_of (e_sh8 (tp_nx ht.2.2.2.2.2)) (RPO_in (D := d) (ix := ix) (by have h29 := hC.2.1.1; have h28 := hC.2.1.2.2.2.2.1; simp [pushV_off, popV_off, takeV_off, nxV_off, pu_off, nxV_28, up_app] <;> omega) ?_))
  obtain ⟨t1, t2, t3, t4, t5, t6⟩ := ht
  have u2 : ∀ (W : pvM) (e : Nat) (x y : Int), pz_u (nxV W e x) 32 e y 32 = va_up (W 32) e y := fun W e x y => by
    rw [pu_row, nxV_32]; funext j; simp only [up_app]; split <;> rfl
  refine RP_same (f := f) (p' := a) (h' := h) hR (fun c hc => ?_) (fun c hc => ?_) ?_ ?_ (u2 _ _ _ _) (u2 _ _ _ _) (fun k hk => ?_) (fun k hk => ?_) ?_ ?_ (fun i hi => ?_) (fun i hi => ?_) hm.1.1 (by omega) (fun k hk => ?_) (fun j hj => ?_)
  · simp at hc; rw [pu_off (by omega), nxV_off (by omega) (by omega)]
  · simp at hc; rw [pu_off (by omega), nxV_off (by omega) (by omega)]
  · rw [pu_off (by decide), nxV_28]
  · rw [pu_off (by decide), nxV_28]
  · rw [pu_off (by decide), nxV_off (by decide) (by decide)]
  · rw [pu_off (by decide), nxV_off (by decide) (by decide)]
  · rw [pu_off (by decide), nxV_off (by decide) (by decide)]; exact hm.1.2.2
  · rw [pu_off (by decide), nxV_off (by decide) (by decide)]; exact t2.2.2
  · rw [pu_off (by decide), nxV_off (by decide) (by decide)]
  · rw [pu_off (by decide), nxV_off (by decide) (by decide)]
  · rw [pu_off (by decide), pu_off (by decide), nxV_off (by decide) (by decide), nxV_off (by decide) (by decide)]; exact t3 k hk
  · rw [pu_off (by decide), pu_off (by decide), nxV_off (by decide) (by decide), nxV_off (by decide) (by decide)]; exact t4 j hj
theorem pw_9 {a : Nat} (hC : CI b V0 V (d + 1)) (hR : RP b V0 V Vp (d + 1) ix) (hm : frm V d f p (h + 1)) (hh : h + 1 ≤ 12) (h400 : V 28 7 < 400) (hr : row V0 f (ps V0 f p) 9 ((ps V0 f a : Nat) : Int) 0 1) (hq : ps V0 f (p + 1) = ps V0 f p + 1) : RE N 1 Vp (RPO b V0 (gzV (nxV V d ((p + 1 : Nat) : Int)) d h a)) := by
  have ht := RP_tops hC hR hm hh
  have h7 := hC.2.2.2.2.2.2.2.2.1.1
  refine RE_one hR.1 ht ⟨h7, h400⟩ (by decide) hr (wz_of (e_sh9 (tp_nx ht.2.2.2.2.2)) ?_)
  unfold gzV
  rw [nxV_off (show (30 : Nat) ≠ 28 by decide) (by decide), nxV_off (show (30 : Nat) ≠ 28 by decide) (by decide), ht.2.2.2.1 h (by omega)]
  have u2 : ∀ (W : pvM) (e : Nat) (x y : Int), pz_u (popV (nxV W e x) e h) 32 e y 32 = va_up (W 32) e y := fun W e x y => by
    rw [pu_row, popV_off (by decide), nxV_32]; funext j; simp only [up_app]; split <;> rfl
  have u1 : ∀ (W : pvM) (e : Nat) (x y : Int), fr [28, 32, 33, 34] W (pz_u (popV (nxV W e x) e h) 32 e y) := fun W e x y => nxpop_fr.trans (fr_u (by simp))
  split
  · split
    · refine RPO_in (D := d) (ix := ix) (by have h29 := hC.2.1.1; have h28 := hC.2.1.2.2.2.2.1; simp [pushV_off, popV_off, takeV_off, nxV_off, pu_off, nxV_28, up_app] <;> omega) ?_
      exact (RP_pop (q' := a) (h' := h) hC hR hm hh (by omega) (u1 _ _ _ _) (u1 _ _ _ _) (by rw [pu_off (by decide), popV_off (by decide), nxV_28]) (by rw [pu_off (by decide), popV_off (by decide), nxV_28]) (u2 _ _ _ _) (u2 _ _ _ _) (by rw [pu_off (by decide), popV_33, nxV_off (by decide) (by decide)]) (by rw [pu_off (by decide), popV_33, nxV_off (by decide) (by decide)])).1
    · refine RPO_in (D := d) (ix := ix) (by have h29 := hC.2.1.1; have h28 := hC.2.1.2.2.2.2.1; simp [pushV_off, popV_off, takeV_off, nxV_off, pu_off, nxV_28, up_app] <;> omega) ?_
      exact (RP_pop (q' := p + 1) (h' := h) hC hR hm hh (by omega) nxpop_fr nxpop_fr (by rw [popV_off (by decide), nxV_28]) (by rw [popV_off (by decide), nxV_28]) (by rw [popV_off (by decide), nxV_32]) (by rw [popV_off (by decide), nxV_32, hq]) (by rw [popV_33, nxV_off (by decide) (by decide)]) (by rw [popV_33, nxV_off (by decide) (by decide)])).1
  · exact RP_flt hR hC pp_fr pp_fr pp_28 pp_28 (by decide)
end PW
