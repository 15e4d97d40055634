/-! RETURN IN THE PLAINER CODE -/
section PR
variable {N : Nat} {b : Int} {V0 V Vp : pvM} {d f p h : Nat} {ix : Nat → Nat}
/-- both gave v to the frame below -/
theorem RP_ret {h2 : Nat} {v : Int} {V' Vp' : pvM} (hd : 0 < d) (hC : CI b V0 V (d + 1)) (hR : RP b V0 V Vp (d + 1) ix) (w1 : fr [28, 29, 30, 32, 33] V V') (w28 : V' 28 = va_up (va_up (V 28) 7 (V 28 7 + 1)) 6 (d : Int)) (w29 : V' 29 5 = (d : Int)) (w32 : ∀ k, k ≠ d → V' 32 k = V 32 k) (w33 : ∀ k, k ≠ d → k ≠ d - 1 → V' 33 k = V 33 k) (w33d : V' 33 (d - 1) = ((33 * (d - 1) + 20 + (h2 + 1) : Nat) : Int)) (hb2 : V 33 (d - 1) = ((33 * (d - 1) + 20 + h2 : Nat) : Int)) (h12 : h2 ≤ 12) (w30 : V' 30 = va_up (V 30) (33 * (d - 1) + 20 + h2) v)
    (f2 : fr [28, 29, 30, 31, 32, 33, 34] Vp Vp') (b28 : Vp' 28 5 = Vp 28 5 ∧ Vp' 28 6 = Vp 28 6 - 1 ∧ Vp' 28 7 = Vp 28 7 + 1 ∧ Vp' 28 8 = 0 ∧ Vp' 28 9 = 0) (b29 : Vp' 29 5 = ((ix (d - 1) + 1 : Nat) : Int) ∧ Vp' 29 6 = ix (d - 1)) (hb : BE Vp Vp' (ix (d - 1))) (b31 : Vp' 31 (ix (d - 1)) = Vp 31 (ix (d - 1))) (b32 : Vp' 32 (ix (d - 1)) = Vp 32 (ix (d - 1))) (b33 : Vp' 33 (ix (d - 1)) = ((33 * ix (d - 1) + 20 + (h2 + 1) : Nat) : Int)) (b30 : ∀ i, i < 33 * (ix (d - 1) + 1) → Vp' 30 i = va_up (Vp 30) (33 * ix (d - 1) + 20 + h2) v i) : RP b V0 V' Vp' (d - 1 + 1) ix := by
  obtain ⟨r1, r2, r3, r4, r5, r6, r7, r8⟩ := hR
  have c286 := hC.2.1.2.2.1
  have hI : IX V0 Vp (d - 1 + 1) ix := ⟨r4.1, fun k hk => r4.2 k (by omega)⟩
  refine ⟨r1.trans (f2.mono (by decide)), ⟨by rw [b28.1]; exact r2.1, ?_, ?_, b28.2.2.2.1, b28.2.2.2.2⟩, ?_, IX_keep hI hb, fun k hk => ?_, HP_fr r6 (fun c hc => w1 c (by simp at hc; simp; omega)) (fun c hc => f2 c (by simp at hc; simp; omega)), TP_fr r7 (w1 39 (by decide)) (w1 41 (by decide)) (f2 39 (by decide)) (f2 41 (by decide)), SDE_fr r8 (fun c hc => f2 c (by simp at hc; simp; omega))⟩
  · rw [b28.2.1, w28, up_app, if_pos rfl, r2.2.1, c286]; omega
  · rw [b28.2.2.1, w28, up_app, if_neg (by decide), up_app, if_pos rfl, r2.2.2.1]
  · rw [show d - 1 + 1 - 1 = d - 1 by omega]; exact b29
  · by_cases hkd : k = d - 1
    · subst hkd
      obtain ⟨f9, p9, h9, q1, q2, q3, q4, q5⟩ := r5 (d - 1) (by omega)
      have e9 : h9 = h2 := by have := q1.2.2; omega
      subst e9
      refine ⟨f9, p9, h9 + 1, ⟨by rw [w1 31 (by decide)]; exact q1.1, by rw [w32 _ (by omega)]; exact q1.2.1, w33d⟩, ⟨by rw [b31]; exact q2.1, by rw [b32]; exact q2.2.1, b33⟩, by omega, fun k hk2 => ?_, fun j hj => ?_⟩
      · rw [b30 _ (by omega), w30, up_app, up_app, if_neg (by omega), if_neg (by omega)]; exact q4 k hk2
      · rw [b30 _ (by omega), w30, up_app, up_app]
        by_cases hj9 : j = h9
        · rw [if_pos (by omega), if_pos (by omega)]
        · rw [if_neg (by omega), if_neg (by omega)]; exact q5 j (by omega)
    · have h1 := IX_lt hI (k := k) (d - 1) (by omega) (by omega)
      have h3 := hb.1 (ix k) (by omega)
      exact pF_keep (r5 k (by omega)) (by rw [w1 31 (by decide)]) (w32 k (by omega)) (w33 k (by omega) hkd) (fun i h4 h5 => by rw [w30, up_app, if_neg (by omega)]) h3.1 h3.2.1 h3.2.2 (fun i h4 h5 => hb.2 i (by omega))
set_option maxHeartbeats 4000000 in
set_option maxRecDepth 100000 in
theorem pw_11 {h2 : Nat} {a : Int} (hL : LOW V0) (hW : RW V0) (hP : PI V0) (hC : CI b V0 V (d + 1)) (hR : RP b V0 V Vp (d + 1) ix) (hm : frm V d f p (h + 1)) (hh : h + 1 ≤ 12) (h400 : V 28 7 < 400) (hr : row V0 f (ps V0 f p) 11 a 0 1) (hbel : 0 < d → V 33 (d - 1) = ((33 * (d - 1) + 20 + h2 : Nat) : Int) ∧ h2 < 13) : RE N 2 Vp (RPO b V0 (if d = 0 then pz_u (gvV (nxV V d ((p + 1 : Nat) : Int)) (d + 1) d h) 28 9 (V 30 (33 * d + 20 + h)) else pushV (gvV (nxV V d ((p + 1 : Nat) : Int)) (d + 1) d h) (d - 1) h2 (V 30 (33 * d + 20 + h)))) := by
  have ht := RP_tops hC hR hm hh
  have h9 := hC.2.2.2.2.2.2.2.2.1
  have c286 := hC.2.1.2.2.1
  have hD := hC.2.2.1
  have hn12 := hP.1
  have hfn : (f : Int) < V0 1 6 := by rw [← hC.1 1 (by decide)]; exact hm.2.1.1
  have ht' := ht
  obtain ⟨t1, t2, t3, t4, t5, t6⟩ := ht'
  have hR' := hR
  obtain ⟨r1, r2, r3, r4, r5, r6, r7, r8⟩ := hR'
  obtain ⟨X, hX⟩ : ∃ X, X = nxV Vp (ix d) ((ps V0 f p + 1 : Nat) : Int) := ⟨_, rfl⟩
  have x28 : X 28 = va_up (Vp 28) 7 (Vp 28 7 + 1) := by rw [hX, nxV_28]
  have x32 : X 32 = va_up (Vp 32) (ix d) ((ps V0 f p + 1 : Nat) : Int) := by rw [hX, nxV_32]
  have xof : ∀ c, c ≠ 28 → c ≠ 32 → X c = Vp c := fun c a1 a2 => by rw [hX, nxV_off a1 a2]
  have x6 : X 28 6 = ((d + 1 : Nat) : Int) := by rw [x28, up_app, if_neg (by decide), t5.2.2.2.1, c286]
  have e1 := t4 h (by omega)
  have hfun : ¬ X 1 6 ≤ X 31 (ix d) := by rw [xof 1 (by decide) (by decide), xof 31 (by decide) (by decide), t2.1, r1 1 (by decide)]; omega
  obtain ⟨W, hWe, w1, w2, w3, w4, w5, w6⟩ := gv_rows hC hm
  rw [← hWe]
  by_cases hd : d = 0
  · have hi0 : ix d = 0 := by rw [hd]; exact r4.1
    rw [if_pos hd]
    refine RE_mono (RE_one (Q := RPO b V0 (pz_u W 28 9 (V 30 (33 * d + 20 + h)))) hR.1 ht ⟨h9.1, h400⟩ (by decide) hr (wz_of (e_sh11 (D := ix d + 1) (h2 := 0) (tp_nx t6) rfl (by rw [nxV_off (by decide) (by decide)]; exact t1.2.2) (by rw [← hX, x6]; omega) (fun h0 => by omega)) ?_)) (by omega) (fun _ h => h)
    rw [← hX, if_pos hi0, xof 30 (by decide) (by decide), e1]
    have gof : ∀ c, c ∉ [28, 29, 33] → gvV X (ix d + 1) (ix d) h c = X c := fun c hc => by
      simp at hc
      unfold gvV
      rw [if_neg hfun, closeV_off (by omega), pu_off (by omega), popV_off (by omega)]
    have g28 : gvV X (ix d + 1) (ix d) h 28 = va_up (X 28) 6 (X 28 6 - 1) := by
      unfold gvV
      rw [if_neg hfun, closeV_off (by decide), pu_row, popV_off (by decide)]
    have g5 : gvV X (ix d + 1) (ix d) h 29 5 = 0 := by
      unfold gvV
      rw [closeV_29, up_app, if_neg (by decide), up_app, if_pos rfl, hi0]; rfl
    have g39 : pz_u (gvV X (ix d + 1) (ix d) h) 28 9 (V 30 (33 * d + 20 + h)) 39 = Vp 39 := by rw [pu_off (by decide), gof 39 (by decide), xof 39 (by decide) (by decide)]
    refine Or.inr ⟨r1.trans (fun c hc => ?_), ?_, ?_, ?_, ?_, ?_, ?_, Or.inr ⟨?_, ?_⟩⟩
    · simp [rcs] at hc
      rw [pu_off (by omega), gof c (by simp; omega), xof c (by omega) (by omega)]
    · unfold KS; rw [g39]; exact r8.2.1
    · exact bg_u r8.2.2 (by rw [pu_off (by decide), gof 17 (by decide), xof 17 (by decide) (by decide)]) g39 (by rw [pu_off (by decide), gof 84 (by decide), xof 84 (by decide) (by decide)])
    · rw [pu_row, pu_row, up_app, up_app, if_neg (by decide), if_neg (by decide), g28, w2, up_app, up_app, if_neg (by decide), if_neg (by decide), x28, up_app, up_app, if_pos rfl, if_pos rfl, r2.2.2.1]
    · rw [pu_row, pu_row, up_app, up_app, if_neg (by decide), if_neg (by decide), g28, w2, up_app, up_app, if_neg (by decide), if_neg (by decide), x28, up_app, up_app, if_neg (by decide), if_neg (by decide), t5.2.1]; exact hC.2.1.2.2.2.2.1.symm
    · rw [g39, pu_off (by decide), w1 39 (by decide)]; exact r7.2.1
    · rw [pz_u_eq, pz_u_eq]
    · rw [pu_off (by decide), w3]; omega
    · rw [pu_off (by decide)]; exact g5
  · rw [if_neg hd]
    have hd0 : 0 < d := by omega
    have hb := hbel hd0
    obtain ⟨f9, p9, h9', q1, q2, q3, q4, q5⟩ := r5 (d - 1) (by omega)
    have e9 : h9' = h2 := by have := q1.2.2; omega
    subst e9
    have vout : (pushV W (d - 1) h9' (V 30 (33 * d + 20 + h))) 29 5 = (((d - 1) + 1 : Nat) : Int) ∧ (pushV W (d - 1) h9' (V 30 (33 * d + 20 + h))) 28 8 = 0 := by
      rw [pushV_off (by decide) (by decide), pushV_off (by decide) (by decide), w3, w2, up_app, if_neg (by decide), up_app, if_neg (by decide)]
      exact ⟨by omega, hC.2.1.2.2.2.2.1⟩
    have fin : ∀ Vp' : pvM, fr [28, 29, 30, 31, 32, 33, 34] Vp Vp' → (Vp' 28 5 = Vp 28 5 ∧ Vp' 28 6 = Vp 28 6 - 1 ∧ Vp' 28 7 = Vp 28 7 + 1 ∧ Vp' 28 8 = 0 ∧ Vp' 28 9 = 0) → (Vp' 29 5 = ((ix (d - 1) + 1 : Nat) : Int) ∧ Vp' 29 6 = ix (d - 1)) → BE Vp Vp' (ix (d - 1)) → Vp' 31 (ix (d - 1)) = Vp 31 (ix (d - 1)) → Vp' 32 (ix (d - 1)) = Vp 32 (ix (d - 1)) → Vp' 33 (ix (d - 1)) = ((33 * ix (d - 1) + 20 + (h9' + 1) : Nat) : Int) → (∀ i, i < 33 * (ix (d - 1) + 1) → Vp' 30 i = va_up (Vp 30) (33 * ix (d - 1) + 20 + h9') (V 30 (33 * d + 20 + h)) i) → RPO b V0 (pushV W (d - 1) h9' (V 30 (33 * d + 20 + h))) Vp' := by
      intro Vp' z1 z2 z3 z4 z5 z6 z7 z8
      refine RPO_in (D := d - 1) (ix := ix) vout (RP_ret hd0 hC hR (fun c hc => ?_) ?_ ?_ (fun k hk => ?_) (fun k hk hk2 => ?_) ?_ hb.1 (by omega) ?_ z1 z2 z3 z4 z5 z6 z7 z8)
      · simp at hc; rw [pushV_off (by omega) (by omega), w1 c (by simp; omega)]
      · rw [pushV_off (by decide) (by decide), w2]
      · rw [pushV_off (by decide) (by decide), w3]
      · rw [pushV_off (by decide) (by decide), w5 k hk]
      · rw [pushV_33, up_app, if_neg hk2, w6 k hk]
      · rw [pushV_33, up_app, if_pos rfl]
      · rw [pushV_30, w1 30 (by decide)]
    have hstep := r4.2 (d - 1) (by omega)
    rw [show d - 1 + 1 = d by omega] at hstep
    have hed : 0 < ix d := by rcases hstep with h0 | h0 <;> omega
    rcases hstep with hs1 | ⟨hs2, hmf⟩
    · -- no method between
      have he1 : ix d - 1 = ix (d - 1) := by omega
      refine RE_mono (RE_one (Q := RPO b V0 (pushV W (d - 1) h9' (V 30 (33 * d + 20 + h)))) hR.1 ht ⟨h9.1, h400⟩ (by decide) hr (wz_of (e_sh11 (D := ix d + 1) (h2 := h9') (tp_nx t6) rfl (by rw [nxV_off (by decide) (by decide)]; exact t1.2.2) (by rw [← hX, x6]; omega) (fun h0 => by rw [nxV_off (by decide) (by decide), he1]; exact ⟨q2.2.2, hb.2⟩)) ?_)) (by omega) (fun _ h => h)
      rw [← hX, if_neg (by omega), xof 30 (by decide) (by decide), e1]
      obtain ⟨Y, hY, y1, y28, y5, y6, y33, y30⟩ := gv_rowsG (X := X) (e := ix d) (h := h) (h2 := h9') (v := V 30 (33 * d + 20 + h)) hed
      rw [← hY]
      rw [if_neg hfun] at y28
      refine fin Y (fun c hc => ?_) ⟨?_, ?_, ?_, ?_, ?_⟩ ⟨?_, ?_⟩ ⟨fun i hi => ⟨?_, ?_, ?_⟩, fun i hi => ?_⟩ ?_ ?_ ?_ (fun i hi => ?_)
      · simp at hc; rw [y1 c (by simp; omega), xof c (by omega) (by omega)]
      · rw [y28, up_app, if_neg (by decide), x28, up_app, if_neg (by decide)]
      · rw [y28, up_app, if_pos rfl, x28, up_app, if_neg (by decide)]
      · rw [y28, up_app, if_neg (by decide), x28, up_app, if_pos rfl]
      · rw [y28, up_app, if_neg (by decide), x28, up_app, if_neg (by decide)]; exact t5.2.1
      · rw [y28, up_app, if_neg (by decide), x28, up_app, if_neg (by decide)]; exact t5.2.2.1
      · rw [y5]; omega
      · rw [y6, he1]
      · rw [y1 31 (by decide), xof 31 (by decide) (by decide)]
      · rw [y1 32 (by decide), x32, up_app, if_neg (by omega)]
      · rw [y33, up_app, if_neg (by omega), up_app, if_neg (by omega), xof 33 (by decide) (by decide)]
      · rw [y30, up_app, if_neg (by omega), xof 30 (by decide) (by decide)]
      · rw [y1 31 (by decide), xof 31 (by decide) (by decide)]
      · rw [y1 32 (by decide), x32, up_app, if_neg (by omega)]
      · rw [y33, he1, up_app, if_pos rfl]
      · rw [y30, he1, xof 30 (by decide) (by decide)]
    · -- behind a method
      obtain ⟨c, m1, m2, m3, m4⟩ := hmf
      have he1 : ix d - 1 = ix (d - 1) + 1 := by omega
      obtain ⟨Y, hY, y1, y28, y5, y6, y33, y30⟩ := gv_rowsG (X := X) (e := ix d) (h := h) (h2 := 0) (v := V 30 (33 * d + 20 + h)) hed
      rw [if_neg hfun] at y28
      refine RE_then (n := 1) (m := 1) (R := fun Z => Z = Y) (RE_one (Q := fun Z => Z = Y) hR.1 ht ⟨h9.1, h400⟩ (by decide) hr (wz_of (e_sh11 (D := ix d + 1) (h2 := 0) (tp_nx t6) rfl (by rw [nxV_off (by decide) (by decide)]; exact t1.2.2) (by rw [← hX, x6]; omega) (fun h0 => by rw [nxV_off (by decide) (by decide), he1]; exact ⟨m4, by omega⟩)) ?_)) (fun Z hZ => ?_)
      · rw [← hX, if_neg (by omega), xof 30 (by decide) (by decide), e1, hY]
      · subst hZ
        have fY : fr rcs V0 Z := r1.trans (fun c hc => by
          simp [rcs] at hc
          rw [y1 c (by simp; omega), xof c (by omega) (by omega)])
        have mlen : (mL V0 c).length = (V0 24 c).toNat + (V0 8 (V0 23 c).toNat - V0 24 c).toNat + 2 := mG_len _ _ _
        have hrow := low_mrow hL hW hP (c := c) (j := (mL V0 c).length - 1) (x := (11, 0, 0)) m1 (by
          unfold mL mG
          rw [List.getElem?_append_right (by simp [gS_len, lS_len]), List.getElem?_append_right (by simp [gS_len, lS_len])]
          simp only [List.length_append, gS_len, lS_len, List.length_cons, List.length_nil]
          rw [show (V0 24 c).toNat + ((V0 8 (V0 23 c).toNat - V0 24 c).toNat + (0 + 1 + 1)) - 1 - (V0 24 c).toNat - (V0 8 (V0 23 c).toNat - V0 24 c).toNat = 1 by omega]
          rfl)
        have z31 : Z 31 (ix (d - 1) + 1) = (((V0 1 6).toNat + c : Nat) : Int) := by rw [y1 31 (by decide), xof 31 (by decide) (by decide)]; exact m2
        have z32 : Z 32 (ix (d - 1) + 1) = (((mL V0 c).length - 1 : Nat) : Int) := by rw [y1 32 (by decide), x32, up_app, if_neg (by omega)]; exact m3
        have z6 : Z 29 6 = ((ix (d - 1) + 1 : Nat) : Int) := by rw [y6, he1]
        have z5 : Z 29 5 = ((ix (d - 1) + 1 + 1 : Nat) : Int) := by rw [y5]; omega
        have z28 : ∀ i, i ≠ 6 → i ≠ 7 → Z 28 i = Vp 28 i := fun i a1 a2 => by rw [y28, up_app, if_neg a1, x28, up_app, if_neg a2]
        have z286 : Z 28 6 = (d : Int) := by rw [y28, up_app, if_pos rfl, x6]; omega
        obtain ⟨X2, hX2⟩ : ∃ X2, X2 = pz_u Z 32 (ix (d - 1) + 1) ((((mL V0 c).length - 1 + 1 : Nat)) : Int) := ⟨_, rfl⟩
        have x2of : ∀ c, c ≠ 32 → X2 c = Z c := fun c a1 => by rw [hX2, pu_off a1]
        have hmeth : X2 1 6 ≤ X2 31 (ix (d - 1) + 1) := by rw [x2of 1 (by decide), x2of 31 (by decide), z31, fY 1 (by decide)]; omega
        have z33 : Z 33 (ix (d - 1) + 1) = ((33 * (ix (d - 1) + 1) + 20 + (0 + 1) : Nat) : Int) := by rw [y33, he1, up_app, if_pos rfl]
        have zv : X2 30 (33 * (ix (d - 1) + 1) + 20 + 0) = V 30 (33 * d + 20 + h) := by rw [x2of 30 (by decide), y30, he1, up_app, if_pos rfl]
        refine RE_step (R := fun Z2 => RPO b V0 (pushV W (d - 1) h9' (V 30 (33 * d + 20 + h))) Z2) (by rw [z28 8 (by decide) (by decide)]; exact t5.2.1) (by omega) ?_ (fun Z2 h => h)
        refine s_pnext (e := ix (d - 1) + 1) (u := (V0 1 6).toNat + c) (q := (mL V0 c).length - 1) (by rw [z28 5 (by decide) (by decide), t5.1]; decide) z6 (by omega) z31 z32 (row_fr fY hrow) (Or.inl rfl) ?_
        unfold pbd pre
        rw [if_neg (by decide), if_neg (by decide), ← hX2]
        have ht2 : tp X2 (ix (d - 1) + 1) (0 + 1) := ⟨by rw [x2of 29 (by decide)]; exact z6, by omega, by rw [x2of 33 (by decide)]; exact z33, by omega⟩
        have k9 := e_sh11 (N := N) (D := ix (d - 1) + 1 + 1) (a := 0) (h2 := h9') (V := X2) ht2 rfl (by rw [x2of 29 (by decide)]; exact z5) (by rw [x2of 28 (by decide), z286]; omega) (fun h0 => by
          rw [x2of 33 (by decide), y33, up_app, if_neg (by omega), up_app, if_neg (by omega), xof 33 (by decide) (by decide), show ix (d - 1) + 1 - 1 = ix (d - 1) by omega]
          exact ⟨q2.2.2, hb.2⟩)
        rw [cL_eq k9]
        refine wp_rT ⟨rfl, ?_⟩
        rw [if_neg (by omega), zv]
        obtain ⟨Y2, hY2, a1, a28, a5, a6, a33, a30⟩ := gv_rowsG (X := X2) (e := ix (d - 1) + 1) (h := 0) (h2 := h9') (v := V 30 (33 * d + 20 + h)) (by omega)
        rw [← hY2]
        rw [if_pos hmeth] at a28
        rw [show ix (d - 1) + 1 - 1 = ix (d - 1) by omega] at a6 a33 a30
        have x2_32 : X2 32 = va_up (Z 32) (ix (d - 1) + 1) ((((mL V0 c).length - 1 + 1 : Nat)) : Int) := by rw [hX2, pu_row]
        refine fin Y2 (fun e he => ?_) ⟨?_, ?_, ?_, ?_, ?_⟩ ⟨?_, ?_⟩ ⟨fun i hi => ⟨?_, ?_, ?_⟩, fun i hi => ?_⟩ ?_ ?_ ?_ (fun i hi => ?_)
        · simp at he; rw [a1 e (by simp; omega), x2of e (by omega), y1 e (by simp; omega), xof e (by omega) (by omega)]
        · rw [a28, x2of 28 (by decide), z28 5 (by decide) (by decide)]
        · rw [a28, x2of 28 (by decide), z286, t5.2.2.2.1, c286]; omega
        · rw [a28, x2of 28 (by decide), y28, up_app, if_neg (by decide), x28, up_app, if_pos rfl]
        · rw [a28, x2of 28 (by decide), z28 8 (by decide) (by decide)]; exact t5.2.1
        · rw [a28, x2of 28 (by decide), z28 9 (by decide) (by decide)]; exact t5.2.2.1
        · rw [a5]
        · rw [a6]
        · rw [a1 31 (by decide), x2of 31 (by decide), y1 31 (by decide), xof 31 (by decide) (by decide)]
        · rw [a1 32 (by decide), x2_32, up_app, if_neg (by omega), y1 32 (by decide), x32, up_app, if_neg (by omega)]
        · rw [a33, up_app, if_neg (by omega), up_app, if_neg (by omega), x2of 33 (by decide), y33, up_app, if_neg (by omega), up_app, if_neg (by omega), xof 33 (by decide) (by decide)]
        · rw [a30, up_app, if_neg (by omega), x2of 30 (by decide), y30, up_app, if_neg (by omega), xof 30 (by decide) (by decide)]
        · rw [a1 31 (by decide), x2of 31 (by decide), y1 31 (by decide), xof 31 (by decide) (by decide)]
        · rw [a1 32 (by decide), x2_32, up_app, if_neg (by omega), y1 32 (by decide), x32, up_app, if_neg (by omega)]
        · rw [a33, up_app, if_pos rfl]
        · rw [a30, up_app, up_app]
          by_cases h8 : i = 33 * ix (d - 1) + 20 + h9'
          · rw [if_pos h8, if_pos h8]
          · rw [if_neg h8, if_neg h8, x2of 30 (by decide), y30, up_app, if_neg (by omega), xof 30 (by decide) (by decide)]
end PR
