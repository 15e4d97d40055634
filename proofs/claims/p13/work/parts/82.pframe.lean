/-! SAY, CALL AND RETURN IN THE PLAINER CODE -/
theorem SDE_39 {b : Int} {V V' : pvM} (h : SDE b V) (h39 : ∀ i, i ∉ [5, 7] → V' 39 i = V 39 i) (hc : ∀ c, c ∈ [17, 40, 41, 84] → V' c = V c) : SDE b V' := by
  obtain ⟨h1, h2, h3⟩ := h
  have e2 := h39 2 (by decide)
  have e3 := h39 3 (by decide)
  refine ⟨?_, ?_, ?_⟩
  · unfold TX at h1 ⊢; rw [e2, e3, hc 40 (by decide), hc 41 (by decide)]; exact h1
  · unfold KS at h2 ⊢; rw [e2]; exact h2
  · unfold BG at h3 ⊢; rw [e2, hc 17 (by decide), hc 84 (by decide)]; exact h3
section PG
variable {N : Nat} {b : Int} {V0 V Vp : pvM} {d f p h : Nat} {ix : Nat → Nat}
theorem spP {v : Int} (hC : CI b V0 V (d + 1)) (hR : RP b V0 V Vp (d + 1) ix) (hv : vok (V 39 3) (V 35 3) v) : spL Vp v = spL V v := by
  have h6 := hC.2.2.2.2.2.1.1
  have h9 := hC.2.2.2.2.2.2.2.2.1
  obtain ⟨T, hT⟩ : ∃ T : Nat, V 39 3 = T := ⟨(V 39 3).toNat, by omega⟩
  rw [hT] at hv
  exact spL_eq (T := T) hv (by omega) (by omega) (fun t ht => hR.2.2.2.2.2.2.1.2.2 t (by omega))
set_option maxHeartbeats 4000000 in
set_option maxRecDepth 100000 in
theorem pw_12 {V' : pvM} {a : Int} (hN : 50 ≤ N) (hC : CI b V0 V (d + 1)) (hR : RP b V0 V Vp (d + 1) ix) (hm : frm V d f p (h + 1)) (hh : h + 1 ≤ 12) (h400 : V 28 7 < 400) (hr : row V0 f (ps V0 f p) 12 a 0 1) (hq : ps V0 f (p + 1) = ps V0 f p + 1) (hs : syP (nxV V d ((p + 1 : Nat) : Int)) d h V') : RE N 1 Vp (RPO b V0 V') := by
  have ht := RP_tops hC hR hm hh
  have h9 := hC.2.2.2.2.2.2.2.2.1
  have h10 := hC.2.2.2.2.2.2.2.2.2
  have hv := hm.2.2.1 h (by omega)
  have hsp := spP hC hR hv
  have hR' := hR
  obtain ⟨r1, r2, r3, r4, r5, r6, r7, r8⟩ := hR'
  have ht' := ht
  obtain ⟨t1, t2, t3, t4, t5, t6⟩ := ht'
  have e1 := t4 h (by omega)
  obtain ⟨q, hq9⟩ : ∃ q, q = ps V0 f p := ⟨_, rfl⟩
  rw [← hq9] at hr ht
  have n39 : ∀ (W : pvM) (e : Nat) (x : Int), nxV W e x 39 = W 39 := fun W e x => nxV_off (by decide) (by decide)
  have n30 : ∀ (W : pvM) (e : Nat) (x : Int), nxV W e x 30 = W 30 := fun W e x => nxV_off (by decide) (by decide)
  have k9 := s_sh12 (N := N) (d := ix d) (h := h) (a := a) (H := V 35 3) (V := nxV Vp (ix d) ((q + 1 : Nat) : Int)) hN (tp_nx t6) (SDE_fr r8 (fun c hc => nxV_off (by simp at hc; omega) (by simp at hc; omega))).1 (by rw [n39, n30, e1, r7.1]; exact hv) (by omega) (by rw [n39, r7.2.1]; exact h10)
  refine RE_one hR.1 ht ⟨h9.1, h400⟩ (by decide) hr (wp_mono k9 (fun _ _ Vp' h8 => ⟨h8.1, ?_⟩))
  have hp := h8.2
  unfold syP at hs hp
  rw [nx_sp, n39, n30] at hs hp
  rw [e1, hsp, r7.2.1] at hp
  rcases hs with ⟨s1, s2, s3, s4⟩ | ⟨s1, V1, s2, s3, rfl⟩
  · rcases hp with ⟨p1, p2, p3, p4⟩ | ⟨p1, -⟩
    · have a39 : ∀ i, i ∉ [5, 7] → V' 39 i = V 39 i := fun i hi => by rw [s4 i hi, n39]
      have b39 : ∀ i, i ∉ [5, 7] → Vp' 39 i = Vp 39 i := fun i hi => by rw [p4 i hi, n39]
      have aof : ∀ c, c ∉ [28, 32, 33, 39, 43, 44] → V' c = V c := fun c hc => by simp at hc; rw [s3 c (by simp; omega), popV_off (by omega), nxV_off (by omega) (by omega)]
      have bof : ∀ c, c ∉ [28, 32, 33, 39, 43, 44] → Vp' c = Vp c := fun c hc => by simp at hc; rw [p3 c (by simp; omega), popV_off (by omega), nxV_off (by omega) (by omega)]
      have a28 : V' 28 = va_up (V 28) 7 (V 28 7 + 1) := by rw [s3 28 (by decide), pp_28]
      have b28 : Vp' 28 = va_up (Vp 28) 7 (Vp 28 7 + 1) := by rw [p3 28 (by decide), pp_28]
      have a32 : V' 32 = va_up (V 32) d ((p + 1 : Nat) : Int) := by rw [s3 32 (by decide), popV_off (by decide), nxV_32]
      have b32 : Vp' 32 = va_up (Vp 32) (ix d) ((q + 1 : Nat) : Int) := by rw [p3 32 (by decide), popV_off (by decide), nxV_32]
      have a33 : V' 33 = va_up (V 33) d ((33 * d + 20 + h : Nat) : Int) := by rw [s3 33 (by decide), popV_33, nxV_off (by decide) (by decide)]
      have b33 : Vp' 33 = va_up (Vp 33) (ix d) ((33 * ix d + 20 + h : Nat) : Int) := by rw [p3 33 (by decide), popV_33, nxV_off (by decide) (by decide)]
      refine RPO_in (D := d) (ix := ix) ⟨by rw [aof 29 (by decide)]; exact hC.2.1.1, by rw [a28, up_app, if_neg (by decide)]; exact hC.2.1.2.2.2.2.1⟩ ?_
      refine RP_top hR (aof 31 (by decide)) (fun k hk => by rw [a32, up_app, if_neg hk]) (fun k hk => by rw [a33, up_app, if_neg hk]) (fun i hi => by rw [aof 30 (by decide)]) (by rw [a28, up_app, if_neg (by decide)]) (fun c hc => bof c (fun h9 => hc (by simp at h9; simp [rcs]; omega))) ⟨fun i hi => ⟨by rw [bof 31 (by decide)], by rw [b32, up_app, if_neg (by omega)], by rw [b33, up_app, if_neg (by omega)]⟩, fun i hi => by rw [bof 30 (by decide)]⟩ (bof 29 (by decide)) (by rw [b28]; simp [up_app]) (by rw [a28, b28, up_app, up_app, if_pos rfl, if_pos rfl, r2.2.2.1]) ?_ (HP_fr r6 (fun c hc => aof c (by simp at hc; simp; omega)) (fun c hc => bof c (by simp at hc; simp; omega))) ?_ (SDE_39 r8 b39 (fun c hc => bof c (by simp at hc; simp; omega)))
      · refine ⟨f, p + 1, h, ⟨by rw [aof 31 (by decide)]; exact hm.1.1, by rw [a32, up_app, if_pos rfl], by rw [a33, up_app, if_pos rfl]⟩, ⟨by rw [bof 31 (by decide)]; exact t2.1, by rw [b32, up_app, if_pos rfl, hq, hq9], by rw [b33, up_app, if_pos rfl]⟩, by omega, fun k hk => ?_, fun j hj => ?_⟩
        · rw [aof 30 (by decide), bof 30 (by decide)]; exact t3 k hk
        · rw [aof 30 (by decide), bof 30 (by decide)]; exact t4 j (by omega)
      · refine ⟨by rw [a39 3 (by decide), b39 3 (by decide)]; exact r7.1, by rw [s2, p2], fun t ht => ?_⟩
        rw [a39 3 (by decide)] at ht
        rw [aof 41 (by decide), bof 41 (by decide)]; exact r7.2.2 t ht
    · omega
  · rcases hp with ⟨p1, -⟩ | ⟨p1, V2, p2, p3, rfl⟩
    · omega
    · refine Or.inr (PFN_flt (e := 5) hR (fun c hc => ?_) ?_ (by rw [pz_u_eq]) (by rw [pz_u_eq]) (by decide) ?_ ?_ ?_ ?_ ?_)
      · simp [rcs] at hc
        rw [pu_off (by omega), p2 c (by simp; omega), popV_off (by omega), nxV_off (by omega) (by omega)]
      · rw [pu_row, up_app, if_neg (by decide), pu_row, up_app, if_neg (by decide), s2 28 (by decide), p2 28 (by decide), pp_28, pp_28, up_app, up_app, if_pos rfl, if_pos rfl, r2.2.2.1]
      · rw [pu_off (by decide), pu_off (by decide), p3 7 (by decide), s3 7 (by decide), n39, n39]; exact r7.2.1
      · rw [pu_row, up_app, if_neg (by decide), s2 28 (by decide), pp_28, up_app, if_neg (by decide)]; exact hC.2.1.2.2.2.2.2
      · rw [pu_row, up_app, if_neg (by decide), p2 28 (by decide), pp_28, up_app, if_neg (by decide)]; exact r2.2.2.2.2
      · unfold KS; rw [pu_off (by decide), p3 2 (by decide), n39]; exact r8.2.1
      · have h5 := r8.2.2
        unfold BG at h5 ⊢
        rw [pu_off (show (84 : Nat) ≠ 28 by decide), pu_off (show (17 : Nat) ≠ 28 by decide), pu_off (show (39 : Nat) ≠ 28 by decide), p3 2 (by decide), n39, p2 17 (by decide), p2 84 (by decide), popV_off (by decide), popV_off (by decide), nxV_off (by decide) (by decide), nxV_off (by decide) (by decide)]
        exact h5
/-! frames -/
/-- rows of a call on top of frame e -/
def clG (X W : pvM) (e h g : Nat) (lo : Nat → Int) : Prop := fr [28, 29, 30, 31, 32, 33, 34] X W ∧ W 28 = va_up (X 28) 6 (X 28 6 + 1) ∧ W 31 = va_up (X 31) (e + 1) g ∧ W 32 = va_up (X 32) (e + 1) 0 ∧ W 33 = va_up (va_up (X 33) e ((33 * e + 20 + h : Nat) : Int)) (e + 1) ((33 * (e + 1) + 20 : Nat) : Int) ∧ (∀ i, i < 33 * (e + 1) → W 30 i = X 30 i) ∧ (∀ k, k < 20 → W 30 (33 * (e + 1) + k) = lo k) ∧ W 29 5 = ((e + 1 + 1 : Nat) : Int) ∧ W 29 6 = ((e + 1 : Nat) : Int)
theorem cl_rowsG {X : pvM} {e h n g : Nat} (h30 : X 28 6 ≠ 30) (hn : n ≤ 3) : clG X (clV X (e + 1) e h n g) e h g (fun k => if k < n then X 30 (33 * e + 20 + h + k) else zV) := by
  unfold clV
  rw [if_neg h30]
  obtain ⟨W, hWd⟩ : ∃ W, W = pz_u (takeV X e h n) 28 6 (X 28 6 + 1) := ⟨_, rfl⟩
  have eb : bfV (takeV X e h n) (e + 1) g = openV W (e + 1) g := by
    unfold bfV
    rw [hWd, takeV_off (show (28 : Nat) ≠ 33 by decide) (by decide)]
  rw [eb]
  have w30 : W 30 = X 30 := by rw [hWd, pu_off (by decide), takeV_off (by decide) (by decide)]
  have w34 : ∀ k, k < n → W 34 k = X 30 (33 * e + 20 + h + k) := fun k hk => by rw [hWd, pu_off (by decide), takeV_34 hk]
  have soff : ∀ c, c ≠ 30 → slV (openV W (e + 1) g) (e + 1) 0 n c = openV W (e + 1) g c := fun c hc => by unfold slV; rw [up_app, if_neg hc]
  have s30 : slV (openV W (e + 1) g) (e + 1) 0 n 30 = fun k => if 33 * (e + 1) + 0 ≤ k ∧ k < 33 * (e + 1) + 0 + n then W 34 (k - (33 * (e + 1) + 0)) else if 33 * (e + 1) ≤ k ∧ k < 33 * (e + 1) + 20 then zV else X 30 k := by
    unfold slV
    rw [up_app, if_pos rfl, openV_30, openV_off (by decide), w30]
  refine ⟨fun c hc => ?_, ?_, ?_, ?_, ?_, fun i hi => ?_, fun k hk => ?_, ?_, ?_⟩
  · simp at hc
    rw [soff c (by omega), openV_off (by omega), hWd, pu_off (by omega), takeV_off (by omega) (by omega)]
  · rw [soff 28 (by decide), openV_off (by decide), hWd, pu_row, takeV_off (by decide) (by decide)]
  · rw [soff 31 (by decide), openV_31, hWd, pu_off (by decide), takeV_off (by decide) (by decide)]
  · rw [soff 32 (by decide), openV_32, hWd, pu_off (by decide), takeV_off (by decide) (by decide)]
  · rw [soff 33 (by decide), openV_33, hWd, pu_off (by decide), takeV_33]
  · rw [s30]; dsimp only; rw [if_neg (by omega), if_neg (by omega)]
  · rw [s30]; dsimp only
    by_cases hkn : k < n
    · rw [if_pos (by omega), w34 _ (by omega), if_pos hkn, show 33 * (e + 1) + k - (33 * (e + 1) + 0) = k by omega]
    · rw [if_neg (by omega), if_pos (by omega), if_neg hkn]
  · rw [soff 29 (by decide), openV_29, up_app, if_pos rfl]
  · rw [soff 29 (by decide), openV_29, up_app, if_neg (by decide), up_app, if_pos rfl]
/-- both opened a frame for function g, the plainer code perhaps behind a method's -/
theorem RP_open {g h' e' : Nat} {V' Vp' : pvM} {lo : Nat → Int} (hC : CI b V0 V (d + 1)) (hR : RP b V0 V Vp (d + 1) ix) (hm : frm V d f p h) (hh : h ≤ 12) (hle : h' ≤ h) (hX : opn V V' d p h' g lo) (he' : e' = ix d + 1 ∨ (e' = ix d + 2 ∧ mfr V0 Vp' (ix d + 1))) (f2 : fr [28, 29, 30, 31, 32, 33, 34] Vp Vp') (b28 : Vp' 28 5 = Vp 28 5 ∧ Vp' 28 6 = Vp 28 6 + 1 ∧ Vp' 28 7 = Vp 28 7 + 1 ∧ Vp' 28 8 = 0 ∧ Vp' 28 9 = 0) (b29 : Vp' 29 5 = ((e' + 1 : Nat) : Int) ∧ Vp' 29 6 = e') (hb : BE Vp Vp' (ix d)) (b30 : ∀ i, i < 33 * (ix d + 1) → Vp' 30 i = Vp 30 i) (b31 : Vp' 31 (ix d) = Vp 31 (ix d)) (b32 : Vp' 32 (ix d) = ((ps V0 f (p + 1) : Nat) : Int)) (b33 : Vp' 33 (ix d) = ((33 * ix d + 20 + h' : Nat) : Int)) (n31 : Vp' 31 e' = g) (n32 : Vp' 32 e' = 0) (n33 : Vp' 33 e' = ((33 * e' + 20 : Nat) : Int)) (nlo : ∀ k, k < 8 → Vp' 30 (33 * e' + k) = lo k) : RP b V0 V' Vp' (d + 1 + 1) (fun k => if k = d + 1 then e' else ix k) := by
  obtain ⟨t1, t2, t3, t4, t5, t6⟩ := RP_tops hC hR hm hh
  obtain ⟨r1, r2, r3, r4, r5, r6, r7, r8⟩ := hR
  obtain ⟨w1, w28, w31, w32, w33, w30, wlo, w5, w6⟩ := hX
  have c286 := hC.2.1.2.2.1
  refine ⟨r1.trans (f2.mono (by decide)), ⟨by rw [b28.1]; exact r2.1, ?_, ?_, b28.2.2.2.1, b28.2.2.2.2⟩, ?_, ⟨?_, fun k hk => ?_⟩, fun k hk => ?_, HP_fr r6 (fun c hc => w1 c (by simp at hc; simp; omega)) (fun c hc => f2 c (by simp at hc; simp; omega)), TP_fr r7 (w1 39 (by decide)) (w1 41 (by decide)) (f2 39 (by decide)) (f2 41 (by decide)), SDE_fr r8 (fun c hc => f2 c (by simp at hc; simp; omega))⟩
  · rw [b28.2.1, w28, up_app, if_pos rfl, r2.2.1, c286]; rfl
  · rw [b28.2.2.1, w28, up_app, if_neg (by decide), up_app, if_pos rfl, r2.2.2.1]
  · dsimp only
    rw [show d + 1 + 1 - 1 = d + 1 by omega, if_pos rfl]; exact b29
  · dsimp only; rw [if_neg (by omega)]; exact r4.1
  · dsimp only
    rw [if_neg (show ¬ k = d + 1 by omega)]
    by_cases hkd : k = d
    · subst hkd; rw [if_pos rfl]; exact he'
    · rw [if_neg (by omega)]
      exact (IX_keep r4 hb).2 k (by omega)
  · dsimp only
    by_cases hk1 : k = d + 1
    · rw [if_pos hk1]
      subst hk1
      refine ⟨g, 0, 0, ⟨by rw [w31, up_app, if_pos rfl], by rw [w32, up_app, if_pos rfl]; rfl, by rw [w33, up_app, if_pos rfl]⟩, ⟨n31, by rw [n32]; rfl, n33⟩, by omega, fun j hj => ?_, fun j hj => by omega⟩
      rw [nlo j hj, wlo j (by omega)]
    · rw [if_neg hk1]
      by_cases hkd : k = d
      · subst hkd
        refine ⟨f, p + 1, h', ⟨by rw [w31, up_app, if_neg (by omega)]; exact hm.1.1, by rw [w32, up_app, if_neg (by omega), up_app, if_pos rfl], by rw [w33, up_app, if_neg (by omega), up_app, if_pos rfl]⟩, ⟨by rw [b31]; exact t2.1, b32, b33⟩, by omega, fun j hj => ?_, fun j hj => ?_⟩
        · rw [b30 _ (by omega), w30 _ (by omega)]; exact t3 j hj
        · rw [b30 _ (by omega), w30 _ (by omega)]; exact t4 j (by omega)
      · have h1 := IX_lt r4 (k := k) d (by omega) (by omega)
        have h2 := hb.1 (ix k) (by omega)
        exact pF_keep (r5 k (by omega)) (by rw [w31, up_app, if_neg hk1]) (by rw [w32, up_app, if_neg hk1, up_app, if_neg hkd]) (by rw [w33, up_app, if_neg hk1, up_app, if_neg hkd]) (fun i h3 h4 => w30 i (by omega)) h2.1 h2.2.1 h2.2.2 (fun i h3 h4 => hb.2 i (by omega))
set_option maxHeartbeats 4000000 in
set_option maxRecDepth 100000 in
theorem pw_10 {n g : Nat} (hN : 50 ≤ N) (hP : PI V0) (hC : CI b V0 V (d + 1)) (hR : RP b V0 V Vp (d + 1) ix) (hm : frm V d f p (h + n)) (hh : h + n ≤ 12) (h400 : V 28 7 < 400) (hr : row V0 f (ps V0 f p) 10 g 0 1) (hq : ps V0 f (p + 1) = ps V0 f p + 1) (hg : g < 12) (hn : V 8 g = n) (hn3 : n ≤ 3) : RE N 1 Vp (RPO b V0 (clV (nxV V d ((p + 1 : Nat) : Int)) (d + 1) d h n g)) := by
  have ht := RP_tops hC hR hm hh
  have h9 := hC.2.2.2.2.2.2.2.2.1
  have c286 := hC.2.1.2.2.1
  have hD := hC.2.2.1
  have ht' := ht
  obtain ⟨t1, t2, t3, t4, t5, t6⟩ := ht'
  obtain ⟨X, hX⟩ : ∃ X, X = nxV Vp (ix d) ((ps V0 f p + 1 : Nat) : Int) := ⟨_, rfl⟩
  have x28 : X 28 = va_up (Vp 28) 7 (Vp 28 7 + 1) := by rw [hX, nxV_28]
  have x32 : X 32 = va_up (Vp 32) (ix d) ((ps V0 f p + 1 : Nat) : Int) := by rw [hX, nxV_32]
  have xof : ∀ c, c ≠ 28 → c ≠ 32 → X c = Vp c := fun c a1 a2 => by rw [hX, nxV_off a1 a2]
  have x6 : X 28 6 = ((d + 1 : Nat) : Int) := by rw [x28, up_app, if_neg (by decide), t5.2.2.2.1, c286]
  refine RE_one hR.1 ht ⟨h9.1, h400⟩ (by decide) hr (wz_of (e_sh10 (D := ix d + 1) (n := n) hN (tp_nx t6) (by omega) (by rw [nxV_off (by decide) (by decide), hR.1 8 (by decide), ← hC.1 8 (by decide), show ((g : Int)).toNat = g by omega]; exact hn) hn3 (by omega) (by rw [nxV_off (by decide) (by decide)]; exact t1.2.2) (by rw [← hX, x6]; omega)) ?_)
  rw [← hX]
  by_cases h30 : d + 1 = 30
  · unfold clV
    rw [if_pos (by rw [nxV_28, up_app, if_neg (by decide), c286]; omega), if_pos (by rw [x6]; omega), hX]
    exact RP_flt hR hC tk_fr tk_fr tk_28 tk_28 (by decide)
  · have hO := cl_rows (V := V) (d := d) (p := p) (n := n) (g := g) (h' := h) c286 (by omega) hn3
    have hG := cl_rowsG (X := X) (e := ix d) (h := h) (n := n) (g := g) (by rw [x6]; omega) hn3
    obtain ⟨g1, g28, g31, g32, g33, g30, glo, g5, g6⟩ := hG
    refine RPO_in (D := d + 1) (ix := fun k => if k = d + 1 then ix d + 1 else ix k) (opn_go hO hC.2.1.2.2.2.2.1) ?_
    refine RP_open (h' := h) (e' := ix d + 1) hC hR hm hh (by omega) hO (Or.inl rfl) (fun c hc => ?_) ⟨?_, ?_, ?_, ?_, ?_⟩ ⟨g5, g6⟩ ⟨fun i hi => ⟨?_, ?_, ?_⟩, fun i hi => ?_⟩ (fun i hi => ?_) ?_ ?_ ?_ ?_ ?_ ?_ (fun k hk => ?_)
    · simp at hc; rw [g1 c (by simp; omega), xof c (by omega) (by omega)]
    · rw [g28, up_app, if_neg (by decide), x28, up_app, if_neg (by decide)]
    · rw [g28, up_app, if_pos rfl, x28, up_app, if_neg (by decide)]
    · rw [g28, up_app, if_neg (by decide), x28, up_app, if_pos rfl]
    · rw [g28, up_app, if_neg (by decide), x28, up_app, if_neg (by decide)]; exact t5.2.1
    · rw [g28, up_app, if_neg (by decide), x28, up_app, if_neg (by decide)]; exact t5.2.2.1
    · rw [g31, up_app, if_neg (by omega), xof 31 (by decide) (by decide)]
    · rw [g32, up_app, if_neg (by omega), x32, up_app, if_neg (by omega)]
    · rw [g33, up_app, if_neg (by omega), up_app, if_neg (by omega), xof 33 (by decide) (by decide)]
    · rw [g30 i (by omega), xof 30 (by decide) (by decide)]
    · rw [g30 i hi, xof 30 (by decide) (by decide)]
    · rw [g31, up_app, if_neg (by omega), xof 31 (by decide) (by decide)]
    · rw [g32, up_app, if_neg (by omega), x32, up_app, if_pos rfl, hq]
    · rw [g33, up_app, if_neg (by omega), up_app, if_pos rfl]
    · rw [g31, up_app, if_pos rfl]
    · rw [g32, up_app, if_pos rfl]
    · rw [g33, up_app, if_pos rfl]
    · rw [glo k (by omega), xof 30 (by decide) (by decide)]
      dsimp only
      by_cases hkn : k < n
      · rw [if_pos hkn, if_pos hkn]
        have h8 := t4 (h + k) (by omega)
        rw [show 33 * ix d + 20 + (h + k) = 33 * ix d + 20 + h + k by omega, show 33 * d + 20 + (h + k) = 33 * d + 20 + h + k by omega] at h8
        exact h8
      · rw [if_neg hkn, if_neg hkn]
/-- rows of a frame's end -/
theorem gv_rowsG {X : pvM} {e h h2 : Nat} {v : Int} (he : 0 < e) : ∃ W, W = pushV (gvV X (e + 1) e h) (e - 1) h2 v ∧ fr [28, 29, 30, 33] X W ∧ W 28 = (if X 1 6 ≤ X 31 e then X 28 else va_up (X 28) 6 (X 28 6 - 1)) ∧ W 29 5 = (e : Int) ∧ W 29 6 = ((e - 1 : Nat) : Int) ∧ W 33 = va_up (va_up (X 33) e ((33 * e + 20 + h : Nat) : Int)) (e - 1) ((33 * (e - 1) + 20 + (h2 + 1) : Nat) : Int) ∧ W 30 = va_up (X 30) (33 * (e - 1) + 20 + h2) v := by
  refine ⟨_, rfl, fun c hc => ?_, ?_, ?_, ?_, ?_, ?_⟩
  · simp at hc
    rw [pushV_off (by omega) (by omega)]
    unfold gvV
    rw [closeV_off (by omega)]
    split
    · rw [popV_off (by omega)]
    · rw [pu_off (by omega), popV_off (by omega)]
  · rw [pushV_off (by decide) (by decide)]
    unfold gvV
    rw [closeV_off (by decide)]
    split
    · rw [popV_off (by decide)]
    · rw [pu_row, popV_off (by decide)]
  · rw [pushV_off (by decide) (by decide)]
    unfold gvV
    rw [closeV_29, up_app, if_neg (by decide), up_app, if_pos rfl]; rfl
  · rw [pushV_off (by decide) (by decide)]
    unfold gvV
    rw [closeV_29, up_app, if_pos rfl]; rfl
  · rw [pushV_33]
    unfold gvV
    rw [closeV_off (by decide)]
    split
    · rw [popV_33]
    · rw [pu_off (by decide), popV_33]
  · rw [pushV_30]
    unfold gvV
    rw [closeV_off (by decide)]
    split
    · rw [popV_off (by decide)]
    · rw [pu_off (by decide), popV_off (by decide)]
end PG
