/-! FRAMES ARE OPENED AND CLOSED -/
section MO
variable {N : Nat} {b : Int} {U V0 V Vr : pvM} {d f p h : Nat}
/-- rows behind a call -/
def opn (V W : pvM) (d p h' g : Nat) (lo : Nat → Int) : Prop := fr [28, 29, 30, 31, 32, 33, 34] V W ∧ W 28 = va_up (va_up (V 28) 7 (V 28 7 + 1)) 6 ((d + 1 + 1 : Nat) : Int) ∧ W 31 = va_up (V 31) (d + 1) g ∧ W 32 = va_up (va_up (V 32) d ((p + 1 : Nat) : Int)) (d + 1) 0 ∧ W 33 = va_up (va_up (V 33) d ((33 * d + 20 + h' : Nat) : Int)) (d + 1) ((33 * (d + 1) + 20 : Nat) : Int) ∧ (∀ i, i < 33 * (d + 1) → W 30 i = V 30 i) ∧ (∀ k, k < 20 → W 30 (33 * (d + 1) + k) = lo k) ∧ W 29 5 = ((d + 1 + 1 : Nat) : Int) ∧ W 29 6 = ((d + 1 : Nat) : Int)
theorem opn_go {h' g : Nat} {lo : Nat → Int} {W : pvM} (hX : opn V W d p h' g lo) (h8 : V 28 8 = 0) : W 29 5 = ((d + 1 + 1 : Nat) : Int) ∧ W 28 8 = 0 := ⟨hX.2.2.2.2.2.2.2.1, by rw [hX.2.1, up_app, if_neg (by decide), up_app, if_neg (by decide)]; exact h8⟩
theorem cl_rows {n g h' : Nat} (c286 : V 28 6 = ((d + 1 : Nat) : Int)) (hd : d + 1 < 30) (hn : n ≤ 3) : opn V (clV (nxV V d ((p + 1 : Nat) : Int)) (d + 1) d h' n g) d p h' g (fun k => if k < n then V 30 (33 * d + 20 + h' + k) else zV) := by
  have c2 : nxV V d ((p + 1 : Nat) : Int) 28 6 = ((d + 1 : Nat) : Int) := by rw [nxV_28, up_app, if_neg (by decide)]; exact c286
  unfold clV
  rw [if_neg (by rw [c2]; omega)]
  obtain ⟨W, hWd⟩ : ∃ W, W = pz_u (takeV (nxV V d ((p + 1 : Nat) : Int)) d h' n) 28 6 ((d + 1 + 1 : Nat) : Int) := ⟨_, rfl⟩
  have eb : bfV (takeV (nxV V d ((p + 1 : Nat) : Int)) d h' n) (d + 1) g = openV W (d + 1) g := by
    unfold bfV
    rw [hWd, takeV_off (show (28 : Nat) ≠ 33 by decide) (by decide), c2]
    rfl
  rw [eb]
  have w30 : W 30 = V 30 := by rw [hWd, pu_off (by decide), takeV_off (by decide) (by decide), nxV_off (by decide) (by decide)]
  have w34 : ∀ k, k < n → W 34 k = V 30 (33 * d + 20 + h' + k) := fun k hk => by rw [hWd, pu_off (by decide), takeV_34 hk, nxV_off (by decide) (by decide)]
  have soff : ∀ c, c ≠ 30 → slV (openV W (d + 1) g) (d + 1) 0 n c = openV W (d + 1) g c := fun c hc => by unfold slV; rw [up_app, if_neg hc]
  have s30 : slV (openV W (d + 1) g) (d + 1) 0 n 30 = fun k => if 33 * (d + 1) + 0 ≤ k ∧ k < 33 * (d + 1) + 0 + n then W 34 (k - (33 * (d + 1) + 0)) else if 33 * (d + 1) ≤ k ∧ k < 33 * (d + 1) + 20 then zV else V 30 k := by
    unfold slV
    rw [up_app, if_pos rfl, openV_30, openV_off (by decide), w30]
  refine ⟨fun c hc => ?_, ?_, ?_, ?_, ?_, fun i hi => ?_, fun k hk => ?_, ?_, ?_⟩
  · simp at hc
    rw [soff c (by omega), openV_off (by omega), hWd, pu_off (by omega), takeV_off (by omega) (by omega), nxV_off (by omega) (by omega)]
  · rw [soff 28 (by decide), openV_off (by decide), hWd, pu_row, takeV_off (by decide) (by decide), nxV_28]
  · rw [soff 31 (by decide), openV_31, hWd, pu_off (by decide), takeV_off (by decide) (by decide), nxV_off (by decide) (by decide)]
  · rw [soff 32 (by decide), openV_32, hWd, pu_off (by decide), takeV_off (by decide) (by decide), nxV_32]
  · rw [soff 33 (by decide), openV_33, hWd, pu_off (by decide), takeV_33, nxV_off (by decide) (by decide)]
  · rw [s30]; dsimp only; rw [if_neg (by omega), if_neg (by omega)]
  · rw [s30]; dsimp only
    by_cases hkn : k < n
    · rw [if_pos (by omega), w34 _ (by omega), if_pos hkn, show 33 * (d + 1) + k - (33 * (d + 1) + 0) = k by omega]
    · rw [if_neg (by omega), if_pos (by omega), if_neg hkn]
  · rw [soff 29 (by decide), openV_29, up_app, if_pos rfl]
  · rw [soff 29 (by decide), openV_29, up_app, if_neg (by decide), up_app, if_pos rfl]
theorem ap_rows {n h' c own g : Nat} (c286 : V 28 6 = ((d + 1 : Nat) : Int)) (hd : d + 1 < 30) (hk3 : kd (V 30 (33 * d + 20 + h')) = 3) (hc : ct (V 30 (33 * d + 20 + h')) = c) (ho : V 37 c = own) (hg : V 36 c = g) (hown : own + n ≤ 3) (h4 : V 37 c + n = V 8 g) : opn V (apV (nxV V d ((p + 1 : Nat) : Int)) (d + 1) d h' n) d p h' g (fun k => if k < own then V 38 (3 * c + k) else if k < own + n then V 30 (33 * d + 20 + (h' + 1) + (k - own)) else zV) := by
  have c2 : nxV V d ((p + 1 : Nat) : Int) 28 6 = ((d + 1 : Nat) : Int) := by rw [nxV_28, up_app, if_neg (by decide)]; exact c286
  have n30 : nxV V d ((p + 1 : Nat) : Int) 30 = V 30 := nxV_off (by decide) (by decide)
  have n36 : nxV V d ((p + 1 : Nat) : Int) 36 = V 36 := nxV_off (by decide) (by decide)
  have n37 : nxV V d ((p + 1 : Nat) : Int) 37 = V 37 := nxV_off (by decide) (by decide)
  have n8 : nxV V d ((p + 1 : Nat) : Int) 8 = V 8 := nxV_off (by decide) (by decide)
  unfold apV
  rw [n30, n36, n37, n8, c2, if_pos hk3, hc, show ((c : Int)).toNat = c by omega, hg, show ((g : Int)).toNat = g by omega, if_pos h4, if_neg (by omega), ho, show ((own : Int)).toNat = own by omega]
  obtain ⟨W, hWd⟩ : ∃ W, W = popV (takeV (nxV V d ((p + 1 : Nat) : Int)) d (h' + 1) n) d h' := ⟨_, rfl⟩
  rw [← hWd]
  obtain ⟨W2, hW2⟩ : ∃ W2, W2 = pz_u W 28 6 ((d + 1 + 1 : Nat) : Int) := ⟨_, rfl⟩
  have wof : ∀ e, e ≠ 33 → e ≠ 34 → W e = nxV V d ((p + 1 : Nat) : Int) e := fun e a1 a2 => by rw [hWd, popV_off a1, takeV_off a1 a2]
  have eb : bfV W (d + 1) g = openV W2 (d + 1) g := by
    unfold bfV
    rw [hW2, wof 28 (by decide) (by decide), c2]; rfl
  have w230 : W2 30 = V 30 := by rw [hW2, pu_off (by decide), wof 30 (by decide) (by decide), n30]
  have w38 : W 38 = V 38 := by rw [wof 38 (by decide) (by decide), nxV_off (by decide) (by decide)]
  have w234 : ∀ k, k < n → W2 34 k = V 30 (33 * d + 20 + (h' + 1) + k) := fun k hk => by rw [hW2, pu_off (by decide), hWd, popV_off (by decide), takeV_34 hk, n30]
  unfold apW
  rw [eb]
  obtain ⟨W3, hW3⟩ : ∃ W3, W3 = va_up (openV W2 (d + 1) g) 30 (fun j => if 33 * (d + 1) ≤ j ∧ j < 33 * (d + 1) + own then W 38 (3 * c + (j - 33 * (d + 1))) else openV W2 (d + 1) g 30 j) := ⟨_, rfl⟩
  rw [← hW3]
  have soff : ∀ e, e ≠ 30 → slV W3 (d + 1) own n e = openV W2 (d + 1) g e := fun e he => by unfold slV; rw [up_app, if_neg he, hW3, up_app, if_neg he]
  have s30 : slV W3 (d + 1) own n 30 = fun k => if 33 * (d + 1) + own ≤ k ∧ k < 33 * (d + 1) + own + n then W2 34 (k - (33 * (d + 1) + own)) else if 33 * (d + 1) ≤ k ∧ k < 33 * (d + 1) + own then V 38 (3 * c + (k - 33 * (d + 1))) else if 33 * (d + 1) ≤ k ∧ k < 33 * (d + 1) + 20 then zV else V 30 k := by
    have x34 : W3 34 = W2 34 := by rw [hW3, up_app, if_neg (by decide), openV_off (by decide)]
    have x30 : W3 30 = fun j => if 33 * (d + 1) ≤ j ∧ j < 33 * (d + 1) + own then W 38 (3 * c + (j - 33 * (d + 1))) else openV W2 (d + 1) g 30 j := by rw [hW3, up_app, if_pos rfl]
    unfold slV
    rw [up_app, if_pos rfl, x34, x30, openV_30, w230, w38]
  refine ⟨fun e he => ?_, ?_, ?_, ?_, ?_, fun i hi => ?_, fun k hk => ?_, ?_, ?_⟩
  · simp at he
    rw [soff e (by omega), openV_off (by omega), hW2, pu_off (by omega), wof e (by omega) (by omega), nxV_off (by omega) (by omega)]
  · rw [soff 28 (by decide), openV_off (by decide), hW2, pu_row, wof 28 (by decide) (by decide), nxV_28]
  · rw [soff 31 (by decide), openV_31, hW2, pu_off (by decide), wof 31 (by decide) (by decide), nxV_off (by decide) (by decide)]
  · rw [soff 32 (by decide), openV_32, hW2, pu_off (by decide), wof 32 (by decide) (by decide), nxV_32]
  · rw [soff 33 (by decide), openV_33, hW2, pu_off (by decide), hWd, popV_33, takeV_33, nxV_off (by decide) (by decide)]
    funext j; simp only [up_app]; split
    · rfl
    · split <;> rfl
  · rw [s30]; dsimp only; rw [if_neg (by omega), if_neg (by omega), if_neg (by omega)]
  · rw [s30]; dsimp only
    by_cases hko : k < own
    · rw [if_neg (by omega), if_pos (by omega), if_pos hko, show 33 * (d + 1) + k - 33 * (d + 1) = k by omega]
    · rw [if_neg hko]
      by_cases hkn : k < own + n
      · rw [if_pos (by omega), w234 _ (by omega), if_pos hkn, show 33 * (d + 1) + k - (33 * (d + 1) + own) = k - own by omega]
      · rw [if_neg (by omega), if_neg (by omega), if_pos (by omega), if_neg hkn]
  · rw [soff 29 (by decide), openV_29, up_app, if_pos rfl]
  · rw [soff 29 (by decide), openV_29, up_app, if_neg (by decide), up_app, if_pos rfl]
/-- both have opened a frame -/
theorem RR_open {g h' : Nat} {W Wr : pvM} {lo : Nat → Int} (hC : CI b V0 V (d + 1)) (hR : RR U V Vr (d + 1)) (hm : frm V d f p h) (hh : h ≤ 12) (hle : h' ≤ h) (hW : opn V W d p h' g lo) (g1 : fr [45, 69, 70, 71, 72, 73, 74, 75] Vr Wr) (g2 : f45 [27, 33, 36] Vr Wr) (r27 : Wr 45 27 = Vr 45 27 + 1) (r33 : Wr 45 33 = ((bs V d + h' : Nat) : Int)) (r36 : Wr 45 36 = ((d + 1 + 1 : Nat) : Int)) (r69 : Wr 69 = va_up (Vr 69) (d + 1 + 1) g) (r70 : Wr 70 = va_up (va_up (Vr 70) (d + 1) ((p + 1 : Nat) : Int)) (d + 1 + 1) 0) (r71 : Wr 71 = va_up (Vr 71) (d + 1 + 1) ((bs V d + h' : Nat) : Int)) (r7 : ∀ i, i < 8 * (d + 1 + 1) → Wr 72 i = Vr 72 i ∧ Wr 73 i = Vr 73 i) (hlo : ∀ k, k < 8 → Wr 72 (8 * (d + 1 + 1) + k) = kd (lo k) ∧ Wr 73 (8 * (d + 1 + 1) + k) = ct (lo k)) : RR U W Wr (d + 1 + 1) := by
  obtain ⟨t1, t2, t3, t4, t5⟩ := RR_tops hC hR hm
  have hR' := hR
  obtain ⟨a1, ⟨u1, u2, u3, u4, u5, u6, u7, u8, u9⟩, a3, a4, a5⟩ := hR'
  obtain ⟨w1, w28, w31, w32, w33, w30, wlo, -, -⟩ := hW
  have hF := hC.2.2.2.1
  have e39 := w1 39 (by decide)
  have e35 := w1 35 (by decide)
  have eb : bs W d = bs V d := bs_congr d (fun e he => by rw [w33, up_app, if_neg (by omega), up_app, if_neg (by omega)])
  have ehd : hgt W d = h' := hgt_eq (by rw [w33, up_app, if_neg (by omega), up_app, if_pos rfl])
  have ehd1 : hgt W (d + 1) = 0 := hgt_eq (by rw [w33, up_app, if_pos rfl])
  refine ⟨⟨a1.1.trans (g1.mono (by decide)), a1.2.trans (g2.mono (by decide))⟩, ⟨?_, ?_, ?_, ?_, ?_, ?_, r36, ?_, ?_⟩, fun e he => ?_, HR_fr a4 e35 (w1 36 (by decide)) (w1 37 (by decide)) (w1 38 (by decide)) (fun c hc => g1 c (by simp at hc; simp; omega)), TR_fr a5 (by rw [e39]) (w1 41 (by decide)) (g1 76 (by decide))⟩
  · rw [r27, w28, up_app, if_neg (by decide), up_app, if_pos rfl, u1]
  · rw [g2 28 (by decide)]; exact u2
  · rw [g2 29 (by decide)]; exact u3
  · rw [g2 30 (by decide)]; exact u4
  · rw [g2 31 (by decide), e39]; exact u5
  · rw [r33]; simp only [bs]; rw [eb, ehd, ehd1]; rfl
  · rw [g2 44 (by decide), e39]; exact u8
  · rw [g2 47 (by decide), e35]; exact u9
  · by_cases he1 : e = d + 1
    · subst he1
      simp only [bs]
      rw [eb, ehd, ehd1]
      refine ⟨⟨?_, ?_, ?_⟩, fun k hk => ?_, fun j hj => by omega⟩
      · rw [r69, w31, up_app, up_app, if_pos rfl, if_pos rfl]
      · rw [r70, w32]; simp [up_app]
      · rw [r71, up_app, if_pos rfl]
      · rw [wlo k (by omega)]; exact hlo k hk
    · by_cases hed : e = d
      · subst hed
        rw [eb, ehd]
        obtain ⟨q1, q2, q3⟩ := t1
        refine ⟨⟨?_, ?_, ?_⟩, fun k hk => ?_, fun j hj => ?_⟩
        · rw [r69, w31, up_app, up_app, if_neg (by omega), if_neg (by omega)]; exact q1.1
        · rw [r70, w32]; simp [up_app]
        · rw [r71, up_app, if_neg (by omega)]; exact q1.2.2
        · rw [(r7 _ (by omega)).1, (r7 _ (by omega)).2, w30 _ (by omega)]; exact q2 k hk
        · rw [g1 67 (by decide), g1 68 (by decide), w30 _ (by omega)]; exact q3 j (by omega)
      · have eb2 : bs W e = bs V e := bs_congr e (fun i hi => by rw [w33, up_app, if_neg (by omega), up_app, if_neg (by omega)])
        have eh2 : hgt W e = hgt V e := by unfold hgt; rw [w33, up_app, if_neg (by omega), up_app, if_neg (by omega)]
        obtain ⟨f3, p3, h3, z1, z2, z3⟩ := hF e (by omega)
        have hg := hgt_eq z1.1.2.2
        rw [eb2, eh2]
        exact (a3 e (by omega)).keep (by omega) (by rw [w31, up_app, if_neg he1]) (by rw [w32, up_app, if_neg he1, up_app, if_neg hed]) (fun i h1 h2 => w30 i (by omega)) (by rw [r69, up_app, if_neg (by omega)]) (by rw [r70, up_app, if_neg (by omega), up_app, if_neg (by omega)]) (by rw [r71, up_app, if_neg (by omega)]) (fun i h1 h2 => r7 i (by omega)) (fun i _ _ => by rw [g1 67 (by decide), g1 68 (by decide)]; exact ⟨rfl, rfl⟩)
/-- begin of the reference, over arguments set in W -/
theorem mb_rows {n g h' : Nat} {W : pvM} (hR : RR U V Vr (d + 1)) (g1 : fr [45, 70, 74, 75] Vr W) (g2 : f45 [27, 33] Vr W) (r27 : W 45 27 = Vr 45 27 + 1) (r33 : W 45 33 = ((bs V d + h' : Nat) : Int)) (r70 : W 70 = va_up (Vr 70) (d + 1) ((p + 1 : Nat) : Int)) {lo : Nat → Int} (hn : n ≤ 3) (hlo : ∀ k, k < n → W 74 k = kd (lo k) ∧ W 75 k = ct (lo k)) (hz : ∀ k, n ≤ k → lo k = zV) (hC : CI b V0 V (d + 1)) (hm : frm V d f p h) (hh : h ≤ 12) (hle : h' ≤ h) {X : pvM} (hX : opn V X d p h' g lo) : RR U X (mbV W (d + 1) n g) (d + 1 + 1) := by
  refine RR_open (g := g) (h' := h') (lo := lo) hC hR hm hh hle hX (fun c hc => ?_) (fun i hi => ?_) ?_ ?_ ?_ ?_ ?_ ?_ (fun i hi => ?_) (fun k hk => ?_)
  · simp at hc; rw [mbV_off (by omega), g1 c (by simp; omega)]
  · simp at hi; rw [mbV_45, up_app, if_neg (by omega)]; exact g2 i (by simp; omega)
  · rw [mbV_45, up_app, if_neg (by decide)]; exact r27
  · rw [mbV_45, up_app, if_neg (by decide)]; exact r33
  · rw [mbV_45, up_app, if_pos rfl]
  · rw [mbV_69, g1 69 (by decide)]
  · rw [mbV_70, r70]
  · rw [mbV_71, g1 71 (by decide), r33]
  · rw [mbV_72, mbV_73]; dsimp only
    rw [if_neg (by omega), if_neg (by omega), g1 72 (by decide), g1 73 (by decide)]; exact ⟨rfl, rfl⟩
  · rw [mbV_72, mbV_73]; dsimp only
    have hin : 8 * (d + 1 + 1) ≤ 8 * (d + 1 + 1) + k ∧ 8 * (d + 1 + 1) + k < 8 * (d + 1 + 1) + 8 := by omega
    rw [if_pos hin, if_pos hin, show 8 * (d + 1 + 1) + k - 8 * (d + 1 + 1) = k by omega]
    by_cases hkn : k < n
    · rw [if_pos hkn, if_pos hkn]; exact hlo k hkn
    · rw [if_neg hkn, if_neg hkn, hz k (by omega), kd_z, ct_z]; exact ⟨rfl, rfl⟩
set_option maxHeartbeats 4000000 in
set_option maxRecDepth 100000 in
theorem mw_10 {g n : Nat} (hN : 50 ≤ N) (hS : SP U V0) (hC : CI b V0 V (d + 1)) (hR : RR U V Vr (d + 1)) (hm : frm V d f p (h + n)) (hh : h + n ≤ 12) (hg : g < 12) (hn : V 8 g = n) (hn3 : n ≤ 3) (at' : Int) : wz (mbd N at' g 10 (mnx Vr d ((p + 1 : Nat) : Int))) (fun _ Vr' => RO U (clV (nxV V d ((p + 1 : Nat) : Int)) (d + 1) d h n g) Vr') := by
  obtain ⟨t1, t2, t3, t4, t5⟩ := RR_tops hC hR hm
  have h46 := (SP_at hS hC.1 hR.1.1 0 0).2.2.2
  have e33 : mnx Vr d ((p + 1 : Nat) : Int) 45 33 = ((bs V d + h + n : Nat) : Int) := by rw [mnx_45, up_app, if_neg (by decide), t2, Nat.add_assoc]
  have c286 : V 28 6 = ((d + 1 : Nat) : Int) := hC.2.1.2.2.1
  obtain ⟨M, hM⟩ : ∃ M, M = mtV (mnx Vr d ((p + 1 : Nat) : Int)) (bs V d + h) n 0 := ⟨_, rfl⟩
  have m45 : M 45 = va_up (va_up (Vr 45) 27 (Vr 45 27 + 1)) 33 ((bs V d + h : Nat) : Int) := by rw [hM, mtV_45, mnx_45]
  have moff : ∀ c, c ≠ 45 → c ≠ 70 → c ≠ 74 → c ≠ 75 → M c = Vr c := fun c a1 a2 a3 a4 => by rw [hM, mtV_off ⟨a3, a4, a1⟩, mnx_off a1 a2]
  have m36 : M 45 36 = ((d + 1 : Nat) : Int) := by rw [m45, up_app, if_neg (by decide), up_app, if_neg (by decide)]; exact t3
  unfold mbd
  rw [if_neg (by decide), if_neg (by decide), if_neg (by decide), if_neg (by decide), if_neg (by decide), if_neg (by decide), if_neg (by decide), if_neg (by decide), if_neg (by decide), if_neg (by decide), if_pos rfl]
  refine wp_aR (by omega) (wp_lI ?_)
  rw [show ((g : Int)).toNat = g by omega, mnx_off (show (46 : Nat) ≠ 45 by decide) (by decide), h46, hn]
  have et := e_mtake (N := N) (s := bs V d + h) (n := n) (fo := 0) hN e33 (by omega) (by omega)
  rw [show (((0 : Nat)) : Int) = 0 from rfl, ← hM] at et
  rw [cL_eq et]
  refine wp_aR (by omega) ?_
  rw [show ((g : Int)).toNat = g by omega, moff 46 (by decide) (by decide) (by decide) (by decide), h46, hn]
  have eb := e_mbegin (N := N) (D := d + 1) (n := n) (f := (g : Int)) (V := M) hN m36 hn3
  have mf : fr [45, 70, 74, 75] Vr M := fun c hc => by simp at hc; exact moff c (by omega) (by omega) (by omega) (by omega)
  have mg : f45 [27, 33] Vr M := fun i hi => by simp at hi; rw [m45, up_app, if_neg (by omega), up_app, if_neg (by omega)]
  have m27 : M 45 27 = Vr 45 27 + 1 := by rw [m45, up_app, if_neg (by decide), up_app, if_pos rfl]
  by_cases h30 : d + 1 = 30
  · rw [cL_eq (eb.2 h30)]
    refine wp_rT ⟨rfl, ?_⟩
    unfold clV
    rw [if_pos (by rw [nxV_28, up_app, if_neg (by decide), c286]; omega)]
    exact mw_flt hC hR tk_fr tk_28 (by decide) (mf.mono (by decide)) (mg.mono (by decide)) m27
  · rw [cL_eq (eb.1 (by omega))]
    refine wp_rT ⟨rfl, RO_in (D' := d + 1) (opn_go (cl_rows (V := V) (p := p) (h' := h) (g := g) c286 (by omega) hn3) hC.2.1.2.2.2.2.1) ?_⟩
    refine mb_rows (h' := h) (lo := fun k => if k < n then V 30 (33 * d + 20 + h + k) else zV) hR mf mg m27 (by rw [m45, up_app, if_pos rfl]) (by rw [hM, mtV_off (by decide), mnx_70]) hn3 (fun k hk => ?_) (fun k hk => by rw [if_neg (by omega)]) hC hm (by omega) (by omega) (cl_rows c286 (by omega) hn3)
    have h9 := t1.2.2 (h + k) (by omega)
    rw [hM, mtV_74, mtV_75]; dsimp only
    have hin : 0 ≤ k ∧ k < 0 + n := by omega
    rw [if_pos hin, if_pos hin, if_pos hk, mnx_off (by decide) (by decide), mnx_off (by decide) (by decide), show bs V d + h + (k - 0) = bs V d + (h + k) by omega, show 33 * d + 20 + h + k = 33 * d + 20 + (h + k) by omega]
    exact h9
/-! apply of the reference -/
def maV (W : pvM) (own c : Nat) : pvM := va_up (va_up W 74 (fun j => if j < own then W 80 (3 * c + j) else W 74 j)) 75 (fun j => if j < own then W 81 (3 * c + j) else W 75 j)
set_option maxHeartbeats 4000000 in
set_option maxRecDepth 100000 in
theorem s_map84 {n c own : Nat} {W : pvM} {Q : Nat → Int → pvM → Prop} (hc : c < 400) (hown : own ≤ 3) (hn : n ≤ 3) (h78 : 0 ≤ W 78 c ∧ W 78 c < 401) (hk : wp (cL (q_X11_begin N (W 78 c) ((own + n : Nat) : Int) (maV W own c)) fun _ V => rT V 0) Q) : ∀ (fu m k : Nat) (V : pvM), k + m = own → m + 1 ≤ fu → V = maV W k c → wp (q_X11_apply_b84 N fu n c own k V) Q := by
  intro fu
  induction fu with
  | zero => intro m k V h1 h2; omega
  | succ fu ih =>
    intro m k V h1 h2 hV
    have voff : ∀ e, e ≠ 74 → e ≠ 75 → V e = W e := fun e a1 a2 => by rw [hV]; unfold maV; rw [up_app, if_neg a2, up_app, if_neg a1]
    simp only [q_X11_apply_b84]
    refine wp_if (fun h9 => ?_) (fun h9 => ?_)
    · have hk9 : k = own := by omega
      subst hk9
      refine wp_aR (by omega) ?_
      rw [show ((c : Int)).toNat = c by omega, voff 78 (by decide) (by decide)]
      refine wp_lw (by omega) ?_
      rw [hV, show (k : Int) + (n : Int) = ((k + n : Nat) : Int) by omega]
      exact hk
    · refine wp_lI (wp_lw (by omega) (wp_lw (by omega) (wp_aR (by omega) (wp_aW (by omega) (wp_lI (wp_lw (by omega) (wp_lw (by omega) (wp_aR (by omega) (wp_aW (by omega) (wp_lw (by omega) ?_))))))))))
      rw [show (3 * (c : Int) + (k : Int)).toNat = 3 * c + k by omega, show ((k : Int)).toNat = k by omega, pu_off (show (81 : Nat) ≠ 74 by decide), voff 80 (by decide) (by decide), voff 81 (by decide) (by decide)]
      refine ih (m - 1) (k + 1) _ (by omega) (by omega) ?_
      rw [hV]
      unfold maV
      funext e j
      simp only [pu_app, up_app]
      by_cases h75 : e = 75
      · subst h75
        by_cases hj : j = k
        · simp [hj]
        · have : (j < k + 1) ↔ (j < k) := by omega
          simp [hj, this]
      · by_cases h74 : e = 74
        · subst h74
          by_cases hj : j = k
          · simp [hj]
          · have : (j < k + 1) ↔ (j < k) := by omega
            simp [hj, this]
        · simp [h74, h75]
theorem maV_0 (W : pvM) (c : Nat) : maV W 0 c = W := by
  unfold maV
  funext e j
  simp only [up_app]
  by_cases h75 : e = 75
  · simp [h75]
  · by_cases h74 : e = 74
    · simp [h74]
    · simp [h74, h75]
set_option maxHeartbeats 4000000 in
set_option maxRecDepth 100000 in
theorem mw_14 {n : Nat} (hN : 50 ≤ N) (hS : SP U V0) (hP : PI V) (hC : CI b V0 V (d + 1)) (hR : RR U V Vr (d + 1)) (hm : frm V d f p (h + 1 + n)) (hh : h + 1 + n ≤ 12) (hn3 : n ≤ 3) (at' : Int) : wz (mbd N at' n 14 (mnx Vr d ((p + 1 : Nat) : Int))) (fun _ Vr' => RO U (apV (nxV V d ((p + 1 : Nat) : Int)) (d + 1) d h n) Vr') := by
  obtain ⟨t1, t2, t3, t4, t5⟩ := RR_tops hC hR hm
  have h46 := (SP_at hS hC.1 hR.1.1 0 0).2.2.2
  have h8 := t1.2.2 h (by omega)
  have hn12 := hP.1
  have e33 : mnx Vr d ((p + 1 : Nat) : Int) 45 33 = ((bs V d + (h + 1) + n : Nat) : Int) := by rw [mnx_45, up_app, if_neg (by decide), t2]; omega
  have c286 : V 28 6 = ((d + 1 : Nat) : Int) := hC.2.1.2.2.1
  have hC' := hC
  obtain ⟨c1, c2, c3, c4, c5, c6, c7, c8, c9, c10⟩ := hC'
  have hv := vok_cases (hm.2.2.1 h (by omega)) (by omega) (by omega)
  have n30 : nxV V d ((p + 1 : Nat) : Int) 30 = V 30 := nxV_off (by decide) (by decide)
  have n36 : nxV V d ((p + 1 : Nat) : Int) 36 = V 36 := nxV_off (by decide) (by decide)
  have n37 : nxV V d ((p + 1 : Nat) : Int) 37 = V 37 := nxV_off (by decide) (by decide)
  have n8 : nxV V d ((p + 1 : Nat) : Int) 8 = V 8 := nxV_off (by decide) (by decide)
  have pf : fr [28, 30, 32, 33, 34] V (popV (takeV (nxV V d ((p + 1 : Nat) : Int)) d (h + 1) n) d h) := fun c hc => by simp at hc; rw [popV_off (by omega), takeV_off (by omega) (by omega), nxV_off (by omega) (by omega)]
  have p28 : popV (takeV (nxV V d ((p + 1 : Nat) : Int)) d (h + 1) n) d h 28 = va_up (V 28) 7 (V 28 7 + 1) := by rw [popV_off (by decide), tk_28]
  have xf : fr mrs Vr (mnx Vr d ((p + 1 : Nat) : Int)) := fun c hc => mnx_off (fun e => hc (by simp [e, mrs])) (fun e => hc (by simp [e, mrs]))
  have xg : f45 [27, 33, 52] Vr (mnx Vr d ((p + 1 : Nat) : Int)) := fun i hi => by simp at hi; rw [mnx_45, up_app, if_neg (by omega)]
  have x27 : mnx Vr d ((p + 1 : Nat) : Int) 45 27 = Vr 45 27 + 1 := by rw [mnx_45, up_app, if_pos rfl]
  suffices hs : wz (q_X11_apply N n (mnx Vr d ((p + 1 : Nat) : Int))) (fun _ Vr' => RO U (apV (nxV V d ((p + 1 : Nat) : Int)) (d + 1) d h n) Vr') by
    unfold mbd
    rw [if_neg (by decide), if_neg (by decide), if_neg (by decide), if_neg (by decide), if_neg (by decide), if_neg (by decide), if_neg (by decide), if_neg (by decide), if_neg (by decide), if_neg (by decide), if_neg (by decide), if_neg (by decide), if_neg (by decide), if_neg (by decide), if_pos rfl]
    exact wp_cL hs (fun _ _ h9 => wp_rT ⟨rfl, h9⟩)
  unfold q_X11_apply
  refine wp_gR ?_
  rw [e33]
  refine wp_lw (by omega) (wp_lI (wp_lw (by omega) (wp_aR (by omega) (wp_lI ?_))))
  rw [show ((((bs V d + (h + 1) + n : Nat)) : Int) - (n : Int) - 1).toNat = bs V d + h by omega, mnx_off (show (67 : Nat) ≠ 45 by decide) (by decide), h8.1]
  refine wp_if (fun h3 => ?_) (fun h3 => ?_)
  · rcases hv with hv | hv | hv
    · omega
    · omega
    · obtain ⟨c, hce⟩ : ∃ c : Nat, ct (V 30 (33 * d + 20 + h)) = c := ⟨(ct (V 30 (33 * d + 20 + h))).toNat, by omega⟩
      obtain ⟨o1, o2, o3⟩ := c5.2 c (by omega)
      obtain ⟨j1, j2, j3⟩ := hR.2.2.2.1 c (by omega)
      obtain ⟨g, hg⟩ : ∃ g : Nat, V 36 c = g := ⟨(V 36 c).toNat, by omega⟩
      obtain ⟨own, ho⟩ : ∃ own : Nat, V 37 c = own := ⟨(V 37 c).toNat, by omega⟩
      refine wp_aR (by omega) ?_
      rw [show ((((bs V d + (h + 1) + n : Nat)) : Int) - (n : Int) - 1).toNat = bs V d + h by omega, mnx_off (show (68 : Nat) ≠ 45 by decide) (by decide), h8.2, hce]
      refine wp_aR (by omega) ?_
      rw [show ((c : Int)).toNat = c by omega, mnx_off (show (79 : Nat) ≠ 45 by decide) (by decide), j2, ho]
      refine wp_lw (by omega) (wp_aR (by omega) ?_)
      rw [show ((c : Int)).toNat = c by omega, mnx_off (show (78 : Nat) ≠ 45 by decide) (by decide), j1, hg]
      refine wp_aR (by omega) ?_
      rw [show ((g : Int)).toNat = g by omega, mnx_off (show (46 : Nat) ≠ 45 by decide) (by decide), h46]
      have hpg := (hP.2.1 g (by omega)).1
      refine wp_if (fun h4 => ?_) (fun h4 => ?_)
      · obtain ⟨M, hM⟩ : ∃ M, M = mtV (mnx Vr d ((p + 1 : Nat) : Int)) (bs V d + (h + 1)) n own := ⟨_, rfl⟩
        have et := e_mtake (N := N) (s := bs V d + (h + 1)) (n := n) (fo := own) hN e33 (by omega) (by omega)
        rw [← hM] at et
        rw [cL_eq et]
        refine wp_gR (wp_lI ?_)
        have m33 : M 45 33 = ((bs V d + (h + 1) : Nat) : Int) := by rw [hM, mtV_45, up_app, if_pos rfl]
        rw [m33]
        refine wp_lw (by omega) (wp_gW (wp_lI ?_))
        obtain ⟨M2, hM2⟩ : ∃ M2, M2 = pz_u M 45 33 ((bs V d + h : Nat) : Int) := ⟨_, rfl⟩
        rw [show (((bs V d + (h + 1) : Nat)) : Int) - 1 = ((bs V d + h : Nat) : Int) by omega, ← hM2]
        have m45 : M2 45 = va_up (va_up (Vr 45) 27 (Vr 45 27 + 1)) 33 ((bs V d + h : Nat) : Int) := by
          rw [hM2, pu_row, hM, mtV_45, mnx_45]; funext j; simp only [up_app]; split <;> rfl
        have moff : ∀ e, e ≠ 45 → e ≠ 70 → e ≠ 74 → e ≠ 75 → M2 e = Vr e := fun e a1 a2 a3 a4 => by rw [hM2, pu_off a1, hM, mtV_off ⟨a3, a4, a1⟩, mnx_off a1 a2]
        have h78 : M2 78 c = g := by rw [moff 78 (by decide) (by decide) (by decide) (by decide), j1, hg]
        have aoff : ∀ e, e ≠ 74 → e ≠ 75 → maV M2 own c e = M2 e := fun e a1 a2 => by unfold maV; rw [up_app, if_neg a2, up_app, if_neg a1]
        have m36 : maV M2 own c 45 36 = ((d + 1 : Nat) : Int) := by rw [aoff 45 (by decide) (by decide), m45, up_app, if_neg (by decide), up_app, if_neg (by decide)]; exact t3
        have eb := e_mbegin (N := N) (D := d + 1) (n := own + n) (f := (g : Int)) (V := maV M2 own c) hN m36 (by omega)
        have mf : fr [45, 70, 74, 75] Vr (maV M2 own c) := fun e he => by simp at he; rw [aoff e (by omega) (by omega), moff e (by omega) (by omega) (by omega) (by omega)]
        have mg : f45 [27, 33] Vr (maV M2 own c) := fun i hi => by simp at hi; rw [aoff 45 (by decide) (by decide), m45, up_app, if_neg (by omega), up_app, if_neg (by omega)]
        have m27 : maV M2 own c 45 27 = Vr 45 27 + 1 := by rw [aoff 45 (by decide) (by decide), m45, up_app, if_neg (by decide), up_app, if_pos rfl]
        have k9 := s_map84 (N := N) (n := n) (c := c) (own := own) (W := M2) (Q := fun t r Vr' => t = 0 ∧ RO U (apV (nxV V d ((p + 1 : Nat) : Int)) (d + 1) d h n) Vr') (by omega) (by omega) hn3 (by omega) ?_ N own 0 M2 (by omega) (by omega) (maV_0 _ _).symm
        · exact k9
        · rw [h78]
          by_cases h30 : d + 1 = 30
          · rw [cL_eq (eb.2 h30)]
            refine wp_rT ⟨rfl, ?_⟩
            unfold apV
            rw [n30, n36, n37, n8, if_pos h3, hce, show ((c : Int)).toNat = c by omega, hg, ho, show ((g : Int)).toNat = g by omega, if_pos h4, if_pos (by rw [nxV_28, up_app, if_neg (by decide), c286]; omega)]
            exact mw_flt hC hR pf p28 (by decide) (mf.mono (by decide)) (mg.mono (by decide)) m27
          · rw [cL_eq (eb.1 (by omega))]
            have hX := ap_rows (p := p) (n := n) (h' := h) (c := c) (own := own) (g := g) c286 (by omega) h3 hce ho hg (by omega) (by rw [ho]; exact h4)
            refine wp_rT ⟨rfl, RO_in (D' := d + 1) (opn_go hX hC.2.1.2.2.2.2.1) ?_⟩
            refine mb_rows (h' := h) hR mf mg m27 (by rw [aoff 45 (by decide) (by decide), m45, up_app, if_pos rfl]) (by rw [aoff 70 (by decide) (by decide), hM2, pu_off (by decide), hM, mtV_off (by decide), mnx_70]) (by omega) (fun k hk => ?_) (fun k hk => by rw [if_neg (by omega), if_neg (by omega)]) hC hm (by omega) (by omega) hX
            unfold maV
            rw [up_app, if_neg (by decide), up_app, if_pos rfl, up_app, if_pos rfl]
            by_cases hko : k < own
            · rw [if_pos hko, if_pos hko, if_pos hko, moff 80 (by decide) (by decide) (by decide) (by decide), moff 81 (by decide) (by decide) (by decide) (by decide)]
              exact j3 k (by omega)
            · rw [if_neg hko, if_neg hko, if_neg hko, if_pos hk]
              have h9 := t1.2.2 (h + 1 + (k - own)) (by omega)
              have a74 : M2 74 k = Vr 67 (bs V d + (h + 1) + (k - own)) := by
                rw [hM2, pu_off (by decide), hM, mtV_74]; dsimp only
                rw [if_pos (by omega), mnx_off (by decide) (by decide)]
              have a75 : M2 75 k = Vr 68 (bs V d + (h + 1) + (k - own)) := by
                rw [hM2, pu_off (by decide), hM, mtV_75]; dsimp only
                rw [if_pos (by omega), mnx_off (by decide) (by decide)]
              rw [a74, a75, show bs V d + (h + 1) + (k - own) = bs V d + (h + 1 + (k - own)) by omega, show 33 * d + 20 + (h + 1) + (k - own) = 33 * d + 20 + (h + 1 + (k - own)) by omega]
              exact h9
      · refine wp_lI (wp_gW (wp_rT ⟨rfl, ?_⟩))
        unfold apV
        rw [n30, n36, n37, n8, if_pos h3, hce, show ((c : Int)).toNat = c by omega, hg, ho, show ((g : Int)).toNat = g by omega, if_neg h4]
        exact mw_flt hC hR pf p28 (by decide) xf xg x27
  · refine wp_lI (wp_gW (wp_rT ⟨rfl, ?_⟩))
    unfold apV
    rw [n30, if_neg h3]
    exact mw_flt hC hR pf p28 (by decide) xf xg x27
set_option maxHeartbeats 4000000 in
set_option maxRecDepth 100000 in
theorem mw_11 {h2 : Nat} {a at' : Int} (hC : CI b V0 V (d + 1)) (hR : RR U V Vr (d + 1)) (hm : frm V d f p (h + 1)) (hh : h ≤ 12) (hbel : 0 < d → V 33 (d - 1) = ((33 * (d - 1) + 20 + h2 : Nat) : Int) ∧ h2 < 13) : wz (mbd N at' a 11 (mnx Vr d ((p + 1 : Nat) : Int))) (fun _ Vr' => RO U (if d = 0 then pz_u (gvV (nxV V d ((p + 1 : Nat) : Int)) (d + 1) d h) 28 9 (V 30 (33 * d + 20 + h)) else pushV (gvV (nxV V d ((p + 1 : Nat) : Int)) (d + 1) d h) (d - 1) h2 (V 30 (33 * d + 20 + h))) Vr') := by
  obtain ⟨t1, t2, t3, t4, t5⟩ := RR_tops hC hR hm
  have h8 := t1.2.2 h (by omega)
  have hR' := hR
  obtain ⟨a1, ⟨u1, u2, u3, u4, u5, u6, u7, u8, u9⟩, a3, a4, a5⟩ := hR'
  obtain ⟨W, hW, w1, w2, w3, w4, w5, w6⟩ := gv_rows hC hm
  rw [← hW]
  have e33 : mnx Vr d ((p + 1 : Nat) : Int) 45 33 = ((bs V d + (h + 1) : Nat) : Int) := by rw [mnx_45, up_app, if_neg (by decide)]; exact t2
  obtain ⟨M, hM⟩ : ∃ M, M = pz_u (pz_u (mnh Vr d (p + 1) (bs V d + h)) 45 33 ((bs V d : Nat) : Int)) 45 36 (d : Int) := ⟨_, rfl⟩
  have m45 : M 45 = va_up (va_up (va_up (va_up (Vr 45) 27 (Vr 45 27 + 1)) 33 ((bs V d + h : Nat) : Int)) 33 ((bs V d : Nat) : Int)) 36 (d : Int) := by rw [hM, pu_row, pu_row, mnh_45]
  have moff : ∀ c, c ≠ 45 → c ≠ 70 → M c = Vr c := fun c b1 b2 => by rw [hM, pu_off b1, pu_off b1, mnh_off b1 b2]
  have mf : fr [45, 70] Vr M := fun c hc => by simp at hc; exact moff c (by omega) (by omega)
  have mg : f45 [27, 33, 36] Vr M := fun i hi => by simp at hi; rw [m45]; simp only [up_app]; rw [if_neg (by omega), if_neg (by omega), if_neg (by omega), if_neg (by omega)]
  have m27 : M 45 27 = Vr 45 27 + 1 := by rw [m45]; simp [up_app]
  have m33 : M 45 33 = ((bs V d : Nat) : Int) := by rw [m45]; simp [up_app]
  have m36 : M 45 36 = (d : Int) := by rw [m45]; simp [up_app]
  unfold mbd
  rw [if_neg (by decide), if_neg (by decide), if_neg (by decide), if_neg (by decide), if_neg (by decide), if_neg (by decide), if_neg (by decide), if_neg (by decide), if_neg (by decide), if_neg (by decide), if_neg (by decide), if_pos rfl]
  refine wp_cL (R := fun _ Vr' => RO U (if d = 0 then pz_u W 28 9 (V 30 (33 * d + 20 + h)) else pushV W (d - 1) h2 (V 30 (33 * d + 20 + h))) Vr') ?_ (fun _ _ h9 => wp_rT ⟨rfl, h9⟩)
  unfold q_X11_leave
  refine wp_gR (wp_lI ?_)
  rw [e33]
  refine wp_lw (by omega) (wp_gW (wp_gR ?_))
  rw [show (((bs V d + (h + 1) : Nat)) : Int) - 1 = ((bs V d + h : Nat) : Int) by omega, show pz_u (mnx Vr d ((p + 1 : Nat) : Int)) 45 33 ((bs V d + h : Nat) : Int) = mnh Vr d (p + 1) (bs V d + h) from rfl, mnh_33]
  refine wp_aR (by omega) (wp_gR ?_)
  rw [mnh_33]
  refine wp_aR (by omega) (wp_gR ?_)
  have x36 : mnh Vr d (p + 1) (bs V d + h) 45 36 = ((d + 1 : Nat) : Int) := by rw [mnh_45, up_app, if_neg (by decide), up_app, if_neg (by decide)]; exact t3
  rw [show (((bs V d + h : Nat)) : Int).toNat = bs V d + h by omega, mnh_off (show (67 : Nat) ≠ 45 by decide) (by decide), mnh_off (show (68 : Nat) ≠ 45 by decide) (by decide), h8.1, h8.2, x36]
  refine wp_aR (by omega) (wp_gW (wp_gR (wp_lI ?_)))
  rw [show (((d + 1 : Nat)) : Int).toNat = d + 1 by omega, mnh_off (show (71 : Nat) ≠ 45 by decide) (by decide), t1.1.2.2]
  rw [show pz_u (mnh Vr d (p + 1) (bs V d + h)) 45 33 ((bs V d : Nat) : Int) 45 36 = ((d + 1 : Nat) : Int) by rw [pu_app, if_neg (by decide)]; exact x36]
  refine wp_lw (by omega) (wp_gW (wp_gR ?_))
  rw [show (((d + 1 : Nat)) : Int) - 1 = (d : Int) by omega, ← hM, m36]
  refine wp_if (fun h0 => ?_) (fun h0 => ?_)
  · have hd : 0 < d := by omega
    rw [if_neg (by omega), cL_eq (e_mpush (s := bs V d) m33 (by omega))]
    refine wp_rT ⟨rfl, RO_in (D' := d - 1) (by rw [pushV_off (by decide) (by decide), pushV_off (by decide) (by decide), w3, w2, up_app, if_neg (by decide), up_app, if_neg (by decide)]; exact ⟨by omega, hC.2.1.2.2.2.2.1⟩) ?_⟩
    obtain ⟨f2, p2, h3, z1, z2, z3⟩ := hC.2.2.2.1 (d - 1) (by omega)
    have h32 : h3 = h2 := by have := z1.1.2.2; have := (hbel hd).1; omega
    subst h32
    have hb1 : bs V d = bs V (d - 1) + h3 := by
      have hg := hgt_eq z1.1.2.2
      have e : bs V (d - 1 + 1) = bs V (d - 1) + hgt V (d - 1) := rfl
      rw [show d - 1 + 1 = d by omega] at e
      rw [e, hg]
    have w30 : W 30 = V 30 := w1 30 (by decide)
    obtain ⟨X, hX⟩ : ∃ X, X = pushV W (d - 1) h3 (V 30 (33 * d + 20 + h)) := ⟨_, rfl⟩
    rw [← hX]
    have x33 : X 33 = va_up (W 33) (d - 1) ((33 * (d - 1) + 20 + (h3 + 1) : Nat) : Int) := by rw [hX, pushV_33]
    have x30 : X 30 = va_up (V 30) (33 * (d - 1) + 20 + h3) (V 30 (33 * d + 20 + h)) := by rw [hX, pushV_30, w30]
    have xoff : ∀ c, c ≠ 30 → c ≠ 33 → X c = W c := fun c b1 b2 => by rw [hX, pushV_off b1 b2]
    have ebl : ∀ n, n ≤ d - 1 → bs X n = bs V n := fun n hn => bs_congr n (fun e he => by rw [x33, up_app, if_neg (by omega), w6 e (by omega)])
    have ehx : hgt X (d - 1) = h3 + 1 := hgt_eq (by rw [x33, up_app, if_pos rfl])
    refine ⟨⟨a1.1.trans ?_, a1.2.trans ?_⟩, ⟨?_, ?_, ?_, ?_, ?_, ?_, ?_, ?_, ?_⟩, fun e he => ?_, ?_, ?_⟩
    · intro c hc
      rw [mpV_off ⟨fun e => hc (by simp [e, mrs]), fun e => hc (by simp [e, mrs]), fun e => hc (by simp [e, mrs])⟩]
      exact moff c (fun e => hc (by simp [e, mrs])) (fun e => hc (by simp [e, mrs]))
    · intro i hi
      rw [mpV_45, up_app, if_neg (fun e => hi (by simp [e, rfs]))]
      exact mg i (fun h9 => hi (by simp at h9; simp [rfs]; omega))
    · rw [mpV_45, up_app, if_neg (by decide), m27, xoff 28 (by decide) (by decide), w2, up_app, if_neg (by decide), up_app, if_pos rfl, u1]
    · rw [mpV_45, up_app, if_neg (by decide), mg 28 (by decide)]; exact u2
    · rw [mpV_45, up_app, if_neg (by decide), mg 29 (by decide)]; exact u3
    · rw [mpV_45, up_app, if_neg (by decide), mg 30 (by decide)]; exact u4
    · rw [mpV_45, up_app, if_neg (by decide), mg 31 (by decide), xoff 39 (by decide) (by decide), w1 39 (by decide)]; exact u5
    · rw [mpV_45, up_app, if_pos rfl]
      simp only [bs]
      rw [ebl (d - 1) (by omega), ehx, hb1]; omega
    · rw [mpV_45, up_app, if_neg (by decide), m36]; omega
    · rw [mpV_45, up_app, if_neg (by decide), mg 44 (by decide), xoff 39 (by decide) (by decide), w1 39 (by decide)]; exact u8
    · rw [mpV_45, up_app, if_neg (by decide), mg 47 (by decide), xoff 35 (by decide) (by decide), w1 35 (by decide)]; exact u9
    · rw [ebl e (by omega)]
      obtain ⟨f4, p4, h4, y1, y2, y3⟩ := hC.2.2.2.1 e (by omega)
      have hg4 := hgt_eq y1.1.2.2
      have y := a3 e (by omega)
      rw [hg4] at y
      obtain ⟨q1, q2, q3⟩ := y
      have hb4 := bs_step hC.2.2.2.1 (e := e) (n := d) (by omega) (by omega)
      by_cases hed : e = d - 1
      · subst hed
        have h43 : h4 = h3 := by have := y1.1.2.2; have := z1.1.2.2; omega
        subst h43
        rw [ehx]
        refine ⟨⟨?_, ?_, ?_⟩, fun k hk => ?_, fun j hj => ?_⟩
        · rw [mpV_off (by decide), moff 69 (by decide) (by decide), xoff 31 (by decide) (by decide), w1 31 (by decide)]; exact q1.1
        · rw [mpV_off (by decide), hM, pu_off (by decide), pu_off (by decide), mnh_70, up_app, if_neg (by omega), xoff 32 (by decide) (by decide), w5 _ (by omega)]; exact q1.2.1
        · rw [mpV_off (by decide), moff 71 (by decide) (by decide)]; exact q1.2.2
        · rw [mpV_off (by decide), mpV_off (by decide), moff 72 (by decide) (by decide), moff 73 (by decide) (by decide), x30, up_app, if_neg (by omega)]; exact q2 k hk
        · rw [mpV_67, mpV_68, up_app, up_app, moff 67 (by decide) (by decide), moff 68 (by decide) (by decide), x30, up_app]
          by_cases hj3 : j = h4
          · rw [if_pos (by omega), if_pos (by omega), if_pos (by omega)]; exact ⟨rfl, rfl⟩
          · rw [if_neg (by omega), if_neg (by omega), if_neg (by omega)]; exact q3 j (by omega)
      · have ehe : hgt X e = h4 := by
          refine hgt_eq ?_
          rw [x33, up_app, if_neg hed, w6 e (by omega)]; exact y1.1.2.2
        have hb5 := bs_step hC.2.2.2.1 (e := e) (n := d - 1) (by omega) (by omega)
        rw [ehe]
        refine ⟨⟨?_, ?_, ?_⟩, fun k hk => ?_, fun j hj => ?_⟩
        · rw [mpV_off (by decide), moff 69 (by decide) (by decide), xoff 31 (by decide) (by decide), w1 31 (by decide)]; exact q1.1
        · rw [mpV_off (by decide), hM, pu_off (by decide), pu_off (by decide), mnh_70, up_app, if_neg (by omega), xoff 32 (by decide) (by decide), w5 _ (by omega)]; exact q1.2.1
        · rw [mpV_off (by decide), moff 71 (by decide) (by decide)]; exact q1.2.2
        · rw [mpV_off (by decide), mpV_off (by decide), moff 72 (by decide) (by decide), moff 73 (by decide) (by decide), x30, up_app, if_neg (by omega)]; exact q2 k hk
        · rw [mpV_67, mpV_68, up_app, up_app, moff 67 (by decide) (by decide), moff 68 (by decide) (by decide), x30, up_app, if_neg (by omega), if_neg (by omega), if_neg (by omega)]; exact q3 j (by omega)
    · exact HR_fr a4 (by rw [xoff 35 (by decide) (by decide), w1 35 (by decide)]) (by rw [xoff 36 (by decide) (by decide), w1 36 (by decide)]) (by rw [xoff 37 (by decide) (by decide), w1 37 (by decide)]) (by rw [xoff 38 (by decide) (by decide), w1 38 (by decide)]) (fun c hc => by
        simp at hc
        rw [mpV_off (by omega), moff c (by omega) (by omega)])
    · exact TR_fr a5 (by rw [xoff 39 (by decide) (by decide), w1 39 (by decide)]) (by rw [xoff 41 (by decide) (by decide), w1 41 (by decide)]) (by rw [mpV_off (by decide), moff 76 (by decide) (by decide)])
  · have hd : d = 0 := by omega
    rw [if_pos hd]
    refine wp_gW (wp_gW (wp_rT ⟨rfl, Or.inr ?_⟩))
    refine ⟨⟨a1.1.trans ?_, a1.2.trans ?_⟩, ?_, ?_, ?_, ?_, fun _ => ?_, Or.inr ?_⟩
    · intro c hc
      rw [pu_off (fun e => hc (by simp [e, mrs])), pu_off (fun e => hc (by simp [e, mrs]))]
      exact moff c (fun e => hc (by simp [e, mrs])) (fun e => hc (by simp [e, mrs]))
    · intro i hi
      rw [pu_row, pu_row, up_app, if_neg (fun e => hi (by simp [e, rfs])), up_app, if_neg (fun e => hi (by simp [e, rfs]))]
      exact mg i (fun h9 => hi (by simp at h9; simp [rfs]; omega))
    · rw [pu_row, pu_row, up_app, if_neg (by decide), up_app, if_neg (by decide), m27, pu_row, up_app, if_neg (by decide), w2, up_app, if_neg (by decide), up_app, if_pos rfl, u1]
    · rw [pu_row, pu_row, up_app, if_neg (by decide), up_app, if_neg (by decide), mg 28 (by decide), u2, pu_row, up_app, if_neg (by decide), w2, up_app, if_neg (by decide), up_app, if_neg (by decide)]; exact hC.2.1.2.2.2.2.1.symm
    · rw [pu_row, pu_row, up_app, if_neg (by decide), up_app, if_neg (by decide), mg 31 (by decide), u5, pu_off (by decide), w1 39 (by decide)]
    · rw [pu_row, pu_row, up_app, if_neg (by decide), up_app, if_pos rfl, pz_u_eq]
    · rw [pz_u_eq, pz_u_eq]
    · refine ⟨?_, by rw [pu_off (by decide), w3]; omega⟩
      rw [pu_row, pu_row, up_app, if_neg (by decide), up_app, if_neg (by decide), m36]; omega
end MO
