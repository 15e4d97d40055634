/-! FUNCTION'S GROUP IN THE PLAINER CODE -/
def ROWS (V0 : pvM) (u q : Nat) (g : List Ins) : Prop := ∀ (j : Nat) (x : Ins), g[j]? = some x → row V0 u (q + j) x.1 x.2.1 x.2.2 0
theorem ROWS_cons {V0 : pvM} {u q : Nat} {x : Ins} {g : List Ins} (h : ROWS V0 u q (x :: g)) : row V0 u q x.1 x.2.1 x.2.2 0 ∧ ROWS V0 u (q + 1) g := by
  refine ⟨h 0 x rfl, fun j y hy => ?_⟩
  have := h (j + 1) y (by simpa using hy)
  rw [show q + (j + 1) = q + 1 + j by omega] at this
  exact this
theorem ROWS_app {V0 : pvM} {u q : Nat} {g g' : List Ins} (h : ROWS V0 u q (g ++ g')) : ROWS V0 u q g ∧ ROWS V0 u (q + g.length) g' := by
  refine ⟨fun j x hx => h j x ?_, fun j x hx => ?_⟩
  · have hj : j < g.length := by
      rcases Nat.lt_or_ge j g.length with h1 | h1
      · exact h1
      · rw [List.getElem?_eq_none h1] at hx; cases hx
    rw [List.getElem?_append_left hj]; exact hx
  · have := h (g.length + j) x (by rw [List.getElem?_append_right (by omega), show g.length + j - g.length = j by omega]; exact hx)
    rw [show q + (g.length + j) = q + g.length + j by omega] at this
    exact this
theorem ROWS_grp {V0 : pvM} (hL : LOW V0) (hW : RW V0) (hP : PI V0) {f p : Nat} (hf : (f : Int) < V0 1 6) (hp : (p : Int) < V0 9 f) {x : Ins} {g : List Ins} (hG : Gp V0 f p = x :: g) (hno : ∀ y, y ∈ x :: g → y.1 ≠ 8 ∧ y.1 ≠ 9) : row V0 f (ps V0 f p) x.1 x.2.1 x.2.2 1 ∧ ROWS V0 f (ps V0 f p + 1) g ∧ ps V0 f (p + 1) = ps V0 f p + 1 + g.length := by
  have hmv : ∀ y, y ∈ x :: g → mvA V0 f true y = y.2.1 := fun y hy => by
    have := hno y hy
    unfold mvA
    rw [if_neg (fun h => by rcases h.2 with h | h; exact this.1 h; exact this.2 h)]
  refine ⟨?_, fun j y hy => ?_, ?_⟩
  · have h1 := low_row hL hW hP (j := 0) (x := x) hf hp (by rw [hG]; rfl)
    rw [hmv x (by simp), if_pos rfl, Nat.add_zero] at h1
    exact h1
  · have h1 := low_row hL hW hP (j := j + 1) (x := y) hf hp (by rw [hG]; simpa using hy)
    rw [hmv y (by have := List.mem_of_getElem? hy; simp [this]), if_neg (by omega)] at h1
    rw [show ps V0 f p + 1 + j = ps V0 f p + (j + 1) by omega]
    exact h1
  · simp only [ps]
    rw [← Gp_len, hG, List.length_cons]; omega
theorem sD_no : ∀ k x, x ∈ sD k → x.1 = 2
  | 0, x, h => by simp [sD] at h
  | k + 1, x, h => by
    simp only [sD, List.mem_cons] at h
    rcases h with h | h
    · rw [h]
    · exact sD_no k x h
theorem lP_no : ∀ m k x, x ∈ lP m k → x.1 = 1 ∨ x.1 = 21
  | 0, k, x, h => by simp [lP] at h
  | m + 1, k, x, h => by
    simp only [lP, List.mem_cons] at h
    rcases h with h | h | h
    · rw [h]; exact Or.inl rfl
    · rw [h]; exact Or.inr rfl
    · exact lP_no m (k + 1) x h
theorem newG_no {c : Int} {b : Nat} {x : Ins} (h : x ∈ newG c b) : x.1 ≠ 8 ∧ x.1 ≠ 9 := by
  unfold newG at h
  rw [List.mem_cons] at h
  rcases h with h | h
  · rw [h]; dsimp only; decide
  · split at h
    · simp at h
    · simp only [List.mem_cons, List.mem_append] at h
      rcases h with h | h | h | h
      · rw [h]; decide
      · rw [sD_no _ _ h]; decide
      · rw [h]; decide
      · rcases lP_no _ _ _ h with h | h <;> rw [h] <;> decide
theorem rcs_f : ∀ c, c ∈ fcs → c ∈ rcs := by decide
theorem rcs_h : ∀ c, c ∈ hcs → c ∈ rcs := by decide
section PN
variable {N : Nat} {V0 : pvM} {e u : Nat} {Q : pvM → Prop}
theorem RE_sD {h n : Nat} {st : Nat → Int} : ∀ (k q : Nat) (V : pvM) (lo : Nat → Int), k ≤ 11 → fr rcs V0 V → FT V e u q (h + k) lo st → ROWS V0 u q (sD k) → (∀ W lo', FT W e u (q + k) h lo' st → (∀ i, 1 ≤ i → i ≤ k → lo' (8 + i) = st (h + i - 1)) → (∀ i, i < 9 ∨ 8 + k < i → lo' i = lo i) → MV V W e 0 fcs → RE N n W Q) → RE N (k + n) V Q
  | 0, q, V, lo, h1, h0, hF, hR, hk => by
    rw [Nat.zero_add]
    exact hk V lo hF (fun i h2 h3 => by omega) (fun i _ => rfl) (MV.refl V e _)
  | k + 1, q, V, lo, h1, h0, hF, hR, hk => by
    obtain ⟨r1, r2⟩ := ROWS_cons hR
    dsimp only at r1
    have hF' : FT V e u q (h + k + 1) lo st := hF
    rw [show k + 1 + n = (k + n) + 1 by omega]
    refine RE_step hF.2.2.2.2.2 (by have := hF.1.2.1; omega) (s_store (k := 8 + (k + 1)) hF' (by omega) (by rw [show (((8 + (k + 1) : Nat)) : Int) = 8 + ((k + 1 : Nat) : Int) by omega]; exact row_fr h0 r1) (Or.inl rfl)) (fun W hW => ?_)
    refine RE_sD (h := h) (n := n) k (q + 1) W (va_up lo (8 + (k + 1)) (st (h + k))) (by omega) (h0.trans (hW.2.2.1.mono rcs_f)) hW.1 r2 (fun X lo' hX h2 h3 h4 => ?_)
    refine hk X lo' (by rw [show q + (k + 1) = q + 1 + k by omega]; exact hX) (fun i h5 h6 => ?_) (fun i h5 => ?_) (hW.2.trans h4)
    · by_cases hik : i = k + 1
      · rw [h3 _ (by omega), up_app, if_pos (by omega), hik, show h + (k + 1) - 1 = h + k by omega]
      · exact h2 i h5 (by omega)
    · rw [h3 i (by omega), up_app, if_neg (by omega)]
theorem RE_lP {h n H : Nat} {lo : Nat → Int} (hN : 50 ≤ N) (hH4 : H < 400) (hh : h + 2 ≤ 13) : ∀ (m k q : Nat) (V : pvM) (st : Nat → Int), k + m ≤ 3 → fr rcs V0 V → FT V e u q (h + 1) lo st → st h = vO 3 H → ROWS V0 u q (lP m k) → (∀ W st', FT W e u (q + 2 * m) (h + 1) lo st' → (∀ j, j ≤ h → st' j = st j) → (∀ i, i < 3 * H + k ∨ 3 * H + k + m ≤ i → W 38 i = V 38 i) → (∀ i, k ≤ i → i < k + m → W 38 (3 * H + i) = lo (9 + i)) → MV V W e 0 hcs → W 35 = V 35 → W 36 = V 36 → RE N n W Q) → RE N (2 * m + n) V Q
  | 0, k, q, V, st, h1, h0, hF, hs, hR, hk => by
    rw [show 2 * 0 + n = n by omega]
    exact hk V st hF (fun j _ => rfl) (fun i _ => rfl) (fun i h2 h3 => by omega) (MV.refl V e _) rfl rfl
  | m + 1, k, q, V, st, h1, h0, hF, hs, hR, hk => by
    obtain ⟨r1, r2⟩ := ROWS_cons hR
    obtain ⟨r3, r4⟩ := ROWS_cons r2
    dsimp only at r1 r3
    rw [show 2 * (m + 1) + n = (2 * m + n + 1) + 1 by omega]
    refine RE_step hF.2.2.2.2.2 (by have := hF.1.2.1; omega) (s_load (k := 9 + k) hF (by omega) (by omega) (by rw [show (((9 + k : Nat)) : Int) = 9 + (k : Int) by omega]; exact row_fr h0 r1) (Or.inl rfl)) (fun W hW => ?_)
    have h0W := h0.trans (hW.2.2.1.mono rcs_f)
    refine RE_step hW.1.2.2.2.2.2 (by have := hW.1.1.2.1; omega) (s_put (k := k) (H := H) (h := h) hN hW.1 (by rw [up_app, if_neg (by omega)]; exact hs) hH4 (by omega) (row_fr h0W r3) (Or.inl rfl)) (fun X hX => ?_)
    obtain ⟨x1, x2, x3, x4, x5⟩ := hX
    refine RE_lP (h := h) (n := n) hN hH4 hh m (k + 1) (q + 1 + 1) X (va_up st (h + 1) (lo (9 + k))) (by omega) (h0W.trans (x2.2.1.mono rcs_h)) x1 (by rw [up_app, if_neg (by omega)]; exact hs) r4 (fun Y st' y1 y2 y3 y4 y5 y6 y7 => ?_)
    have w38 : W 38 = V 38 := hW.2.2.1 38 (by decide)
    refine hk Y st' (by rw [show q + 2 * (m + 1) = q + 1 + 1 + 2 * m by omega]; exact y1) (fun j hj => by rw [y2 j hj, up_app, if_neg (by omega)]) (fun i hi => ?_) (fun i h5 h6 => ?_) (((hW.2.mono (by decide)).trans x2).trans y5) (by rw [y6, x3, hW.2.2.1 35 (by decide)]) (by rw [y7, x4, hW.2.2.1 36 (by decide)])
    · rw [y3 i (by omega), x5, up_app, if_neg (by omega), w38]
    · by_cases hik : i = k
      · rw [hik, y3 _ (by omega), x5, up_app, if_pos rfl, up_app, if_pos rfl]
      · exact y4 i (by omega) (by omega)
/-- the whole group -/
theorem RE_newG {h n H c nb : Nat} {s : Int} {V : pvM} {q : Nat} {lo st : Nat → Int} (hN : 50 ≤ N) (hn3 : nb ≤ 3) (hh : h + nb ≤ 12) (h0 : fr rcs V0 V) (hF : FT V e u q (h + nb) lo st) (hc : c < 480) (hnc : V0 24 c = nb) (hH : V 35 3 = H) (hH4 : H < 400) (hst : stq s V) (r1 : row V0 u q 20 c 0 s) (r2 : ROWS V0 u (q + 1) (if nb = 0 then [] else (2, 8, 0) :: (sD nb ++ (1, 8, 0) :: lP nb 0)))
    (hk : ∀ W lo' st', FT W e u (q + (newG c nb).length) (h + 1) lo' st' → (∀ i, i < 8 → lo' i = lo i) → (∀ j, j < h → st' j = st j) → st' h = vO 3 H → MV V W e s hcs → W 35 = va_up (V 35) 3 ((H + 1 : Nat) : Int) → W 36 = va_up (V 36) H c → (∀ j, j < 3 * H → W 38 j = V 38 j) → (∀ i, i < nb → W 38 (3 * H + i) = st (h + i)) → RE N n W Q) : RE N (15 + n) V Q := by
  have hstep : RE N (14 + n + 1) V Q := by
    refine RE_step hF.2.2.2.2.2 (by have := hF.1.2.1; omega) (s_new (c := c) (H := H) (n := nb) hN hF (by omega) hc (by rw [h0 24 (by decide)]; exact hnc) hn3 hH hH4 (row_fr h0 r1) hst) (fun W hW => ?_)
    obtain ⟨w1, w2, w3, w4, w5⟩ := hW
    have h0W := h0.trans (w2.2.1.mono rcs_h)
    by_cases hb : nb = 0
    · subst hb
      refine RE_mono (hk W lo (va_up st h (vO 3 H)) ?_ (fun i _ => rfl) (fun j hj => ?_) ?_ w2 w3 w4 w5 (fun i hi => by omega)) (by omega) (fun _ h => h)
      · rw [newG_len, if_pos rfl]; exact w1
      · rw [up_app, if_neg (by omega)]
      · rw [up_app, if_pos rfl]
    · rw [if_neg hb] at r2
      obtain ⟨r3, r4⟩ := ROWS_cons r2
      obtain ⟨r5, r6⟩ := ROWS_app r4
      obtain ⟨r7, r8⟩ := ROWS_cons r6
      dsimp only at r3 r7
      rw [sD_len] at r7 r8
      rw [show 14 + n = (13 + n) + 1 by omega]
      refine RE_step w1.2.2.2.2.2 (by have := w1.1.2.1; omega) (s_store (k := 8) w1 (by omega) (row_fr h0W r3) (Or.inl rfl)) (fun X hX => ?_)
      have h0X := h0W.trans (hX.2.2.1.mono rcs_f)
      refine RE_mono (RE_sD (h := h) (n := 1 + (2 * nb + n)) nb (q + 1 + 1) X _ (by omega) h0X hX.1 r5 (fun Y lo2 y1 y2 y3 y4 => ?_)) (by omega) (fun _ h => h)
      have h0Y := h0X.trans (y4.2.1.mono rcs_f)
      rw [show 1 + (2 * nb + n) = (2 * nb + n) + 1 by omega]
      refine RE_step y1.2.2.2.2.2 (by have := y1.1.2.1; omega) (s_load (k := 8) y1 (by omega) (by omega) (row_fr h0Y r7) (Or.inl rfl)) (fun Z hZ => ?_)
      have h0Z := h0Y.trans (hZ.2.2.1.mono rcs_f)
      have lo28 : lo2 8 = vO 3 H := by rw [y3 8 (by omega), up_app, if_pos rfl, up_app, if_pos rfl]
      refine RE_lP (h := h) (n := n) (H := H) hN hH4 (by omega) nb 0 (q + 1 + 1 + nb + 1) Z _ (by omega) h0Z hZ.1 (by rw [up_app, if_pos rfl, lo28]) r8 (fun A st' a1 a2 a3 a4 a5 a6 a7 => ?_)
      have z38 : Z 38 = W 38 := by rw [hZ.2.2.1 38 (by decide), y4.2.1 38 (by decide), hX.2.2.1 38 (by decide)]
      have mz : MV W Z e 0 hcs := ((hX.2.trans y4).trans hZ.2).mono (by decide)
      refine hk A lo2 st' ?_ (fun i hi => ?_) (fun j hj => ?_) ?_ (w2.trans (mz.trans a5)) ?_ ?_ (fun j hj => ?_) (fun i hi => ?_)
      · rw [newG_len, if_neg hb, show q + (3 + 3 * nb) = q + 1 + 1 + nb + 1 + 2 * nb by omega]; exact a1
      · rw [y3 i (by omega), up_app, if_neg (by omega)]
      · rw [a2 j (by omega), up_app, if_neg (by omega), up_app, if_neg (by omega)]
      · rw [a2 h (by omega), up_app, if_pos rfl, lo28]
      · rw [a6, hZ.2.2.1 35 (by decide), y4.2.1 35 (by decide), hX.2.2.1 35 (by decide), w3]
      · rw [a7, hZ.2.2.1 36 (by decide), y4.2.1 36 (by decide), hX.2.2.1 36 (by decide), w4]
      · rw [a3 j (by omega), z38, w5 j hj]
      · have h8 := a4 i (by omega) (by omega)
        rw [h8, show 9 + i = 8 + (i + 1) by omega, y2 (i + 1) (by omega) (by omega), show h + (i + 1) - 1 = h + i by omega, up_app, if_neg (by omega)]
  rw [show 15 + n = 14 + n + 1 by omega]
  exact hstep
end PN
theorem FT_tops {V Vp : pvM} {d e f q h : Nat} (ht : TOPS V Vp d e f q h) : FT Vp e f q h (fun k => Vp 30 (33 * e + k)) (fun j => Vp 30 (33 * e + 20 + j)) := by
  obtain ⟨t1, t2, t3, t4, t5, t6⟩ := ht
  exact ⟨⟨t1.2.1, t1.2.2, by omega⟩, ⟨t2.1, t2.2.1, t2.2.2, t6.2.2.2⟩, fun _ _ => rfl, fun _ _ => rfl, t5.1, t5.2.1⟩
section PQ
variable {N : Nat} {b : Int} {V0 V Vp : pvM} {d f p h : Nat} {ix : Nat → Nat}
set_option maxHeartbeats 4000000 in
set_option maxRecDepth 100000 in
theorem pw_13 {n : Nat} (hN : 50 ≤ N) (hL : LOW V0) (hW : RW V0) (hP : PI V0) (hC : CI b V0 V (d + 1)) (hR : RP b V0 V Vp (d + 1) ix) (hm : frm V d f p (h + n)) (hh : h + n ≤ 12) (h400 : V 28 7 < 400) (h13 : cW V f p = 13) (hcb : cB V f p = n) (hn3 : n ≤ 3) : RE N 15 Vp (RPO b V0 (fnW (nxV V d ((p + 1 : Nat) : Int)) d h n (V 35 3).toNat (cA V f p))) := by
  have ht := RP_tops hC hR hm hh
  have h9 := hC.2.2.2.2.2.2.2.2.1
  have hHO := hC.2.2.2.2.1
  have hF := FT_tops ht
  obtain ⟨t1, t2, t3, t4, t5, t6⟩ := ht
  have hR' := hR
  obtain ⟨r1, r2, r3, r4, r5, r6, r7, r8⟩ := hR'
  obtain ⟨H, hH⟩ : ∃ H : Nat, V 35 3 = H := ⟨(V 35 3).toNat, by have := hHO.1; omega⟩
  rw [hH, show ((H : Int)).toNat = H by omega]
  have e10 : cW V f p = cW V0 f p := by unfold cW; rw [hC.1 10 (by decide)]
  have e11 : cA V f p = cA V0 f p := by unfold cA; rw [hC.1 11 (by decide)]
  have e12 : cB V f p = cB V0 f p := by unfold cB; rw [hC.1 12 (by decide)]
  have hfn : (f : Int) < V0 1 6 := by rw [← hC.1 1 (by decide)]; exact hm.2.1.1
  have hpn : (p : Int) < V0 9 f := by rw [← hC.1 9 (by decide)]; exact hm.2.1.2
  have hn12 := hP.1
  obtain ⟨c, hc⟩ : ∃ c, c = CC V0 f + ck V0 f p := ⟨_, rfl⟩
  have hG : Gp V0 f p = newG c n := by
    unfold Gp grp
    rw [if_pos (by rw [← e10]; exact h13), ← e12, hcb, show ((n : Int)).toNat = n by omega, hc]
  have hck : ck V0 f p + 1 ≤ ck V0 f (V0 9 f).toNat := by
    have := ck_mono (V := V0) (f := f) (p := p + 1) (q := (V0 9 f).toNat) (by omega)
    simp only [ck, cn] at this
    rw [if_pos (by rw [← e10]; exact h13)] at this
    exact this
  have hCC := CC_mono (V := V0) (f := f + 1) (g := (V0 1 6).toNat) (by omega)
  simp only [CC] at hCC
  have h480 := (SS_le hP hL.1 (V0 1 6).toNat (by omega)).2
  have hcls := ((hL.2.2.1 f hfn).2.2 p hpn).2 (by rw [← e10]; exact h13)
  rw [← hc] at hcls
  have hc9 : (c : Int) < V0 16 9 := by rw [hL.2.1]; omega
  have hG2 := hG
  unfold newG at hG2
  obtain ⟨g1, g2, g3⟩ := ROWS_grp hL hW hP hfn hpn hG2 (fun y hy => newG_no (c := (c : Int)) (b := n) (by unfold newG; exact hy))
  dsimp only at g1
  obtain ⟨W, hWe, w1, w28, w32, w33, w33d, w30, w35, w36, w37, w38⟩ := fn_rows (V := V) (d := d) (h := h) (n := n) (H := H) (ty := cA V f p) (q := ((p + 1 : Nat) : Int))
  rw [← hWe]
  have hx : 15 = 15 + 0 := rfl
  rw [hx]
  refine RE_newG (H := H) (c := c) (nb := n) (h := h) (s := 1) (V0 := V0) hN hn3 hh r1 hF (by omega) (by rw [hcls.2, ← e12]; exact hcb) (by rw [r6.1]; exact hH) (by omega) (Or.inr ⟨rfl, by rw [t5.2.2.2.2]; exact h9.1, by rw [t5.2.2.2.2]; exact h400⟩) g1 g2 (fun X lo' st' x1 x2 x3 x4 x5 x6 x7 x8 x9 => RE_done ?_)
  have x28 := x5.2.2
  rw [n28_1] at x28
  have glen : ps V0 f p + (newG (c : Int) n).length = ps V0 f (p + 1) := by
    rw [g3]; unfold newG; rw [List.length_cons]; omega
  rw [glen] at x1
  obtain ⟨y1, y2, y3, y4, y5⟩ := x1
  refine RPO_in (D := d) (ix := ix) ⟨by rw [w1 29 (by decide)]; exact hC.2.1.1, by rw [w28, up_app, if_neg (by decide)]; exact hC.2.1.2.2.2.2.1⟩ ?_
  have xf := x5.2.1
  refine RP_top hR (w1 31 (by decide)) (fun k hk => by rw [w32, up_app, if_neg hk]) w33 (fun i hi => by rw [w30, up_app, if_neg (by omega)]) (by rw [w28, up_app, if_neg (by decide)]) (xf.mono rcs_h) x5.1 (xf 29 (by decide)) (by rw [x28]; simp [up_app]) (by rw [x28, w28, up_app, up_app, if_pos rfl, if_pos rfl, r2.2.2.1]) ?_ ?_ ?_ (SDE_fr r8 (fun c hc => xf c (by simp at hc; simp [hcs]; omega)))
  · refine ⟨f, p + 1, h + 1, ⟨by rw [w1 31 (by decide)]; exact hm.1.1, by rw [w32, up_app, if_pos rfl], w33d⟩, ⟨y2.1, y2.2.1, y2.2.2.1⟩, by omega, fun k hk => ?_, fun j hj => ?_⟩
    · rw [y3 k (by omega), x2 k hk, w30, up_app, if_neg (by omega)]; exact t3 k hk
    · rw [y4 j hj, w30, up_app]
      by_cases hjh : j = h
      · rw [if_pos (by omega), hjh, x4]
      · rw [if_neg (by omega), x3 j (by omega)]; exact t4 j (by omega)
  · refine ⟨by rw [x6, w35, up_app, up_app, if_pos rfl, if_pos rfl], fun k hk => ?_⟩
    rw [w35, up_app, if_pos rfl] at hk
    rw [x7, w36, w37, w38, up_app, up_app, up_app]
    by_cases hkH : k = H
    · refine ⟨c, hc9, by rw [if_pos hkH], by rw [if_pos hkH, hcls.1, e11], by rw [if_pos hkH, hcls.2, ← e12, hcb], fun i hi => ?_⟩
      rw [if_pos hkH] at hi
      subst hkH
      dsimp only
      have hin : 3 * k ≤ 3 * k + i ∧ 3 * k + i < 3 * k + n := by omega
      rw [if_pos hin, x9 i (by omega), show 3 * k + i - 3 * k = i by omega]
      have h8 := t4 (h + i) (by omega)
      rw [show 33 * d + 20 + (h + i) = 33 * d + 20 + h + i by omega] at h8
      exact h8
    · rw [if_neg hkH, if_neg hkH, if_neg hkH]
      obtain ⟨k9, z1, z2, z3, z4, z5⟩ := r6.2 k (by omega)
      refine ⟨k9, z1, z2, z3, z4, fun i hi => ?_⟩
      have hi3 := (hHO.2 k (by omega)).2.1
      dsimp only
      have hin : ¬ (3 * H ≤ 3 * k + i ∧ 3 * k + i < 3 * H + n) := by omega
      rw [if_neg hin, x8 _ (by omega)]
      exact z5 i hi
  · exact TP_fr r7 (w1 39 (by decide)) (w1 41 (by decide)) (xf 39 (by decide)) (xf 41 (by decide))
end PQ
