/-! JOIN'S GROUP KEEPS STEP -/
theorem sJ_no : ∀ k x, x ∈ sJ k → x.1 = 2
  | 0, x, h => by simp [sJ] at h
  | k + 1, x, h => by
    simp only [sJ, List.mem_cons] at h
    rcases h with h | h
    · rw [h]
    · exact sJ_no k x h
theorem jC_no {l w : Int} {x : Ins} (h : x ∈ jC l w) : x.1 = 25 := by
  unfold jC at h
  split at h
  · simp at h
  · simp at h; rw [h]
theorem jT_no (d : Nat → Int) : ∀ (m k : Nat) (hc l w : Int) (x : Ins), x ∈ jT d m k hc l w → x.1 ≠ 8 ∧ x.1 ≠ 9
  | 0, k, hc, l, w, x, h => by rw [jC_no h]; decide
  | m + 1, k, hc, l, w, x, h => by
    simp only [jT] at h
    split at h
    · simp only [List.mem_append, List.mem_cons] at h
      rcases h with h | h | h | h
      · rw [jC_no h]; decide
      · rw [h]; dsimp only; decide
      · rw [h]; dsimp only; decide
      · exact jT_no d m (k + 1) _ _ _ x h
    · exact jT_no d m (k + 1) _ _ _ x h
theorem joinG_no {V : pvM} {r : Nat} {x : Ins} (h : x ∈ joinG V r) : x.1 ≠ 8 ∧ x.1 ≠ 9 := by
  unfold joinG at h
  simp only [List.mem_append, List.mem_cons] at h
  rcases h with h | h | h
  · rw [sJ_no _ _ h]; decide
  · rw [h]; dsimp only; decide
  · exact jT_no _ _ _ _ _ _ x h
section PJ
variable {N : Nat} {V0 : pvM} {e u : Nat} {Q : pvM → Prop}
theorem RE_sJ {h n : Nat} {st : Nat → Int} : ∀ (k q : Nat) (V : pvM) (lo : Nat → Int), k ≤ 12 → fr rcs V0 V → FT V e u q (h + k) lo st → ROWS V0 u q (sJ k) → (∀ W lo', FT W e u (q + k) h lo' st → (∀ i, i < k → lo' (8 + i) = st (h + i)) → (∀ i, i < 8 ∨ 8 + k ≤ i → lo' i = lo i) → MV V W e 0 fcs → RE N n W Q) → RE N (k + n) V Q
  | 0, q, V, lo, h1, h0, hF, hR, hk => by
    rw [Nat.zero_add]
    exact hk V lo hF (fun i h2 => by omega) (fun i _ => rfl) (MV.refl V e _)
  | k + 1, q, V, lo, h1, h0, hF, hR, hk => by
    obtain ⟨r1, r2⟩ := ROWS_cons hR
    dsimp only at r1
    have hF' : FT V e u q (h + k + 1) lo st := hF
    rw [show k + 1 + n = (k + n) + 1 by omega]
    refine RE_step hF.2.2.2.2.2 (by have := hF.1.2.1; omega) (s_store (k := 8 + k) hF' (by omega) (by rw [show (((8 + k : Nat)) : Int) = 8 + (k : Int) by omega]; exact row_fr h0 r1) (Or.inl rfl)) (fun W hW => ?_)
    refine RE_sJ (h := h) (n := n) k (q + 1) W (va_up lo (8 + k) (st (h + k))) (by omega) (h0.trans (hW.2.2.1.mono rcs_f)) hW.1 r2 (fun X lo' hX h2 h3 h4 => ?_)
    refine hk X lo' (by rw [show q + (k + 1) = q + 1 + k by omega]; exact hX) (fun i h5 => ?_) (fun i h5 => ?_) (hW.2.trans h4)
    · by_cases hik : i = k
      · rw [hik, h3 _ (by omega), up_app, if_pos rfl]
      · exact h2 i (by omega)
    · rw [h3 i (by omega), up_app, if_neg (by omega)]
theorem JF_pre {b : Int} {V W X : pvM} (h : MV V W e 0 tcs) (h39 : W 39 7 = V 39 7) (hJ : JF b W X e 0) : JF b V X e 0 := by
  obtain ⟨a1, a2, a3, a4, a5⟩ := hJ
  refine ⟨h.2.1.trans a1, by rw [a2, n28_0, n28_0, h.2.2, n28_0], by rw [a3, h39], a4, a5⟩
/-- letters that wait are appended -/
theorem RE_jC {b : Int} {A V : pvM} {h n0 q T nn w : Nat} {l : Int} {lo st : Nat → Int} (hN : 250 ≤ N) (hWr : RW V0) (hb : 0 ≤ b ∧ b ≤ 600) (hT : T < 400) (h0 : fr rcs V0 V) (hF : FT V e u q (h + 1) lo st) (hst : st h = vO 2 T) (hJ : JP b A V T nn) (hnn : nn ≤ 200) (hl : 0 < w → 0 ≤ l ∧ l + w ≤ 96) (hR : ROWS V0 u q (jC l w)) (hk : ∀ W, nn + w ≤ 200 → FT W e u (q + (jC l w).length) (h + 1) lo st → JP b A W T (nn + w) → MV V W e 0 tcs → RE N n0 W Q) (hf : ∀ W, 200 < nn + w → JF b V W e 0 → Q W) : RE N (1 + n0) V Q := by
  by_cases hw : w = 0
  · subst hw
    have hc : jC l ((0 : Nat) : Int) = [] := by unfold jC; rw [if_pos (by omega)]
    rw [hc, List.length_nil, Nat.add_zero, Nat.add_zero] at hk
    exact RE_mono (hk V hnn hF hJ (MV.refl V e _)) (by omega) (fun _ h => h)
  · have hc : jC l (w : Int) = [(25, l, (w : Int))] := by unfold jC; rw [if_neg (by omega)]
    rw [hc] at hR
    obtain ⟨r1, -⟩ := ROWS_cons hR
    dsimp only at r1
    rw [show 1 + n0 = n0 + 1 by omega]
    refine RE_step hF.2.2.2.2.2 (by have := hF.1.2.1; omega) (s_chars (T := T) (n := nn) (w := w) (l := l) (b := b) (A := A) hN hF hst hT hJ hnn (rw_u hWr (h0 17 (by decide))) hb (hl (by omega)) (row_fr h0 r1) (Or.inl rfl)) (fun W hW => ?_)
    rcases hW with ⟨c1, c2, c3, c4⟩ | ⟨c1, c2⟩
    · exact hk W c1 (by rw [hc]; exact c2) c4 c3
    · exact RE_done (hf W c1 c2)
set_option maxHeartbeats 4000000 in
set_option maxRecDepth 100000 in
theorem RE_jT {b H : Int} {A : pvM} {h n0 T r len L : Nat} {lo va : Nat → Int} (hN : 250 ≤ N) (hP : PI V0) (hWr : RW V0) (hb : 0 ≤ b ∧ b ≤ 600) (hT : T < 400) (hH : H ≤ 400) (hh : h + 2 ≤ 13 ∨ V0 4 r = 0) (hr : (r : Int) < V0 2 5) (hlen : V0 3 r = len) (hlo : ∀ i : Nat, (i : Int) < V0 4 r → lo (8 + i) = va i) (hv : ∀ i : Nat, (i : Int) < V0 4 r → vok (T : Int) H (va i)) (hLe : L = jl V0 r (fun j => spL A (va j)) len) : ∀ (m k w q nn : Nat) (V : pvM) (st : Nat → Int), k + m = len → (w : Int) ≤ k - c27 (V0 6) (12 * r) k → fr rcs V0 V → FT V e u q (h + 1) lo st → st h = vO 2 T → JP b A V T nn → nn ≤ 200 → nn + w = jl V0 r (fun j => spL A (va j)) k → ROWS V0 u q (jT (fun k => V0 6 (12 * r + k)) m k (c27 (V0 6) (12 * r) k) (V0 5 r + k - c27 (V0 6) (12 * r) k - w) w) → (∀ W st', L ≤ 200 → FT W e u (q + (jT (fun k => V0 6 (12 * r + k)) m k (c27 (V0 6) (12 * r) k) (V0 5 r + k - c27 (V0 6) (12 * r) k - w) w).length) (h + 1) lo st' → (∀ j, j ≤ h → st' j = st j) → JP b A W T L → MV V W e 0 tcs → RE N n0 W Q) → (∀ W, 200 < L → JF b V W e 0 → Q W) → RE N (3 * m + 1 + n0) V Q := by
  have h25 := hP.2.2.2.2.1
  have hrc := hP.2.2.2.2.2.1.2.2.2 r (by omega)
  have hhol := hP.hol hr
  have hr3 := hP.2.2.2.2.2.1.hb r (by omega)
  -- the letters of a recipe lie in the table
  have hlet : ∀ k w : Nat, k ≤ len → 0 < w → (w : Int) ≤ k - c27 (V0 6) (12 * r) k → 0 ≤ V0 5 r + k - c27 (V0 6) (12 * r) k - w ∧ V0 5 r + k - c27 (V0 6) (12 * r) k - w + w ≤ 96 := by
    intro k w hk hw hle
    have hb3 := hP.2.2.2.2.2.1.hb
    have hcm := c27_mono (V0 6) (12 * r) (k := k) (n := (V0 3 r).toNat) (by omega)
    have hlb := ls_bd (L := V0 3) (H := V0 4) r (fun q hq => by have := hb3 q (by omega); omega)
    have hlb1 := ls_bd (L := V0 3) (H := V0 4) (r + 1) (fun q hq => by have := hb3 q (by omega); omega)
    simp only [ls] at hlb1
    have h1 := hrc.2.1
    have h2 := hrc.2.2.1
    omega
  intro m
  induction m with
  | zero =>
    intro k w q nn V st h1 hwk h0 hF hst hJ hnn hjl hR hk hf
    have hkl : k = len := by omega
    subst hkl
    have hL : nn + w = L := by rw [hLe]; exact hjl
    simp only [jT] at hR hk
    rw [show 3 * 0 + 1 + n0 = 1 + n0 by omega]
    refine RE_jC (h := h) (T := T) (nn := nn) (w := w) hN hWr hb hT h0 hF hst hJ hnn (fun hw => hlet k w (Nat.le_refl _) hw hwk) hR (fun W c1 c2 c3 c4 => ?_) (fun W c1 c2 => hf W (by omega) c2)
    exact hk W st (by omega) c2 (fun j _ => rfl) (by rw [← hL]; exact c3) c4
  | succ m ih =>
    intro k w q nn V st h1 hwk h0 hF hst hJ hnn hjl hR hk hf
    have hcb := c27_bd (V0 6) (12 * r) k
    have hcm1 := c27_mono (V0 6) (12 * r) (k := k + 1) (n := (V0 3 r).toNat) (by omega)
    have hmono := jl_mono (V := V0) (r := r) (sp := fun j => spL A (va j)) (k := k + 1) (n := len) (by omega)
    rw [← hLe] at hmono
    have hmono0 := jl_mono (V := V0) (r := r) (sp := fun j => spL A (va j)) (k := k) (n := len) (by omega)
    rw [← hLe] at hmono0
    simp only [c27] at hcm1
    simp only [jT] at hR hk
    by_cases h27 : V0 6 (12 * r + k) = 27
    · rw [if_pos h27] at hR hk hcm1
      have h4 := hrc.2.1
      obtain ⟨j, hj⟩ : ∃ j : Nat, c27 (V0 6) (12 * r) k = j := ⟨(c27 (V0 6) (12 * r) k).toNat, by omega⟩
      have hj4 : (j : Int) < V0 4 r := by omega
      have hjl1 : jl V0 r (fun j => spL A (va j)) (k + 1) = nn + w + spL A (va j) := by
        simp only [jl]; rw [if_pos h27, hj, show ((j : Int)).toNat = j by omega, hjl]
      obtain ⟨r1, r2⟩ := ROWS_app hR
      obtain ⟨r3, r4⟩ := ROWS_cons r2
      obtain ⟨r5, r6⟩ := ROWS_cons r4
      dsimp only at r3 r5
      rw [show 3 * (m + 1) + 1 + n0 = 1 + ((3 * m + 1 + n0 + 1) + 1) by omega]
      refine RE_jC (h := h) (T := T) (nn := nn) (w := w) hN hWr hb hT h0 hF hst hJ hnn (fun hw => hlet k w (by omega) hw hwk) r1 (fun W c1 c2 c3 c4 => ?_) (fun W c1 c2 => hf W (by omega) c2)
      have h0W := h0.trans (c4.2.1.mono rcs_t)
      have hst2 : h + 2 ≤ 13 := by rcases hh with hh | hh <;> omega
      refine RE_step c2.2.2.2.2.2 (by have := c2.1.2.1; omega) (s_load (k := 8 + j) c2 (by omega) (by omega) (by rw [show (((8 + j : Nat)) : Int) = 8 + c27 (V0 6) (12 * r) k by omega]; exact row_fr h0W r3) (Or.inl rfl)) (fun X hX => ?_)
      have h0X := h0W.trans (hX.2.2.1.mono rcs_f)
      have hJX : JP b A X T (nn + w) := JP_fr c3 (fun c hc => hX.2.2.1 c (by simp at hc; simp [fcs]; omega))
      have hvj : vok (T : Int) H (va_up st (h + 1) (lo (8 + j)) (h + 1)) := by rw [up_app, if_pos rfl, hlo j hj4]; exact hv j hj4
      refine RE_step hX.1.2.2.2.2.2 (by have := hX.1.1.2.1; omega) (s_appV (T := T) (n := nn + w) (b := b) (H := H) (A := A) (h := h) (by omega) hX.1 (by rw [up_app, if_neg (by omega)]; exact hst) hT hJX c1 (rw_u hWr (h0X 17 (by decide))) hb hvj hH (row_fr h0X r5) (Or.inl rfl)) (fun Y hY => ?_)
      rw [up_app, if_pos rfl, hlo j hj4] at hY
      have mvX : MV V X e 0 tcs := c4.trans (hX.2.mono (by decide))
      have x7 : X 39 7 = V 39 7 := by rw [hJX.1 7 (by decide), ← hJ.1 7 (by decide)]
      rcases hY with ⟨y1, y2, y3, y4⟩ | ⟨y1, y2⟩
      · have h0Y := h0X.trans (y3.2.1.mono rcs_t)
        have mvY : MV V Y e 0 tcs := mvX.trans y3
        have y7 : Y 39 7 = V 39 7 := by rw [y4.1 7 (by decide), ← hJ.1 7 (by decide)]
        have ec : c27 (V0 6) (12 * r) (k + 1) = c27 (V0 6) (12 * r) k + 1 := by simp only [c27]; rw [if_pos h27]
        have el : V0 5 r + ((k + 1 : Nat) : Int) - c27 (V0 6) (12 * r) (k + 1) - ((0 : Nat) : Int) = V0 5 r + k - c27 (V0 6) (12 * r) k - w + w := by rw [ec]; omega
        have hR2 : ROWS V0 u (q + (jC (V0 5 r + k - c27 (V0 6) (12 * r) k - w) w).length + 1 + 1) (jT (fun k => V0 6 (12 * r + k)) m (k + 1) (c27 (V0 6) (12 * r) (k + 1)) (V0 5 r + ((k + 1 : Nat) : Int) - c27 (V0 6) (12 * r) (k + 1) - ((0 : Nat) : Int)) ((0 : Nat) : Int)) := by
          rw [el, ec]; exact r6
        refine ih (k + 1) 0 (q + (jC (V0 5 r + k - c27 (V0 6) (12 * r) k - w) w).length + 1 + 1) (nn + w + spL A (va j)) Y (va_up st (h + 1) (va j)) (by omega) (by rw [ec]; omega) h0Y y2 (by rw [up_app, if_neg (by omega)]; exact hst) y4 y1 (by rw [hjl1]; rfl) hR2 (fun Z st' z1 z2 z3 z4 z5 => ?_) (fun Z z1 z2 => hf Z z1 (JF_pre mvY y7 z2))
        refine hk Z st' z1 ?_ (fun i hi => by rw [z3 i hi, up_app, if_neg (by omega)]) z4 (mvY.trans z5)
        rw [el, ec] at z2
        rw [List.length_append, List.length_cons, List.length_cons]
        rw [show q + ((jC (V0 5 r + k - c27 (V0 6) (12 * r) k - w) w).length + ((jT (fun k => V0 6 (12 * r + k)) m (k + 1) (c27 (V0 6) (12 * r) k + 1) (V0 5 r + k - c27 (V0 6) (12 * r) k - w + w) 0).length + 1 + 1)) = q + (jC (V0 5 r + k - c27 (V0 6) (12 * r) k - w) w).length + 1 + 1 + (jT (fun k => V0 6 (12 * r + k)) m (k + 1) (c27 (V0 6) (12 * r) k + 1) (V0 5 r + k - c27 (V0 6) (12 * r) k - w + w) 0).length by omega]
        exact z2
      · exact RE_done (hf Y (by omega) (JF_pre mvX x7 y2))
    · rw [if_neg h27] at hR hk hcm1
      have ec : c27 (V0 6) (12 * r) (k + 1) = c27 (V0 6) (12 * r) k := by simp only [c27]; rw [if_neg h27, Int.add_zero]
      have el : V0 5 r + ((k + 1 : Nat) : Int) - c27 (V0 6) (12 * r) (k + 1) - ((w + 1 : Nat) : Int) = V0 5 r + k - c27 (V0 6) (12 * r) k - w := by rw [ec]; omega
      have hjl1 : jl V0 r (fun j => spL A (va j)) (k + 1) = nn + (w + 1) := by
        simp only [jl]; rw [if_neg h27, ← hjl]; omega
      refine RE_mono (ih (k + 1) (w + 1) q nn V st (by omega) (by rw [ec]; omega) h0 hF hst hJ hnn hjl1.symm (by rw [el, ec]; exact hR) (fun W st' z1 z2 z3 z4 z5 => hk W st' z1 (by rw [el, ec] at z2; exact z2) z3 z4 z5) hf) (by omega) (fun _ h => h)
end PJ
section PJ3
variable {N : Nat} {b : Int} {V0 V Vp : pvM} {d f p h : Nat} {ix : Nat → Nat}
set_option maxHeartbeats 4000000 in
set_option maxRecDepth 100000 in
theorem pw_15 {V' : pvM} {n r : Nat} (hN : 250 ≤ N) (hL : LOW V0) (hW : RW V0) (hP : PI V0) (hb : 0 ≤ b ∧ b ≤ 600) (hC : CI b V0 V (d + 1)) (hR : RP b V0 V Vp (d + 1) ix) (hm : frm V d f p (h + n)) (hh : h + n ≤ 12) (h400 : V 28 7 < 400) (h15 : cW V f p = 15) (hca : cA V f p = r) (hr : (r : Int) < V 2 5) (hn : V 4 r = n) (hs : jnP b (takeV (nxV V d ((p + 1 : Nat) : Int)) d h n) (V 39 3).toNat d h (jl V r (fun j => spL V (V 30 (33 * d + 20 + h + j))) (V 3 r).toNat) V') : RE N 50 Vp (RPO b V0 V') := by
  have ht := RP_tops hC hR hm hh
  have h9 := hC.2.2.2.2.2.2.2.2.1
  have hTX := hC.2.2.2.2.2.1.1
  have hF := FT_tops ht
  obtain ⟨t1, t2, t3, t4, t5, t6⟩ := ht
  have hR' := hR
  obtain ⟨r1, r2, r3, r4, r5, r6, r7, r8⟩ := hR'
  obtain ⟨T, hT⟩ : ∃ T : Nat, V 39 3 = T := ⟨(V 39 3).toNat, by omega⟩
  rw [hT, show ((T : Int)).toNat = T by omega] at hs
  have e10 : cW V f p = cW V0 f p := by unfold cW; rw [hC.1 10 (by decide)]
  have e11 : cA V f p = cA V0 f p := by unfold cA; rw [hC.1 11 (by decide)]
  have hfn : (f : Int) < V0 1 6 := by rw [← hC.1 1 (by decide)]; exact hm.2.1.1
  have hpn : (p : Int) < V0 9 f := by rw [← hC.1 9 (by decide)]; exact hm.2.1.2
  have hr0 : (r : Int) < V0 2 5 := by rw [← hC.1 2 (by decide)]; exact hr
  have hn0 : V0 4 r = n := by rw [← hC.1 4 (by decide)]; exact hn
  have h25 := hP.2.2.2.2.1
  have hr3 := hP.2.2.2.2.2.1.hb r (by omega)
  obtain ⟨len, hlen⟩ : ∃ len : Nat, V0 3 r = len := ⟨(V0 3 r).toNat, by omega⟩
  have hG : Gp V0 f p = joinG V0 r := by
    unfold Gp grp
    rw [if_neg (by omega), if_neg (by omega), if_pos (by omega), ← e11, hca, show ((r : Int)).toNat = r by omega]
  -- values
  obtain ⟨va, hva⟩ : ∃ va : Nat → Int, va = fun j => V 30 (33 * d + 20 + h + j) := ⟨_, rfl⟩
  have hvv : ∀ i : Nat, i < n → vok (V 39 3) (V 35 3) (va i) := fun i hi => by
    have h7 := hm.2.2.1 (h + i) (by omega)
    rw [show 33 * d + 20 + (h + i) = 33 * d + 20 + h + i by omega] at h7
    rw [hva]; exact h7
  have hvp : ∀ i, i < n → Vp 30 (33 * ix d + 20 + (h + i)) = va i := fun i hi => by
    rw [t4 (h + i) (by omega), hva]; dsimp only; rw [show 33 * d + 20 + (h + i) = 33 * d + 20 + h + i by omega]
  obtain ⟨L, hLd⟩ : ∃ L, L = jl V r (fun j => spL V (V 30 (33 * d + 20 + h + j))) (V 3 r).toNat := ⟨_, rfl⟩
  rw [← hLd] at hs
  have hcz : c27 (V0 6) (12 * r) len = n := by
    have := (hP.2.2.2.2.2.1.2.2.2 r (by omega)).2.1
    rw [hlen, show ((len : Int)).toNat = len by omega] at this
    omega
  have hLe : L = jl V0 r (fun j => spL Vp (va j)) len := by
    rw [hLd, hC.1 3 (by decide), hlen, show ((len : Int)).toNat = len by omega, jl_congr (hC.1 6 (by decide))]
    refine jl_sp (n := len) len (Nat.le_refl _) (fun j hj => ?_)
    rw [spP hC hR (hvv j (by omega)), hva]
  obtain ⟨A, hA⟩ : ∃ A, A = takeV (nxV V d ((p + 1 : Nat) : Int)) d h n := ⟨_, rfl⟩
  have tf : fr [28, 30, 32, 33, 34] V A := by rw [hA]; exact tk_fr
  have t28 : A 28 = va_up (V 28) 7 (V 28 7 + 1) := by rw [hA]; exact tk_28
  have t32 : A 32 = va_up (V 32) d ((p + 1 : Nat) : Int) := by rw [hA, takeV_off (by decide) (by decide), nxV_32]
  have t33 : A 33 = va_up (V 33) d ((33 * d + 20 + h : Nat) : Int) := by rw [hA, takeV_33, nxV_off (by decide) (by decide)]
  have t30 : A 30 = V 30 := by rw [hA, takeV_off (by decide) (by decide), nxV_off (by decide) (by decide)]
  rw [← hA] at hs
  -- ends
  have flt : ∀ W : pvM, 200 < L → fr tcs Vp W → W 28 = va_up (va_up (Vp 28) 7 (Vp 28 7 + 1)) 8 5 → W 39 7 = Vp 39 7 → KS W → BG b W → RPO b V0 V' W := by
    intro W hL9 w1 w2 w3 w4 w5
    rcases hs with ⟨s1, -⟩ | ⟨s1, s2⟩
    · omega
    · obtain ⟨g1, g2, g3, g4, g5, g6⟩ := s2
      refine Or.inr (PFN_flt (e := 5) hR (w1.mono rcs_t) ?_ g2 (by rw [w2, up_app, if_pos rfl]) (by decide) ?_ ?_ ?_ w4 w5)
      · rw [w2, up_app, if_neg (by decide), up_app, if_pos rfl, g3 7 (by decide), t28, up_app, if_pos rfl, r2.2.2.1]
      · rw [w3, g4, tf 39 (by decide)]; exact r7.2.1
      · rw [g3 9 (by decide), t28, up_app, if_neg (by decide)]; exact hC.2.1.2.2.2.2.2
      · rw [w2, up_app, if_neg (by decide), up_app, if_neg (by decide)]; exact r2.2.2.2.2
  have fin : ∀ (W : pvM) (lo' st' : Nat → Int), L ≤ 200 → FT W (ix d) f (ps V0 f (p + 1)) (h + 1) lo' st' → (∀ i, i < 8 → lo' i = Vp 30 (33 * ix d + i)) → (∀ j, j < h → st' j = Vp 30 (33 * ix d + 20 + j)) → st' h = vO 2 T → JP b Vp W T L → BE Vp W (ix d) → fr tcs Vp W → W 28 = va_up (Vp 28) 7 (Vp 28 7 + 1) → RPO b V0 V' W := by
    intro W lo' st' hL9 w1 w2 w3 w4 w5 w6 w7 w8
    rcases hs with ⟨s1, V1, s2, rfl⟩ | ⟨s1, -⟩
    · obtain ⟨j1, j2, j3, j4, j5, j6, j7, j8⟩ := s2
      obtain ⟨y1, y2, y3, y4, y5⟩ := w1
      obtain ⟨p1, p2, p3, p4, p5, p6, p7⟩ := w5
      have vof : ∀ c, c ∉ [28, 30, 32, 33, 34, 39, 40, 41, 42, 43, 84] → pushV V1 d h (vO 2 T) c = V c := fun c hc => by
        simp at hc
        rw [pushV_off (by omega) (by omega), j1 c (by simp [jcs]; omega), tf c (by simp; omega)]
      have v28 : pushV V1 d h (vO 2 T) 28 = va_up (V 28) 7 (V 28 7 + 1) := by rw [pushV_off (by decide) (by decide), j1 28 (by decide), t28]
      have v32 : pushV V1 d h (vO 2 T) 32 = va_up (V 32) d ((p + 1 : Nat) : Int) := by rw [pushV_off (by decide) (by decide), j1 32 (by decide), t32]
      have v33 : pushV V1 d h (vO 2 T) 33 = va_up (va_up (V 33) d ((33 * d + 20 + h : Nat) : Int)) d ((33 * d + 20 + (h + 1) : Nat) : Int) := by rw [pushV_33, j1 33 (by decide), t33]
      have v30 : pushV V1 d h (vO 2 T) 30 = va_up (V 30) (33 * d + 20 + h) (vO 2 T) := by rw [pushV_30, j1 30 (by decide), t30]
      refine RPO_in (D := d) (ix := ix) ⟨by rw [vof 29 (by decide)]; exact hC.2.1.1, by rw [v28, up_app, if_neg (by decide)]; exact hC.2.1.2.2.2.2.1⟩ ?_
      refine RP_top hR (vof 31 (by decide)) (fun k hk => by rw [v32, up_app, if_neg hk]) (fun k hk => by rw [v33, up_app, if_neg hk, up_app, if_neg hk]) (fun i hi => by rw [v30, up_app, if_neg (by omega)]) (by rw [v28, up_app, if_neg (by decide)]) (w7.mono rcs_t) w6 (w7 29 (by decide)) (by rw [w8]; simp [up_app]) (by rw [w8, v28, up_app, up_app, if_pos rfl, if_pos rfl, r2.2.2.1]) ?_ (HP_fr r6 (fun c hc => vof c (by simp at hc; simp; omega)) (fun c hc => w7 c (by simp at hc; simp [tcs]; omega))) ?_ ⟨p5, p6, p7⟩
      · refine ⟨f, p + 1, h + 1, ⟨by rw [vof 31 (by decide)]; exact hm.1.1, by rw [v32, up_app, if_pos rfl], by rw [v33, up_app, if_pos rfl]⟩, ⟨y2.1, y2.2.1, y2.2.2.1⟩, by omega, fun k hk => ?_, fun j hj => ?_⟩
        · rw [y3 k (by omega), w2 k hk, v30, up_app, if_neg (by omega)]; exact t3 k hk
        · rw [y4 j hj, v30, up_app]
          by_cases hjh : j = h
          · rw [if_pos (by omega), hjh, w4]
          · rw [if_neg (by omega), w3 j (by omega)]; exact t4 j (by omega)
      · refine ⟨by rw [p2, pushV_off (by decide) (by decide), j3], by rw [p1 7 (by decide), pushV_off (by decide) (by decide), j2 7 (by decide), tf 39 (by decide)]; exact r7.2.1, fun t ht => ?_⟩
        rw [pushV_off (by decide) (by decide), j3] at ht
        rw [p3, pushV_off (by decide) (by decide), j4, tf 41 (by decide), up_app, up_app]
        by_cases htT : t = T
        · rw [if_pos htT, if_pos htT]
        · rw [if_neg htT, if_neg htT]; exact r7.2.2 t (by omega)
    · omega
  -- behind BEGIN
  have hG2 : joinG V0 r = sJ n ++ (24, 0, 0) :: jT (fun k => V0 6 (12 * r + k)) len 0 0 (V0 5 r) 0 := by
    unfold joinG; rw [hn0, hlen, show ((n : Int)).toNat = n by omega, show ((len : Int)).toNat = len by omega]
  have e0 : V0 5 r + ((0 : Nat) : Int) - c27 (V0 6) (12 * r) 0 - ((0 : Nat) : Int) = V0 5 r := by simp only [c27]; omega
  have rest : ∀ (W : pvM) (lo' st' : Nat → Int) (q : Nat), fr rcs V0 W → FT W (ix d) f q (h + 1) lo' st' → (∀ i, i < n → lo' (8 + i) = va i) → (∀ i, i < 8 → lo' i = Vp 30 (33 * ix d + i)) → (∀ j, j < h → st' j = Vp 30 (33 * ix d + 20 + j)) → st' h = vO 2 T → JP b Vp W T 0 → MV Vp W (ix d) 1 tcs → ROWS V0 f q (jT (fun k => V0 6 (12 * r + k)) len 0 0 (V0 5 r) 0) → q + (jT (fun k => V0 6 (12 * r + k)) len 0 0 (V0 5 r) 0).length = ps V0 f (p + 1) → RE N 37 W (RPO b V0 V') := by
    intro W lo' st' q h0 w1 w2 w3 w4 w5 w6 w7 w8 w9
    refine RE_mono (RE_jT (n0 := 0) (b := b) (H := V 35 3) (A := Vp) (h := h) (T := T) (r := r) (len := len) (L := L) (lo := lo') (va := va) hN hP hW hb (by omega) (by omega) (by omega) hr0 hlen (fun i hi => w2 i (by omega)) (fun i hi => by rw [← hT]; exact hvv i (by omega)) hLe len 0 0 q 0 W st' (by omega) (by simp only [c27]; omega) h0 w1 w5 w6 (by omega) rfl (by rw [e0]; exact w8) (fun X st2 x1 x2 x3 x4 x5 => RE_done ?_) (fun X x1 x2 => ?_)) (by omega) (fun _ h => h)
    · rw [e0] at x2
      simp only [c27] at x2
      rw [show ((0 : Nat) : Int) = 0 from rfl, w9] at x2
      have mv := w7.trans x5
      refine fin X lo' st2 x1 x2 w3 (fun j hj => by rw [x3 j (by omega)]; exact w4 j hj) (by rw [x3 h (by omega)]; exact w5) x4 mv.1 mv.2.1 ?_
      rw [mv.2.2, n28_1]
    · obtain ⟨z1, z2, z3, z4, z5⟩ := x2
      refine flt X x1 (w7.2.1.trans z1) (by rw [z2, n28_0, w7.2.2, n28_1]) (by rw [z3, w6.1 7 (by decide)]) z4 z5
  have stq1 : stq 1 Vp := Or.inr ⟨rfl, by rw [t5.2.2.2.2]; exact h9.1, by rw [t5.2.2.2.2]; exact h400⟩
  have T400 : T < 400 := by omega
  have vp3 : Vp 39 3 = T := by rw [r7.1]; exact hT
  by_cases hn00 : n = 0
  · subst hn00
    have hGx : Gp V0 f p = (24, 0, 0) :: jT (fun k => V0 6 (12 * r + k)) len 0 0 (V0 5 r) 0 := by rw [hG, hG2]; rfl
    obtain ⟨g1, g2, g3⟩ := ROWS_grp hL hW hP hfn hpn hGx (fun y hy => joinG_no (V := V0) (r := r) (by rw [hG2]; exact hy))
    dsimp only at g1
    refine RE_mono (RE_step (n := 37) hF.2.2.2.2.2 (by have := hF.1.2.1; omega) (s_begin (T := T) (b := b) hF (by omega) T400 vp3 r8 (row_fr r1 g1) stq1) (fun W hWW => ?_)) (by omega) (fun _ h => h)
    obtain ⟨w1, w2, w3⟩ := hWW
    exact rest W _ _ _ (r1.trans (w2.2.1.mono rcs_t)) w1 (fun i hi => by omega) (fun i hi => rfl) (fun j hj => by rw [up_app, if_neg (by omega)]) (by rw [up_app, if_pos (by omega)]) w3 w2 g2 g3.symm
  · obtain ⟨m, rfl⟩ : ∃ m, n = m + 1 := ⟨n - 1, by omega⟩
    have hGx : Gp V0 f p = (2, 8 + (m : Int), 0) :: (sJ m ++ (24, 0, 0) :: jT (fun k => V0 6 (12 * r + k)) len 0 0 (V0 5 r) 0) := by rw [hG, hG2]; rfl
    obtain ⟨g1, g2, g3⟩ := ROWS_grp hL hW hP hfn hpn hGx (fun y hy => joinG_no (V := V0) (r := r) (by rw [hG2]; exact hy))
    dsimp only at g1
    obtain ⟨g4, g5⟩ := ROWS_app g2
    obtain ⟨g6, g7⟩ := ROWS_cons g5
    dsimp only at g6
    rw [sJ_len] at g6 g7
    rw [List.length_append, List.length_cons, sJ_len] at g3
    have hF' : FT Vp (ix d) f (ps V0 f p) (h + m + 1) (fun k => Vp 30 (33 * ix d + k)) (fun j => Vp 30 (33 * ix d + 20 + j)) := hF
    refine RE_mono (RE_step (n := m + (37 + 1)) hF.2.2.2.2.2 (by have := hF.1.2.1; omega) (s_store (k := 8 + m) hF' (by omega) (by rw [show (((8 + m : Nat)) : Int) = 8 + (m : Int) by omega]; exact row_fr r1 g1) stq1) (fun W hWW => ?_)) (by omega) (fun _ h => h)
    obtain ⟨w1, w2⟩ := hWW
    have h0W := r1.trans (w2.2.1.mono rcs_f)
    refine RE_sJ (h := h) (n := 37 + 1) m _ W _ (by omega) h0W w1 g4 (fun X lo' x1 x2 x3 x4 => ?_)
    have mvX := w2.trans x4
    have h0X := h0W.trans (x4.2.1.mono rcs_f)
    have hSX : SDE b X := SDE_fr r8 (fun c hc => mvX.2.1 c (by simp at hc; simp [fcs]; omega))
    refine RE_step x1.2.2.2.2.2 (by have := x1.1.2.1; omega) (s_begin (T := T) (b := b) x1 (by omega) T400 (by rw [mvX.2.1 39 (by decide)]; exact vp3) hSX (row_fr h0X g6) (Or.inl rfl)) (fun Y hY => ?_)
    obtain ⟨y1, y2, y3⟩ := hY
    have hJ2 : JP b Vp Y T 0 := by
      obtain ⟨p1, p2, p3, p4, p5, p6, p7⟩ := y3
      exact ⟨fun i hi => by rw [p1 i hi, mvX.2.1 39 (by decide)], p2, by rw [p3, mvX.2.1 41 (by decide)], by rw [p4, mvX.2.1 40 (by decide), mvX.2.1 41 (by decide)], p5, p6, p7⟩
    refine rest Y lo' _ _ (h0X.trans (y2.2.1.mono rcs_t)) y1 (fun i hi => ?_) (fun i hi => ?_) (fun j hj => by rw [up_app, if_neg (by omega)]) (by rw [up_app, if_pos rfl]) hJ2 ((mvX.mono (by decide)).trans y2) g7 (by rw [g3]; omega)
    · by_cases him : i = m
      · rw [him, x3 _ (by omega), up_app, if_pos rfl]; exact hvp m (by omega)
      · rw [x2 i (by omega)]; exact hvp i (by omega)
    · rw [x3 i (by omega), up_app, if_neg (by omega)]
end PJ3
