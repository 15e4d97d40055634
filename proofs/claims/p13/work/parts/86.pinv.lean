/-! APPLY'S GROUP: INVOKE AND THE METHOD -/
def ivV (X : pvM) (e h n : Nat) (u obj : Int) : pvM := slV (pz_u (openV (popV (takeV X e (h + 1) n) e h) (e + 1) u) 30 (33 * (e + 1) + 0) obj) (e + 1) 1 n
section IV
variable {N e h n : Nat} {X : pvM}
theorem e_inv1 (hN : 50 ≤ N) (ht : tp X e (h + 1 + n)) (hn : n ≤ 3) (h3 : kd (X 30 (33 * e + 20 + h)) ≠ 3) : q_X4_invoke N n X = some (0, 0, pz_u (popV (takeV X e (h + 1) n) e h) 28 8 1) := wz_to (by
  have e30 : takeV X e (h + 1) n 30 = X 30 := takeV_off (by decide) (by decide)
  unfold q_X4_invoke
  rw [cL_eq (e_take (h := h + 1) hN (by omega) ht), cL_eq (e_pop (tp_take ht)), e30, cL_eq e_kindOf]
  refine wp_lI ?_
  rw [if_neg h3]
  exact wp_lI (wp_gW (wp_rT ⟨rfl, rfl, rfl⟩)))
set_option maxHeartbeats 4000000 in
set_option maxRecDepth 100000 in
theorem e_inv2 {c k : Nat} (hN : 50 ≤ N) (ht : tp X e (h + 1 + n)) (hn : n ≤ 3) (h3 : kd (X 30 (33 * e + 20 + h)) = 3) (hc : ct (X 30 (33 * e + 20 + h)) = c) (hc4 : c < 400) (hk : X 36 c = k) (hk4 : k < 480) (h23 : 0 ≤ X 23 k ∧ X 23 k < 12) (h24 : 0 ≤ X 24 k ∧ X 24 k ≤ 3) (hD : e + 1 < 60) (h5 : X 29 5 = ((e + 1 : Nat) : Int)) (h16 : 0 ≤ X 1 6 ∧ X 1 6 ≤ 12) : (X 24 k + n ≠ X 8 (X 23 k).toNat → q_X4_invoke N n X = some (0, 0, pz_u (popV (takeV X e (h + 1) n) e h) 28 8 2)) ∧ (X 24 k + n = X 8 (X 23 k).toNat → q_X4_invoke N n X = some (0, 0, ivV X e h n (((X 1 6).toNat + k : Nat) : Int) (X 30 (33 * e + 20 + h)))) := by
  have e30 : takeV X e (h + 1) n 30 = X 30 := takeV_off (by decide) (by decide)
  obtain ⟨T, hT⟩ : ∃ T, T = popV (takeV X e (h + 1) n) e h := ⟨_, rfl⟩
  have hoff : ∀ i, i ≠ 33 → i ≠ 34 → T i = X i := fun i h3 h4 => by rw [hT, popV_off h3, takeV_off h3 h4]
  have ef : q_X5_functionOfClass N k T = some (0, T 23 k, T) := by unfold q_X5_functionOfClass; rw [e_aR (by omega)]; rfl
  have ev : q_X5_valuesOfClass N k T = some (0, T 24 k, T) := by unfold q_X5_valuesOfClass; rw [e_aR (by omega)]; rfl
  have em : q_X5_methodOfClass N k T = some (0, (((X 1 6).toNat + k : Nat) : Int), T) := wz_to (by
    unfold q_X5_methodOfClass
    rw [cL_eq e_functionTotal, hoff 1 (by decide) (by decide)]
    refine wp_lw (by omega) (wp_rT ⟨rfl, by omega, rfl⟩))
  have tail : ∀ (Q : Nat → Int → pvM → Prop), wp (if X 24 k + n = X 8 (X 23 k).toNat then rT (ivV X e h n (((X 1 6).toNat + k : Nat) : Int) (X 30 (33 * e + 20 + h))) 0 else rT (pz_u T 28 8 2) 0) Q → wp (q_X4_invoke N n X) Q := by
    intro Q hQ
    unfold q_X4_invoke
    rw [cL_eq (e_take (h := h + 1) hN (by omega) ht), cL_eq (e_pop (tp_take ht)), e30, cL_eq e_kindOf, ← hT]
    refine wp_lI ?_
    rw [if_pos h3, cL_eq e_contentOf, hc, cL_eq (e_typeOf hc4), hoff 36 (by decide) (by decide), hk, cL_eq ef, hoff 23 (by decide) (by decide), cL_eq (e_parametersOf h23), hoff 8 (by decide) (by decide), cL_eq ev, hoff 24 (by decide) (by decide)]
    refine wp_lw (by omega) ?_
    by_cases h4 : X 24 k + n = X 8 (X 23 k).toNat
    · rw [if_pos h4] at hQ
      rw [if_pos h4, cL_eq em, cL_eq (e_open hN hD (by rw [hoff 29 (by decide) (by decide)]; exact h5))]
      refine wp_lI ?_
      have t1 := (tp_open (V := T) (D := e + 1) (u := (((X 1 6).toNat + k : Nat) : Int)) hD).1
      rw [show ((0 : Int)) = ((0 : Nat) : Int) from rfl, cL_eq (e_setLocal (d := e + 1) t1 hD (by omega))]
      refine wp_lI ?_
      rw [show ((1 : Int)) = ((1 : Nat) : Int) from rfl, cL_eq (e_slt (d := e + 1) hN (by rw [pu_off (by decide)]; exact t1) hD (by omega) (by omega))]
      unfold ivV at hQ
      rw [← hT] at hQ
      exact hQ
    · rw [if_neg h4] at hQ
      rw [if_neg h4]
      exact wp_lI (wp_gW hQ)
  refine ⟨fun h4 => wz_to (tail _ ?_), fun h4 => wz_to (tail _ ?_)⟩
  · rw [if_neg h4, hT]; exact wp_rT ⟨rfl, rfl, rfl⟩
  · rw [if_pos h4]; exact wp_rT ⟨rfl, rfl, rfl⟩
def ivG (X W : pvM) (e h u : Nat) (lo : Nat → Int) : Prop := fr [29, 30, 31, 32, 33, 34] X W ∧ W 31 = va_up (X 31) (e + 1) u ∧ W 32 = va_up (X 32) (e + 1) 0 ∧ W 33 = va_up (va_up (X 33) e ((33 * e + 20 + h : Nat) : Int)) (e + 1) ((33 * (e + 1) + 20 : Nat) : Int) ∧ (∀ i, i < 33 * (e + 1) → W 30 i = X 30 i) ∧ (∀ k, k < 20 → W 30 (33 * (e + 1) + k) = lo k) ∧ W 29 5 = ((e + 1 + 1 : Nat) : Int) ∧ W 29 6 = ((e + 1 : Nat) : Int)
theorem iv_rows {u : Nat} {obj : Int} (hn : n ≤ 3) : ivG X (ivV X e h n u obj) e h u (fun k => if k = 0 then obj else if k ≤ n then X 30 (33 * e + 20 + (h + 1) + (k - 1)) else zV) := by
  obtain ⟨T, hT⟩ : ∃ T, T = popV (takeV X e (h + 1) n) e h := ⟨_, rfl⟩
  have hoff : ∀ i, i ≠ 33 → i ≠ 34 → T i = X i := fun i h3 h4 => by rw [hT, popV_off h3, takeV_off h3 h4]
  have t33 : T 33 = va_up (X 33) e ((33 * e + 20 + h : Nat) : Int) := by
    rw [hT, popV_33, takeV_33]; funext j; simp only [up_app]; split <;> rfl
  have t34 : ∀ k, k < n → T 34 k = X 30 (33 * e + 20 + (h + 1) + k) := fun k hk => by rw [hT, popV_off (by decide), takeV_34 hk]
  unfold ivV
  rw [← hT]
  obtain ⟨Y, hY⟩ : ∃ Y, Y = pz_u (openV T (e + 1) u) 30 (33 * (e + 1) + 0) obj := ⟨_, rfl⟩
  rw [← hY]
  have soff : ∀ c, c ≠ 30 → slV Y (e + 1) 1 n c = openV T (e + 1) u c := fun c hc => by unfold slV; rw [up_app, if_neg hc, hY, pu_off hc]
  have s30 : slV Y (e + 1) 1 n 30 = fun k => if 33 * (e + 1) + 1 ≤ k ∧ k < 33 * (e + 1) + 1 + n then T 34 (k - (33 * (e + 1) + 1)) else if k = 33 * (e + 1) + 0 then obj else if 33 * (e + 1) ≤ k ∧ k < 33 * (e + 1) + 20 then zV else X 30 k := by
    have y34 : Y 34 = T 34 := by rw [hY, pu_off (by decide), openV_off (by decide)]
    have y30 : Y 30 = va_up (openV T (e + 1) u 30) (33 * (e + 1) + 0) obj := by rw [hY, pu_row]
    unfold slV
    rw [up_app, if_pos rfl, y34, y30, openV_30, hoff 30 (by decide) (by decide)]
    funext k
    simp only [up_app]
  refine ⟨fun c hc => ?_, ?_, ?_, ?_, fun i hi => ?_, fun k hk => ?_, ?_, ?_⟩
  · simp at hc
    rw [soff c (by omega), openV_off (by omega), hoff c (by omega) (by omega)]
  · rw [soff 31 (by decide), openV_31, hoff 31 (by decide) (by decide)]
  · rw [soff 32 (by decide), openV_32, hoff 32 (by decide) (by decide)]
  · rw [soff 33 (by decide), openV_33, t33]
  · rw [s30]; dsimp only; rw [if_neg (by omega), if_neg (by omega), if_neg (by omega)]
  · rw [s30]; dsimp only
    by_cases hk0 : k = 0
    · rw [if_neg (by omega), if_pos (by omega), if_pos hk0]
    · rw [if_neg hk0]
      by_cases hkn : k ≤ n
      · rw [if_pos (by omega), t34 _ (by omega), if_pos hkn, show 33 * (e + 1) + k - (33 * (e + 1) + 1) = k - 1 by omega]
      · rw [if_neg (by omega), if_neg (by omega), if_pos (by omega), if_neg hkn]
  · rw [soff 29 (by decide), openV_29, up_app, if_pos rfl]
  · rw [soff 29 (by decide), openV_29, up_app, if_neg (by decide), up_app, if_pos rfl]
end IV
section MI2
variable {N e u q h : Nat} {s : Int} {V : pvM} {lo st : Nat → Int}
theorem s_get {k c : Nat} {b : Int} (hF : FT V e u q h lo st) (hh : h < 13) (h0 : lo 0 = vO 3 c) (hc : c < 400) (hk : k < 3) (hr : row V u q 23 k b s) (hs : stq s V) : wz (q_X4_doNext N V) (fun _ W => FT W e u (q + 1) (h + 1) lo (va_up st h (V 38 (3 * c + k))) ∧ MV V W e s fcs) := by
  refine s_micro hF hr hs ?_
  have ht := tp_pre (s := s) (q := ((q + 1 : Nat) : Int)) hF.tp
  have k3c := k3 (c := (c : Int)) (by unfold I32; omega)
  obtain ⟨a1, a2, a3, a4, a5⟩ := hF
  obtain ⟨X, hX⟩ : ∃ X, X = pre s V e ((q + 1 : Nat) : Int) := ⟨_, rfl⟩
  rw [← hX] at ht ⊢
  have xof : ∀ i, i ≠ 28 → i ≠ 32 → X i = V i := fun i b1 b2 => by rw [hX, pre_off b1 b2]
  have p30 : X 30 = V 30 := xof 30 (by decide) (by decide)
  have el := e_local (N := N) (d := e) (k := 0) (V := X) ht.1 ht.2.1 (by decide)
  rw [p30, a3 0 (by decide), h0] at el
  unfold pbd q_X4_doPlain
  rw [if_pos (by decide), if_pos (by decide), if_neg (by decide), if_neg (by decide), if_neg (by decide), if_pos rfl]
  rw [cL_eq (show (lI (0) fun v11 => cL (q_X1_local N v11 X) fun v12 V => cL (q_X10_contentOf N v12 V) fun v13 V => cL (q_X2_valueAt N v13 k V) fun v14 V => cL (q_X1_push N v14 V) fun _ V => rT V 0) = some (0, 0, pushV X e h (V 38 (3 * c + k))) by
    refine wz_to (wp_lI ?_)
    rw [show ((0 : Int)) = ((0 : Nat) : Int) from rfl, cL_eq el, cL_eq e_contentOf, k3c.2, cL_eq (e_valueAt hc hk), xof 38 (by decide) (by decide), cL_eq (e_push ht hh)]
    exact wp_rT ⟨rfl, rfl, rfl⟩)]
  refine wp_rT ⟨rfl, FT_mk (h' := h + 1) ⟨a1, a2, a3, a4, a5⟩ ?_ ?_ ?_ ?_ (by omega) (fun j hj => ?_) (fun j hj => ?_) ?_ ?_, ⟨fun i hi => ⟨?_, ?_, ?_⟩, fun i hi => ?_⟩, fun c hc => ?_, ?_⟩
  · rw [pushV_off (by decide) (by decide), xof 29 (by decide) (by decide)]
  · rw [pushV_off (by decide) (by decide), xof 31 (by decide) (by decide)]
  · rw [pushV_off (by decide) (by decide), hX, pre_32]
  · rw [pushV_33, up_app, if_pos rfl]
  · rw [pushV_30, up_app, if_neg (by omega), p30]; exact a3 j hj
  · rw [pushV_30, up_app, p30, up_app]
    by_cases hj9 : j = h
    · rw [if_pos (by omega), if_pos hj9]
    · rw [if_neg (by omega), if_neg hj9]; exact a4 j (by omega)
  · rw [pushV_off (by decide) (by decide), hX, pre_28, n28_at (by decide)]
  · rw [pushV_off (by decide) (by decide), hX, pre_28, n28_at (by decide)]
  · rw [pushV_off (by decide) (by decide), xof 31 (by decide) (by decide)]
  · rw [pushV_off (by decide) (by decide), hX, pre_32, up_app, if_neg (by omega)]
  · rw [pushV_33, up_app, if_neg (by omega), xof 33 (by decide) (by decide)]
  · rw [pushV_30, up_app, if_neg (by omega), p30]
  · simp [fcs] at hc; rw [pushV_off (by omega) (by omega), xof c (by omega) (by omega)]
  · rw [pushV_off (by decide) (by decide), hX, pre_28]
end MI2
section PI2
variable {N : Nat} {V0 : pvM} {e u : Nat} {Q : pvM → Prop}
theorem RE_gS {n c : Nat} {lo : Nat → Int} (h0 : lo 0 = vO 3 c) (hc : c < 400) : ∀ (m k q : Nat) (V : pvM) (st : Nat → Int), k + m ≤ 3 → fr rcs V0 V → FT V e u q k lo st → ROWS V0 u q (gS m k) → (∀ W st', FT W e u (q + m) (k + m) lo st' → (∀ j, j < k → st' j = st j) → (∀ j, k ≤ j → j < k + m → st' j = V 38 (3 * c + j)) → MV V W e 0 fcs → RE N n W Q) → RE N (m + n) V Q
  | 0, k, q, V, st, h1, hf, hF, hR, hk => by
    rw [Nat.zero_add]
    exact hk V st hF (fun j _ => rfl) (fun j h2 h3 => by omega) (MV.refl V e _)
  | m + 1, k, q, V, st, h1, hf, hF, hR, hk => by
    obtain ⟨r1, r2⟩ := ROWS_cons hR
    dsimp only at r1
    rw [show m + 1 + n = (m + n) + 1 by omega]
    refine RE_step hF.2.2.2.2.2 (by have := hF.1.2.1; omega) (s_get (k := k) (c := c) hF (by omega) h0 hc (by omega) (row_fr hf r1) (Or.inl rfl)) (fun W hW => ?_)
    have w38 : W 38 = V 38 := hW.2.2.1 38 (by decide)
    refine RE_gS h0 hc m (k + 1) (q + 1) W _ (by omega) (hf.trans (hW.2.2.1.mono rcs_f)) hW.1 r2 (fun X st' x1 x2 x3 x4 => ?_)
    refine hk X st' (by rw [show q + (m + 1) = q + 1 + m by omega, show k + (m + 1) = k + 1 + m by omega]; exact x1) (fun j hj => by rw [x2 j (by omega), up_app, if_neg (by omega)]) (fun j h2 h3 => ?_) (hW.2.trans x4)
    by_cases hjk : j = k
    · rw [x2 j (by omega), up_app, if_pos hjk, hjk]
    · rw [x3 j (by omega) (by omega), w38]
theorem RE_lS {n h : Nat} {lo : Nat → Int} : ∀ (m k q : Nat) (V : pvM) (st : Nat → Int), h + m ≤ 12 → k + m < 20 → fr rcs V0 V → FT V e u q h lo st → ROWS V0 u q (lS m k) → (∀ W st', FT W e u (q + m) (h + m) lo st' → (∀ j, j < h → st' j = st j) → (∀ j, j < m → st' (h + j) = lo (k + j)) → MV V W e 0 fcs → RE N n W Q) → RE N (m + n) V Q
  | 0, k, q, V, st, h1, h2, hf, hF, hR, hk => by
    rw [Nat.zero_add]
    exact hk V st hF (fun j _ => rfl) (fun j h2 => by omega) (MV.refl V e _)
  | m + 1, k, q, V, st, h1, h2, hf, hF, hR, hk => by
    obtain ⟨r1, r2⟩ := ROWS_cons hR
    dsimp only at r1
    rw [show m + 1 + n = (m + n) + 1 by omega]
    refine RE_step hF.2.2.2.2.2 (by have := hF.1.2.1; omega) (s_load (k := k) hF (by omega) (by omega) (row_fr hf r1) (Or.inl rfl)) (fun W hW => ?_)
    refine RE_lS (h := h + 1) m (k + 1) (q + 1) W _ (by omega) (by omega) (hf.trans (hW.2.2.1.mono rcs_f)) hW.1 r2 (fun X st' x1 x2 x3 x4 => ?_)
    refine hk X st' (by rw [show q + (m + 1) = q + 1 + m by omega, show h + (m + 1) = h + 1 + m by omega]; exact x1) (fun j hj => by rw [x2 j (by omega), up_app, if_neg (by omega)]) (fun j hj => ?_) (hW.2.trans x4)
    by_cases hj0 : j = 0
    · rw [hj0, Nat.add_zero, Nat.add_zero, x2 h (by omega), up_app, if_pos rfl]
    · have := x3 (j - 1) (by omega)
      rw [show h + 1 + (j - 1) = h + j by omega, show k + 1 + (j - 1) = k + j by omega] at this
      exact this
end PI2
