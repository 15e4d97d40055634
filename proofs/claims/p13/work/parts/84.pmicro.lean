/-! SINGLE ROWS INSIDE A GROUP -/
def FT (V : pvM) (e u q h : Nat) (lo st : Nat → Int) : Prop := (V 29 6 = e ∧ V 29 5 = ((e + 1 : Nat) : Int) ∧ e < 60) ∧ (V 31 e = u ∧ V 32 e = q ∧ V 33 e = ((33 * e + 20 + h : Nat) : Int) ∧ h ≤ 13) ∧ (∀ k, k < 20 → V 30 (33 * e + k) = lo k) ∧ (∀ j, j < h → V 30 (33 * e + 20 + j) = st j) ∧ (V 28 5 = 16 ∧ V 28 8 = 0)
def MV (V W : pvM) (e : Nat) (s : Int) (cs : List Nat) : Prop := BE V W e ∧ fr cs V W ∧ W 28 = n28 s V
def fcs : List Nat := [28, 30, 32, 33, 34]
theorem MV.trans {V W X : pvM} {e : Nat} {s : Int} {cs : List Nat} (h : MV V W e s cs) (h' : MV W X e 0 cs) : MV V X e s cs := ⟨h.1.trans h'.1, h.2.1.trans h'.2.1, by rw [h'.2.2, n28_0, h.2.2]⟩
theorem MV.mono {V W : pvM} {e : Nat} {s : Int} {cs ds : List Nat} (h : MV V W e s cs) (hd : ∀ c, c ∈ cs → c ∈ ds) : MV V W e s ds := ⟨h.1, h.2.1.mono hd, h.2.2⟩
theorem MV.refl (V : pvM) (e : Nat) (cs : List Nat) : MV V V e 0 cs := ⟨BE.refl V e, fr.refl _ _, (n28_0 V).symm⟩
theorem FT.tp {V : pvM} {e u q h : Nat} {lo st : Nat → Int} (h9 : FT V e u q h lo st) : tp V e h := ⟨h9.1.1, h9.1.2.2, h9.2.1.2.2.1, h9.2.1.2.2.2⟩
theorem tp_pre {s : Int} {V : pvM} {e h : Nat} {q : Int} (h9 : tp V e h) : tp (pre s V e q) e h := tp_off h9 (by rw [pre_off (by decide) (by decide)]) (by rw [pre_off (by decide) (by decide)])
section MI
variable {N e u q h : Nat} {s : Int} {V : pvM} {lo st : Nat → Int}
theorem s_micro {w a b : Int} {Q : Nat → Int → pvM → Prop} (hF : FT V e u q h lo st) (hr : row V u q w a b s) (hs : stq s V) (hk : wp (pbd N w a b (pre s V e ((q + 1 : Nat) : Int))) Q) : wp (q_X4_doNext N V) Q :=
  s_pnext (by rw [hF.2.2.2.2.1]; decide) hF.1.1 hF.1.2.2 hF.2.1.1 hF.2.1.2.1 hr hs hk
/-- the frame behind the step, its places and slots named -/
theorem FT_mk {W : pvM} {h' : Nat} {lo' st' : Nat → Int} (hF : FT V e u q h lo st) (w29 : W 29 = V 29) (w31 : W 31 = V 31) (w32 : W 32 = va_up (V 32) e ((q + 1 : Nat) : Int)) (w33 : W 33 e = ((33 * e + 20 + h' : Nat) : Int)) (hh : h' ≤ 13) (hlo : ∀ k, k < 20 → W 30 (33 * e + k) = lo' k) (hst : ∀ j, j < h' → W 30 (33 * e + 20 + j) = st' j) (w5 : W 28 5 = V 28 5) (w8 : W 28 8 = V 28 8) : FT W e u (q + 1) h' lo' st' := by
  obtain ⟨a1, a2, a3, a4, a5⟩ := hF
  refine ⟨by rw [w29]; exact a1, ⟨by rw [w31]; exact a2.1, by rw [w32, up_app, if_pos rfl], w33, hh⟩, hlo, hst, by rw [w5, w8]; exact a5⟩
theorem s_load {k : Nat} {b : Int} (hF : FT V e u q h lo st) (hh : h < 13) (hk : k < 20) (hr : row V u q 1 k b s) (hs : stq s V) : wz (q_X4_doNext N V) (fun _ W => FT W e u (q + 1) (h + 1) lo (va_up st h (lo k)) ∧ MV V W e s fcs) := by
  refine s_micro hF hr hs ?_
  unfold pbd
  rw [if_neg (by decide), cL_eq (e_sh1 (tp_pre hF.tp) hh hk)]
  obtain ⟨a1, a2, a3, a4, a5⟩ := hF
  have p30 : pre s V e ((q + 1 : Nat) : Int) 30 = V 30 := pre_off (by decide) (by decide)
  rw [p30, a3 k hk]
  refine wp_rT ⟨rfl, FT_mk (h' := h + 1) ⟨a1, a2, a3, a4, a5⟩ ?_ ?_ ?_ ?_ (by omega) (fun j hj => ?_) (fun j hj => ?_) ?_ ?_, ⟨fun i hi => ⟨?_, ?_, ?_⟩, fun i hi => ?_⟩, fun c hc => ?_, ?_⟩
  · rw [pushV_off (by decide) (by decide), pre_off (by decide) (by decide)]
  · rw [pushV_off (by decide) (by decide), pre_off (by decide) (by decide)]
  · rw [pushV_off (by decide) (by decide), pre_32]
  · rw [pushV_33, up_app, if_pos rfl]
  · rw [pushV_30, up_app, if_neg (by omega), p30]; exact a3 j hj
  · rw [pushV_30, up_app, p30, up_app]
    by_cases hj9 : j = h
    · rw [if_pos (by omega), if_pos hj9]
    · rw [if_neg (by omega), if_neg hj9]; exact a4 j (by omega)
  · rw [pushV_off (by decide) (by decide), pre_28, n28_at (by decide)]
  · rw [pushV_off (by decide) (by decide), pre_28, n28_at (by decide)]
  · rw [pushV_off (by decide) (by decide), pre_off (by decide) (by decide)]
  · rw [pushV_off (by decide) (by decide), pre_32, up_app, if_neg (by omega)]
  · rw [pushV_33, up_app, if_neg (by omega), pre_off (by decide) (by decide)]
  · rw [pushV_30, up_app, if_neg (by omega), p30]
  · simp [fcs] at hc; rw [pushV_off (by omega) (by omega), pre_off (by omega) (by omega)]
  · rw [pushV_off (by decide) (by decide), pre_28]
theorem s_store {k : Nat} {b : Int} (hF : FT V e u q (h + 1) lo st) (hk : k < 20) (hr : row V u q 2 k b s) (hs : stq s V) : wz (q_X4_doNext N V) (fun _ W => FT W e u (q + 1) h (va_up lo k (st h)) st ∧ MV V W e s fcs) := by
  refine s_micro hF hr hs ?_
  unfold pbd
  rw [if_neg (by decide), cL_eq (e_sh2 (tp_pre hF.tp) hk)]
  obtain ⟨a1, a2, a3, a4, a5⟩ := hF
  have p30 : pre s V e ((q + 1 : Nat) : Int) 30 = V 30 := pre_off (by decide) (by decide)
  rw [p30, a4 h (by omega)]
  refine wp_rT ⟨rfl, FT_mk (h' := h) ⟨a1, a2, a3, a4, a5⟩ ?_ ?_ ?_ ?_ (by omega) (fun j hj => ?_) (fun j hj => ?_) ?_ ?_, ⟨fun i hi => ⟨?_, ?_, ?_⟩, fun i hi => ?_⟩, fun c hc => ?_, ?_⟩
  · rw [pu_off (by decide), popV_off (by decide), pre_off (by decide) (by decide)]
  · rw [pu_off (by decide), popV_off (by decide), pre_off (by decide) (by decide)]
  · rw [pu_off (by decide), popV_off (by decide), pre_32]
  · rw [pu_off (by decide), popV_33, up_app, if_pos rfl]
  · rw [pu_row, up_app, popV_off (by decide), p30, up_app]
    by_cases hj9 : j = k
    · rw [if_pos (by omega), if_pos hj9]
    · rw [if_neg (by omega), if_neg hj9]; exact a3 j hj
  · rw [pu_row, up_app, if_neg (by omega), popV_off (by decide), p30]; exact a4 j (by omega)
  · rw [pu_off (by decide), popV_off (by decide), pre_28, n28_at (by decide)]
  · rw [pu_off (by decide), popV_off (by decide), pre_28, n28_at (by decide)]
  · rw [pu_off (by decide), popV_off (by decide), pre_off (by decide) (by decide)]
  · rw [pu_off (by decide), popV_off (by decide), pre_32, up_app, if_neg (by omega)]
  · rw [pu_off (by decide), popV_33, up_app, if_neg (by omega), pre_off (by decide) (by decide)]
  · rw [pu_row, up_app, if_neg (by omega), popV_off (by decide), p30]
  · simp [fcs] at hc; rw [pu_off (by omega), popV_off (by omega), pre_off (by omega) (by omega)]
  · rw [pu_off (by decide), popV_off (by decide), pre_28]
def hcs : List Nat := [28, 30, 32, 33, 34, 35, 36, 37, 38]
theorem s_new {c H n : Nat} {b : Int} (hN : 50 ≤ N) (hF : FT V e u q h lo st) (hh : h < 13) (hc : c < 480) (hn : V 24 c = n) (hn3 : n ≤ 3) (hH : V 35 3 = H) (hH4 : H < 400) (hr : row V u q 20 c b s) (hs : stq s V) : wz (q_X4_doNext N V) (fun _ W => FT W e u (q + 1) (h + 1) lo (va_up st h (vO 3 H)) ∧ MV V W e s hcs ∧ W 35 = va_up (V 35) 3 ((H + 1 : Nat) : Int) ∧ W 36 = va_up (V 36) H c ∧ ∀ j, j < 3 * H → W 38 j = V 38 j) := by
  refine s_micro hF hr hs ?_
  have ht := tp_pre (s := s) (q := ((q + 1 : Nat) : Int)) hF.tp
  obtain ⟨X, hX⟩ : ∃ X, X = pre s V e ((q + 1 : Nat) : Int) := ⟨_, rfl⟩
  rw [← hX] at ht ⊢
  have xof : ∀ i, i ≠ 28 → i ≠ 32 → X i = V i := fun i b1 b2 => by rw [hX, pre_off b1 b2]
  have e1 : q_X5_valuesOfClass N c X = some (0, X 24 c, X) := by
    unfold q_X5_valuesOfClass; rw [e_aR (by omega)]; rfl
  unfold pbd q_X4_doPlain
  rw [if_pos (by decide), if_pos (by decide), if_pos rfl]
  rw [cL_eq (show (cL (q_X5_valuesOfClass N c X) fun v1 V => cL (q_X2_add N c v1 V) fun v2 V => cL (q_X1_push N v2 V) fun _ V => rT V 0) = some (0, 0, pushV (addV X H c n) e h (vO 3 H)) by
    rw [cL_eq e1, xof 24 (by decide) (by decide), hn, cL_eq (e_hadd hN hH4 hn3 (by rw [xof 35 (by decide) (by decide)]; exact hH)), cL_eq (e_push (tp_off ht (by rw [addV_off (by decide)]) (by rw [addV_off (by decide)])) hh)]
    rfl)]
  obtain ⟨Y, hY⟩ : ∃ Y, Y = addV X H c n := ⟨_, rfl⟩
  rw [← hY]
  have yof : ∀ i, i ∉ [35, 36, 37, 38] → Y i = X i := fun i hi => by simp at hi; rw [hY, addV_off (by omega)]
  have y35 : Y 35 = va_up (V 35) 3 ((H + 1 : Nat) : Int) := by rw [hY]; unfold addV; rw [up_app, if_neg (by decide), pu_off (by decide), pu_off (by decide), pu_row, xof 35 (by decide) (by decide)]
  have y36 : Y 36 = va_up (V 36) H c := by rw [hY]; unfold addV; rw [up_app, if_neg (by decide), pu_off (by decide), pu_row, pu_off (by decide), xof 36 (by decide) (by decide)]
  have y38 : ∀ j, j < 3 * H → Y 38 j = V 38 j := fun j hj => by
    rw [hY]; unfold addV; rw [up_app, if_pos rfl, if_neg (by omega), xof 38 (by decide) (by decide)]
  obtain ⟨a1, a2, a3, a4, a5⟩ := hF
  have y30 : Y 30 = V 30 := by rw [yof 30 (by decide), xof 30 (by decide) (by decide)]
  refine wp_rT ⟨rfl, FT_mk (h' := h + 1) ⟨a1, a2, a3, a4, a5⟩ ?_ ?_ ?_ ?_ (by omega) (fun j hj => ?_) (fun j hj => ?_) ?_ ?_, ⟨⟨fun i hi => ⟨?_, ?_, ?_⟩, fun i hi => ?_⟩, fun c hc => ?_, ?_⟩, ?_, ?_, fun j hj => ?_⟩
  · rw [pushV_off (by decide) (by decide), yof 29 (by decide), xof 29 (by decide) (by decide)]
  · rw [pushV_off (by decide) (by decide), yof 31 (by decide), xof 31 (by decide) (by decide)]
  · rw [pushV_off (by decide) (by decide), yof 32 (by decide), hX, pre_32]
  · rw [pushV_33, up_app, if_pos rfl]
  · rw [pushV_30, up_app, if_neg (by omega), y30]; exact a3 j hj
  · rw [pushV_30, up_app, y30, up_app]
    by_cases hj9 : j = h
    · rw [if_pos (by omega), if_pos hj9]
    · rw [if_neg (by omega), if_neg hj9]; exact a4 j (by omega)
  · rw [pushV_off (by decide) (by decide), yof 28 (by decide), hX, pre_28, n28_at (by decide)]
  · rw [pushV_off (by decide) (by decide), yof 28 (by decide), hX, pre_28, n28_at (by decide)]
  · rw [pushV_off (by decide) (by decide), yof 31 (by decide), xof 31 (by decide) (by decide)]
  · rw [pushV_off (by decide) (by decide), yof 32 (by decide), hX, pre_32, up_app, if_neg (by omega)]
  · rw [pushV_33, up_app, if_neg (by omega), yof 33 (by decide), xof 33 (by decide) (by decide)]
  · rw [pushV_30, up_app, if_neg (by omega), y30]
  · simp [hcs] at hc; rw [pushV_off (by omega) (by omega), yof c (by simp; omega), xof c (by omega) (by omega)]
  · rw [pushV_off (by decide) (by decide), yof 28 (by decide), hX, pre_28]
  · rw [pushV_off (by decide) (by decide), y35]
  · rw [pushV_off (by decide) (by decide), y36]
  · rw [pushV_off (by decide) (by decide), y38 j hj]
theorem s_put {k H : Nat} {b : Int} (hN : 50 ≤ N) (hF : FT V e u q (h + 2) lo st) (hst : st h = vO 3 H) (hH4 : H < 400) (hk : k < 3) (hr : row V u q 21 k b s) (hs : stq s V) : wz (q_X4_doNext N V) (fun _ W => FT W e u (q + 1) (h + 1) lo st ∧ MV V W e s hcs ∧ W 35 = V 35 ∧ W 36 = V 36 ∧ W 38 = va_up (V 38) (3 * H + k) (st (h + 1))) := by
  refine s_micro hF hr hs ?_
  have ht := tp_pre (s := s) (q := ((q + 1 : Nat) : Int)) hF.tp
  obtain ⟨X, hX⟩ : ∃ X, X = pre s V e ((q + 1 : Nat) : Int) := ⟨_, rfl⟩
  rw [← hX] at ht ⊢
  have xof : ∀ i, i ≠ 28 → i ≠ 32 → X i = V i := fun i b1 b2 => by rw [hX, pre_off b1 b2]
  obtain ⟨a1, a2, a3, a4, a5⟩ := hF
  have v0 : takeV X e h 2 34 0 = vO 3 H := by rw [takeV_34 (by omega), xof 30 (by decide) (by decide), ← hst]; exact a4 h (by omega)
  have v1 : takeV X e h 2 34 1 = st (h + 1) := by rw [takeV_34 (by omega), xof 30 (by decide) (by decide)]; exact a4 (h + 1) (by omega)
  have k3H := k3 (c := (H : Int)) (by unfold I32; omega)
  obtain ⟨T, hT⟩ : ∃ T, T = takeV X e h 2 := ⟨_, rfl⟩
  have et := e_take (N := N) (d := e) (h := h) (n := 2) (V := X) hN (by omega) ht
  rw [← hT] at v0 v1 et
  have ttp : tp T e h := by rw [hT]; exact tp_take ht
  have e0 := fun W : pvM => e_takenAt (N := N) (k := 0) (V := W) (by decide)
  have e1 := fun W : pvM => e_takenAt (N := N) (k := 1) (V := W) (by decide)
  unfold pbd q_X4_doPlain
  rw [if_pos (by decide), if_pos (by decide), if_neg (by decide), if_pos rfl]
  rw [cL_eq (show (lI (2) fun v3 => cL (q_X1_take N v3 X) fun _ V => lI (0) fun v4 => cL (q_X1_takenAt N v4 V) fun v5 V => cL (q_X10_contentOf N v5 V) fun v6 V => lI (1) fun v7 => cL (q_X1_takenAt N v7 V) fun v8 V => cL (q_X2_setValue N v6 k v8 V) fun _ V => lI (0) fun v9 => cL (q_X1_takenAt N v9 V) fun v10 V => cL (q_X1_push N v10 V) fun _ V => rT V 0) = some (0, 0, pushV (pz_u T 38 (3 * H + k) (st (h + 1))) e h (vO 3 H)) by
    refine wz_to (wp_lI ?_)
    rw [show ((2 : Int)) = ((2 : Nat) : Int) from rfl, cL_eq et]
    refine wp_lI ?_
    rw [show ((0 : Int)) = ((0 : Nat) : Int) from rfl, cL_eq (e0 _), v0, cL_eq e_contentOf, k3H.2]
    refine wp_lI ?_
    rw [show ((1 : Int)) = ((1 : Nat) : Int) from rfl, cL_eq (e1 _), v1, cL_eq (e_setValue hH4 hk)]
    refine wp_lI ?_
    rw [cL_eq (e0 _), pu_off (show (34 : Nat) ≠ 38 by decide), v0, cL_eq (e_push (tp_off ttp (by rw [pu_off (by decide)]) (by rw [pu_off (by decide)])) (by omega))]
    exact wp_rT ⟨rfl, rfl, rfl⟩)]
  obtain ⟨Y, hY⟩ : ∃ Y, Y = pz_u T 38 (3 * H + k) (st (h + 1)) := ⟨_, rfl⟩
  rw [← hY]
  have yof : ∀ i, i ∉ [33, 34, 38] → Y i = X i := fun i hi => by simp at hi; rw [hY, pu_off (by omega), hT, takeV_off (by omega) (by omega)]
  have y38 : Y 38 = va_up (V 38) (3 * H + k) (st (h + 1)) := by rw [hY, pu_row, hT, takeV_off (by decide) (by decide), xof 38 (by decide) (by decide)]
  have y33 : Y 33 = va_up (V 33) e ((33 * e + 20 + h : Nat) : Int) := by rw [hY, pu_off (by decide), hT, takeV_33, xof 33 (by decide) (by decide)]
  have y30 : Y 30 = V 30 := by rw [yof 30 (by decide), xof 30 (by decide) (by decide)]
  refine wp_rT ⟨rfl, FT_mk (h' := h + 1) ⟨a1, a2, a3, a4, a5⟩ ?_ ?_ ?_ ?_ (by omega) (fun j hj => ?_) (fun j hj => ?_) ?_ ?_, ⟨⟨fun i hi => ⟨?_, ?_, ?_⟩, fun i hi => ?_⟩, fun c hc => ?_, ?_⟩, ?_, ?_, ?_⟩
  · rw [pushV_off (by decide) (by decide), yof 29 (by decide), xof 29 (by decide) (by decide)]
  · rw [pushV_off (by decide) (by decide), yof 31 (by decide), xof 31 (by decide) (by decide)]
  · rw [pushV_off (by decide) (by decide), yof 32 (by decide), hX, pre_32]
  · rw [pushV_33, up_app, if_pos rfl]
  · rw [pushV_30, up_app, if_neg (by omega), y30]; exact a3 j hj
  · rw [pushV_30, up_app, y30]
    by_cases hj9 : j = h
    · rw [if_pos (by omega), hj9, hst]
    · rw [if_neg (by omega)]; exact a4 j (by omega)
  · rw [pushV_off (by decide) (by decide), yof 28 (by decide), hX, pre_28, n28_at (by decide)]
  · rw [pushV_off (by decide) (by decide), yof 28 (by decide), hX, pre_28, n28_at (by decide)]
  · rw [pushV_off (by decide) (by decide), yof 31 (by decide), xof 31 (by decide) (by decide)]
  · rw [pushV_off (by decide) (by decide), yof 32 (by decide), hX, pre_32, up_app, if_neg (by omega)]
  · rw [pushV_33, up_app, if_neg (by omega), y33, up_app, if_neg (by omega)]
  · rw [pushV_30, up_app, if_neg (by omega), y30]
  · simp [hcs] at hc; rw [pushV_off (by omega) (by omega), yof c (by simp; omega), xof c (by omega) (by omega)]
  · rw [pushV_off (by decide) (by decide), yof 28 (by decide), hX, pre_28]
  · rw [pushV_off (by decide) (by decide), yof 35 (by decide), xof 35 (by decide) (by decide)]
  · rw [pushV_off (by decide) (by decide), yof 36 (by decide), xof 36 (by decide) (by decide)]
  · rw [pushV_off (by decide) (by decide), y38]
end MI
