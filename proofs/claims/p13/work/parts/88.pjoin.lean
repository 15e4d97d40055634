/-! JOIN'S GROUP: BEGIN, CHARACTERS, APPEND -/
def tcs : List Nat := [28, 30, 32, 33, 34, 39, 40, 41, 42, 43, 84]
theorem rcs_t : ∀ c, c ∈ tcs → c ∈ rcs := by decide
/-- text T has n characters; the texts stood in A before it -/
def JP (b : Int) (A W : pvM) (T n : Nat) : Prop := f39 [2, 3, 5] A W ∧ W 39 3 = ((T + 1 : Nat) : Int) ∧ W 41 = va_up (A 41) T (n : Int) ∧ W 40 = va_up (A 40) T (if T = 0 then 0 else A 40 (T - 1) + A 41 (T - 1)) ∧ TX W ∧ KS W ∧ BG b W
theorem JP_fr {b : Int} {A W W' : pvM} {T n : Nat} (h : JP b A W T n) (hc : ∀ c, c ∈ [17, 39, 40, 41, 84] → W' c = W c) : JP b A W' T n := by
  obtain ⟨a1, a2, a3, a4, a5, a6, a7⟩ := h
  have hs : SDE b W' := SDE_fr ⟨a5, a6, a7⟩ hc
  refine ⟨fun i hi => by rw [hc 39 (by decide)]; exact a1 i hi, by rw [hc 39 (by decide)]; exact a2, by rw [hc 41 (by decide)]; exact a3, by rw [hc 40 (by decide)]; exact a4, hs.1, hs.2.1, hs.2.2⟩
theorem JP_app {b : Int} {A V V' : pvM} {T n m : Nat} (h : JP b A V T n) (ha : n + m ≤ 200) (e41 : V' 41 = va_up (V 41) T (V 41 T + m)) (hf : fr [39, 41, 42, 43, 84] V V') (hg : f39 [2, 5] V V') (h2 : V 39 2 ≤ V' 39 2) (h3 : V 40 T + V 41 T + m ≤ V' 39 2) (hK : KS V') (hB : BG b V') : JP b A V' T (n + m) := by
  obtain ⟨a1, a2, a3, a4, a5, a6, a7⟩ := h
  obtain ⟨A', hA'⟩ : ∃ A' : pvM, A' = fun c => if c = 39 ∨ c = 40 ∨ c = 41 then A c else V c := ⟨_, rfl⟩
  have e39 : A' 39 = A 39 := by rw [hA']; dsimp only; rw [if_pos (by decide)]
  have e40 : A' 40 = A 40 := by rw [hA']; dsimp only; rw [if_pos (by decide)]
  have e41' : A' 41 = A 41 := by rw [hA']; dsimp only; rw [if_pos (by decide)]
  have hJ : JI b A' V T n := by
    refine ⟨fun c hc => ?_, fun i hi => by rw [e39]; exact a1 i hi, a2, by rw [e41']; exact a3, by rw [e40, e41']; exact a4, a5, a6, a7⟩
    simp [jcs] at hc
    rw [hA']; dsimp only; rw [if_neg (by omega)]
  obtain ⟨b1, b2, b3, b4, b5, b6, b7, b8⟩ := hJ.app ha e41 hf hg h2 h3 hK hB
  exact ⟨fun i hi => by rw [b2 i hi, e39], b3, by rw [b4, e41'], by rw [b5, e40, e41'], b6, b7, b8⟩
theorem JP_old {b : Int} {A V : pvM} {T n : Nat} (h : JP b A V T n) : ∀ t, t < T → V 41 t = A 41 t := fun t ht => by
  rw [h.2.2.1, up_app, if_neg (by omega)]
section MJ2
variable {N e u q h : Nat} {s : Int} {V : pvM} {lo st : Nat → Int}
theorem s_begin {T : Nat} {a b0 b : Int} (hF : FT V e u q h lo st) (hh : h < 13) (hT : T < 400) (h3 : V 39 3 = T) (hS : SDE b V) (hr : row V u q 24 a b0 s) (hs : stq s V) : wz (q_X4_doNext N V) (fun _ W => FT W e u (q + 1) (h + 1) lo (va_up st h (vO 2 T)) ∧ MV V W e s tcs ∧ JP b V W T 0) := by
  refine s_micro hF hr hs ?_
  have ht := tp_pre (s := s) (q := ((q + 1 : Nat) : Int)) hF.tp
  obtain ⟨a1, a2, a3, a4, a5⟩ := hF
  obtain ⟨X, hX⟩ : ∃ X, X = pre s V e ((q + 1 : Nat) : Int) := ⟨_, rfl⟩
  rw [← hX] at ht ⊢
  have xof : ∀ i, i ≠ 28 → i ≠ 32 → X i = V i := fun i b1 b2 => by rw [hX, pre_off b1 b2]
  have hSX : SDE b X := SDE_fr hS (fun c hc => xof c (by simp at hc; omega) (by simp at hc; omega))
  have x3 : X 39 3 = T := by rw [xof 39 (by decide) (by decide)]; exact h3
  have hJ := JI_begin (b := b) (T := T) hT x3 hSX.1 hSX.2.1 hSX.2.2
  obtain ⟨Y, hY⟩ : ∃ Y, Y = beginV X T := ⟨_, rfl⟩
  have eb := e_tbegin (N := N) hT x3 hSX.1
  rw [← hY] at hJ eb
  obtain ⟨j1, j2, j3, j4, j5, j6, j7, j8⟩ := hJ
  have yof : ∀ i, i ∉ [39, 40, 41, 42, 43, 84] → Y i = X i := fun i hi => j1 i (by simp at hi; simp [jcs]; omega)
  have y30 : Y 30 = V 30 := by rw [yof 30 (by decide), xof 30 (by decide) (by decide)]
  unfold pbd q_X4_doPlain
  rw [if_pos (by decide), if_pos (by decide), if_neg (by decide), if_neg (by decide), if_neg (by decide), if_neg (by decide), if_pos rfl]
  rw [cL_eq (show (cL (q_X8_begin N X) fun v15 V => cL (q_X1_push N v15 V) fun _ V => rT V 0) = some (0, 0, pushV Y e h (vO 2 T)) by
    rw [cL_eq eb, cL_eq (e_push (tp_off ht (by rw [yof 29 (by decide)]) (by rw [yof 33 (by decide)])) hh)]; rfl)]
  refine wp_rT ⟨rfl, FT_mk (h' := h + 1) ⟨a1, a2, a3, a4, a5⟩ ?_ ?_ ?_ ?_ (by omega) (fun j hj => ?_) (fun j hj => ?_) ?_ ?_, ⟨⟨fun i hi => ⟨?_, ?_, ?_⟩, fun i hi => ?_⟩, fun c hc => ?_, ?_⟩, ?_⟩
  · rw [pushV_off (by decide) (by decide), yof 29 (by decide), xof 29 (by decide) (by decide)]
  · rw [pushV_off (by decide) (by decide), yof 31 (by decide), xof 31 (by decide) (by decide)]
  · rw [pushV_off (by decide) (by decide), yof 32 (by decide), hX, pre_32]
  · rw [pushV_33, up_app, if_pos rfl]
  · rw [pushV_30, up_app, if_neg (by omega), y30]; exact a3 j hj
  · rw [pushV_30, up_app, y30, up_app]
    by_cases hj9 : j = h
    · rw [if_pos (by omega), if_pos hj9]
    · rw [if_neg (by omega), if_neg hj9]; exact a4 j (by omega)
  · rw [pushV_off (by decide) (by decide), yof 28 (by decide), hX, pre_28, n28_at (by decide)]
  · rw [pushV_off (by decide) (by decide), yof 28 (by decide), hX, pre_28, n28_at (by decide)]
  · rw [pushV_off (by decide) (by decide), yof 31 (by decide), xof 31 (by decide) (by decide)]
  · rw [pushV_off (by decide) (by decide), yof 32 (by decide), hX, pre_32, up_app, if_neg (by omega)]
  · rw [pushV_33, up_app, if_neg (by omega), yof 33 (by decide), xof 33 (by decide) (by decide)]
  · rw [pushV_30, up_app, if_neg (by omega), y30]
  · simp [tcs] at hc; rw [pushV_off (by omega) (by omega), yof c (by simp; omega), xof c (by omega) (by omega)]
  · rw [pushV_off (by decide) (by decide), yof 28 (by decide), hX, pre_28]
  · refine JP_fr (W := Y) ⟨fun i hi => by rw [j2 i hi, xof 39 (by decide) (by decide)], j3, by rw [j4, xof 41 (by decide) (by decide)], by rw [j5, xof 40 (by decide) (by decide), xof 41 (by decide) (by decide)], j6, j7, j8⟩ (fun c hc => pushV_off (by simp at hc; omega) (by simp at hc; omega))
/-- a fault in the group -/
def JF (b : Int) (V W : pvM) (e : Nat) (s : Int) : Prop := fr tcs V W ∧ W 28 = va_up (n28 s V) 8 5 ∧ W 39 7 = V 39 7 ∧ KS W ∧ BG b W
/-- the text on top has grown by m, or the fault -/
def AQJ (b : Int) (A V W : pvM) (e u q h T n m : Nat) (s : Int) (lo st : Nat → Int) : Prop := (n + m ≤ 200 ∧ FT W e u (q + 1) (h + 1) lo st ∧ MV V W e s tcs ∧ JP b A W T (n + m)) ∨ (200 < n + m ∧ JF b V W e s)
theorem AQJ_push {A X Y : pvM} {T n m : Nat} {b : Int} (hF : FT V e u q h lo st) (hX : X = pre s V e ((q + 1 : Nat) : Int)) (h1 : Nat) (hh1 : h1 < 13) (hle : h1 ≤ h) (hst : st h1 = vO 2 T) (hlt : h1 < h) (y1 : fr [28, 33, 34, 39, 41, 42, 43, 84] X Y) (y33 : ∀ i, i ≠ e → Y 33 i = X 33 i) (hA : (n + m ≤ 200 ∧ Y 28 = X 28 ∧ JP b A Y T (n + m)) ∨ (200 < n + m ∧ Y 28 = va_up (X 28) 8 5 ∧ Y 39 7 = X 39 7 ∧ KS Y ∧ BG b Y)) : AQJ b A V (pushV Y e h1 (vO 2 T)) e u q h1 T n m s lo st := by
  have xof : ∀ i, i ≠ 28 → i ≠ 32 → X i = V i := fun i b1 b2 => by rw [hX, pre_off b1 b2]
  have y30 : Y 30 = V 30 := by rw [y1 30 (by decide), xof 30 (by decide) (by decide)]
  obtain ⟨a1, a2, a3, a4, a5⟩ := hF
  have hf : fr tcs V (pushV Y e h1 (vO 2 T)) := fun c hc => by
    simp [tcs] at hc; rw [pushV_off (by omega) (by omega), y1 c (by simp; omega), xof c (by omega) (by omega)]
  rcases hA with ⟨c1, c2, c3⟩ | ⟨c1, c2, c3, c4, c5⟩
  · refine Or.inl ⟨c1, FT_mk (h' := h1 + 1) ⟨a1, a2, a3, a4, a5⟩ ?_ ?_ ?_ ?_ (by omega) (fun j hj => ?_) (fun j hj => ?_) ?_ ?_, ⟨⟨fun i hi => ⟨?_, ?_, ?_⟩, fun i hi => ?_⟩, hf, ?_⟩, ?_⟩
    · rw [pushV_off (by decide) (by decide), y1 29 (by decide), xof 29 (by decide) (by decide)]
    · rw [pushV_off (by decide) (by decide), y1 31 (by decide), xof 31 (by decide) (by decide)]
    · rw [pushV_off (by decide) (by decide), y1 32 (by decide), hX, pre_32]
    · rw [pushV_33, up_app, if_pos rfl]
    · rw [pushV_30, up_app, if_neg (by omega), y30]; exact a3 j hj
    · rw [pushV_30, up_app, y30]
      by_cases hj9 : j = h1
      · rw [if_pos (by omega), hj9, hst]
      · rw [if_neg (by omega)]; exact a4 j (by omega)
    · rw [pushV_off (by decide) (by decide), c2, hX, pre_28, n28_at (by decide)]
    · rw [pushV_off (by decide) (by decide), c2, hX, pre_28, n28_at (by decide)]
    · rw [pushV_off (by decide) (by decide), y1 31 (by decide), xof 31 (by decide) (by decide)]
    · rw [pushV_off (by decide) (by decide), y1 32 (by decide), hX, pre_32, up_app, if_neg (by omega)]
    · rw [pushV_33, up_app, if_neg (by omega), y33 i (by omega), xof 33 (by decide) (by decide)]
    · rw [pushV_30, up_app, if_neg (by omega), y30]
    · rw [pushV_off (by decide) (by decide), c2, hX, pre_28]
    · exact JP_fr c3 (fun c hc => pushV_off (by simp at hc; omega) (by simp at hc; omega))
  · refine Or.inr ⟨c1, hf, ?_, ?_, ?_, ?_⟩
    · rw [pushV_off (by decide) (by decide), c2, hX, pre_28]
    · rw [pushV_off (by decide) (by decide), c3, xof 39 (by decide) (by decide)]
    · unfold KS; rw [pushV_off (by decide) (by decide)]; exact c4
    · exact bg_u c5 (pushV_off (by decide) (by decide)) (pushV_off (by decide) (by decide)) (pushV_off (by decide) (by decide))
set_option maxHeartbeats 4000000 in
set_option maxRecDepth 100000 in
theorem s_appV {T n : Nat} {a b0 b H : Int} {A : pvM} (hN : 50 ≤ N) (hF : FT V e u q (h + 2) lo st) (hst : st h = vO 2 T) (hT : T < 400) (hJ : JP b A V T n) (hn : n ≤ 200) (hW : RW V) (hb : 0 ≤ b ∧ b ≤ 600) (hv : vok (T : Int) H (st (h + 1))) (hH : H ≤ 400) (hr : row V u q 26 a b0 s) (hs : stq s V) : wz (q_X4_doNext N V) (fun _ W => AQJ b A V W e u q h T n (spL A (st (h + 1))) s lo st) := by
  refine s_micro hF hr hs ?_
  have ht := tp_pre (s := s) (q := ((q + 1 : Nat) : Int)) hF.tp
  obtain ⟨X, hX⟩ : ∃ X, X = pre s V e ((q + 1 : Nat) : Int) := ⟨_, rfl⟩
  rw [← hX] at ht ⊢
  have xof : ∀ i, i ≠ 28 → i ≠ 32 → X i = V i := fun i b1 b2 => by rw [hX, pre_off b1 b2]
  have hF' := hF
  obtain ⟨a1, a2, a3, a4, a5⟩ := hF'
  have v0 : takeV X e h 2 34 0 = vO 2 T := by rw [takeV_34 (by omega), xof 30 (by decide) (by decide), ← hst]; exact a4 h (by omega)
  have v1 : takeV X e h 2 34 1 = st (h + 1) := by rw [takeV_34 (by omega), xof 30 (by decide) (by decide)]; exact a4 (h + 1) (by omega)
  have k2T := k2 (c := (T : Int)) (by unfold I32; omega)
  obtain ⟨Z, hZ⟩ : ∃ Z, Z = takeV X e h 2 := ⟨_, rfl⟩
  have et := e_take (N := N) (d := e) (h := h) (n := 2) (V := X) hN (by omega) ht
  rw [← hZ] at v0 v1 et
  have ztp : tp Z e h := by rw [hZ]; exact tp_take ht
  have zof : ∀ i, i ≠ 33 → i ≠ 34 → Z i = X i := fun i b1 b2 => by rw [hZ, takeV_off b1 b2]
  have zof2 : ∀ i, i ∉ [28, 32, 33, 34] → Z i = V i := fun i hi => by simp at hi; rw [zof i (by omega) (by omega), xof i (by omega) (by omega)]
  have hJZ : JP b A Z T n := JP_fr hJ (fun c hc => zof2 c (by simp at hc; simp; omega))
  obtain ⟨j1, j2, j3, j4, j5, j6, j7⟩ := hJZ
  have hJZ : JP b A Z T n := ⟨j1, j2, j3, j4, j5, j6, j7⟩
  have eT : Z 41 T = n := by rw [j3, up_app, if_pos rfl]
  have e0 := fun W : pvM => e_takenAt (N := N) (k := 0) (V := W) (by decide)
  have e1 := fun W : pvM => e_takenAt (N := N) (k := 1) (V := W) (by decide)
  unfold pbd q_X4_doPlain
  rw [if_pos (by decide), if_pos (by decide), if_neg (by decide), if_neg (by decide), if_neg (by decide), if_neg (by decide), if_neg (by decide), if_neg (by decide)]
  refine wp_cL (R := fun _ W => AQJ b A V W e u q h T n (spL A (st (h + 1))) s lo st) ?_ (fun _ W h9 => wp_rT ⟨rfl, h9⟩)
  refine wp_lI ?_
  rw [show ((2 : Int)) = ((2 : Nat) : Int) from rfl, cL_eq et]
  refine wp_lI ?_
  rw [show ((0 : Int)) = ((0 : Nat) : Int) from rfl, cL_eq (e0 _), v0, cL_eq e_contentOf, k2T.2]
  refine wp_lI ?_
  rw [show ((1 : Int)) = ((1 : Nat) : Int) from rfl, cL_eq (e1 _), v1]
  refine wp_cL (s_appendValue (N := N) (t := T) (b := b) (H := H) hN j5 j6 (rw_u hW (zof2 17 (by decide))) j7 hb (by rw [j2]; omega) (by rw [j2]; exact hv.mono (by omega) (by omega)) (by omega)) (fun rr Y hY => wp_lI ?_)
  rw [spL_eq hv (by omega) (by omega) (JP_old hJZ)] at hY
  obtain ⟨-, hY⟩ := hY
  have z33 : ∀ i, i ≠ e → Z 33 i = X 33 i := fun i hi => by rw [hZ, takeV_33, up_app, if_neg hi]
  rcases hY with ⟨c1, rfl, c3, c4, c5, c6, c7, c8, c9⟩ | ⟨c1, rfl, c3, c4⟩
  · rw [cL_eq e_faultT]
    refine wp_lI ?_
    rw [cL_eq (e0 _), c4 34 (by decide), v0, cL_eq (e_push (tp_off ztp (by rw [c4 29 (by decide)]) (by rw [c4 33 (by decide)])) (by have := a2.2.2.2; omega))]
    rw [eT] at c1
    refine wp_rT ⟨rfl, AQJ_push hF hX h (by have := a2.2.2.2; omega) (by omega) hst (by omega) (fun c hc => ?_) (fun i hi => by rw [c4 33 (by decide)]; exact z33 i hi) (Or.inl ⟨by omega, by rw [c4 28 (by decide), zof 28 (by decide) (by decide)], JP_app hJZ (by omega) c3 c4 c5 c6 c7 c8 c9⟩)⟩
    simp at hc; rw [c4 c (by simp; omega), zof c (by omega) (by omega)]
  · rw [cL_eq e_faultF]
    refine wp_lI ?_
    rw [cL_eq (e0 _), pu_off (show (34 : Nat) ≠ 28 by decide), c3 34 (by decide), v0, cL_eq (e_push (tp_off ztp (by rw [pu_off (by decide), c3 29 (by decide)]) (by rw [pu_off (by decide), c3 33 (by decide)])) (by have := a2.2.2.2; omega))]
    rw [eT] at c1
    refine wp_rT ⟨rfl, AQJ_push hF hX h (by have := a2.2.2.2; omega) (by omega) hst (by omega) (fun c hc => ?_) (fun i hi => by rw [pu_off (by decide), c3 33 (by decide)]; exact z33 i hi) (Or.inr ⟨by omega, by rw [pu_row, c3 28 (by decide), zof 28 (by decide) (by decide)], by rw [pu_off (by decide), c4 7 (by decide), zof 39 (by decide) (by decide)], ?_, ?_⟩)⟩
    · simp at hc; rw [pu_off (by omega), c3 c (by simp; omega), zof c (by omega) (by omega)]
    · unfold KS; rw [pu_off (by decide), c4 2 (by decide)]; exact j6
    · exact bg_u (BG_sp j7 c3 c4) (pu_off (by decide)) (pu_off (by decide)) (pu_off (by decide))
set_option maxHeartbeats 4000000 in
set_option maxRecDepth 100000 in
theorem s_ac17 {T n w : Nat} {l b : Int} {A X : pvM} (hT : T < 400) (hW : RW X) (hb : 0 ≤ b ∧ b ≤ 600) (hl : 0 ≤ l ∧ l + w ≤ 96) (ht : tp X e h) (hh : h < 13) : ∀ (fu m k : Nat) (Y : pvM), k + m = w → m + 1 ≤ fu → fr [39, 41, 42, 43, 84] X Y → X 28 8 = 0 → n + k ≤ 200 → JP b A Y T (n + k) → Y 39 7 = X 39 7 → wz (q_X4_appendCharacters_b17 N fu l w (vO 2 T) T k Y) (fun _ W => ∃ Z, W = pushV Z e h (vO 2 T) ∧ fr [28, 39, 41, 42, 43, 84] X Z ∧ ((n + w ≤ 200 ∧ Z 28 = X 28 ∧ JP b A Z T (n + w)) ∨ (200 < n + w ∧ Z 28 = va_up (X 28) 8 5 ∧ Z 39 7 = X 39 7 ∧ KS Z ∧ BG b Z))) := by
  intro fu
  induction fu with
  | zero => intro m k Y h1 h2; omega
  | succ fu ih =>
    intro m k Y h1 h2 hY h8 hn hJ h7
    have hpush : ∀ Z : pvM, fr [28, 39, 41, 42, 43, 84] X Z → q_X4_appendCharacters_b68 N (vO 2 T) Z = some (0, 0, pushV Z e h (vO 2 T)) := fun Z hZ => wz_to (by
      unfold q_X4_appendCharacters_b68
      rw [cL_eq (e_push (tp_off ht (by rw [hZ 29 (by decide)]) (by rw [hZ 33 (by decide)])) hh)]
      exact wp_rT ⟨rfl, rfl, rfl⟩)
    have hJ' := hJ
    obtain ⟨j1, j2, j3, j4, j5, j6, j7⟩ := hJ'
    have eT : Y 41 T = ((n + k : Nat) : Int) := by rw [j3, up_app, if_pos rfl]
    simp only [q_X4_appendCharacters_b17]
    refine wp_if (fun h9 => ?_) (fun h9 => ?_)
    · have hk : k = w := by omega
      subst hk
      rw [hpush Y (hY.mono (by decide))]
      exact ⟨0, 0, _, rfl, rfl, Y, rfl, hY.mono (by decide), Or.inl ⟨hn, hY 28 (by decide), hJ⟩⟩
    · refine wp_gR ?_
      rw [hY 28 (by decide), h8, if_neg (by decide), cL_eq e_recipes]
      refine wp_lw (by omega) ?_
      have ela : q_X7_letterAt N (l + k) Y = some (0, Y 7 (l + k).toNat, Y) := by unfold q_X7_letterAt; rw [e_aR (by omega)]; rfl
      rw [cL_eq ela]
      refine wp_cL (s_appendLetter (N := N) (t := T) (b := b) j5 j6 (rw_u hW (hY 17 (by decide))) j7 hb (by rw [j2]; omega)) (fun rr Z hZ => wp_lI ?_)
      obtain ⟨-, hZ⟩ := hZ
      rcases hZ with ⟨c1, rfl, c3, c4, c5, c6, c7, c8, c9⟩ | ⟨c1, rfl, c3, c4⟩
      · rw [cL_eq e_faultT]
        refine wp_lw (by omega) ?_
        exact ih (m - 1) (k + 1) Z (by omega) (by omega) (hY.trans c4) h8 (by omega) (by rw [show n + (k + 1) = n + k + 1 by omega]; exact JP_app (n := n + k) (m := 1) hJ (by omega) c3 c4 c5 c6 c7 c8 c9) (by rw [c5 7 (by decide)]; exact h7)
      · rw [cL_eq e_faultF]
        refine wp_lw (by omega) ?_
        have hfZ : fr [28, 39, 41, 42, 43, 84] X (pz_u Z 28 8 5) := ((hY.mono (by decide)).trans (c3.mono (by decide))).trans (fr_u (by simp))
        obtain ⟨fu', rfl⟩ : ∃ fu', fu = fu' + 1 := ⟨fu - 1, by omega⟩
        have fin : wz (q_X4_appendCharacters_b68 N (vO 2 T) (pz_u Z 28 8 5)) (fun _ W => ∃ Z, W = pushV Z e h (vO 2 T) ∧ fr [28, 39, 41, 42, 43, 84] X Z ∧ ((n + w ≤ 200 ∧ Z 28 = X 28 ∧ JP b A Z T (n + w)) ∨ (200 < n + w ∧ Z 28 = va_up (X 28) 8 5 ∧ Z 39 7 = X 39 7 ∧ KS Z ∧ BG b Z))) := by
          rw [hpush _ hfZ]
          refine ⟨0, 0, _, rfl, rfl, _, rfl, hfZ, Or.inr ⟨by omega, ?_, ?_, ?_, ?_⟩⟩
          · rw [pu_row, c3 28 (by decide), hY 28 (by decide)]
          · rw [pu_off (by decide), c4 7 (by decide)]; exact h7
          · unfold KS; rw [pu_off (by decide), c4 2 (by decide)]; exact j6
          · exact bg_u (BG_sp j7 c3 c4) (pu_off (by decide)) (pu_off (by decide)) (pu_off (by decide))
        simp only [q_X4_appendCharacters_b17]
        refine wp_if (fun _ => fin) (fun _ => ?_)
        refine wp_gR ?_
        rw [pz_u_eq, if_pos (by decide)]
        exact fin
theorem s_chars {T n w : Nat} {l b : Int} {A : pvM} (hN : 250 ≤ N) (hF : FT V e u q (h + 1) lo st) (hst : st h = vO 2 T) (hT : T < 400) (hJ : JP b A V T n) (hn : n ≤ 200) (hW : RW V) (hb : 0 ≤ b ∧ b ≤ 600) (hl : 0 ≤ l ∧ l + w ≤ 96) (hr : row V u q 25 l w s) (hs : stq s V) : wz (q_X4_doNext N V) (fun _ W => AQJ b A V W e u q h T n w s lo st) := by
  refine s_micro hF hr hs ?_
  have ht := tp_pre (s := s) (q := ((q + 1 : Nat) : Int)) hF.tp
  obtain ⟨X, hX⟩ : ∃ X, X = pre s V e ((q + 1 : Nat) : Int) := ⟨_, rfl⟩
  rw [← hX] at ht ⊢
  have xof : ∀ i, i ≠ 28 → i ≠ 32 → X i = V i := fun i b1 b2 => by rw [hX, pre_off b1 b2]
  have hF' := hF
  obtain ⟨a1, a2, a3, a4, a5⟩ := hF'
  have k2T := k2 (c := (T : Int)) (by unfold I32; omega)
  have ep := e_pop (N := N) (d := e) (h := h) (V := X) ht
  rw [xof 30 (by decide) (by decide), a4 h (by omega), hst] at ep
  obtain ⟨Z, hZ⟩ : ∃ Z, Z = popV X e h := ⟨_, rfl⟩
  rw [← hZ] at ep
  have zof : ∀ i, i ≠ 33 → Z i = X i := fun i b1 => by rw [hZ, popV_off b1]
  have zof2 : ∀ i, i ∉ [28, 32, 33] → Z i = V i := fun i hi => by simp at hi; rw [zof i (by omega), xof i (by omega) (by omega)]
  have hJZ : JP b A Z T n := JP_fr hJ (fun c hc => zof2 c (by simp at hc; simp; omega))
  have ztp : tp Z e h := by rw [hZ]; exact tp_pop ht
  have z8 : Z 28 8 = 0 := by rw [zof 28 (by decide), hX, pre_28, n28_at (by decide)]; exact a5.2
  unfold pbd q_X4_doPlain
  rw [if_pos (by decide), if_pos (by decide), if_neg (by decide), if_neg (by decide), if_neg (by decide), if_neg (by decide), if_neg (by decide), if_pos rfl]
  refine wp_cL (R := fun _ W => AQJ b A V W e u q h T n w s lo st) ?_ (fun _ W h9 => wp_rT ⟨rfl, h9⟩)
  refine wp_cL (R := fun _ W => AQJ b A V W e u q h T n w s lo st) ?_ (fun _ W h9 => wp_rT ⟨rfl, h9⟩)
  unfold q_X4_appendCharacters
  rw [cL_eq ep, cL_eq e_contentOf, k2T.2]
  refine wp_lI ?_
  have k9 := s_ac17 (N := N) (e := e) (h := h) (T := T) (n := n) (w := w) (l := l) (b := b) (A := A) (X := Z) hT (rw_u hW (zof2 17 (by decide))) hb hl ztp (by have := a2.2.2.2; omega) N w 0 Z (by omega) (by omega) (fr.refl _ _) z8 (by omega) hJZ rfl
  refine wp_mono k9 (fun _ _ W h9 => ⟨h9.1, ?_⟩)
  obtain ⟨-, Y, rfl, y1, y2⟩ := h9
  refine AQJ_push hF hX h (by have := a2.2.2.2; omega) (by omega) hst (by omega) (fun c hc => ?_) (fun i hi => ?_) ?_
  · simp at hc; rw [y1 c (by simp; omega), zof c (by omega)]
  · rw [y1 33 (by decide), hZ, popV_33, up_app, if_neg hi]
  · rw [zof 28 (by decide), zof 39 (by decide)] at y2; exact y2
end MJ2
