/-! THE REFERENCE'S LOWER: PUTS -/
def okP (V : pvM) (f : Nat) : Prop := ∀ i : Nat, (i : Int) < V 57 f → (V 58 (1500 * f + i) = 8 ∨ V 58 (1500 * f + i) = 9) → 0 ≤ V 59 (1500 * f + i) ∧ V 59 (1500 * f + i) < 40
def OKP (f : Nat) (V : pvM) (n : Nat) : Prop := (0 ≤ V 57 f ∧ V 57 f + n ≤ 1500) ∧ okP V f
theorem OKP.mono {f : Nat} {V : pvM} {n m : Nat} (h : OKP f V n) (hm : m ≤ n) : OKP f V m := ⟨by have := h.1; omega, h.2⟩
theorem OKP.congr {f : Nat} {V V' : pvM} {n : Nat} (h : OKP f V n) (e57 : V' 57 = V 57) (e58 : V' 58 = V 58) (e59 : V' 59 = V 59) : OKP f V' n := by
  unfold OKP okP at h ⊢
  rw [e57, e58, e59]; exact h
def pcs : List Nat := [57, 58, 59, 60]
def AQ (f : Nat) (V V' : pvM) (n : Nat) : Prop := V' 57 = va_up (V 57) f (V 57 f + n) ∧ fr pcs V V'
theorem AQ.refl (f : Nat) (V : pvM) : AQ f V V 0 := ⟨by rw [show V 57 f + ((0 : Nat) : Int) = V 57 f by omega, up_self], fr.refl _ _⟩
theorem AQ.trans {f : Nat} {V V' V'' : pvM} {n m : Nat} (h : AQ f V V' n) (h' : AQ f V' V'' m) : AQ f V V'' (n + m) := by
  refine ⟨?_, h.2.trans h'.2⟩
  rw [h'.1, h.1]
  funext j
  simp only [up_app]
  by_cases hj : j = f
  · rw [if_pos hj, if_pos hj]; simp; omega
  · rw [if_neg hj, if_neg hj]; simp [hj]
set_option maxHeartbeats 4000000 in
set_option maxRecDepth 100000 in
theorem wp_p {N n f : Nat} {w a b : Int} {V : pvM} {k : Int → pvM → Option pvO} {Q : Nat → Int → pvM → Prop} (hf : f < 12) (hO : OKP f V (n + 1)) (hx : (w = 8 ∨ w = 9) → 0 ≤ a ∧ a < 40) (hk : ∀ r V', AQ f V V' 1 → OKP f V' n → wp (k r V') Q) : wp (cL (q_X11_put N f w a b V) k) Q := by
  obtain ⟨h1, h2⟩ := hO
  obtain ⟨s, hs⟩ : ∃ s : Nat, V 57 f = s := ⟨(V 57 f).toNat, by omega⟩
  have ep : q_X11_put N f w a b V = some (0, 0, pz_u (pz_u (pz_u (pz_u V 58 (1500 * f + s) w) 59 (1500 * f + s) a) 60 (1500 * f + s) b) 57 f (s + 1)) := wz_to (by
    unfold q_X11_put
    refine wp_lI (wp_lw (by omega) (wp_aR (by omega) ?_))
    rw [show ((f : Int)).toNat = f by omega, hs]
    refine wp_lw (by omega) ?_
    refine wp_aW (by omega) (wp_aW (by omega) (wp_aW (by omega) (wp_aR (by omega) (wp_lI ?_))))
    rw [show (1500 * (f : Int) + (s : Int)).toNat = 1500 * f + s by omega, show ((f : Int)).toNat = f by omega]
    rw [pu_off (show (57 : Nat) ≠ 60 by decide), pu_off (show (57 : Nat) ≠ 59 by decide), pu_off (show (57 : Nat) ≠ 58 by decide), hs]
    refine wp_lw (by omega) (wp_aW (by omega) (wp_rT ⟨rfl, rfl, ?_⟩))
    rw [show ((f : Int)).toNat = f by omega])
  rw [cL_eq ep]
  obtain ⟨V1, hV1⟩ : ∃ V1, V1 = pz_u (pz_u (pz_u (pz_u V 58 (1500 * f + s) w) 59 (1500 * f + s) a) 60 (1500 * f + s) b) 57 f (s + 1) := ⟨_, rfl⟩
  rw [← hV1]
  have e57 : V1 57 = va_up (V 57) f (s + 1) := by rw [hV1]; simp [pu_off, pu_row]
  have e58 : V1 58 = va_up (V 58) (1500 * f + s) w := by rw [hV1]; simp [pu_off, pu_row]
  have e59 : V1 59 = va_up (V 59) (1500 * f + s) a := by rw [hV1]; simp [pu_off, pu_row]
  refine hk 0 V1 ⟨by rw [e57, hs]; rfl, ?_⟩ ⟨?_, ?_⟩
  · rw [hV1]; exact (((fr_u (by decide)).trans (fr_u (by decide))).trans (fr_u (by decide))).trans (fr_u (by decide))
  · rw [e57, up_app, if_pos rfl]; omega
  · intro i hi
    rw [e57, up_app, if_pos rfl] at hi
    rw [e58, e59, up_app, up_app]
    by_cases hj : i = s
    · rw [if_pos (by omega), if_pos (by omega)]; exact hx
    · rw [if_neg (by omega), if_neg (by omega)]; exact h2 i (by omega)
theorem AQ.then {f : Nat} {V V' : pvM} {n m : Nat} {o : Option pvO} (h : AQ f V V' n) (hk : wz o (fun _ V'' => AQ f V' V'' m ∧ OKP f V'' 0)) : wz o (fun _ V'' => AQ f V V'' (n + m) ∧ OKP f V'' 0) :=
  wp_mono hk (fun _ _ _ h9 => ⟨h9.1, h.trans h9.2.1, h9.2.2⟩)
theorem s_pf95 {N b f : Nat} (hf : f < 12) (hb : b ≤ 3) : ∀ (fu m k : Nat) (V : pvM), m + k = b → m + 1 ≤ fu → OKP f V (2 * m) → wz (q_X11_putFunction_b95 N fu f b k V) (fun _ V' => AQ f V V' (2 * m) ∧ OKP f V' 0) := by
  intro fu
  induction fu with
  | zero => intro m k V h1 h2; omega
  | succ fu ih =>
    intro m k V h1 h2 hO
    simp only [q_X11_putFunction_b95]
    refine wp_if (fun h => ?_) (fun h => ?_)
    · have hm : m = 0 := by omega
      subst hm
      exact wp_rT ⟨rfl, AQ.refl f V, hO⟩
    · obtain ⟨m', rfl⟩ : ∃ m', m = m' + 1 := ⟨m - 1, by omega⟩
      refine wp_lI (wp_lI (wp_lw (by omega) (wp_lI ?_)))
      refine wp_p (n := 2 * m' + 1) hf (hO.mono (by omega)) (by omega) (fun _ V1 hA hO1 => ?_)
      refine wp_lI (wp_lI ?_)
      refine wp_p (n := 2 * m') hf hO1 (by omega) (fun _ V2 hA2 hO2 => ?_)
      refine wp_lw (by omega) ?_
      have k9 := AQ.then hA (AQ.then hA2 (ih m' (k + 1) V2 (by omega) (by omega) hO2))
      rw [show 1 + (1 + 2 * m') = 2 * (m' + 1) by omega] at k9
      exact k9
theorem s_pf59 {N b f : Nat} (hN : 50 ≤ N) (hf : f < 12) (hb : b ≤ 3) : ∀ (fu k : Nat) (V : pvM), k ≤ b → k + 1 ≤ fu → OKP f V (k + 1 + 2 * b) → wz (q_X11_putFunction_b59 N fu f b k V) (fun _ V' => AQ f V V' (k + 1 + 2 * b) ∧ OKP f V' 0) := by
  intro fu
  induction fu with
  | zero => intro k V h1 h2; omega
  | succ fu ih =>
    intro k V h1 h2 hO
    simp only [q_X11_putFunction_b59]
    refine wp_lI ?_
    refine wp_if (fun h => ?_) (fun h => ?_)
    · have hm : k = 0 := by omega
      subst hm
      refine wp_lI (wp_lI (wp_lI ?_))
      refine wp_p (n := 2 * b) hf (hO.mono (by omega)) (by omega) (fun _ V1 hA hO1 => ?_)
      refine wp_lI ?_
      have k9 := AQ.then hA (s_pf95 (N := N) hf hb N b 0 V1 (by omega) (by omega) hO1)
      rw [show 1 + 2 * b = 0 + 1 + 2 * b by omega] at k9
      exact k9
    · obtain ⟨k', rfl⟩ : ∃ k', k = k' + 1 := ⟨k - 1, by omega⟩
      refine wp_lI (wp_lI (wp_lw (by omega) (wp_lI ?_)))
      refine wp_p (n := k' + 1 + 2 * b) hf (hO.mono (by omega)) (by omega) (fun _ V1 hA hO1 => ?_)
      refine wp_lw (by omega) ?_
      have k9 := AQ.then hA (ih k' V1 (by omega) (by omega) hO1)
      rw [show ((k' : Nat) : Int) = ((k' + 1 : Nat) : Int) + -1 by omega, show 1 + (k' + 1 + 2 * b) = k' + 1 + 1 + 2 * b by omega] at k9
      exact k9
def f45 (is : List Nat) (V V' : pvM) : Prop := ∀ i, i ∉ is → V' 45 i = V 45 i
theorem f45.refl (is : List Nat) (V : pvM) : f45 is V V := fun _ _ => rfl
theorem f45.trans {is : List Nat} {V V' V'' : pvM} (h : f45 is V V') (h' : f45 is V' V'') : f45 is V V'' := fun i hi => (h' i hi).trans (h i hi)
theorem f45.mono {is js : List Nat} {V V' : pvM} (h : f45 is V V') (hs : ∀ i, i ∈ is → i ∈ js) : f45 js V V' := fun i hi => h i (fun h9 => hi (hs i h9))
theorem f45.of_fr {is cs : List Nat} {V V' : pvM} (h : fr cs V V') (hc : 45 ∉ cs) : f45 is V V' := fun i _ => by rw [h 45 hc]
theorem f45_u {is : List Nat} {V : pvM} {k : Nat} {x : Int} (h : k ∈ is) : f45 is V (pz_u V 45 k x) := fun i hi => by
  rw [pu_row, up_app, if_neg (fun e : i = k => hi (by rw [e]; exact h))]
def pgs : List Nat := [57, 58, 59, 60, 45, 62, 63]
/-- a group was put -/
def QP (f : Nat) (V V' : pvM) (n : Nat) (w a b : Int) : Prop := V' 57 = va_up (V 57) f (V 57 f + n) ∧ OKP f V' 0 ∧ fr pgs V V' ∧ f45 [21] V V' ∧ V' 45 21 = V 45 21 + (if w = 13 then 1 else 0) ∧ (∀ c : Nat, (c : Int) < V 45 21 → V' 63 c = V 63 c ∧ V' 62 c = V 62 c) ∧ (w = 13 → V' 63 (V 45 21).toNat = a ∧ V' 62 (V 45 21).toNat = b)
theorem AQ.qp {f : Nat} {V V' : pvM} {n : Nat} {w a b : Int} (h : AQ f V V' n) (hO : OKP f V' 0) (hw : w ≠ 13) : QP f V V' n w a b := by
  obtain ⟨h1, h2⟩ := h
  refine ⟨h1, hO, h2.mono (by decide), f45.of_fr h2 (by decide), ?_, fun c _ => ?_, fun h9 => absurd h9 hw⟩
  · rw [h2 45 (by decide), if_neg hw]; omega
  · rw [h2 63 (by decide), h2 62 (by decide)]; exact ⟨rfl, rfl⟩
set_option maxHeartbeats 4000000 in
set_option maxRecDepth 100000 in
theorem s_putFunction {N b f : Nat} {a : Int} {V : pvM} (hN : 50 ≤ N) (hf : f < 12) (hb : b ≤ 3) (hc : 0 ≤ V 45 21 ∧ V 45 21 < 480) (hO : OKP f V (if b = 0 then 1 else 3 + 3 * b)) : wz (q_X11_putFunction N f a b V) (fun _ V' => QP f V V' (if b = 0 then 1 else 3 + 3 * b) 13 a b) := by
  obtain ⟨m, hm⟩ : ∃ m, m = (if b = 0 then 0 else 2 + 3 * b) := ⟨_, rfl⟩
  have hm1 : (if b = 0 then 1 else 3 + 3 * b) = m + 1 := by rw [hm]; split <;> omega
  rw [hm1] at hO ⊢
  unfold q_X11_putFunction
  refine wp_lI (wp_gR (wp_lI ?_))
  refine wp_p (n := m) hf hO (by omega) (fun _ V1 hA hO1 => ?_)
  have e45 : V1 45 = V 45 := hA.2 45 (by decide)
  refine wp_gR ?_
  rw [e45]
  refine wp_aW (by omega) (wp_gR ?_)
  rw [pu_off (show (45 : Nat) ≠ 62 by decide), e45]
  refine wp_aW (by omega) (wp_gR (wp_lI ?_))
  rw [pu_off (show (45 : Nat) ≠ 63 by decide), pu_off (show (45 : Nat) ≠ 62 by decide), e45]
  refine wp_lw (by omega) (wp_gW ?_)
  obtain ⟨V2, hV2⟩ : ∃ V2, V2 = pz_u (pz_u (pz_u V1 62 (V 45 21).toNat b) 63 (V 45 21).toNat a) 45 21 (V 45 21 + 1) := ⟨_, rfl⟩
  rw [← hV2]
  have f2 : fr [62, 63, 45] V1 V2 := by rw [hV2]; exact ((fr_u (by simp)).trans (fr_u (by simp))).trans (fr_u (by simp))
  have e62 : V2 62 = va_up (V 62) (V 45 21).toNat b := by rw [hV2]; simp [pu_off, pu_row]; rw [hA.2 62 (by decide)]
  have e63 : V2 63 = va_up (V 63) (V 45 21).toNat a := by rw [hV2]; simp [pu_off, pu_row]; rw [hA.2 63 (by decide)]
  have e452 : V2 45 = va_up (V 45) 21 (V 45 21 + 1) := by rw [hV2, pu_row, pu_off (by decide), pu_off (by decide), e45]
  have hO2 : OKP f V2 m := hO1.congr (f2 57 (by decide)) (f2 58 (by decide)) (f2 59 (by decide))
  have fin : ∀ V3 : pvM, AQ f V2 V3 m → OKP f V3 0 → QP f V V3 (m + 1) 13 a b := by
    intro V3 h3 hO3
    have d62 : V3 62 = va_up (V 62) (V 45 21).toNat b := by rw [h3.2 62 (by decide), e62]
    have d63 : V3 63 = va_up (V 63) (V 45 21).toNat a := by rw [h3.2 63 (by decide), e63]
    have d45 : V3 45 = va_up (V 45) 21 (V 45 21 + 1) := by rw [h3.2 45 (by decide), e452]
    refine ⟨?_, hO3, ?_, ?_, ?_, fun c hc9 => ?_, fun _ => ?_⟩
    · rw [h3.1, f2 57 (by decide), hA.1]
      funext j
      simp only [up_app]
      by_cases hj : j = f
      · rw [if_pos hj, if_pos hj]; simp; omega
      · rw [if_neg hj, if_neg hj]; simp [hj]
    · exact ((hA.2.mono (by decide)).trans (f2.mono (by decide))).trans (h3.2.mono (by decide))
    · intro i hi
      rw [d45, up_app, if_neg (fun e => hi (by simp [e]))]
    · rw [d45, up_app, if_pos rfl, if_pos rfl]
    · rw [d62, d63, up_app, up_app, if_neg (by omega), if_neg (by omega)]; exact ⟨rfl, rfl⟩
    · rw [d62, d63, up_app, up_app, if_pos rfl, if_pos rfl]; exact ⟨rfl, rfl⟩
  refine wp_if (fun h => ?_) (fun h => ?_)
  · have hb0 : ¬ b = 0 := by omega
    rw [if_neg hb0] at hm
    refine wp_lI (wp_lI (wp_lI ?_))
    refine wp_p (n := b + 1 + 2 * b) hf (hO2.mono (by omega)) (by omega) (fun _ V4 hA4 hO4 => ?_)
    have k9 := AQ.then hA4 (s_pf59 (N := N) hN hf hb N b V4 (by omega) (by omega) hO4)
    rw [show 1 + (b + 1 + 2 * b) = m by omega] at k9
    exact wp_mono k9 (fun _ _ _ h9 => ⟨h9.1, fin _ h9.2.1 h9.2.2⟩)
  · have hb0 : b = 0 := by omega
    rw [if_pos hb0] at hm
    subst hm
    exact wp_rT ⟨rfl, fin V2 (AQ.refl f V2) hO2⟩
/-! joins -/
def jN (d : Nat → Int) : Nat → Nat → Int → Nat
  | 0, _, w => if w ≤ 0 then 0 else 1
  | m + 1, k, w => if d k = 27 then (if w ≤ 0 then 0 else 1) + (2 + jN d m (k + 1) 0) else jN d m (k + 1) (w + 1)
theorem jT_jN (d : Nat → Int) : ∀ (m k : Nat) (h l w : Int), (jT d m k h l w).length = jN d m k w
  | 0, k, h, l, w => by simp only [jT, jN]; exact jC_len l w
  | m + 1, k, h, l, w => by
    simp only [jT, jN]
    split
    · rw [List.length_append, jC_len, List.length_cons, List.length_cons, jT_jN d m]; omega
    · exact jT_jN d m _ _ _ _
theorem jN_run (d : Nat → Int) (m k : Nat) {w : Int} (hw : 0 < w) (hd : m = 0 ∨ d k = 27) : jN d m k w = 1 + jN d m k 0 := by
  cases m with
  | zero => simp only [jN]; rw [if_neg (by omega), if_pos (by omega)]
  | succ m =>
    have h27 := hd.resolve_left (by omega)
    simp only [jN]
    rw [if_pos h27, if_pos h27, if_neg (by omega), if_pos (by omega)]; omega
set_option maxHeartbeats 4000000 in
set_option maxRecDepth 100000 in
theorem s_pj51 {N r n f : Nat} {V0 : pvM} (hN : 50 ≤ N) (hf : f < 12) (hr : r < 8) (hn : V0 51 r = n ∧ n ≤ 12) (hd : ∀ k, k < n → V0 52 (12 * r + k) ≤ 27) : ∀ (fu m k : Nat) (h : Nat) (l : Int) (V : pvM), m + k = n → m + 1 ≤ fu → h ≤ k → fr pcs V0 V → OKP f V (jN (fun k => V0 52 (12 * r + k)) m k 0) → wz (q_X11_putJoin_b51 N fu f r l h k V) (fun _ V' => AQ f V V' (jN (fun k => V0 52 (12 * r + k)) m k 0) ∧ OKP f V' 0) := by
  intro fu
  induction fu with
  | zero => intro m k h l V h1 h2; omega
  | succ fu ih =>
    intro m k h l V h1 h2 hh hfr hO
    simp only [q_X11_putJoin_b51]
    refine wp_aR (by omega) ?_
    rw [show ((r : Int)).toNat = r by omega, hfr 51 (by decide), hn.1]
    refine wp_if (fun h9 => ?_) (fun h9 => ?_)
    · have hm : m = 0 := by omega
      subst hm
      simp only [jN] at hO ⊢
      rw [if_pos (by omega)] at hO ⊢
      exact wp_rT ⟨rfl, AQ.refl f V, hO⟩
    · refine wp_lI ?_
      have k105 : ∀ run : Nat, run ≤ m → (run = m ∨ V0 52 (12 * r + (k + run)) = 27) → jN (fun k => V0 52 (12 * r + k)) m k 0 = jN (fun k => V0 52 (12 * r + k)) (m - run) (k + run) run → wz (q_X11_putJoin_b105 N (q_X11_putJoin_b51 N fu) f r l h k run V) (fun _ V' => AQ f V V' (jN (fun k => V0 52 (12 * r + k)) m k 0) ∧ OKP f V' 0) := by
        intro run hrun hend heq
        unfold q_X11_putJoin_b105 q_X11_putJoin_b162
        refine wp_if (fun h8 => ?_) (fun h8 => ?_)
        · have hr0 : run = 0 := by omega
          subst hr0
          obtain ⟨m', rfl⟩ : ∃ m', m = m' + 1 := ⟨m - 1, by omega⟩
          have h27 := hend.resolve_left (by omega)
          simp only [jN] at hO ⊢
          rw [Nat.add_zero] at h27
          rw [if_pos h27, if_pos (by omega)] at hO ⊢
          refine wp_lI (wp_lI (wp_lw (by omega) (wp_lI ?_)))
          refine wp_p (n := 1 + jN (fun k => V0 52 (12 * r + k)) m' (k + 1) 0) hf (hO.mono (by omega)) (by omega) (fun _ V1 hA hO1 => ?_)
          refine wp_lI (wp_lI (wp_lI ?_))
          refine wp_p (n := jN (fun k => V0 52 (12 * r + k)) m' (k + 1) 0) hf (hO1.mono (by omega)) (by omega) (fun _ V2 hA2 hO2 => ?_)
          refine wp_lw (by omega) (wp_lw (by omega) ?_)
          have k9 := AQ.then hA (AQ.then hA2 (ih m' (k + 1) (h + 1) l V2 (by omega) (by omega) (by omega) ((hfr.trans hA.2).trans hA2.2) hO2))
          rw [show 1 + (1 + jN (fun k => V0 52 (12 * r + k)) m' (k + 1) 0) = 0 + (2 + jN (fun k => V0 52 (12 * r + k)) m' (k + 1) 0) by omega] at k9
          exact k9
        · have hj := jN_run (fun k => V0 52 (12 * r + k)) (m - run) (k + run) (w := run) (by omega) (by
            rcases hend with h7 | h7
            · exact Or.inl (by omega)
            · exact Or.inr h7)
          rw [heq, hj] at hO ⊢
          refine wp_lI ?_
          refine wp_p (n := jN (fun k => V0 52 (12 * r + k)) (m - run) (k + run) 0) hf (hO.mono (by omega)) (by omega) (fun _ V1 hA hO1 => ?_)
          refine wp_lI (wp_lw (by omega) ?_)
          exact (AQ.then hA (ih (m - run) (k + run) h _ V1 (by omega) (by omega) (by omega) (hfr.trans hA.2) hO1) :)
      have k65 : ∀ (fu2 run : Nat), run ≤ m → m + 1 ≤ fu2 + run → jN (fun k => V0 52 (12 * r + k)) m k 0 = jN (fun k => V0 52 (12 * r + k)) (m - run) (k + run) run → wz (q_X11_putJoin_b65 N (q_X11_putJoin_b51 N fu) fu2 f r l h k run V) (fun _ V' => AQ f V V' (jN (fun k => V0 52 (12 * r + k)) m k 0) ∧ OKP f V' 0) := by
        intro fu2
        induction fu2 with
        | zero => intro run h5 h6; omega
        | succ fu2 ih2 =>
          intro run h5 h6 heq
          simp only [q_X11_putJoin_b65]
          refine wp_lw (by omega) (wp_aR (by omega) ?_)
          rw [show ((r : Int)).toNat = r by omega, hfr 51 (by decide), hn.1]
          refine wp_if (fun h8 => k105 run h5 (Or.inl (by omega)) heq) (fun h8 => ?_)
          refine wp_lI (wp_lw (by omega) (wp_lw (by omega) (wp_lw (by omega) (wp_aR (by omega) (wp_lI ?_)))))
          rw [show (12 * (r : Int) + (k : Int) + (run : Int)).toNat = 12 * r + (k + run) by omega, hfr 52 (by decide)]
          have h27 := hd (k + run) (by omega)
          refine wp_if (fun h7 => k105 run h5 (Or.inr (by omega)) heq) (fun h7 => ?_)
          refine wp_lw (by omega) ?_
          refine ih2 (run + 1) (by omega) (by omega) ?_
          rw [heq]
          obtain ⟨m', hm'⟩ : ∃ m', m - run = m' + 1 := ⟨m - run - 1, by omega⟩
          rw [hm']
          simp only [jN]
          rw [if_neg (by omega), show m - (run + 1) = m' by omega, show k + run + 1 = k + (run + 1) by omega]
          rfl
      exact k65 N 0 (by omega) (by omega) rfl
set_option maxHeartbeats 4000000 in
set_option maxRecDepth 100000 in
theorem s_pj8 {N r n f : Nat} {V0 : pvM} (hN : 50 ≤ N) (hf : f < 12) (hr : r < 8) (hn : V0 51 r = n ∧ n ≤ 12) (hd : ∀ k, k < n → V0 52 (12 * r + k) ≤ 27) : ∀ (fu k : Nat) (V : pvM), k + 1 ≤ fu → k ≤ 12 → fr pcs V0 V → OKP f V (k + 1 + jN (fun k => V0 52 (12 * r + k)) n 0 0) → wz (q_X11_putJoin_b8 N fu f r ((k : Int) - 1) V) (fun _ V' => AQ f V V' (k + 1 + jN (fun k => V0 52 (12 * r + k)) n 0 0) ∧ OKP f V' 0) := by
  intro fu
  induction fu with
  | zero => intro k V h1; omega
  | succ fu ih =>
    intro k V h1 h12 hfr hO
    simp only [q_X11_putJoin_b8]
    refine wp_if (fun h => ?_) (fun h => ?_)
    · have hk : k = 0 := by omega
      subst hk
      refine wp_lI (wp_lI (wp_lI ?_))
      refine wp_p (n := jN (fun k => V0 52 (12 * r + k)) n 0 0) hf (hO.mono (by omega)) (by omega) (fun _ V1 hA hO1 => ?_)
      refine wp_aR (by omega) (wp_lI (wp_lI ?_))
      have k9 := AQ.then hA (s_pj51 (N := N) hN hf hr hn hd N n 0 0 (V1 65 ((r : Int)).toNat) V1 (by omega) (by omega) (by omega) (hfr.trans hA.2) hO1)
      rw [show 1 + jN (fun k => V0 52 (12 * r + k)) n 0 0 = 0 + 1 + jN (fun k => V0 52 (12 * r + k)) n 0 0 by omega] at k9
      exact k9
    · obtain ⟨k', rfl⟩ : ∃ k', k = k' + 1 := ⟨k - 1, by omega⟩
      refine wp_lI (wp_lI (wp_lw (by omega) (wp_lI ?_)))
      refine wp_p (n := k' + 1 + jN (fun k => V0 52 (12 * r + k)) n 0 0) hf (hO.mono (by omega)) (by omega) (fun _ V1 hA hO1 => ?_)
      refine wp_lw (by omega) ?_
      have k9 := AQ.then hA (ih k' V1 (by omega) (by omega) (hfr.trans hA.2) hO1)
      rw [show (k' : Int) - 1 = ((k' + 1 : Nat) : Int) - 1 + -1 by omega, show 1 + (k' + 1 + jN (fun k => V0 52 (12 * r + k)) n 0 0) = k' + 1 + 1 + jN (fun k => V0 52 (12 * r + k)) n 0 0 by omega] at k9
      exact k9
theorem s_putJoin {N r f : Nat} {V : pvM} (hN : 50 ≤ N) (hP : PI V) (hI : RI V) (hf : f < 12) (hr : (r : Int) < V 2 5) (hO : OKP f V (joinG V r).length) : wz (q_X11_putJoin N f r V) (fun _ V' => AQ f V V' (joinG V r).length ∧ OKP f V' 0) := by
  have h1 := hP.2.2.2.2.2.1.hb r (by omega)
  have h2 := hP.2.2.2.2.1
  have h3 := (hP.2.2.2.2.2.1.2.2.2 r (by omega)).2.2.2
  have e51 : V 51 = V 3 := hI.2.2.2.2.2.2.2.1
  have e52 : V 52 = V 6 := hI.2.2.2.2.2.2.2.2
  unfold q_X11_putJoin
  rw [cL_eq (e_mholes hN hP hI (by omega)), show ((r : Int)).toNat = r by omega]
  refine wp_lI (wp_lw (by omega) ?_)
  have el : (joinG V r).length = (V 4 r).toNat + 1 + jN (fun k => V 52 (12 * r + k)) (V 3 r).toNat 0 0 := by
    unfold joinG
    rw [List.length_append, sJ_len, List.length_cons, jT_jN, e52]; omega
  rw [el] at hO ⊢
  have k9 := s_pj8 (N := N) (r := r) (n := (V 3 r).toNat) (f := f) (V0 := V) hN hf (by omega) (by rw [e51]; omega) (fun k hk => by rw [e52]; have := h3 k (by omega); omega) N (V 4 r).toNat V (by omega) (by omega) (fr.refl _ _) hO
  rw [show (((V 4 r).toNat : Nat) : Int) - 1 = V 4 r - 1 by omega] at k9
  exact k9
