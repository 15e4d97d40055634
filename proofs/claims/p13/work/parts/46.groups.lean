/-! GROUPS OF THE PLAINER CODE -/
def sD : Nat → List Ins
  | 0 => []
  | k + 1 => (2, 8 + ((k + 1 : Nat) : Int), 0) :: sD k
def lP : Nat → Nat → List Ins
  | 0, _ => []
  | m + 1, k => (1, 9 + (k : Int), 0) :: (21, (k : Int), 0) :: lP m (k + 1)
def newG (c : Int) (b : Nat) : List Ins := (20, c, 0) :: if b = 0 then [] else (2, 8, 0) :: (sD b ++ (1, 8, 0) :: lP b 0)
def sJ : Nat → List Ins
  | 0 => []
  | k + 1 => (2, 8 + (k : Int), 0) :: sJ k
def jC (l w : Int) : List Ins := if w ≤ 0 then [] else [(25, l, w)]
/-- m digits from k on; holes so far, the next letter, letters that wait -/
def jT (d : Nat → Int) : Nat → Nat → Int → Int → Int → List Ins
  | 0, _, _, l, w => jC l w
  | m + 1, k, h, l, w => if d k = 27 then jC l w ++ ((1, 8 + h, 0) :: (26, 0, 0) :: jT d m (k + 1) (h + 1) (l + w) 0) else jT d m (k + 1) h l (w + 1)
def joinG (V : pvM) (r : Nat) : List Ins := sJ (V 4 r).toNat ++ (24, 0, 0) :: jT (fun k => V 6 (12 * r + k)) (V 3 r).toNat 0 0 (V 5 r) 0
def grp (V : pvM) (c w a b : Int) : List Ins := if w = 13 then newG c b.toNat else if w = 14 then [(22, a, 0)] else if w = 15 then joinG V a.toNat else [(w, a, 0)]
theorem sD_len : ∀ k, (sD k).length = k
  | 0 => rfl
  | k + 1 => by simp [sD, sD_len k]
theorem lP_len : ∀ m k, (lP m k).length = 2 * m
  | 0, _ => rfl
  | m + 1, k => by simp [lP, lP_len m]; omega
theorem sJ_len : ∀ k, (sJ k).length = k
  | 0 => rfl
  | k + 1 => by simp [sJ, sJ_len k]
theorem jC_len (l w : Int) : (jC l w).length = if w ≤ 0 then 0 else 1 := by unfold jC; split <;> rfl
theorem jT_len (d : Nat → Int) : ∀ (m k : Nat) (h l w : Int), (jT d m k h l w).length ≤ 2 * m + (if w ≤ 0 then 0 else 1)
  | 0, k, h, l, w => by simp only [jT]; rw [jC_len]; omega
  | m + 1, k, h, l, w => by
    simp only [jT]
    split
    · have h9 := jT_len d m (k + 1) (h + 1) (l + w) 0
      rw [if_pos (by omega)] at h9
      rw [List.length_append, jC_len, List.length_cons, List.length_cons]
      omega
    · have h9 := jT_len d m (k + 1) h l (w + 1)
      have h8 : (if w + 1 ≤ 0 then 0 else 1) ≤ 1 := by split <;> omega
      omega
theorem newG_len (c : Int) (b : Nat) : (newG c b).length = if b = 0 then 1 else 3 + 3 * b := by
  unfold newG
  split
  · rfl
  · simp [sD_len, lP_len]; omega
theorem joinG_len {V : pvM} (hP : PI V) {r : Nat} (hr : (r : Int) < V 2 5) : (joinG V r).length ≤ 37 := by
  have h1 := hP.2.2.2.2.2.1.hb r (by omega)
  have h2 := jT_len (fun k => V 6 (12 * r + k)) (V 3 r).toNat 0 0 (V 5 r) 0
  rw [if_pos (by omega)] at h2
  unfold joinG
  rw [List.length_append, sJ_len, List.length_cons]
  omega
theorem grp_len_c (V : pvM) (c c' w a b : Int) : (grp V c w a b).length = (grp V c' w a b).length := by
  unfold grp
  split
  · rw [newG_len, newG_len]
  · rfl
theorem grp_len_pos (V : pvM) (c w a b : Int) : 1 ≤ (grp V c w a b).length := by
  unfold grp
  repeat' split
  · rw [newG_len]; split <;> omega
  · simp
  · unfold joinG; rw [List.length_append, List.length_cons]; omega
  · simp
theorem grp_len {V : pvM} (hP : PI V) {f k : Nat} (hb : bd V f k) (c : Int) : (grp V c (cW V f k) (cA V f k) (cB V f k)).length ≤ 37 := by
  obtain ⟨b1, b2, b3, b4, b5, b6⟩ := hb
  have hn := hP.1
  unfold grp
  split
  · rename_i h13
    have h9 := b4 h13
    have := (hP.2.1 (cA V f k).toNat (by omega)).1
    rw [newG_len]; split <;> omega
  · split
    · simp
    · split
      · rename_i h15
        have h9 := b6 h15
        exact joinG_len hP (by omega)
      · simp
/-! room for n rows more -/
def OKX (t : Int) (V : pvM) (n : Nat) : Prop := RW V ∧ BG t V ∧ KP V ∧ (0 ≤ t ∧ t ≤ 600) ∧ V 17 4 + n ≤ 20480
theorem OKX.mono {t : Int} {V : pvM} {n m : Nat} (h : OKX t V n) (hm : m ≤ n) : OKX t V m := ⟨h.1, h.2.1, h.2.2.1, h.2.2.2.1, by have := h.2.2.2.2; omega⟩
theorem OKX.congr {t : Int} {V V' : pvM} {n : Nat} (h : OKX t V n) (e17 : V' 17 = V 17) (e39 : V' 39 = V 39) (e84 : V' 84 = V 84) : OKX t V' n := by
  unfold OKX RW BG KP at h ⊢
  rw [e17, e39, e84]
  exact h
theorem AP.okx {t : Int} {V V' : pvM} {n : Nat} {g : List Ins} (hO : OKX t V (g.length + n)) (h : AP t V V' g) : OKX t V' n := by
  obtain ⟨o1, o2, o3, o4, o5⟩ := hO
  obtain ⟨a1, a2, a3, a4⟩ := h
  refine ⟨a2, a3, ?_, o4, ?_⟩
  · unfold KP at o3 ⊢; rw [a4 39 (by decide)]; exact o3
  · rw [a1.1]; omega
theorem AP.trans {t : Int} {V V' V'' : pvM} {g g' : List Ins} (hW : RW V) (h : AP t V V' g) (h' : AP t V' V'' g') : AP t V V'' (g ++ g') :=
  ⟨apl.trans hW.2.1 h.1 h'.1, h'.2.1, h'.2.2.1, h.2.2.2.trans h'.2.2.2⟩
theorem AP.nil {t : Int} {V : pvM} (h1 : RW V) (h2 : BG t V) : AP t V V [] := ⟨apl.refl V, h1, h2, fr.refl _ _⟩
theorem wp_x {N n : Nat} {t w a b : Int} {V : pvM} {k : Int → pvM → Option pvO} {Q : Nat → Int → pvM → Prop} (hO : OKX t V (n + 1)) (hk : ∀ r V', AP t V V' [(w, a, b)] → OKX t V' n → wp (k r V') Q) : wp (cL (q_X3_add N w a b V) k) Q := by
  refine wp_cL (s_xadd hO.1 hO.2.1 hO.2.2.1 hO.2.2.2.1 (by have := hO.2.2.2.2; omega)) (fun r V' h => ?_)
  exact hk r V' h (AP.okx (n := n) (by rw [show ([(w, a, b)] : List Ins).length + n = n + 1 by simp; omega]; exact hO) h)
theorem AP.then {t : Int} {V V' : pvM} {g g' : List Ins} {o : Option pvO} (hW : RW V) (h : AP t V V' g) (hk : wz o (fun _ V'' => AP t V' V'' g')) : wz o (fun _ V'' => AP t V V'' (g ++ g')) :=
  wp_mono hk (fun _ _ _ h9 => ⟨h9.1, AP.trans hW h h9.2⟩)
theorem s_new98 {N b : Nat} {t : Int} (hb : b ≤ 3) : ∀ (fu m k : Nat) (V : pvM), m + k = b → m + 1 ≤ fu → OKX t V (2 * m) → wz (q_X5_makeNew_b98 N fu b k V) (fun _ V' => AP t V V' (lP m k)) := by
  intro fu
  induction fu with
  | zero => intro m k V h1 h2; omega
  | succ fu ih =>
    intro m k V h1 h2 hO
    simp only [q_X5_makeNew_b98]
    refine wp_if (fun h => ?_) (fun h => ?_)
    · have hm : m = 0 := by omega
      subst hm
      exact wp_rT ⟨rfl, AP.nil hO.1 hO.2.1⟩
    · obtain ⟨m', rfl⟩ : ∃ m', m = m' + 1 := ⟨m - 1, by omega⟩
      refine wp_lI (wp_lI (wp_lw (by omega) (wp_lI ?_)))
      refine wp_x (n := 2 * m' + 1) (hO.mono (by omega)) (fun _ V1 hA hO1 => ?_)
      refine wp_lI (wp_lI ?_)
      refine wp_x (n := 2 * m') hO1 (fun _ V2 hA2 hO2 => ?_)
      refine wp_lw (by omega) ?_
      exact (AP.then hO.1 hA (AP.then hO1.1 hA2 (ih m' (k + 1) V2 (by omega) (by omega) hO2)) :)
theorem s_new62 {N b : Nat} {t : Int} (hN : 50 ≤ N) (hb : b ≤ 3) : ∀ (fu k : Nat) (V : pvM), k ≤ b → k + 1 ≤ fu → OKX t V (k + 1 + 2 * b) → wz (q_X5_makeNew_b62 N fu b k V) (fun _ V' => AP t V V' (sD k ++ (1, 8, 0) :: lP b 0)) := by
  intro fu
  induction fu with
  | zero => intro k V h1 h2; omega
  | succ fu ih =>
    intro k V h1 h2 hO
    simp only [q_X5_makeNew_b62]
    refine wp_if (fun h => ?_) (fun h => ?_)
    · have hm : k = 0 := by omega
      subst hm
      refine wp_lI (wp_lI (wp_lI ?_))
      refine wp_x (n := 2 * b) (hO.mono (by omega)) (fun _ V1 hA hO1 => ?_)
      refine wp_lI ?_
      exact (AP.then hO.1 hA (s_new98 hb N b 0 V1 (by omega) (by omega) hO1) :)
    · obtain ⟨k', rfl⟩ : ∃ k', k = k' + 1 := ⟨k - 1, by omega⟩
      refine wp_lI (wp_lI (wp_lw (by omega) (wp_lI ?_)))
      refine wp_x (n := k' + 1 + 2 * b) (hO.mono (by omega)) (fun _ V1 hA hO1 => ?_)
      refine wp_lw (by omega) ?_
      have k9 := ih k' V1 (by omega) (by omega) hO1
      rw [show ((k' : Nat) : Int) = ((k' + 1 : Nat) : Int) + -1 by omega] at k9
      exact (AP.then hO.1 hA k9 :)
def gcs : List Nat := [16, 23, 24, 17, 18, 19, 20, 21, 84]
/-- a group was made -/
def GP (t : Int) (V V' : pvM) (g : List Ins) (w a b : Int) : Prop := apl V V' g ∧ RW V' ∧ BG t V' ∧ fr gcs V V' ∧ V' 16 = va_up (V 16) 9 (V 16 9 + if w = 13 then 1 else 0) ∧ (∀ c : Nat, (c : Int) < V 16 9 → V' 23 c = V 23 c ∧ V' 24 c = V 24 c) ∧ (w = 13 → V' 23 (V 16 9).toNat = a ∧ V' 24 (V 16 9).toNat = b)
theorem xcs_gcs : ∀ c, c ∈ xcs → c ∈ gcs := by decide
theorem up_self {α : Type} (f : Nat → α) (k : Nat) : va_up f k (f k) = f := by
  funext j
  rw [up_app]
  split
  · rename_i h; rw [h]
  · rfl
theorem AP.gp {t : Int} {V V' : pvM} {g : List Ins} {w a b : Int} (h : AP t V V' g) (hw : w ≠ 13) : GP t V V' g w a b := by
  obtain ⟨a1, a2, a3, a4⟩ := h
  refine ⟨a1, a2, a3, a4.mono xcs_gcs, ?_, fun c _ => ?_, fun h9 => absurd h9 hw⟩
  · rw [a4 16 (by decide), if_neg hw, Int.add_zero, up_self]
  · rw [a4 23 (by decide), a4 24 (by decide)]; exact ⟨rfl, rfl⟩
set_option maxHeartbeats 4000000 in
set_option maxRecDepth 100000 in
theorem s_makeNew {N b : Nat} {t a : Int} {V : pvM} (hN : 50 ≤ N) (hb : b ≤ 3) (hc : 0 ≤ V 16 9 ∧ V 16 9 < 480) (hO : OKX t V 37) : wz (q_X5_makeNew N a b V) (fun _ V' => GP t V V' (newG (V 16 9) b) 13 a b) := by
  unfold q_X5_makeNew
  refine wp_gR (wp_aW (by omega) (wp_gR ?_))
  rw [pu_off (show (16 : Nat) ≠ 23 by decide)]
  refine wp_aW (by omega) (wp_lI (wp_gR (wp_lI ?_)))
  rw [pu_off (show (16 : Nat) ≠ 24 by decide), pu_off (show (16 : Nat) ≠ 23 by decide)]
  obtain ⟨V1, hV1⟩ : ∃ V1, V1 = pz_u (pz_u V 23 (V 16 9).toNat a) 24 (V 16 9).toNat b := ⟨_, rfl⟩
  rw [← hV1]
  have f1 : fr [23, 24] V V1 := by rw [hV1]; exact (fr_u (by simp)).trans (fr_u (by simp))
  have e23 : V1 23 = va_up (V 23) (V 16 9).toNat a := by rw [hV1]; simp [pu_off, pu_row]
  have e24 : V1 24 = va_up (V 24) (V 16 9).toNat b := by rw [hV1]; simp [pu_off, pu_row]
  have hO1 : OKX t V1 37 := hO.congr (f1 17 (by decide)) (f1 39 (by decide)) (f1 84 (by decide))
  refine wp_x (n := 36) hO1 (fun _ V2 hA hO2 => ?_)
  refine wp_gR (wp_lI ?_)
  have e16 : V2 16 = V 16 := by rw [hA.2.2.2 16 (by decide), f1 16 (by decide)]
  rw [e16]
  refine wp_lw (by omega) (wp_gW ?_)
  obtain ⟨V3, hV3⟩ : ∃ V3, V3 = pz_u V2 16 9 (V 16 9 + 1) := ⟨_, rfl⟩
  rw [← hV3]
  have f3 : fr [16] V2 V3 := by rw [hV3]; exact fr_u (by simp)
  have hO3 : OKX t V3 36 := hO2.congr (f3 17 (by decide)) (f3 39 (by decide)) (f3 84 (by decide))
  have a3 : apl V V3 [(20, V 16 9, 0)] := (hA.1.fr (by rw [f1 17 (by decide)]) (fun r h1 h2 => (f1 r (by simp; omega)).symm)).fr' (by rw [f3 17 (by decide)]) (fun r h1 h2 => f3 r (by simp; omega))
  have e163 : V3 16 = va_up (V 16) 9 (V 16 9 + 1) := by rw [hV3, pu_row, e16]
  have fin : ∀ (g : List Ins) (V4 : pvM), AP t V3 V4 g → GP t V V4 ((20, V 16 9, 0) :: g) 13 a b := by
    intro g V4 h4
    obtain ⟨q1, q2, q3, q4⟩ := h4
    have d23 : V4 23 = va_up (V 23) (V 16 9).toNat a := by rw [q4 23 (by decide), f3 23 (by decide), hA.2.2.2 23 (by decide), e23]
    have d24 : V4 24 = va_up (V 24) (V 16 9).toNat b := by rw [q4 24 (by decide), f3 24 (by decide), hA.2.2.2 24 (by decide), e24]
    refine ⟨apl.trans hO.1.2.1 a3 q1, q2, q3, ?_, ?_, fun c hc9 => ?_, fun _ => ?_⟩
    · exact (((f1.mono (by decide)).trans (hA.2.2.2.mono xcs_gcs)).trans (f3.mono (by decide))).trans (q4.mono xcs_gcs)
    · rw [q4 16 (by decide), e163, if_pos rfl]
    · rw [d23, d24, up_app, up_app, if_neg (by omega), if_neg (by omega)]; exact ⟨rfl, rfl⟩
    · rw [d23, d24, up_app, up_app, if_pos rfl, if_pos rfl]; exact ⟨rfl, rfl⟩
  unfold newG
  refine wp_if (fun h => ?_) (fun h => ?_)
  · have hb0 : ¬ b = 0 := by omega
    rw [if_neg hb0]
    refine wp_lI (wp_lI (wp_lI ?_))
    refine wp_x (n := 35) hO3 (fun _ V4 hA4 hO4 => ?_)
    have k9 := s_new62 hN hb N b V4 (by omega) (by omega) (hO4.mono (by omega))
    exact wp_mono (AP.then hO3.1 hA4 k9) (fun _ _ _ h9 => ⟨h9.1, fin _ _ h9.2⟩)
  · have hb0 : b = 0 := by omega
    rw [if_pos hb0]
    exact wp_rT ⟨rfl, fin [] V3 (AP.nil hO3.1 hO3.2.1)⟩
theorem e_rlengthOf {N : Nat} {r : Int} {V : pvM} (hr : 0 ≤ r ∧ r < 8) : q_X7_lengthOf N r V = some (0, V 3 r.toNat, V) := by unfold q_X7_lengthOf; rw [e_aR hr]; rfl
theorem e_firstLetterOf {N : Nat} {r : Int} {V : pvM} (hr : 0 ≤ r ∧ r < 8) : q_X7_firstLetterOf N r V = some (0, V 5 r.toNat, V) := by unfold q_X7_firstLetterOf; rw [e_aR hr]; rfl
theorem e_isHole {N r k : Nat} {V : pvM} (hr : r < 8) (hk : k < 12) : q_X7_isHole N r k V = some (0, (if V 6 (12 * r + k) = 27 then 1 else 0), V) := wz_to (by
  unfold q_X7_isHole
  refine wp_lI (wp_lw (by omega) (wp_lw (by omega) (wp_aR (by omega) (wp_lI ?_))))
  rw [show ((r : Int) * 12 + (k : Int)).toNat = 12 * r + k by omega]
  refine wp_if (fun h => ?_) (fun h => ?_)
  · exact wp_lI (wp_bT (Or.inl rfl) (wp_rT ⟨rfl, by rw [if_neg h], rfl⟩))
  · exact wp_lI (wp_bT (Or.inr rfl) (wp_rT ⟨rfl, by rw [if_pos (Decidable.not_not.mp h)], rfl⟩)))
set_option maxHeartbeats 4000000 in
set_option maxRecDepth 100000 in
theorem s_join57 {N r n : Nat} {t : Int} {V0 : pvM} (hr : r < 8) (hn : V0 3 r = n ∧ n ≤ 12) : ∀ (fu m k : Nat) (h l w : Int) (V : pvM), m + k = n → m + 1 ≤ fu → (0 ≤ h ∧ h ≤ k) → (0 ≤ w ∧ w ≤ k) → (0 ≤ l ∧ l + w ≤ 100 + k) → fr xcs V0 V → OKX t V (jT (fun k => V0 6 (12 * r + k)) m k h l w).length → wz (q_X5_makeJoin_b57 N fu r h l w k V) (fun _ V' => AP t V V' (jT (fun k => V0 6 (12 * r + k)) m k h l w)) := by
  intro fu
  induction fu with
  | zero => intro m k h l w V h1 h2; omega
  | succ fu ih =>
    intro m k h l w V h1 h2 hh hw hl hfr hO
    simp only [q_X5_makeJoin_b57]
    rw [cL_eq (e_rlengthOf (by omega)), show ((r : Int)).toNat = r by omega, hfr 3 (by decide), hn.1]
    refine wp_if (fun h9 => ?_) (fun h9 => ?_)
    · have hm : m = 0 := by omega
      subst hm
      simp only [jT] at hO ⊢
      unfold jC at hO ⊢
      refine wp_if (fun h8 => ?_) (fun h8 => ?_)
      · rw [if_pos h8]
        exact wp_rT ⟨rfl, AP.nil hO.1 hO.2.1⟩
      · rw [if_neg h8] at hO ⊢
        refine wp_lI ?_
        exact wp_x (n := 0) hO (fun _ V1 hA hO1 => wp_rT ⟨rfl, hA⟩)
    · obtain ⟨m', rfl⟩ : ∃ m', m = m' + 1 := ⟨m - 1, by omega⟩
      rw [cL_eq (e_isHole hr (by omega)), hfr 6 (by decide)]
      simp only [jT] at hO ⊢
      by_cases h27 : V0 6 (12 * r + k) = 27
      · rw [if_pos h27, if_pos (by decide)]
        rw [if_pos h27] at hO ⊢
        have k111 : ∀ (V1 : pvM), fr xcs V0 V1 → OKX t V1 (2 + (jT (fun k => V0 6 (12 * r + k)) m' (k + 1) (h + 1) (l + w) 0).length) → wz (q_X5_makeJoin_b111 N (q_X5_makeJoin_b57 N fu) r h (l + w) 0 k V1) (fun _ V' => AP t V1 V' ((1, 8 + h, 0) :: (26, 0, 0) :: jT (fun k => V0 6 (12 * r + k)) m' (k + 1) (h + 1) (l + w) 0)) := by
          intro V1 hf1 hO1
          unfold q_X5_makeJoin_b111
          refine wp_lI (wp_lI (wp_lw (by omega) (wp_lI ?_)))
          refine wp_x (n := 1 + (jT (fun k => V0 6 (12 * r + k)) m' (k + 1) (h + 1) (l + w) 0).length) (hO1.mono (by omega)) (fun _ V2 hA2 hO2 => ?_)
          refine wp_lI (wp_lI (wp_lI ?_))
          refine wp_x (n := (jT (fun k => V0 6 (12 * r + k)) m' (k + 1) (h + 1) (l + w) 0).length) (hO2.mono (by omega)) (fun _ V3 hA3 hO3 => ?_)
          refine wp_lw (by omega) ?_
          unfold q_X5_makeJoin_b138
          refine wp_lw (by omega) ?_
          have k9 := ih m' (k + 1) (h + 1) (l + w) 0 V3 (by omega) (by omega) (by omega) (by omega) (by omega) ((hf1.trans hA2.2.2.2).trans hA3.2.2.2) hO3
          exact (AP.then hO1.1 hA2 (AP.then hO2.1 hA3 k9) :)
        unfold jC at hO ⊢
        refine wp_if (fun h8 => ?_) (fun h8 => ?_)
        · rw [if_pos h8] at hO ⊢
          have hw0 : w = 0 := by omega
          subst hw0
          have k9 := k111 V hfr (hO.mono (by simp; omega))
          rw [Int.add_zero] at k9 ⊢
          exact k9
        · rw [if_neg h8] at hO ⊢
          refine wp_lI ?_
          refine wp_x (n := 2 + (jT (fun k => V0 6 (12 * r + k)) m' (k + 1) (h + 1) (l + w) 0).length) (hO.mono (by simp; omega)) (fun _ V1 hA hO1 => ?_)
          refine wp_lw (by omega) (wp_lI ?_)
          exact (AP.then hO.1 hA (k111 V1 (hfr.trans hA.2.2.2) hO1) :)
      · rw [if_neg h27, if_neg (by decide)]
        rw [if_neg h27] at hO ⊢
        refine wp_lw (by omega) ?_
        unfold q_X5_makeJoin_b138
        refine wp_lw (by omega) ?_
        exact ih m' (k + 1) h l (w + 1) V (by omega) (by omega) (by omega) (by omega) (by omega) hfr hO
set_option maxHeartbeats 4000000 in
set_option maxRecDepth 100000 in
theorem s_join8 {N r n : Nat} {t : Int} {V0 : pvM} (hN : 50 ≤ N) (hr : r < 8) (hn : V0 3 r = n ∧ n ≤ 12) (hl : 0 ≤ V0 5 r ∧ V0 5 r ≤ 100) : ∀ (fu k : Nat) (V : pvM), k + 1 ≤ fu → k ≤ 12 → fr xcs V0 V → OKX t V (k + 1 + (jT (fun k => V0 6 (12 * r + k)) n 0 0 (V0 5 r) 0).length) → wz (q_X5_makeJoin_b8 N fu r ((k : Int) - 1) V) (fun _ V' => AP t V V' (sJ k ++ (24, 0, 0) :: jT (fun k => V0 6 (12 * r + k)) n 0 0 (V0 5 r) 0)) := by
  intro fu
  induction fu with
  | zero => intro k V h1; omega
  | succ fu ih =>
    intro k V h1 h12 hfr hO
    simp only [q_X5_makeJoin_b8]
    refine wp_if (fun h => ?_) (fun h => ?_)
    · have hk : k = 0 := by omega
      subst hk
      refine wp_lI (wp_lI (wp_lI ?_))
      refine wp_x (n := (jT (fun k => V0 6 (12 * r + k)) n 0 0 (V0 5 r) 0).length) (hO.mono (by omega)) (fun _ V1 hA hO1 => ?_)
      refine wp_lI ?_
      rw [cL_eq (e_firstLetterOf (by omega)), show ((r : Int)).toNat = r by omega, hA.2.2.2 5 (by decide), hfr 5 (by decide)]
      refine wp_lI (wp_lI ?_)
      exact (AP.then hO.1 hA (s_join57 hr hn N n 0 0 (V0 5 r) 0 V1 (by omega) (by omega) (by omega) (by omega) (by omega) (hfr.trans hA.2.2.2) hO1) :)
    · obtain ⟨k', rfl⟩ : ∃ k', k = k' + 1 := ⟨k - 1, by omega⟩
      refine wp_lI (wp_lI (wp_lw (by omega) (wp_lI ?_)))
      refine wp_x (n := k' + 1 + (jT (fun k => V0 6 (12 * r + k)) n 0 0 (V0 5 r) 0).length) (hO.mono (by omega)) (fun _ V1 hA hO1 => ?_)
      refine wp_lw (by omega) ?_
      rw [show ((k' + 1 : Nat) : Int) - 1 = (k' : Int) by omega] at hA ⊢
      have k9 := ih k' V1 (by omega) (by omega) (hfr.trans hA.2.2.2) hO1
      rw [show (k' : Int) - 1 = (k' : Int) + -1 by omega] at k9
      exact (AP.then hO.1 hA k9 :)
theorem PI.fl {V : pvM} (hP : PI V) {r : Nat} (hr : (r : Int) < V 2 5) : 0 ≤ V 5 r ∧ V 5 r ≤ 96 := by
  have h1 := (hP.2.2.2.2.2.1.2.2.2 r (by omega)).2.2.1
  have h2 := ls_bd (L := V 3) (H := V 4) r (fun q hq => by have := hP.2.2.2.2.2.1.hb q (by omega); omega)
  have h3 := hP.2.2.2.2.1
  rw [h1]; omega
theorem s_makeJoin {N r : Nat} {t : Int} {V : pvM} (hN : 50 ≤ N) (hP : PI V) (hr : (r : Int) < V 2 5) (hO : OKX t V 37) : wz (q_X5_makeJoin N r V) (fun _ V' => AP t V V' (joinG V r)) := by
  have h1 := hP.2.2.2.2.2.1.hb r (by omega)
  have h2 := hP.2.2.2.2.1
  have h3 := joinG_len hP hr
  have h4 := hP.fl hr
  unfold q_X5_makeJoin
  rw [cL_eq (e_holesOf (by omega)), show ((r : Int)).toNat = r by omega]
  refine wp_lI (wp_lw (by omega) ?_)
  unfold joinG at h3 ⊢
  rw [List.length_append, sJ_len, List.length_cons] at h3
  have k9 := s_join8 (N := N) (r := r) (n := (V 3 r).toNat) (t := t) (V0 := V) hN (by omega) (by omega) (by omega) N (V 4 r).toNat V (by omega) (by omega) (fr.refl _ _) (hO.mono (by omega))
  rw [show (((V 4 r).toNat : Nat) : Int) - 1 = V 4 r - 1 by omega] at k9
  exact k9
set_option maxHeartbeats 4000000 in
set_option maxRecDepth 100000 in
theorem s_makeGroup {N f k : Nat} {t : Int} {V : pvM} (hN : 50 ≤ N) (hP : PI V) (hf : f < 12) (hk : k < 40) (hb : bd V f k) (hc : 0 ≤ V 16 9 ∧ V 16 9 < 480) (hO : OKX t V 37) : wz (q_X5_makeGroup N f k V) (fun _ V' => GP t V V' (grp V (V 16 9) (cW V f k) (cA V f k) (cB V f k)) (cW V f k) (cA V f k) (cB V f k)) := by
  obtain ⟨b1, b2, b3, b4, b5, b6⟩ := hb
  have hn := hP.1
  unfold q_X5_makeGroup
  rw [cL_eq (e_wordAt hf hk), cL_eq (e_firstNumberAt hf hk)]
  unfold grp
  refine wp_lI ?_
  refine wp_if (fun h13 => ?_) (fun h13 => ?_)
  · rw [if_neg h13]
    refine wp_lI ?_
    refine wp_if (fun h14 => ?_) (fun h14 => ?_)
    · rw [if_neg h14]
      refine wp_lI ?_
      refine wp_if (fun h15 => ?_) (fun h15 => ?_)
      · rw [if_neg h15]
        refine wp_lI ?_
        exact wp_x (n := 36) hO (fun _ V1 hA hO1 => wp_rT ⟨rfl, hA.gp h13⟩)
      · have h15' := Decidable.not_not.mp h15
        rw [if_pos h15', cL_eq e_recipes]
        have h9 := b6 h15'
        have k9 := s_makeJoin (N := N) (r := (cA V f k).toNat) (t := t) hN hP (by omega) hO
        rw [show (((cA V f k).toNat : Nat) : Int) = cA V f k by omega] at k9
        exact wp_cL k9 (fun _ V1 hA => wp_rT ⟨rfl, hA.gp h13⟩)
    · rw [if_pos (Decidable.not_not.mp h14)]
      refine wp_lI (wp_lI ?_)
      exact wp_x (n := 36) hO (fun _ V1 hA hO1 => wp_rT ⟨rfl, hA.gp h13⟩)
  · have h13' := Decidable.not_not.mp h13
    rw [if_pos h13', cL_eq (e_secondNumberAt hf hk)]
    have h9 := b4 h13'
    have h8 := (hP.2.1 (cA V f k).toNat (by omega)).1
    have k9 := s_makeNew (N := N) (b := (cB V f k).toNat) (t := t) (a := cA V f k) hN (by omega) hc hO
    rw [show (((cB V f k).toNat : Nat) : Int) = cB V f k by omega] at k9
    rw [h13']
    exact wp_cL k9 (fun _ V1 hA => wp_rT ⟨rfl, hA⟩)
