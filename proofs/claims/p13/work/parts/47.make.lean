/-! WHERE THE GROUPS LIE -/
def gl (V : pvM) (f p : Nat) : Nat := (grp V 0 (cW V f p) (cA V f p) (cB V f p)).length
def ps (V : pvM) (f : Nat) : Nat → Nat
  | 0 => 0
  | p + 1 => ps V f p + gl V f p
def cn (V : pvM) (f p : Nat) : Nat := if cW V f p = 13 then 1 else 0
def ck (V : pvM) (f : Nat) : Nat → Nat
  | 0 => 0
  | p + 1 => ck V f p + cn V f p
def SS (V : pvM) : Nat → Nat
  | 0 => 0
  | f + 1 => SS V f + ps V f (V 9 f).toNat
def CC (V : pvM) : Nat → Nat
  | 0 => 0
  | f + 1 => CC V f + ck V f (V 9 f).toNat
theorem ps_mono {V : pvM} {f p q : Nat} (h : p ≤ q) : ps V f p ≤ ps V f q := by
  induction h with
  | refl => exact Nat.le_refl _
  | step _ ih => exact Nat.le_trans ih (Nat.le_add_right _ _)
theorem ck_mono {V : pvM} {f p q : Nat} (h : p ≤ q) : ck V f p ≤ ck V f q := by
  induction h with
  | refl => exact Nat.le_refl _
  | step _ ih => exact Nat.le_trans ih (Nat.le_add_right _ _)
theorem SS_mono {V : pvM} {f g : Nat} (h : f ≤ g) : SS V f ≤ SS V g := by
  induction h with
  | refl => exact Nat.le_refl _
  | step _ ih => exact Nat.le_trans ih (Nat.le_add_right _ _)
theorem CC_mono {V : pvM} {f g : Nat} (h : f ≤ g) : CC V f ≤ CC V g := by
  induction h with
  | refl => exact Nat.le_refl _
  | step _ ih => exact Nat.le_trans ih (Nat.le_add_right _ _)
theorem cn_le (V : pvM) (f p : Nat) : cn V f p ≤ 1 := by unfold cn; split <;> omega
theorem ck_le (V : pvM) (f : Nat) : ∀ p, ck V f p ≤ p
  | 0 => Nat.le_refl _
  | p + 1 => by have := ck_le V f p; have := cn_le V f p; simp only [ck]; omega
theorem ps_le {V : pvM} (hP : PI V) {f n : Nat} (hb : ∀ k, k < n → bd V f k) : ∀ p, p ≤ n → ps V f p ≤ 37 * p
  | 0, _ => Nat.le_refl _
  | p + 1, h => by
    have h1 := ps_le hP hb p (by omega)
    have h2 := grp_len hP (hb p (by omega)) 0
    have h3 : gl V f p ≤ 37 := h2
    simp only [ps]; omega
/-- all functions are right -/
def RT (V : pvM) : Prop := ∀ f : Nat, (f : Int) < V 1 6 → wrS V f (-1)
theorem RT.bd {V : pvM} (h : RT V) {f k : Nat} (hf : (f : Int) < V 1 6) (hk : (k : Int) < V 9 f) : bd V f k := (wrS_ok (h f hf)).2.1 k hk
theorem SS_le {V : pvM} (hP : PI V) (hR : RT V) : ∀ f : Nat, (f : Int) ≤ V 1 6 → SS V f ≤ 1480 * f ∧ CC V f ≤ 40 * f
  | 0, _ => ⟨Nat.le_refl _, Nat.le_refl _⟩
  | f + 1, h => by
    have h1 := SS_le hP hR f (by omega)
    have h0 := hP.1
    have h2 := (hP.2.1 f (by omega)).2
    have h3 := ps_le (n := (V 9 f).toNat) hP (fun k hk => hR.bd (f := f) (k := k) (by omega) (by omega)) (V 9 f).toNat (Nat.le_refl _)
    have h4 := ck_le V f (V 9 f).toNat
    simp only [SS, CC]; omega
def rw4 (V : pvM) (i : Nat) (w a b s : Int) : Prop := V 18 i = w ∧ V 19 i = a ∧ V 20 i = b ∧ V 21 i = s
def mvA (V : pvM) (f : Nat) (mv : Bool) (x : Ins) : Int := if mv = true ∧ (x.1 = 8 ∨ x.1 = 9) then ps V f x.2.1.toNat else x.2.1
def Gp (V : pvM) (f p : Nat) : List Ins := grp V ((CC V f + ck V f p : Nat) : Int) (cW V f p) (cA V f p) (cB V f p)
theorem Gp_len (V : pvM) (f p : Nat) : (Gp V f p).length = gl V f p := grp_len_c _ _ _ _ _ _
/-- the rows of a group -/
def GRP (V0 V : pvM) (f p : Nat) (mv : Bool) : Prop := ∀ (j : Nat) (x : Ins), (Gp V0 f p)[j]? = some x → rw4 V (SS V0 f + ps V0 f p + j) x.1 (mvA V0 f mv x) x.2.2 (if j = 0 then 1 else 0)
def CLS (V0 V : pvM) (f p : Nat) : Prop := cW V0 f p = 13 → V 23 (CC V0 f + ck V0 f p) = cA V0 f p ∧ V 24 (CC V0 f + ck V0 f p) = cB V0 f p
/-- a function's groups and classes, done -/
def FD (V0 V : pvM) (f : Nat) : Prop := V 22 f = SS V0 f ∧ V 22 (f + 1) = SS V0 (f + 1) ∧ ∀ q : Nat, (q : Int) < V0 9 f → GRP V0 V f q true ∧ CLS V0 V f q
def CBD (V0 V : pvM) : Prop := ∀ c : Nat, (c : Int) < V 16 9 → (0 ≤ V 23 c ∧ V 23 c < V0 1 6) ∧ 0 ≤ V 24 c ∧ V 24 c ≤ V0 8 (V 23 c).toNat
def ke (L C : Nat) (V V' : pvM) : Prop := (∀ r, 18 ≤ r → r ≤ 21 → ∀ i : Nat, i < L → V' r i = V r i) ∧ ∀ c : Nat, c < C → V' 23 c = V 23 c ∧ V' 24 c = V 24 c
theorem ke.refl (L C : Nat) (V : pvM) : ke L C V V := ⟨fun _ _ _ _ _ => rfl, fun _ _ => ⟨rfl, rfl⟩⟩
theorem ke.trans {L C : Nat} {V V' V'' : pvM} (h : ke L C V V') (h' : ke L C V' V'') : ke L C V V'' :=
  ⟨fun r h1 h2 i hi => (h'.1 r h1 h2 i hi).trans (h.1 r h1 h2 i hi), fun c hc => ⟨(h'.2 c hc).1.trans (h.2 c hc).1, (h'.2 c hc).2.trans (h.2 c hc).2⟩⟩
theorem ke.of_fr {L C : Nat} {cs : List Nat} {V V' : pvM} (h : fr cs V V') (hd : ∀ c, c ∈ [18, 19, 20, 21, 23, 24] → c ∉ cs) : ke L C V V' := by
  refine ⟨fun r h1 h2 i _ => ?_, fun c _ => ?_⟩
  · rw [h r (hd r (by simp; omega))]
  · rw [h 23 (hd 23 (by decide)), h 24 (hd 24 (by decide))]; exact ⟨rfl, rfl⟩
theorem getl {α : Type} {l : List α} {j : Nat} {x : α} (h : l[j]? = some x) : j < l.length := by
  rw [List.getElem?_eq_some_iff] at h
  exact h.1
theorem GRP.keep {V0 V V' : pvM} {f p L C : Nat} {mv : Bool} (h : GRP V0 V f p mv) (hk : ke L C V V') (hL : SS V0 f + ps V0 f (p + 1) ≤ L) : GRP V0 V' f p mv := by
  intro j x hx
  have h1 := h j x hx
  have h2 := getl hx
  rw [Gp_len] at h2
  have h3 : SS V0 f + ps V0 f p + j < L := by simp only [ps] at hL; omega
  unfold rw4 at h1 ⊢
  rw [hk.1 18 (by omega) (by omega) _ h3, hk.1 19 (by omega) (by omega) _ h3, hk.1 20 (by omega) (by omega) _ h3, hk.1 21 (by omega) (by omega) _ h3]
  exact h1
theorem CLS.keep {V0 V V' : pvM} {f p L C : Nat} (h : CLS V0 V f p) (hk : ke L C V V') (hC : CC V0 f + ck V0 f (p + 1) ≤ C) : CLS V0 V' f p := by
  intro h13
  have h1 := h h13
  have h2 : CC V0 f + ck V0 f p < C := by simp only [ck, cn] at hC; rw [if_pos h13] at hC; omega
  rw [(hk.2 _ h2).1, (hk.2 _ h2).2]
  exact h1
theorem FD.keep {V0 V V' : pvM} {f L C : Nat} (h : FD V0 V f) (hk : ke L C V V') (e : V' 22 f = V 22 f ∧ V' 22 (f + 1) = V 22 (f + 1)) (hL : SS V0 (f + 1) ≤ L) (hC : CC V0 (f + 1) ≤ C) (h9 : 0 ≤ V0 9 f) : FD V0 V' f := by
  refine ⟨by rw [e.1]; exact h.1, by rw [e.2]; exact h.2.1, fun q hq => ?_⟩
  have h1 := ps_mono (V := V0) (f := f) (p := q + 1) (q := (V0 9 f).toNat) (by omega)
  have h2 := ck_mono (V := V0) (f := f) (p := q + 1) (q := (V0 9 f).toNat) (by omega)
  simp only [SS, CC] at hL hC
  exact ⟨(h.2.2 q hq).1.keep hk (by omega), (h.2.2 q hq).2.keep hk (by omega)⟩
theorem grp_fr {cs : List Nat} {V V' : pvM} (hf : fr cs V V') (hd : ∀ c, c ∈ prog → c ∉ cs) (c w a b : Int) : grp V' c w a b = grp V c w a b := by
  unfold grp joinG
  rw [hf 3 (hd 3 (by decide)), hf 4 (hd 4 (by decide)), hf 5 (hd 5 (by decide)), hf 6 (hd 6 (by decide))]
/-! words of a group -/
def okI (n : Int) (x : Ins) : Prop := (x.1 = 10 → 0 ≤ x.2.1 ∧ x.2.1 < 12) ∧ x.1 ≠ 15 ∧ ((x.1 = 14 ∨ x.1 = 22) → 0 ≤ x.2.1 ∧ x.2.1 < 1000) ∧ ((x.1 = 8 ∨ x.1 = 9) → 0 ≤ x.2.1 ∧ x.2.1 < n)
theorem okI_k {n w a b : Int} (h : w = 1 ∨ w = 2 ∨ w = 20 ∨ w = 21 ∨ w = 23 ∨ w = 24 ∨ w = 25 ∨ w = 26) : okI n (w, a, b) := by
  unfold okI; dsimp only; omega
theorem sD_ok (n : Int) : ∀ k, ∀ x, x ∈ sD k → okI n x
  | 0, x, h => by simp [sD] at h
  | k + 1, x, h => by
    simp only [sD, List.mem_cons] at h
    rcases h with rfl | h
    · exact okI_k (by omega)
    · exact sD_ok n k x h
theorem sJ_ok (n : Int) : ∀ k, ∀ x, x ∈ sJ k → okI n x
  | 0, x, h => by simp [sJ] at h
  | k + 1, x, h => by
    simp only [sJ, List.mem_cons] at h
    rcases h with rfl | h
    · exact okI_k (by omega)
    · exact sJ_ok n k x h
theorem lP_ok (n : Int) : ∀ m k, ∀ x, x ∈ lP m k → okI n x
  | 0, k, x, h => by simp [lP] at h
  | m + 1, k, x, h => by
    simp only [lP, List.mem_cons] at h
    rcases h with rfl | rfl | h
    · exact okI_k (by omega)
    · exact okI_k (by omega)
    · exact lP_ok n m (k + 1) x h
theorem jC_ok (n : Int) (l w : Int) : ∀ x, x ∈ jC l w → okI n x := by
  intro x h
  unfold jC at h
  split at h
  · simp at h
  · simp only [List.mem_singleton] at h
    subst h; exact okI_k (by omega)
theorem jT_ok (d : Nat → Int) (n : Int) : ∀ (m k : Nat) (h l w : Int), ∀ x, x ∈ jT d m k h l w → okI n x
  | 0, k, h, l, w, x, hx => jC_ok n l w x (by simpa only [jT] using hx)
  | m + 1, k, h, l, w, x, hx => by
    simp only [jT] at hx
    split at hx
    · simp only [List.mem_append, List.mem_cons] at hx
      rcases hx with hx | rfl | rfl | hx
      · exact jC_ok n l w x hx
      · exact okI_k (by omega)
      · exact okI_k (by omega)
      · exact jT_ok d n m _ _ _ _ x hx
    · exact jT_ok d n m _ _ _ _ x hx
theorem grp_ok {V : pvM} (hP : PI V) {f k : Nat} (hb : bd V f k) (c : Int) : ∀ x, x ∈ grp V c (cW V f k) (cA V f k) (cB V f k) → okI (V 9 f) x := by
  obtain ⟨b1, b2, b3, b4, b5, b6⟩ := hb
  have hn := hP.1
  intro x hx
  unfold grp at hx
  split at hx
  · unfold newG at hx
    simp only [List.mem_cons] at hx
    rcases hx with rfl | hx
    · exact okI_k (by omega)
    · split at hx
      · simp at hx
      · simp only [List.mem_cons, List.mem_append] at hx
        rcases hx with rfl | hx | rfl | hx
        · exact okI_k (by omega)
        · exact sD_ok _ _ x hx
        · exact okI_k (by omega)
        · exact lP_ok _ _ _ x hx
  · split at hx
    · rename_i h14
      have := b5 h14
      simp only [List.mem_singleton] at hx
      subst hx
      unfold okI; dsimp only; omega
    · split at hx
      · unfold joinG at hx
        simp only [List.mem_cons, List.mem_append] at hx
        rcases hx with hx | rfl | hx
        · exact sJ_ok _ _ x hx
        · exact okI_k (by omega)
        · exact jT_ok _ _ _ _ _ _ _ x hx
      · have hw := hP.2.2.1 (40 * f + k)
        have e1 : cW V f k = V 10 (40 * f + k) := rfl
        simp only [List.mem_singleton] at hx
        subst hx
        unfold okI; dsimp only; omega
/-! measure, markStep, movePlaces -/
theorem e_xlength {N : Nat} {V : pvM} : q_X3_length N V = some (0, V 17 4, V) := rfl
theorem e_xword {N i : Nat} {V : pvM} (hi : (i : Int) < V 17 0) : q_X3_word N i V = some (0, V 18 i, V) := by unfold q_X3_word; rw [e_aR (by omega)]; rfl
theorem e_xfirst {N i : Nat} {V : pvM} (hi : (i : Int) < V 17 0) : q_X3_firstNumber N i V = some (0, V 19 i, V) := by unfold q_X3_firstNumber; rw [e_aR (by omega)]; rfl
theorem e_xsecond {N i : Nat} {V : pvM} (hi : (i : Int) < V 17 0) : q_X3_secondNumber N i V = some (0, V 20 i, V) := by unfold q_X3_secondNumber; rw [e_aR (by omega)]; rfl
theorem e_isStep {N i : Nat} {V : pvM} (hi : (i : Int) < V 17 0) : q_X3_isStep N i V = some (0, (if V 21 i = 1 then 1 else 0), V) := wz_to (by
  unfold q_X3_isStep
  refine wp_aR (by omega) (wp_lI ?_)
  rw [show ((i : Int)).toNat = i by omega]
  refine wp_if (fun h => ?_) (fun h => ?_)
  · exact wp_lI (wp_bT (Or.inl rfl) (wp_rT ⟨rfl, by rw [if_neg h], rfl⟩))
  · exact wp_lI (wp_bT (Or.inr rfl) (wp_rT ⟨rfl, by rw [if_pos (Decidable.not_not.mp h)], rfl⟩)))
theorem e_risesBy {N : Nat} {w a b : Int} {V : pvM} (h10 : w = 10 → 0 ≤ a ∧ a < 12) (h15 : w = 15 → 0 ≤ a ∧ a < 8) (h14 : (w = 14 ∨ w = 22) → 0 ≤ a ∧ a < 1000) : q_X5_risesBy N w a b V = some (0, pv_w (pu w - po V w a b), V) := by
  unfold q_X5_risesBy
  rw [cL_eq e_pushesOf, cL_eq (e_popsOf h10 h15 h14)]
  rfl
def okR (V : pvM) (i : Nat) : Prop := (V 18 i = 10 → 0 ≤ V 19 i ∧ V 19 i < 12) ∧ V 18 i ≠ 15 ∧ ((V 18 i = 14 ∨ V 18 i = 22) → 0 ≤ V 19 i ∧ V 19 i < 1000)
theorem okR_fr {cs : List Nat} {V V' : pvM} (h : fr cs V V') (h1 : 18 ∉ cs) (h2 : 19 ∉ cs) (i : Nat) : okR V' i = okR V i := by
  unfold okR; rw [h 18 h1, h 19 h2]
theorem s_measure_b78 {N f : Nat} (hf : f < 12) : ∀ (fu m i : Nat) (h : Int) (V : pvM), V 17 4 = ((i + m : Nat) : Int) → V 17 4 ≤ V 17 0 → V 17 4 ≤ 100000 → m + 1 ≤ fu → (∀ j, i ≤ j → j < i + m → okR V j) → wz (q_X5_measure_b78 N fu f h i V) (fun _ V' => fr [25, 26] V V') := by
  intro fu
  induction fu with
  | zero => intro m i h V h1 h2 h3 h4; omega
  | succ fu ih =>
    intro m i h V h1 h2 h3 h4 hr
    simp only [q_X5_measure_b78]
    rw [cL_eq e_xlength]
    refine wp_if (fun h9 => ?_) (fun h9 => ?_)
    · exact wp_rT ⟨rfl, fr.refl _ _⟩
    · obtain ⟨m', rfl⟩ : ∃ m', m = m' + 1 := ⟨m - 1, by omega⟩
      have hi : (i : Int) < V 17 0 := by omega
      obtain ⟨r1, r2, r3⟩ := hr i (by omega) (by omega)
      rw [cL_eq (e_xword hi), cL_eq (e_xfirst hi), cL_eq (e_xsecond hi), cL_eq (e_risesBy r1 (fun h => absurd h r2) r3)]
      refine wp_lI (wp_aR (by omega) (wp_lI (wp_aW (by omega) (wp_lw (by omega) ?_))))
      have hfr : fr [25, 26] V (pz_u V 26 ((f : Int)).toNat (if V 26 ((f : Int)).toNat < pv_w (h + pv_w (pu (V 18 i) - po V (V 18 i) (V 19 i) (V 20 i))) then pv_w (h + pv_w (pu (V 18 i) - po V (V 18 i) (V 19 i) (V 20 i))) else V 26 ((f : Int)).toNat)) := fr_u (by simp)
      refine wp_mono (ih m' (i + 1) _ _ ?_ ?_ ?_ (by omega) (fun j h8 h7 => ?_)) (fun _ _ _ h9 => ⟨h9.1, hfr.trans h9.2⟩)
      · rw [hfr 17 (by decide), h1]; omega
      · rw [hfr 17 (by decide)]; exact h2
      · rw [hfr 17 (by decide)]; exact h3
      · rw [okR_fr hfr (by decide) (by decide)]; exact hr j (by omega) (by omega)
set_option maxHeartbeats 4000000 in
set_option maxRecDepth 100000 in
theorem s_measure {N f p i m : Nat} {V : pvM} (hN : 50 ≤ N) (hP : PI V) (hf : f < 12) (hp : p < 40) (hb : bd V f p) (h1 : V 17 4 = ((i + m : Nat) : Int)) (h2 : V 17 4 ≤ V 17 0) (h3 : V 17 4 ≤ 100000) (hm : m ≤ 40) (hr : ∀ j, i ≤ j → j < i + m → okR V j) : wz (q_X5_measure N f p i V) (fun _ V' => fr [25, 26] V V') := by
  obtain ⟨b1, b2, b3, b4, b5, b6⟩ := hb
  have hn := hP.1
  have hn5 := hP.2.2.2.2.1
  have hw := hP.2.2.1 (40 * f + p)
  have e1 : cW V f p = V 10 (40 * f + p) := rfl
  unfold q_X5_measure
  have eh : q_X9_heightAt N p V = some (0, V 14 p, V) := by unfold q_X9_heightAt; rw [e_aR (by omega)]; rfl
  rw [cL_eq eh, cL_eq (e_firstNumberAt hf hp), cL_eq (e_secondNumberAt hf hp), cL_eq (e_wordAt hf hp), cL_eq (e_risesBy (fun h9 => by have := b3 h9; omega) (fun h9 => by have := b6 h9; omega) (fun h9 => by have := b5 (by omega); omega))]
  refine wp_lI (wp_aR (by omega) (wp_lI (wp_aW (by omega) ?_)))
  have hfr : ∀ x, fr [25, 26] V (pz_u V 25 ((f : Int)).toNat x) := fun x => fr_u (by simp)
  refine wp_mono (s_measure_b78 hf N m i _ _ ?_ ?_ ?_ (by omega) (fun j h8 h7 => ?_)) (fun _ _ _ h9 => ⟨h9.1, (hfr _).trans h9.2⟩)
  · rw [hfr _ 17 (by decide)]; exact h1
  · rw [hfr _ 17 (by decide)]; exact h2
  · rw [hfr _ 17 (by decide)]; exact h3
  · rw [okR_fr (hfr _) (by decide) (by decide)]; exact hr j h8 h7
def mvd (V : pvM) (i L : Nat) (V' : pvM) : Prop := ∀ j : Nat, V' 19 j = if (i ≤ j ∧ j < L) ∧ (V 18 j = 8 ∨ V 18 j = 9) then V 27 (V 19 j).toNat else V 19 j
set_option maxHeartbeats 4000000 in
set_option maxRecDepth 100000 in
theorem s_move_b2 {N : Nat} : ∀ (fu m i : Nat) (V : pvM), V 17 4 = ((i + m : Nat) : Int) → V 17 4 ≤ V 17 0 → V 17 4 ≤ 100000 → m + 1 ≤ fu → (∀ j, i ≤ j → j < i + m → (V 18 j = 8 ∨ V 18 j = 9) → 0 ≤ V 19 j ∧ V 19 j < 40) → wz (q_X5_movePlaces_b2 N fu i V) (fun _ V' => fr [19] V V' ∧ mvd V i (i + m) V') := by
  intro fu
  induction fu with
  | zero => intro m i V h1 h2 h3 h4; omega
  | succ fu ih =>
    intro m i V h1 h2 h3 h4 hr
    simp only [q_X5_movePlaces_b2]
    rw [cL_eq e_xlength]
    refine wp_if (fun h9 => ?_) (fun h9 => ?_)
    · have hm : m = 0 := by omega
      subst hm
      exact wp_rT ⟨rfl, fr.refl _ _, fun j => by rw [if_neg (by omega)]⟩
    · obtain ⟨m', rfl⟩ : ∃ m', m = m' + 1 := ⟨m - 1, by omega⟩
      have hi : (i : Int) < V 17 0 := by omega
      have k34 : (V 18 i = 8 ∨ V 18 i = 9) → wz (q_X5_movePlaces_b34 N (q_X5_movePlaces_b2 N fu) i V) (fun _ V' => fr [19] V V' ∧ mvd V i (i + (m' + 1)) V') := by
        intro h89
        have h40 := hr i (by omega) (by omega) h89
        unfold q_X5_movePlaces_b34
        rw [cL_eq (e_xfirst hi)]
        refine wp_aR (by omega) ?_
        have es : q_X3_setFirstNumber N i (V 27 (V 19 i).toNat) V = some (0, 0, pz_u V 19 i (V 27 (V 19 i).toNat)) := wz_to (by
          unfold q_X3_setFirstNumber
          refine wp_aW (by omega) ?_
          exact wp_rT ⟨rfl, rfl, rfl⟩)
        rw [cL_eq es]
        unfold q_X5_movePlaces_b55
        refine wp_lw (by omega) ?_
        have hfr : fr [19] V (pz_u V 19 i (V 27 (V 19 i).toNat)) := fr_u (by simp)
        refine wp_mono (ih m' (i + 1) (pz_u V 19 i (V 27 (V 19 i).toNat)) ?_ ?_ ?_ (by omega) (fun j h8 h7 => ?_)) (fun _ _ V9 h9 => ⟨h9.1, hfr.trans h9.2.1, fun j => ?_⟩)
        · rw [hfr 17 (by decide), h1]; omega
        · rw [hfr 17 (by decide)]; exact h2
        · rw [hfr 17 (by decide)]; exact h3
        · rw [hfr 18 (by decide), pu_row, up_app, if_neg (by omega)]; exact hr j (by omega) (by omega)
        · rw [h9.2.2 j, hfr 18 (by decide), hfr 27 (by decide), pu_row, up_app]
          by_cases hji : j = i
          · subst hji
            rw [if_neg (by omega), if_pos rfl, if_pos ⟨by omega, h89⟩]
          · rw [if_neg hji]
            by_cases hc : (i ≤ j ∧ j < i + (m' + 1)) ∧ (V 18 j = 8 ∨ V 18 j = 9)
            · rw [if_pos hc, if_pos ⟨by omega, hc.2⟩]
            · rw [if_neg hc, if_neg (fun h6 => hc ⟨by omega, h6.2⟩)]
      have k55 : ¬ (V 18 i = 8 ∨ V 18 i = 9) → wz (q_X5_movePlaces_b55 N (q_X5_movePlaces_b2 N fu) i V) (fun _ V' => fr [19] V V' ∧ mvd V i (i + (m' + 1)) V') := by
        intro h89
        unfold q_X5_movePlaces_b55
        refine wp_lw (by omega) ?_
        refine wp_mono (ih m' (i + 1) V (by omega) h2 h3 (by omega) (fun j h8 h7 => hr j (by omega) (by omega))) (fun _ _ V9 h9 => ⟨h9.1, h9.2.1, fun j => ?_⟩)
        rw [h9.2.2 j]
        by_cases hji : j = i
        · subst hji
          rw [if_neg (by omega), if_neg (fun h6 => h89 h6.2)]
        · by_cases hc : (i ≤ j ∧ j < i + (m' + 1)) ∧ (V 18 j = 8 ∨ V 18 j = 9)
          · rw [if_pos hc, if_pos ⟨by omega, hc.2⟩]
          · rw [if_neg hc, if_neg (fun h6 => hc ⟨by omega, h6.2⟩)]
      rw [cL_eq (e_xword hi)]
      refine wp_lI ?_
      refine wp_if (fun h8 => k34 (Or.inl h8)) (fun h8 => ?_)
      refine wp_lI ?_
      refine wp_if (fun h7 => k55 (fun h6 => h6.elim h8 h7)) (fun h7 => k34 (Or.inr (Decidable.not_not.mp h7)))
