/-! plain: safety alone -/
theorem e_pat {f i : Nat} {V : pvM} (hf : f < 493) (h22 : 0 ≤ V 22 f ∧ V 22 f + i < V 17 0 ∧ V 17 0 ≤ 100000) (N : Nat) : q_X5_wordAt N f i V = some (0, V 18 ((V 22 f).toNat + i), V) ∧ q_X5_firstNumberAt N f i V = some (0, V 19 ((V 22 f).toNat + i), V) ∧ q_X5_secondNumberAt N f i V = some (0, V 20 ((V 22 f).toNat + i), V) ∧ q_X5_isStepAt N f i V = some (0, (if V 21 ((V 22 f).toNat + i) = 1 then 1 else 0), V) := by
  have e1 : (((V 22 f).toNat + i : Nat) : Int) = V 22 f + i := by omega
  have e2 : (((V 22 f).toNat + i : Nat) : Int) < V 17 0 := by omega
  refine ⟨wz_to ?_, wz_to ?_, wz_to ?_, wz_to ?_⟩
  · unfold q_X5_wordAt
    refine wp_aR (by omega) ?_
    rw [show ((f : Int)).toNat = f by omega]
    refine wp_lw (by omega) ?_
    rw [← e1, cL_eq (e_xword e2)]
    exact wp_rT ⟨rfl, rfl, rfl⟩
  · unfold q_X5_firstNumberAt
    refine wp_aR (by omega) ?_
    rw [show ((f : Int)).toNat = f by omega]
    refine wp_lw (by omega) ?_
    rw [← e1, cL_eq (e_xfirst e2)]
    exact wp_rT ⟨rfl, rfl, rfl⟩
  · unfold q_X5_secondNumberAt
    refine wp_aR (by omega) ?_
    rw [show ((f : Int)).toNat = f by omega]
    refine wp_lw (by omega) ?_
    rw [← e1, cL_eq (e_xsecond e2)]
    exact wp_rT ⟨rfl, rfl, rfl⟩
  · unfold q_X5_isStepAt
    refine wp_aR (by omega) ?_
    rw [show ((f : Int)).toNat = f by omega]
    refine wp_lw (by omega) ?_
    rw [← e1, cL_eq (e_isStep e2)]
    refine wp_bT ?_ (wp_rT ⟨rfl, rfl, rfl⟩)
    split
    · exact Or.inr rfl
    · exact Or.inl rfl
theorem RW_le {V : pvM} (h : RW V) : V 17 0 ≤ 100000 := by
  have := h.1
  unfold capS at this; omega
def aS (V : pvM) (t : Nat) (V' : pvM) : Prop := (t = 0 ∧ V' = V) ∨ ((t = 1 ∨ t = 2) ∧ V' = thV V)
set_option maxHeartbeats 4000000 in
set_option maxRecDepth 100000 in
theorem s_plain {N : Nat} {f i x : Int} {V : pvM} (hR : RM V) (hP : PI V) (hW : RW V) (hM : MM V) : wp (q_X10_plain N f i x V) (fun t _ V' => aS V t V') := by
  have hm := hM.1
  have hn := hP.1
  have hL := hM.2.2
  have hcap := RW_le hW
  have hW2 := hW.2.2
  unfold q_X10_plain
  by_cases hf : 0 ≤ f ∧ f < V 1 6
  · rw [cL_eq e_hasFunction, if_pos hf, if_neg (by decide)]
    refine wp_if (fun _ => wp_th hR (Or.inr ⟨Or.inl rfl, rfl⟩)) (fun h0 => ?_)
    refine wp_if (fun _ => wp_th hR (Or.inr ⟨Or.inl rfl, rfl⟩)) (fun h1 => wp_lI ?_)
    refine wp_if (fun _ => ?_) (fun _ => wp_th hR (Or.inr ⟨Or.inl rfl, rfl⟩))
    rw [cL_eq (e_isMade hm)]
    refine wp_if (fun h2 => ?_) (fun _ => wp_th hR (Or.inr ⟨Or.inr rfl, rfl⟩))
    have hLW := (hL (by omega)).1
    rw [cL_eq (plen_low hP hLW hf)]
    refine wp_if (fun h3 => ?_) (fun _ => wp_th hR (Or.inr ⟨Or.inl rfl, rfl⟩))
    have h4 := hLW.2.2.1 f.toNat (by omega)
    have h5 := hLW.2.2.2.2.2 f.toNat (by omega)
    simp only [SS] at h5
    have e := e_pat (f := f.toNat) (i := i.toNat) (V := V) (by omega) (by rw [h4.1]; omega) N
    rw [show ((f.toNat : Nat) : Int) = f by omega, show ((i.toNat : Nat) : Int) = i by omega] at e
    refine wp_if (fun _ => wp_lI ?_) (fun _ => ?_)
    · refine wp_if (fun _ => ?_) (fun _ => ?_)
      · rw [cL_eq e.2.2.1]; exact wp_rT (Or.inl ⟨rfl, rfl⟩)
      · rw [cL_eq e.2.1]; exact wp_rT (Or.inl ⟨rfl, rfl⟩)
    · rw [cL_eq e.1]; exact wp_rT (Or.inl ⟨rfl, rfl⟩)
  · rw [cL_eq e_hasFunction, if_neg hf, if_pos rfl]
    exact wp_th hR (Or.inr ⟨Or.inl rfl, rfl⟩)
def mS (V V' : pvM) : Prop := ∃ c : Int, V' = pz_u V 45 0 c
set_option maxHeartbeats 4000000 in
set_option maxRecDepth 100000 in
theorem s_mplain {N : Nat} {f i x : Int} {V : pvM} (hP : PI V) (hM : MM V) (hI : RI V) : wz (q_X11_plain N f i x V) (fun _ V' => mS V V') := by
  have hm := hM.1
  have hn := hP.1
  have hm2 := hM.2.1
  have i1 := hI.1
  have e_f : q_X11_isFunction N f V = some (0, (if 0 ≤ f ∧ f < V 1 6 then 1 else 0), V) := by rw [← i1]; exact e_misFunction
  have hL : V 16 10 = 1 → (0 ≤ f ∧ f < V 1 6) → V 57 f.toNat ≤ 1480 := fun h hf => by
    rw [((hM.2.2 h).2.2.2.2 f.toNat (by omega)).1]
    have h1 := (hP.2.1 f.toNat (by omega)).2
    have h2 := ps_le (n := (V 9 f.toNat).toNat) hP (fun k hk => (hM.2.2 h).1.1.bd (f := f.toNat) (k := k) (by omega) (by omega)) (V 9 f.toNat).toNat (Nat.le_refl _)
    omega
  have no : ∀ c : Int, mS V (pz_u V 45 0 c) := fun c => ⟨c, rfl⟩
  unfold q_X11_plain
  rw [cL_eq e_f]
  have k0 : wz (q_X11_plain_b26 N f i x 0 V) (fun _ V' => mS V V') := by
    unfold q_X11_plain_b26 q_X11_plain_b56
    rw [if_pos rfl]
    refine wp_lI (wp_gR ?_)
    rw [cL_eq (e_goes1 rfl), if_neg (by decide)]
    exact wp_lI (wp_rT ⟨rfl, no 1⟩)
  by_cases hf : 0 ≤ f ∧ f < V 1 6
  · rw [if_pos hf, if_neg (by decide)]
    refine wp_if (fun _ => wp_lI k0) (fun h0 => wp_lI ?_)
    refine wp_if (fun _ => wp_lI k0) (fun h1 => ?_)
    refine wp_if (fun _ => wp_lI k0) (fun h2 => wp_lI ?_)
    unfold q_X11_plain_b26
    rw [if_neg (by decide)]
    refine wp_gR ?_
    refine wp_if (fun h3 => ?_) (fun h3 => ?_)
    · refine wp_lI ?_
      unfold q_X11_plain_b56
      refine wp_gR ?_
      rw [cL_eq (e_goes2 (by decide) h3), if_neg (by decide)]
      exact wp_lI (wp_rT ⟨rfl, no 2⟩)
    · have hLL := hL (by omega) hf
      refine wp_aR (by omega) ?_
      refine wp_if (fun h4 => ?_) (fun h4 => ?_)
      · refine wp_lI ?_
        unfold q_X11_plain_b56
        refine wp_gR ?_
        rw [cL_eq (e_goes1 rfl), if_neg (by decide)]
        exact wp_lI (wp_rT ⟨rfl, no 1⟩)
      · refine wp_lI ?_
        unfold q_X11_plain_b56
        refine wp_gR ?_
        rw [cL_eq (e_goesT (by decide) h3), if_pos (by decide)]
        refine wp_lI (wp_lw (by omega) (wp_lw (by omega) ?_))
        refine wp_if (fun _ => wp_lI ?_) (fun _ => wp_aR (by omega) (wp_rT ⟨rfl, no 0⟩))
        refine wp_if (fun _ => wp_aR (by omega) (wp_rT ⟨rfl, no 0⟩)) (fun _ => wp_aR (by omega) (wp_rT ⟨rfl, no 0⟩))
  · rw [if_neg hf, if_pos rfl]
    exact wp_lI k0
/-! made -/
theorem ck_onto {V : pvM} {f : Nat} : ∀ (n d : Nat), d < ck V f n → ∃ p, p < n ∧ cW V f p = 13 ∧ d = ck V f p
  | 0, d, h => by simp only [ck] at h; omega
  | n + 1, d, h => by
    by_cases h1 : d < ck V f n
    · obtain ⟨p, h2, h3⟩ := ck_onto n d h1
      exact ⟨p, by omega, h3⟩
    · simp only [ck, cn] at h
      by_cases h13 : cW V f n = 13
      · rw [if_pos h13] at h
        exact ⟨n, by omega, h13, by omega⟩
      · rw [if_neg h13] at h; omega
theorem CC_onto {V : pvM} : ∀ (n c : Nat), c < CC V n → ∃ f p, f < n ∧ p < (V 9 f).toNat ∧ cW V f p = 13 ∧ c = CC V f + ck V f p
  | 0, c, h => by simp only [CC] at h; omega
  | n + 1, c, h => by
    by_cases h1 : c < CC V n
    · obtain ⟨f, p, h2, h3⟩ := CC_onto n c h1
      exact ⟨f, p, by omega, h3⟩
    · simp only [CC] at h
      obtain ⟨p, h2, h3, h4⟩ := ck_onto (V := V) (f := n) (V 9 n).toNat (c - CC V n) (by omega)
      exact ⟨n, p, by omega, h2, h3, by omega⟩
theorem cls_eq {V : pvM} (hL : LOW V) (hM : MLW V) {c : Nat} (hc : (c : Int) < V 16 9) : V 63 c = V 23 c ∧ V 62 c = V 24 c := by
  rw [hL.2.1] at hc
  obtain ⟨f, p, h1, h2, h3, h4⟩ := CC_onto (V := V) (V 1 6).toNat c (by omega)
  have a1 := ((hL.2.2.1 f (by omega)).2.2 p (by omega)).2 h3
  have a2 := (hM.2.2.2 f (by omega)).2 p (by omega) h3
  rw [← h4] at a1 a2
  rw [a1.1, a1.2, a2.1, a2.2]
  exact ⟨rfl, rfl⟩
def tg_made (V : pvM) (c x : Int) : Nat := if c < 0 ∨ x < 0 ∨ 2 < x then 1 else if V 16 10 = 0 then 2 else if V 16 9 ≤ c then 1 else 0
def vl_made (V : pvM) (c x : Int) : Int := if x = 0 then V 24 c.toNat else if x = 1 then V 23 c.toNat else V 8 (V 23 c.toNat).toNat + 2
set_option maxHeartbeats 4000000 in
set_option maxRecDepth 100000 in
theorem s_made {N : Nat} {c x : Int} {V : pvM} (hR : RM V) (hP : PI V) (hM : MM V) : wp (q_X10_made N c x V) (aP (tg_made V c x) (vl_made V c x) V) := by
  have hm := hM.1
  have hn := hP.1
  unfold q_X10_made
  refine wp_if (fun h0 => wp_th hR (aP_thr (by unfold tg_made; rw [if_pos (by omega)]) (by decide) rfl)) (fun h0 => ?_)
  refine wp_if (fun h1 => wp_th hR (aP_thr (by unfold tg_made; rw [if_pos (by omega)]) (by decide) rfl)) (fun h1 => wp_lI ?_)
  refine wp_if (fun h2 => ?_) (fun h2 => wp_th hR (aP_thr (by unfold tg_made; rw [if_pos (by omega)]) (by decide) rfl))
  rw [cL_eq (e_isMade hm)]
  refine wp_if (fun h3 => ?_) (fun h3 => wp_th hR (aP_thr (by unfold tg_made; rw [if_neg (by omega), if_pos (by omega)]) (by decide) rfl))
  rw [cL_eq e_classTotal]
  have hL := (hM.2.2 (by omega)).1
  have hcc := (SS_le hP hL.1 (V 1 6).toNat (by omega)).2
  refine wp_if (fun h4 => ?_) (fun h4 => wp_th hR (aP_thr (by unfold tg_made; rw [if_neg (by omega), if_neg (by omega), if_pos (by omega)]) (by decide) rfl))
  have ht : tg_made V c x = 0 := by unfold tg_made; rw [if_neg (by omega), if_neg (by omega), if_neg (by omega)]
  have h169 := hL.2.1
  obtain ⟨c1, c2, c3⟩ := hL.2.2.2.1 c.toNat (by omega)
  have c4 := (hP.2.1 (V 23 c.toNat).toNat (by omega)).1
  refine wp_if (fun h5 => wp_lI ?_) (fun h5 => ?_)
  · refine wp_if (fun h6 => ?_) (fun h6 => ?_)
    · have em : q_X5_methodOfClass N c V = some (0, (((V 1 6).toNat + c.toNat : Nat) : Int), V) := wz_to (by
        unfold q_X5_methodOfClass
        rw [cL_eq e_functionTotal]
        refine wp_lw (by omega) ?_
        exact wp_rT ⟨rfl, by omega, rfl⟩)
      rw [cL_eq em, cL_eq (e_plen (by omega))]
      refine wp_rT (aP_ret ht ?_)
      obtain ⟨s, s1, s2, s3, s4⟩ := hL.2.2.2.2.1 c.toNat (by omega)
      have hll : ((mL V c.toNat).length : Int) = V 8 (V 23 c.toNat).toNat + 2 := by unfold mL; rw [mG_len]; omega
      rw [s1, s2, pv_w_id (by omega)]
      unfold vl_made
      rw [if_neg h5, if_neg h6]
      omega
    · have ef : q_X5_functionOfClass N c V = some (0, V 23 c.toNat, V) := by unfold q_X5_functionOfClass; rw [e_aR (by omega)]; rfl
      rw [cL_eq ef]
      refine wp_rT (aP_ret ht ?_)
      unfold vl_made
      rw [if_neg h5, if_pos (by omega)]
  · have ef : q_X5_valuesOfClass N c V = some (0, V 24 c.toNat, V) := by unfold q_X5_valuesOfClass; rw [e_aR (by omega)]; rfl
    rw [cL_eq ef]
    refine wp_rT (aP_ret ht ?_)
    unfold vl_made
    rw [if_pos (by omega)]
set_option maxHeartbeats 4000000 in
set_option maxRecDepth 100000 in
theorem s_mmade {N : Nat} {c x : Int} {V : pvM} (hP : PI V) (hM : MM V) (hI : RI V) : wz (q_X11_made N c x V) (mP (tg_made V c x) (vl_made V c x) V) := by
  have hm := hM.1
  have hn := hP.1
  have hm2 := hM.2.1
  have i2 := hI.2.1
  have k0 : tg_made V c x = 1 → wz (q_X11_made_b34 N c x 0 V) (mP (tg_made V c x) (vl_made V c x) V) := by
    intro ht
    unfold q_X11_made_b34
    refine wp_gR ?_
    rw [cL_eq (e_goes1 rfl), if_neg (by decide)]
    exact wp_lI (wp_rT ⟨rfl, mP_no1 ht⟩)
  unfold q_X11_made
  refine wp_if (fun h0 => wp_lI (k0 (by unfold tg_made; rw [if_pos (by omega)]))) (fun h0 => ?_)
  refine wp_if (fun h1 => wp_lI (k0 (by unfold tg_made; rw [if_pos (by omega)]))) (fun h1 => wp_lI ?_)
  refine wp_if (fun h2 => wp_lI (k0 (by unfold tg_made; rw [if_pos (by omega)]))) (fun h2 => wp_gR ?_)
  refine wp_if (fun h3 => wp_lI ?_) (fun h3 => wp_gR ?_)
  · unfold q_X11_made_b34
    refine wp_gR ?_
    rw [cL_eq (e_goes2 (by decide) h3), if_neg (by decide)]
    exact wp_lI (wp_rT ⟨rfl, mP_no2 (by unfold tg_made; rw [if_neg (by omega), if_pos (by omega)])⟩)
  · obtain ⟨hL, hML⟩ := hM.2.2 (by omega)
    have e21 : V 45 21 = V 16 9 := hML.1.trans hL.2.1.symm
    have hcc := (SS_le hP hL.1 (V 1 6).toNat (by omega)).2
    have h169 := hL.2.1
    refine wp_if (fun h4 => wp_lI (k0 (by unfold tg_made; rw [if_neg (by omega), if_neg (by omega), if_pos (by omega)]))) (fun h4 => wp_lI ?_)
    have ht : tg_made V c x = 0 := by unfold tg_made; rw [if_neg (by omega), if_neg (by omega), if_neg (by omega)]
    have hce := cls_eq hL hML (c := c.toNat) (by omega)
    obtain ⟨c1, c2, c3⟩ := hL.2.2.2.1 c.toNat (by omega)
    have c4 := (hP.2.1 (V 23 c.toNat).toNat (by omega)).1
    unfold q_X11_made_b34
    refine wp_gR ?_
    rw [cL_eq (e_goesT (by decide) h3), if_pos (by decide)]
    refine wp_if (fun h5 => wp_lI ?_) (fun h5 => ?_)
    · refine wp_if (fun h6 => ?_) (fun h6 => ?_)
      · refine wp_aR (by omega) ?_
        rw [pu_off (show (63 : Nat) ≠ 45 by decide), hce.1]
        refine wp_aR (by omega) ?_
        rw [pu_off (show (46 : Nat) ≠ 45 by decide), i2]
        refine wp_lI (wp_lw (by omega) (wp_rT ⟨rfl, mP_ok ht ?_⟩))
        unfold vl_made
        rw [if_neg h5, if_neg h6]
      · refine wp_aR (by omega) ?_
        rw [pu_off (show (63 : Nat) ≠ 45 by decide), hce.1]
        refine wp_rT ⟨rfl, mP_ok ht ?_⟩
        unfold vl_made
        rw [if_neg h5, if_pos (by omega)]
    · refine wp_aR (by omega) ?_
      rw [pu_off (show (62 : Nat) ≠ 45 by decide), hce.2]
      refine wp_rT ⟨rfl, mP_ok ht ?_⟩
      unfold vl_made
      rw [if_pos (by omega)]
/-! character -/
def tg_char (V : pvM) (x : Int) : Nat := if x < 0 then 1 else if V 16 10 = 0 then 2 else if V 2 6 ≤ x then 1 else 0
theorem PI.lt {V : pvM} (hP : PI V) : 0 ≤ V 2 6 ∧ V 2 6 ≤ 96 := by
  have h1 := hP.2.2.2.2.2.1
  have h2 := ls_bd (L := V 3) (H := V 4) (V 2 5).toNat (fun q hq => by have := h1.hb q (by omega); omega)
  have h3 := hP.2.2.2.2.1
  rw [h1.2.1]; omega
set_option maxHeartbeats 4000000 in
set_option maxRecDepth 100000 in
theorem s_char {N : Nat} {x : Int} {V : pvM} (hR : RM V) (hP : PI V) (hM : MM V) : wp (q_X10_character N x V) (aP (tg_char V x) (V 7 x.toNat) V) := by
  have hm := hM.1
  have hlt := hP.lt
  unfold q_X10_character
  refine wp_if (fun h0 => ?_) (fun h0 => wp_th hR (aP_thr (by unfold tg_char; rw [if_pos (by omega)]) (by decide) rfl))
  rw [cL_eq (e_isMade hm)]
  refine wp_if (fun h3 => ?_) (fun h3 => wp_th hR (aP_thr (by unfold tg_char; rw [if_neg (by omega), if_pos (by omega)]) (by decide) rfl))
  rw [cL_eq e_recipes, cL_eq e_letterTotal]
  refine wp_if (fun h4 => ?_) (fun h4 => wp_th hR (aP_thr (by unfold tg_char; rw [if_neg (by omega), if_neg (by omega), if_pos (by omega)]) (by decide) rfl))
  have ef : q_X7_letterAt N x V = some (0, V 7 x.toNat, V) := by unfold q_X7_letterAt; rw [e_aR (by omega)]; rfl
  rw [cL_eq e_recipes, cL_eq ef]
  exact wp_rT (aP_ret (by unfold tg_char; rw [if_neg (by omega), if_neg (by omega), if_neg (by omega)]) rfl)
set_option maxHeartbeats 4000000 in
set_option maxRecDepth 100000 in
theorem s_mchar {N : Nat} {x : Int} {V : pvM} (hP : PI V) (hM : MM V) : wz (q_X11_character N x V) (mP (tg_char V x) (V 7 x.toNat) V) := by
  have hm := hM.1
  have hm2 := hM.2.1
  have hlt := hP.lt
  have k0 : tg_char V x = 1 → wz (q_X11_character_b25 N x 0 V) (mP (tg_char V x) (V 7 x.toNat) V) := by
    intro ht
    unfold q_X11_character_b25
    refine wp_gR ?_
    rw [cL_eq (e_goes1 rfl), if_pos (by decide)]
    exact wp_lI (wp_rT ⟨rfl, mP_no1 ht⟩)
  unfold q_X11_character
  refine wp_if (fun h0 => wp_lI (k0 (by unfold tg_char; rw [if_pos (by omega)]))) (fun h0 => wp_gR ?_)
  refine wp_if (fun h3 => wp_lI ?_) (fun h3 => wp_gR ?_)
  · unfold q_X11_character_b25
    refine wp_gR ?_
    rw [cL_eq (e_goes2 (by decide) h3), if_pos (by decide)]
    exact wp_lI (wp_rT ⟨rfl, mP_no2 (by unfold tg_char; rw [if_neg (by omega), if_pos (by omega)])⟩)
  · obtain ⟨hL, hML⟩ := hM.2.2 (by omega)
    have e24 := hML.2.1
    refine wp_if (fun h4 => wp_lI (k0 (by unfold tg_char; rw [if_neg (by omega), if_neg (by omega), if_pos (by omega)]))) (fun h4 => wp_lI ?_)
    unfold q_X11_character_b25
    refine wp_gR ?_
    rw [cL_eq (e_goesT (by decide) h3), if_neg (by decide)]
    refine wp_aR (by omega) ?_
    rw [pu_off (show (64 : Nat) ≠ 45 by decide), hML.2.2.1 x.toNat (by omega)]
    exact wp_rT ⟨rfl, mP_ok (by unfold tg_char; rw [if_neg (by omega), if_neg (by omega), if_neg (by omega)]) rfl⟩
/-! told and said -/
def kd (v : Int) : Int := pv_w (pv_shr v 32)
def ct (v : Int) : Int := pv_w v
theorem e_kindOf {N : Nat} {v : Int} {V : pvM} : q_X10_kindOf N v V = some (0, kd v, V) := rfl
theorem e_contentOf {N : Nat} {v : Int} {V : pvM} : q_X10_contentOf N v V = some (0, ct v, V) := rfl
def tg_told (x : Int) : Nat := if x < 0 ∨ 3 < x then 1 else 0
def vl_told (V : pvM) (x : Int) : Int := if x = 0 then V 39 7 else if x = 1 then V 28 7 else if x = 3 then kd (V 28 9) else if kd (V 28 9) = 1 then ct (V 28 9) else 0
def vm_told (V : pvM) (x : Int) : Int := if x = 0 then V 45 31 else if x = 1 then V 45 27 else if x = 3 then V 45 29 else if V 45 29 = 1 then V 45 30 else 0
set_option maxHeartbeats 4000000 in
set_option maxRecDepth 100000 in
theorem s_told {N : Nat} {x : Int} {V : pvM} (hR : RM V) : wp (q_X10_told N x V) (aP (tg_told x) (vl_told V x) V) := by
  have e1 : q_X4_outputLength N V = some (0, V 39 7, V) := rfl
  have e2 : q_X4_stepTotal N V = some (0, V 28 7, V) := rfl
  have e3 : q_X4_returnedKind N V = some (0, kd (V 28 9), V) := rfl
  have e4 : q_X4_returnedNumber N V = some (0, (if kd (V 28 9) = 1 then ct (V 28 9) else 0), V) := wz_to (by
    unfold q_X4_returnedNumber
    rw [cL_eq e3]
    refine wp_lI ?_
    refine wp_if (fun h => ?_) (fun h => ?_)
    · exact wp_lI (wp_rT ⟨rfl, by rw [if_neg h], rfl⟩)
    · refine wp_gR ?_
      rw [cL_eq e_contentOf]
      exact wp_rT ⟨rfl, by rw [if_pos (Decidable.not_not.mp h)], rfl⟩)
  unfold q_X10_told
  refine wp_if (fun h0 => ?_) (fun h0 => ?_)
  · rw [cL_eq e1]
    exact wp_rT (aP_ret (by unfold tg_told; rw [if_neg (by omega)]) (by unfold vl_told; rw [if_pos h0]))
  refine wp_if (fun h1 => ?_) (fun h1 => ?_)
  · rw [cL_eq e2]
    exact wp_rT (aP_ret (by unfold tg_told; rw [if_neg (by omega)]) (by unfold vl_told; rw [if_neg h0, if_pos h1]))
  refine wp_if (fun h2 => ?_) (fun h2 => ?_)
  · rw [cL_eq e4]
    exact wp_rT (aP_ret (by unfold tg_told; rw [if_neg (by omega)]) (by unfold vl_told; rw [if_neg h0, if_neg h1, if_neg (show ¬ x = 3 by omega)]))
  refine wp_if (fun h3 => ?_) (fun h3 => ?_)
  · rw [cL_eq e3]
    exact wp_rT (aP_ret (by unfold tg_told; rw [if_neg (by omega)]) (by unfold vl_told; rw [if_neg h0, if_neg h1, if_pos h3]))
  · exact wp_th hR (aP_thr (by unfold tg_told; rw [if_pos (by omega)]) (by decide) rfl)
set_option maxHeartbeats 4000000 in
set_option maxRecDepth 100000 in
theorem s_mtold {N : Nat} {x : Int} {V : pvM} : wz (q_X11_told N x V) (mP (tg_told x) (vm_told V x) V) := by
  unfold q_X11_told q_X11_told_b15
  repeat' (with_reducible first | refine wp_lw ?_ ?_ | refine wp_lI ?_ | refine wp_gR ?_ | refine wp_gW ?_ | refine wp_rT ?_ | refine wp_if (fun h => ?_) (fun h => ?_) | refine wp_bT ?_ ?_ | refine wp_aR ?_ ?_ | refine wp_aW ?_ ?_ | rw [cL_eq (e_goes1 rfl)] | rw [cL_eq (e_goesT (by decide) (by decide))])
  all_goals refine ⟨rfl, ?_⟩
  all_goals first | (exfalso; omega) | exact mP_no1 (by unfold tg_told; rw [if_pos (by omega)]) | refine mP_ok (by unfold tg_told; rw [if_neg (by omega)]) ?_
  all_goals (simp only [pu_app] at *; unfold vm_told; (repeat' split) <;> omega)
def OUT (V : pvM) : Prop := (0 ≤ V 39 7 ∧ V 39 7 ≤ 200) ∧ 0 ≤ V 45 31 ∧ V 45 31 ≤ 200
set_option maxHeartbeats 4000000 in
set_option maxRecDepth 100000 in
theorem s_said {N : Nat} {x : Int} {V : pvM} (hR : RM V) (hO : OUT V) : wp (q_X10_said N x V) (aP (if x < 0 ∨ V 39 7 ≤ x then 1 else 0) (V 44 x.toNat) V) := by
  have h9 := hO.1
  have e1 : q_X4_outputLength N V = some (0, V 39 7, V) := rfl
  unfold q_X10_said
  refine wp_if (fun h0 => wp_th hR (aP_thr (by rw [if_pos (by omega)]) (by decide) rfl)) (fun h0 => ?_)
  rw [cL_eq e1]
  refine wp_if (fun h1 => ?_) (fun h1 => wp_th hR (aP_thr (by rw [if_pos (by omega)]) (by decide) rfl))
  have e2 : q_X4_outputAt N x V = some (0, V 44 x.toNat, V) := by
    have e3 : q_X8_outputAt N x V = some (0, V 44 x.toNat, V) := by unfold q_X8_outputAt; rw [e_aR (by omega)]; rfl
    unfold q_X4_outputAt
    rw [cL_eq e3]; rfl
  rw [cL_eq e2]
  exact wp_rT (aP_ret (by rw [if_neg (by omega)]) rfl)
set_option maxHeartbeats 4000000 in
set_option maxRecDepth 100000 in
theorem s_msaid {N : Nat} {x : Int} {V : pvM} (hO : OUT V) : wz (q_X11_said N x V) (mP (if x < 0 ∨ V 45 31 ≤ x then 1 else 0) (V 66 x.toNat) V) := by
  have h9 := hO.2
  unfold q_X11_said q_X11_said_b18
  repeat' (with_reducible first | refine wp_lw ?_ ?_ | refine wp_lI ?_ | refine wp_gR ?_ | refine wp_gW ?_ | refine wp_rT ?_ | refine wp_if (fun h => ?_) (fun h => ?_) | refine wp_bT ?_ ?_ | refine wp_aR ?_ ?_ | refine wp_aW ?_ ?_ | rw [cL_eq (e_goes1 rfl)] | rw [cL_eq (e_goesT (by decide) (by decide))])
  all_goals first | omega | refine ⟨rfl, ?_⟩
  all_goals first | (exfalso; omega) | exact mP_no1 (by rw [if_pos (by omega)]) | refine mP_ok (by rw [if_neg (by omega)]) ?_
  all_goals rw [pu_off (by decide)]
