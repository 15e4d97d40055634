/-! THE REFERENCE'S LOWER -/
def mls : List Nat := [45, 53, 54, 55, 56, 57, 58, 59, 60, 61, 62, 63, 64, 65]
theorem pdl : ∀ c, c ∈ prog → c ∉ mls := by decide
theorem rdl : ∀ c, c ∈ [1, 2, 3, 6, 8, 9, 10, 11, 12, 46, 47, 48, 49, 50, 51, 52] → c ∉ mls := by decide
/-- what lower may change of the reference's own fields -/
def lfs : List Nat := [0, 10, 13, 21, 24]
set_option maxHeartbeats 4000000 in
set_option maxRecDepth 100000 in
theorem s_within {N f k : Nat} {h : Int} {V : pvM} (hN : 50 ≤ N) (hP : PI V) (hI : RI V) (hf : f < 12) (hk : k < 40) (hb : bd V f k) : wz (q_X11_within N (40 * (f : Int) + k) h V) (fun _ V' => V' = V) := by
  have e9 : (40 * (f : Int) + (k : Int)).toNat = 40 * f + k := by omega
  have eW : V 48 (40 * f + k) = cW V f k := by rw [hI.2.2.2.1]; rfl
  have eA : V 49 (40 * f + k) = cA V f k := by rw [hI.2.2.2.2.1]; rfl
  unfold q_X11_within q_X11_within_b52
  refine wp_aR (by omega) (wp_lI ?_)
  refine wp_if (fun h13 => ?_) (fun h13 => ?_)
  · refine wp_aR (by omega) (wp_lI ?_)
    refine wp_if (fun h15 => ?_) (fun h15 => ?_)
    · rw [cL_eq (e_mpops hN hP hI hf hk hb)]
      refine wp_lI ?_
      rw [cL_eq (e_mpushes hI hf hk)]
      exact wp_lI (wp_rT ⟨rfl, rfl⟩)
    · refine wp_aR (by omega) ?_
      rw [e9] at *
      rw [eA]
      rw [eW] at h15
      rw [cL_eq (e_mholes hN hP hI (hb.2.2.2.2.2 (Decidable.not_not.mp h15)))]
      refine wp_if (fun _ => ?_) (fun _ => ?_)
      · refine wp_lI (wp_lI (wp_lI ?_))
        refine wp_if (fun _ => wp_rT ⟨rfl, rfl⟩) (fun _ => ?_)
        refine wp_lI (wp_lI ?_)
        refine wp_if (fun _ => wp_rT ⟨rfl, rfl⟩) (fun _ => wp_lI (wp_lI (wp_rT ⟨rfl, rfl⟩)))
      · refine wp_lI (wp_lI ?_)
        refine wp_if (fun _ => wp_rT ⟨rfl, rfl⟩) (fun _ => ?_)
        refine wp_lI (wp_lI ?_)
        refine wp_if (fun _ => wp_rT ⟨rfl, rfl⟩) (fun _ => wp_lI (wp_lI (wp_rT ⟨rfl, rfl⟩)))
  · exact wp_lI (wp_lI (wp_rT ⟨rfl, rfl⟩))
set_option maxHeartbeats 4000000 in
set_option maxRecDepth 100000 in
theorem s_mmove {N f n : Nat} (hf : f < 12) (hn : n ≤ 1500) : ∀ (fu m i : Nat) (V : pvM), i + m = n → m + 1 ≤ fu → V 57 f = n → (∀ j : Nat, i ≤ j → j < n → (V 58 (1500 * f + j) = 8 ∨ V 58 (1500 * f + j) = 9) → 0 ≤ V 59 (1500 * f + j) ∧ V 59 (1500 * f + j) < 40) → wz (q_X11_lowerOne_b247 N fu f i V) (fun _ V' => fr [59] V V') := by
  intro fu
  induction fu with
  | zero => intro m i V h1 h2; omega
  | succ fu ih =>
    intro m i V h1 h2 h57 hr
    simp only [q_X11_lowerOne_b247]
    refine wp_aR (by omega) ?_
    rw [show ((f : Int)).toNat = f by omega, h57]
    refine wp_if (fun _ => wp_rT ⟨rfl, fr.refl _ _⟩) (fun h9 => ?_)
    refine wp_lI (wp_lw (by omega) (wp_lw (by omega) (wp_aR (by omega) (wp_lI ?_))))
    rw [show (1500 * (f : Int) + (i : Int)).toNat = 1500 * f + i by omega]
    have k312 : ∀ x : Int, wz (q_X11_lowerOne_b312 N (q_X11_lowerOne_b247 N fu) f i x (1500 * (f : Int) + i) V) (fun _ V' => fr [59] V V') := by
      intro x
      unfold q_X11_lowerOne_b312
      refine wp_aW (by omega) (wp_lw (by omega) ?_)
      rw [show (1500 * (f : Int) + (i : Int)).toNat = 1500 * f + i by omega]
      have hfr : fr [59] V (pz_u V 59 (1500 * f + i) x) := fr_u (by simp)
      refine wp_mono (ih (m - 1) (i + 1) _ (by omega) (by omega) ?_ (fun j h8 h7 => ?_)) (fun _ _ _ h6 => ⟨h6.1, hfr.trans h6.2⟩)
      · rw [hfr 57 (by decide)]; exact h57
      · rw [hfr 58 (by decide), pu_row, up_app, if_neg (by omega)]; exact hr j (by omega) h7
    have k292 : (V 58 (1500 * f + i) = 8 ∨ V 58 (1500 * f + i) = 9) → wz (q_X11_lowerOne_b292 N (q_X11_lowerOne_b247 N fu) f i (1500 * (f : Int) + i) (1500 * (f : Int) + i) V) (fun _ V' => fr [59] V V') := by
      intro h89
      unfold q_X11_lowerOne_b292
      refine wp_aR (by omega) ?_
      rw [show (1500 * (f : Int) + (i : Int)).toNat = 1500 * f + i by omega]
      have h8 := hr i (by omega) (by omega) h89
      exact wp_aR (by omega) (k312 _)
    refine wp_if (fun h8 => k292 (Or.inl h8)) (fun h8 => ?_)
    refine wp_aR (by omega) (wp_lI ?_)
    rw [show (1500 * (f : Int) + (i : Int)).toNat = 1500 * f + i by omega]
    refine wp_if (fun h7 => wp_aR (by omega) (k312 _)) (fun h7 => k292 (Or.inr (Decidable.not_not.mp h7)))
def CLR (V0 V : pvM) (f p : Nat) : Prop := cW V0 f p = 13 → V 63 (CC V0 f + ck V0 f p) = cA V0 f p ∧ V 62 (CC V0 f + ck V0 f p) = cB V0 f p
/-- one group of the reference -/
def QI (V0 V : pvM) (f p : Nat) : Prop := fr mls V0 V ∧ f45 [13, 21] V0 V ∧ V 64 = V0 64 ∧ V 65 = V0 65 ∧ V 45 21 = ((CC V0 f + ck V0 f p : Nat) : Int) ∧ V 57 f = ((ps V0 f p : Nat) : Int) ∧ (∀ g, g < f → V 57 g = ((ps V0 g (V0 9 g).toNat : Nat) : Int)) ∧ (∀ g, g < f → ∀ q : Nat, (q : Int) < V0 9 g → CLR V0 V g q) ∧ (∀ q, q < p → CLR V0 V f q) ∧ okP V f
theorem CLR.keep {V0 V V' : pvM} {f p C : Nat} (h : CLR V0 V f p) (hk : ∀ c : Nat, c < C → V' 63 c = V 63 c ∧ V' 62 c = V 62 c) (hC : CC V0 f + ck V0 f (p + 1) ≤ C) : CLR V0 V' f p := by
  intro h13
  have h1 := h h13
  have h2 : CC V0 f + ck V0 f p < C := by simp only [ck, cn] at hC; rw [if_pos h13] at hC; omega
  rw [(hk _ h2).1, (hk _ h2).2]
  exact h1
def QE (V0 V : pvM) (f : Nat) : Prop := fr mls V0 V ∧ f45 [13, 21] V0 V ∧ V 64 = V0 64 ∧ V 65 = V0 65 ∧ V 45 21 = ((CC V0 f : Nat) : Int) ∧ (∀ g, g < f → V 57 g = ((ps V0 g (V0 9 g).toNat : Nat) : Int)) ∧ (∀ g, g < f → ∀ q : Nat, (q : Int) < V0 9 g → CLR V0 V g q)
set_option maxHeartbeats 4000000 in
set_option maxRecDepth 100000 in
theorem s_mone_b26 {N f n : Nat} {V0 : pvM} (hN : 3000 ≤ N) (hP : PI V0) (hI : RI V0) (hR : RT V0) (hf : (f : Int) < V0 1 6) (hn : V0 9 f = n) : ∀ (fu p : Nat) (V : pvM), p ≤ n → n + 1 ≤ fu + p → QI V0 V f p → wz (q_X11_lowerOne_b26 N fu f p V) (fun _ V' => QE V0 V' (f + 1)) := by
  have hn12 := hP.1
  have hlen := (hP.2.1 f (by omega)).2
  have hbd : ∀ k, k < n → bd V0 f k := fun k hk => hR.bd hf (by omega)
  have hss := SS_le hP hR f (by omega)
  have e9n : (V0 9 f).toNat = n := by omega
  intro fu
  induction fu with
  | zero => intro p V h1 h2; omega
  | succ fu ih =>
    intro p V h1 h2 hQ
    obtain ⟨i1, i2, i3, i4, i5, i6, i7, i8, i9, i10⟩ := hQ
    have hps := ps_le hP hbd p h1
    have hck := ck_le V0 f p
    have e47 : V 47 f = n := by rw [i1 47 (by decide), hI.2.2.1]; exact hn
    simp only [q_X11_lowerOne_b26]
    refine wp_aR (by omega) ?_
    rw [show ((f : Int)).toNat = f by omega, e47]
    refine wp_if (fun h9 => ?_) (fun h9 => ?_)
    · have hp : p = n := by omega
      subst hp
      refine wp_lI ?_
      refine wp_mono (s_mmove (N := N) (n := ps V0 f p) (by omega) (by omega) N (ps V0 f p) 0 V (by omega) (by omega) i6 (fun j _ hj h89 => i10 j (by omega) h89)) (fun _ _ V9 h8 => ⟨h8.1, ?_⟩)
      have f9 := h8.2
      refine ⟨i1.trans (f9.mono (by decide)), i2.trans (f45.of_fr f9 (by decide)), by rw [f9 64 (by decide)]; exact i3, by rw [f9 65 (by decide)]; exact i4, ?_, fun g hg => ?_, fun g hg q hq => ?_⟩
      · rw [f9 45 (by decide), i5]; simp only [CC]; rw [e9n]
      · rw [f9 57 (by decide)]
        by_cases hgf : g = f
        · subst hgf; rw [i6, e9n]
        · exact i7 g (by omega)
      · unfold CLR
        rw [f9 63 (by decide), f9 62 (by decide)]
        by_cases hgf : g = f
        · subst hgf; exact i9 q (by omega)
        · exact i8 g (by omega) q hq
    · have hpn : p < n := by omega
      have hbp := hbd p hpn
      have hgl : gl V0 f p ≤ 37 := grp_len hP hbp 0
      have e9 : (40 * (f : Int) + (p : Int)).toNat = 40 * f + p := by omega
      refine wp_lI (wp_lw (by omega) (wp_lw (by omega) (wp_aR (by omega) (wp_aW (by omega) (wp_aR (by omega) ?_)))))
      rw [show ((f : Int)).toNat = f by omega, show ((p : Int)).toNat = p by omega]
      obtain ⟨V1, hV1⟩ : ∃ V1, V1 = pz_u V 61 p (V 57 f) := ⟨_, rfl⟩
      rw [← hV1]
      have f1 : fr [61] V V1 := by rw [hV1]; exact fr_u (by simp)
      -- behind the heights
      have k108 : ∀ (x : Int), wz (q_X11_lowerOne_b108 N (q_X11_lowerOne_b26 N fu) f p (40 * (f : Int) + p) x f V1) (fun _ V' => QE V0 V' (f + 1)) := by
        intro x
        unfold q_X11_lowerOne_b108
        refine wp_aW (by omega) ?_
        rw [show ((f : Int)).toNat = f by omega]
        obtain ⟨V2, hV2⟩ : ∃ V2, V2 = pz_u V1 56 f x := ⟨_, rfl⟩
        rw [← hV2]
        have f2 : fr [61, 56] V V2 := by rw [hV2]; exact (f1.mono (by decide)).trans (fr_u (by simp))
        have f02 : fr mls V0 V2 := i1.trans (f2.mono (by decide))
        have c45 : V2 45 = V 45 := f2 45 (by decide)
        have hP2 : PI V2 := hP.fr f02 pdl
        have hI2 : RI V2 := hI.fr f02 rdl (by rw [c45]; exact i2 1 (by decide)) (by rw [c45]; exact i2 7 (by decide))
        have hbe := bd_fr f02 pdl f p
        have hb2 : bd V2 f p := by rw [hbe.1]; exact hbp
        have eW : V2 48 (40 * f + p) = cW V0 f p := by rw [hI2.2.2.2.1, ← hbe.2.1]; rfl
        have eA : V2 49 (40 * f + p) = cA V0 f p := by rw [hI2.2.2.2.2.1, ← hbe.2.2.1]; rfl
        have eB : V2 50 (40 * f + p) = cB V0 f p := by rw [hI2.2.2.2.2.2.1, ← hbe.2.2.2.1]; rfl
        have hO2 : OKP f V2 (gl V0 f p) := by
          refine ⟨by rw [f2 57 (by decide)]; omega, ?_⟩
          unfold okP
          rw [f2 57 (by decide), f2 58 (by decide), f2 59 (by decide)]; exact i10
        have hc2 : V2 45 21 = ((CC V0 f + ck V0 f p : Nat) : Int) := by rw [c45]; exact i5
        have next : ∀ V3 : pvM, QP f V2 V3 (gl V0 f p) (cW V0 f p) (cA V0 f p) (cB V0 f p) → wz (q_X11_lowerOne_b239 N (q_X11_lowerOne_b26 N fu) f p V3) (fun _ V' => QE V0 V' (f + 1)) := by
          intro V3 h3
          obtain ⟨g1, g2, g3, g4, g5, g6, g7⟩ := h3
          unfold q_X11_lowerOne_b239
          refine wp_lw (by omega) ?_
          have hke : ∀ c : Nat, c < CC V0 f + ck V0 f p → V3 63 c = V 63 c ∧ V3 62 c = V 62 c := fun c hc => by
            have h8 := g6 c (by rw [hc2]; omega)
            rw [h8.1, h8.2, f2 63 (by decide), f2 62 (by decide)]; exact ⟨rfl, rfl⟩
          refine ih (p + 1) V3 (by omega) (by omega) ⟨f02.trans (g3.mono (by decide)), ?_, ?_, ?_, ?_, ?_, fun g hg => ?_, fun g hg q hq => ?_, fun q hq => ?_, g2.2⟩
          · exact (i2.trans (f45.of_fr f2 (by decide))).trans (g4.mono (by decide))
          · rw [g3 64 (by decide), f2 64 (by decide)]; exact i3
          · rw [g3 65 (by decide), f2 65 (by decide)]; exact i4
          · rw [g5, hc2]
            simp only [ck, cn]
            split <;> omega
          · rw [g1, up_app, if_pos rfl, f2 57 (by decide), i6]
            simp only [ps]; omega
          · rw [g1, up_app, if_neg (by omega), f2 57 (by decide)]; exact i7 g hg
          · have hm1 := ck_mono (V := V0) (f := g) (p := q + 1) (q := (V0 9 g).toNat) (by omega)
            have hm2 := CC_mono (V := V0) (f := g + 1) (g := f) (by omega)
            simp only [CC] at hm2
            exact (i8 g hg q hq).keep hke (by omega)
          · by_cases hqp : q = p
            · subst hqp
              intro h13
              have h8 := g7 h13
              rw [show (V2 45 21).toNat = CC V0 f + ck V0 f q by omega] at h8
              exact h8
            · have hm1 := ck_mono (V := V0) (f := f) (p := q + 1) (q := p) (by omega)
              exact (i9 q (by omega)).keep hke (by omega)
        have hglw : gl V0 f p = (grp V0 0 (cW V0 f p) (cA V0 f p) (cB V0 f p)).length := rfl
        unfold grp at hglw
        refine wp_aR (by omega) (wp_lI ?_)
        rw [e9, eW]
        refine wp_if (fun h13 => ?_) (fun h13 => ?_)
        · rw [if_neg h13] at hglw
          refine wp_lI ?_
          refine wp_if (fun h14 => ?_) (fun h14 => ?_)
          · rw [if_neg h14] at hglw
            refine wp_lI ?_
            refine wp_if (fun h15 => ?_) (fun h15 => ?_)
            · rw [if_neg h15] at hglw
              have hg1 : gl V0 f p = 1 := hglw
              have k235 : ∀ a : Int, ((cW V0 f p = 8 ∨ cW V0 f p = 9) → 0 ≤ a ∧ a < 40) → wz (q_X11_lowerOne_b235 N (q_X11_lowerOne_b26 N fu) f p a (cW V0 f p) f V2) (fun _ V' => QE V0 V' (f + 1)) := by
                intro a ha
                unfold q_X11_lowerOne_b235
                refine wp_lI ?_
                exact wp_p (n := 0) (by omega) (hO2.mono (by omega)) ha (fun _ V3 hA hO3 => next V3 (by rw [hg1]; exact hA.qp hO3 h13))
              have k214 : ∀ s : Int, (s = 0 → ¬ (cW V0 f p = 8 ∨ cW V0 f p = 9)) → wz (q_X11_lowerOne_b214 N (q_X11_lowerOne_b26 N fu) f p (40 * (f : Int) + p) (cW V0 f p) s V2) (fun _ V' => QE V0 V' (f + 1)) := by
                intro s hs
                unfold q_X11_lowerOne_b214
                refine wp_if (fun h0 => wp_lI (k235 0 (by omega))) (fun h0 => ?_)
                refine wp_aR (by omega) ?_
                rw [e9, eA]
                exact k235 _ (fun h89 => by have := hbp.2.1 h89; omega)
              refine wp_lI ?_
              refine wp_if (fun _ => wp_lI (k214 1 (by omega))) (fun _ => wp_lI ?_)
              refine wp_if (fun _ => wp_lI (k214 0 (by omega))) (fun _ => wp_lI ?_)
              refine wp_if (fun _ => wp_lI (k214 0 (by omega))) (fun _ => wp_lI (k214 1 (by omega)))
            · have h15' := Decidable.not_not.mp h15
              rw [if_pos h15'] at hglw
              have h8 := hbp.2.2.2.2.2 h15'
              refine wp_aR (by omega) ?_
              rw [e9, eA]
              have ej : (joinG V2 (cA V0 f p).toNat).length = gl V0 f p := by
                rw [hglw]
                have := grp_fr f02 pdl 0 15 (cA V0 f p) 0
                unfold grp at this
                rw [if_neg (by decide), if_neg (by decide), if_pos rfl, if_neg (by decide), if_neg (by decide), if_pos rfl] at this
                rw [this]
              have k9 := s_putJoin (N := N) (r := (cA V0 f p).toNat) (f := f) (V := V2) (by omega) hP2 hI2 (by omega) (by rw [f02 2 (by decide)]; omega) (by rw [ej]; exact hO2)
              rw [ej, show (((cA V0 f p).toNat : Nat) : Int) = cA V0 f p by omega] at k9
              exact wp_cL k9 (fun _ V3 h3 => next V3 (h3.1.qp h3.2 h13))
          · have h14' := Decidable.not_not.mp h14
            rw [if_pos h14'] at hglw
            have hg1 : gl V0 f p = 1 := hglw
            refine wp_lI (wp_aR (by omega) (wp_lI ?_))
            exact wp_p (n := 0) (by omega) (hO2.mono (by omega)) (by omega) (fun _ V3 hA hO3 => next V3 (by rw [hg1]; exact hA.qp hO3 h13))
        · have h13' := Decidable.not_not.mp h13
          rw [if_pos h13', newG_len] at hglw
          have h8 := hbp.2.2.2.1 h13'
          have h7 := (hP.2.1 (cA V0 f p).toNat (by omega)).1
          refine wp_aR (by omega) (wp_aR (by omega) ?_)
          rw [e9, eA, eB]
          have k9 := s_putFunction (N := N) (b := (cB V0 f p).toNat) (f := f) (a := cA V0 f p) (V := V2) (by omega) (by omega) (by omega) (by omega) (by rw [← hglw]; exact hO2)
          rw [← hglw, show (((cB V0 f p).toNat : Nat) : Int) = cB V0 f p by omega] at k9
          exact wp_cL k9 (fun _ V3 h3 => next V3 (by rw [h13']; exact h3))
      have k79 : ∀ x : Int, wz (q_X11_lowerOne_b79 N (q_X11_lowerOne_b26 N fu) f p (40 * (f : Int) + p) x V1) (fun _ V' => QE V0 V' (f + 1)) := by
        intro x
        unfold q_X11_lowerOne_b79
        refine wp_aR (by omega) ?_
        refine wp_if (fun _ => wp_aR (by omega) (k108 _)) (fun _ => k108 _)
      refine wp_if (fun _ => ?_) (fun _ => wp_lI (k79 _))
      refine wp_aR (by omega) ?_
      have f01 : fr mls V0 V1 := i1.trans (f1.mono (by decide))
      have c45 : V1 45 = V 45 := f1 45 (by decide)
      have hP1 : PI V1 := hP.fr f01 pdl
      have hI1 : RI V1 := hI.fr f01 rdl (by rw [c45]; exact i2 1 (by decide)) (by rw [c45]; exact i2 7 (by decide))
      have hbe := bd_fr f01 pdl f p
      refine wp_cL (s_within (by omega) hP1 hI1 (by omega) (by omega) (by rw [hbe.1]; exact hbp)) (fun r V9 h8 => ?_)
      rw [h8]
      exact k79 _
