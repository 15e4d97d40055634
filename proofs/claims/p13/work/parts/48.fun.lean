/-! A FUNCTION'S GROUPS -/
def mks : List Nat := [14, 15, 16, 17, 18, 19, 20, 21, 22, 23, 24, 25, 26, 27, 84]
theorem pdk : ∀ c, c ∈ prog → c ∉ mks := by decide
theorem KP_fr {cs : List Nat} {V V' : pvM} (h : fr cs V V') (h39 : 39 ∉ cs) (hK : KP V) : KP V' := by unfold KP at hK ⊢; rw [h 39 h39]; exact hK
theorem bg_u {t : Int} {V V' : pvM} (h : BG t V) (e17 : V' 17 = V 17) (e39 : V' 39 = V 39) (e84 : V' 84 = V 84) : BG t V' := by
  unfold BG at h ⊢; rw [e17, e39, e84]; exact h
theorem rw_u {V V' : pvM} (h : RW V) (e17 : V' 17 = V 17) : RW V' := by
  unfold RW at h ⊢; rw [e17]; exact h
/-- before place p of function f -/
def FI (t : Int) (V0 V : pvM) (f p : Nat) : Prop := fr mks V0 V ∧ RW V ∧ BG t V ∧ V 17 4 = ((SS V0 f + ps V0 f p : Nat) : Int) ∧ V 16 9 = ((CC V0 f + ck V0 f p : Nat) : Int) ∧ V 22 f = SS V0 f ∧ (∀ g, g < f → FD V0 V g) ∧ (∀ q, q < p → GRP V0 V f q false ∧ CLS V0 V f q ∧ V 27 q = ps V0 f q) ∧ CBD V0 V
theorem CBD.up {V0 V V' : pvM} (h : CBD V0 V) (he : V' 16 9 = V 16 9) (e23 : V' 23 = V 23) (e24 : V' 24 = V 24) : CBD V0 V' := by
  unfold CBD at h ⊢; rw [he, e23, e24]; exact h
set_option maxHeartbeats 4000000 in
set_option maxRecDepth 100000 in
theorem s_fun_b40 {N f n : Nat} {t : Int} {V0 : pvM} (hN : 3000 ≤ N) (hP : PI V0) (hK : KP V0) (ht : 0 ≤ t ∧ t ≤ 600) (hR : RT V0) (hf : (f : Int) < V0 1 6) (hn : V0 9 f = n) : ∀ (fu p : Nat) (V : pvM), p ≤ n → n + 1 ≤ fu + p → FI t V0 V f p → wz (q_X5_makeFunction_b40 N fu f (SS V0 f : Nat) p V) (fun _ V' => fr mks V0 V' ∧ RW V' ∧ BG t V' ∧ V' 17 4 = ((SS V0 (f + 1) : Nat) : Int) ∧ V' 16 9 = ((CC V0 (f + 1) : Nat) : Int) ∧ (∀ g, g < f + 1 → FD V0 V' g) ∧ CBD V0 V') := by
  have hn12 := hP.1
  have hlen := (hP.2.1 f (by omega)).2
  have hbd : ∀ k, k < n → bd V0 f k := fun k hk => hR.bd hf (by omega)
  have hss := SS_le hP hR f (by omega)
  have e9n : (V0 9 f).toNat = n := by omega
  intro fu
  induction fu with
  | zero => intro p V h1 h2; omega
  | succ fu ih =>
    intro p V h1 h2 hI
    obtain ⟨i1, i2, i3, i4, i5, i6, i7, i8, i9⟩ := hI
    have hps := ps_le hP hbd p h1
    have hck := ck_le V0 f p
    simp only [q_X5_makeFunction_b40]
    rw [cL_eq (e_lengthOf (by omega)), show ((f : Int)).toNat = f by omega, i1 9 (by decide), hn]
    have hcap : V 17 4 ≤ V 17 0 := i2.2.2
    refine wp_if (fun h9 => ?_) (fun h9 => ?_)
    · have hp : p = n := by omega
      subst hp
      have eS : SS V0 (f + 1) = SS V0 f + ps V0 f p := by simp only [SS]; rw [e9n]
      have eC : CC V0 (f + 1) = CC V0 f + ck V0 f p := by simp only [CC]; rw [e9n]
      refine wp_lI (wp_lw (by omega) ?_)
      rw [cL_eq e_xlength]
      refine wp_aW (by omega) ?_
      rw [show ((f : Int) + 1).toNat = f + 1 by omega]
      obtain ⟨V1, hV1⟩ : ∃ V1, V1 = pz_u V 22 (f + 1) (V 17 4) := ⟨_, rfl⟩
      rw [← hV1]
      have f1 : fr [22] V V1 := by rw [hV1]; exact fr_u (by simp)
      have e22 : V1 22 = va_up (V 22) (f + 1) (V 17 4) := by rw [hV1, pu_row]
      -- rows of this function
      have hrow : ∀ q, q < p → ∀ (j : Nat) (x : Ins), (Gp V0 f q)[j]? = some x → rw4 V1 (SS V0 f + ps V0 f q + j) x.1 x.2.1 x.2.2 (if j = 0 then 1 else 0) := by
        intro q hq j x hx
        have h8 := (i8 q hq).1 j x hx
        unfold rw4 at h8 ⊢
        unfold mvA at h8
        rw [if_neg (by simp)] at h8
        rw [f1 18 (by decide), f1 19 (by decide), f1 20 (by decide), f1 21 (by decide)]
        exact h8
      have hwhere : ∀ i, ∀ q, q ≤ p → SS V0 f ≤ i → i < SS V0 f + ps V0 f q → ∃ q', q' < q ∧ ∃ j, ∃ x, (Gp V0 f q')[j]? = some x ∧ i = SS V0 f + ps V0 f q' + j := by
        intro i q
        induction q with
        | zero => intro _ ha hb; simp only [ps] at hb; omega
        | succ q ihq =>
          intro hq ha hb
          by_cases hlt : i < SS V0 f + ps V0 f q
          · obtain ⟨q', hq', h8⟩ := ihq (by omega) ha hlt
            exact ⟨q', by omega, h8⟩
          · simp only [ps] at hb
            have hj : i - (SS V0 f + ps V0 f q) < (Gp V0 f q).length := by rw [Gp_len]; omega
            exact ⟨q, by omega, i - (SS V0 f + ps V0 f q), (Gp V0 f q)[i - (SS V0 f + ps V0 f q)], List.getElem?_eq_getElem hj, by omega⟩
      unfold q_X5_movePlaces
      have hmv := s_move_b2 (N := N) N (ps V0 f p) (SS V0 f) V1 (by rw [f1 17 (by decide), i4]) (by rw [f1 17 (by decide)]; exact hcap) (by rw [f1 17 (by decide)]; omega) (by omega) (fun i ha hb h89 => by
        obtain ⟨q, hq, j, x, hx, rfl⟩ := hwhere i p (Nat.le_refl _) ha hb
        have h8 := hrow q hq j x hx
        have h7 := (grp_ok hP (hbd q hq) _ x (List.mem_of_getElem? hx)).2.2.2
        rw [h8.1] at h89
        rw [h8.2.1]
        have h6 := h7 h89
        omega)
      refine wp_cL hmv (fun _ V2 hV2 => wp_rT ⟨rfl, ?_⟩)
      obtain ⟨g1, g2⟩ := hV2
      have f2 : fr mks V V2 := (f1.mono (by decide)).trans (g1.mono (by decide))
      have hke : ke (SS V0 f) (CC V0 f + ck V0 f p) V V2 := by
        refine ⟨fun r ha hb i hi => ?_, fun c hc => ?_⟩
        · by_cases h19 : r = 19
          · subst h19
            rw [g2 i, if_neg (by omega), f1 19 (by decide)]
          · rw [g1 r (by simp; omega), f1 r (by simp; omega)]
        · rw [g1 23 (by decide), g1 24 (by decide), f1 23 (by decide), f1 24 (by decide)]; exact ⟨rfl, rfl⟩
      have e22' : V2 22 = va_up (V 22) (f + 1) (V 17 4) := by rw [g1 22 (by decide), e22]
      refine ⟨i1.trans f2, rw_u i2 (by rw [g1 17 (by decide), f1 17 (by decide)]), bg_u i3 (by rw [g1 17 (by decide), f1 17 (by decide)]) (by rw [g1 39 (by decide), f1 39 (by decide)]) (by rw [g1 84 (by decide), f1 84 (by decide)]), ?_, ?_, ?_, ?_⟩
      · rw [g1 17 (by decide), f1 17 (by decide), i4, eS]
      · rw [g1 16 (by decide), f1 16 (by decide), i5, eC]
      · intro g hg
        by_cases hgf : g = f
        · subst hgf
          refine ⟨by rw [e22', up_app, if_neg (by omega)]; exact i6, by rw [e22', up_app, if_pos rfl, i4, eS], fun q hq => ⟨?_, ?_⟩⟩
          · intro j x hx
            have hqp : q < p := by omega
            have h8 := hrow q hqp j x hx
            have h7 := grp_ok hP (hbd q hqp) _ x (List.mem_of_getElem? hx)
            have hjl := getl hx
            rw [Gp_len] at hjl
            have hpm := ps_mono (V := V0) (f := g) (p := q + 1) (q := p) (by omega)
            simp only [ps] at hpm
            have hpos : SS V0 g ≤ SS V0 g + ps V0 g q + j ∧ SS V0 g + ps V0 g q + j < SS V0 g + ps V0 g p := by omega
            obtain ⟨q1, q2, q3, q4⟩ := h8
            refine ⟨by rw [g1 18 (by decide)]; exact q1, ?_, by rw [g1 20 (by decide)]; exact q3, by rw [g1 21 (by decide)]; exact q4⟩
            rw [g2, q1, q2]
            unfold mvA
            by_cases h89 : x.1 = 8 ∨ x.1 = 9
            · rw [if_pos ⟨hpos, h89⟩, if_pos ⟨rfl, h89⟩, f1 27 (by decide)]
              have h6 := h7.2.2.2 h89
              exact (i8 x.2.1.toNat (by omega)).2.2
            · rw [if_neg (fun h => h89 h.2), if_neg (fun h => h89 h.2)]
          · have hcm := ck_mono (V := V0) (f := g) (p := q + 1) (q := p) (by omega)
            exact (i8 q (by omega)).2.1.keep hke (by omega)
        · have hm1 := SS_mono (V := V0) (f := g + 1) (g := f) (by omega)
          have hm2 := CC_mono (V := V0) (f := g + 1) (g := f) (by omega)
          refine (i7 g (by omega)).keep hke ?_ hm1 (by omega) (hP.2.1 g (by omega)).2.1
          rw [e22', up_app, up_app, if_neg (by omega), if_neg (by omega)]
          exact ⟨rfl, rfl⟩
      · exact i9.up (by rw [g1 16 (by decide), f1 16 (by decide)]) (by rw [g1 23 (by decide), f1 23 (by decide)]) (by rw [g1 24 (by decide), f1 24 (by decide)])
    · have hpn : p < n := by omega
      have hbp := hbd p hpn
      have hgl : gl V0 f p ≤ 37 := grp_len hP hbp 0
      rw [cL_eq e_xlength]
      refine wp_lw (by omega) ?_
      refine wp_aW (by omega) ?_
      rw [show ((p : Int)).toNat = p by omega]
      obtain ⟨V1, hV1⟩ : ∃ V1, V1 = pz_u V 27 p (V 17 4 - ((SS V0 f : Nat) : Int)) := ⟨_, rfl⟩
      rw [← hV1]
      have f1 : fr [27] V V1 := by rw [hV1]; exact fr_u (by simp)
      have e27 : V1 27 = va_up (V 27) p (V 17 4 - ((SS V0 f : Nat) : Int)) := by rw [hV1, pu_row]
      have f01 : fr mks V0 V1 := i1.trans (f1.mono (by decide))
      have hbe := bd_fr f01 pdk f p
      have hO1 : OKX t V1 37 := ⟨rw_u i2 (f1 17 (by decide)), bg_u i3 (f1 17 (by decide)) (f1 39 (by decide)) (f1 84 (by decide)), KP_fr f01 (by decide) hK, ht, by rw [f1 17 (by decide)]; omega⟩
      have hg := s_makeGroup (N := N) (f := f) (k := p) (t := t) (V := V1) (by omega) (hP.fr f01 pdk) (by omega) (by omega) (by rw [hbe.1]; exact hbp) (by rw [f1 16 (by decide)]; omega) hO1
      rw [grp_fr f01 pdk, hbe.2.1, hbe.2.2.1, hbe.2.2.2.1, f1 16 (by decide), i5] at hg
      refine wp_cL hg (fun _ V2 hV2 => ?_)
      obtain ⟨g1, g2, g3, g4, g5, g6, g7⟩ := hV2
      have g1' : apl V1 V2 (Gp V0 f p) := g1
      have e174 : V1 17 4 = ((SS V0 f + ps V0 f p : Nat) : Int) := by rw [f1 17 (by decide)]; exact i4
      have en : (V1 17 4).toNat = SS V0 f + ps V0 f p := by omega
      have hl2 : V2 17 4 = ((SS V0 f + ps V0 f (p + 1) : Nat) : Int) := by rw [g1'.1, e174, Gp_len]; simp only [ps]; omega
      have hcap2 := g2.2.2
      have hpos := grp_len_pos V0 0 (cW V0 f p) (cA V0 f p) (cB V0 f p)
      have hglp : 1 ≤ gl V0 f p := hpos
      -- mark the step
      have em : q_X3_markStep N (V 17 4) V2 = some (0, 0, pz_u V2 21 (SS V0 f + ps V0 f p) 1) := wz_to (by
        unfold q_X3_markStep
        refine wp_lI (wp_aW ?_ ?_)
        · simp only [ps] at hl2; omega
        · rw [show (V 17 4).toNat = SS V0 f + ps V0 f p by omega]
          exact wp_rT ⟨rfl, rfl, rfl⟩)
      rw [cL_eq em]
      obtain ⟨V3, hV3⟩ : ∃ V3, V3 = pz_u V2 21 (SS V0 f + ps V0 f p) 1 := ⟨_, rfl⟩
      rw [← hV3]
      have f3 : fr [21] V2 V3 := by rw [hV3]; exact fr_u (by simp)
      have e21 : V3 21 = va_up (V2 21) (SS V0 f + ps V0 f p) 1 := by rw [hV3, pu_row]
      have f03 : fr mks V0 V3 := (f01.trans (g4.mono (by decide))).trans (f3.mono (by decide))
      have hrow3 : ∀ (j : Nat) (x : Ins), (Gp V0 f p)[j]? = some x → rw4 V3 (SS V0 f + ps V0 f p + j) x.1 x.2.1 x.2.2 (if j = 0 then 1 else 0) := by
        intro j x hx
        have h8 := g1'.2.2 j x hx
        rw [en] at h8
        refine ⟨by rw [f3 18 (by decide)]; exact h8.1, by rw [f3 19 (by decide)]; exact h8.2.1, by rw [f3 20 (by decide)]; exact h8.2.2.1, ?_⟩
        rw [e21, up_app]
        by_cases hj : j = 0
        · rw [if_pos (by omega), if_pos hj]
        · rw [if_neg (by omega), if_neg hj]; exact h8.2.2.2
      have hke3 : ke (SS V0 f + ps V0 f p) (CC V0 f + ck V0 f p) V V3 := by
        refine ⟨fun r ha hb i hi => ?_, fun c hc => ?_⟩
        · have h8 : V2 r i = V r i := by rw [g1'.2.1 r ha hb i (by omega), f1 r (by simp; omega)]
          by_cases h21 : r = 21
          · subst h21
            rw [e21, up_app, if_neg (by omega)]; exact h8
          · rw [f3 r (by simp; omega)]; exact h8
        · have h8 := g6 c (by rw [f1 16 (by decide), i5]; omega)
          rw [f3 23 (by decide), f3 24 (by decide), h8.1, h8.2, f1 23 (by decide), f1 24 (by decide)]; exact ⟨rfl, rfl⟩
      have hFI : ∀ V4 : pvM, fr [25, 26] V3 V4 → FI t V0 V4 f (p + 1) := by
        intro V4 f4
        have hke4 : ke (SS V0 f + ps V0 f p) (CC V0 f + ck V0 f p) V V4 := hke3.trans (ke.of_fr f4 (by decide))
        have e22 : V4 22 = V 22 := by rw [f4 22 (by decide), f3 22 (by decide), g4 22 (by decide), f1 22 (by decide)]
        have e16 : V4 16 9 = ((CC V0 f + ck V0 f (p + 1) : Nat) : Int) := by
          rw [f4 16 (by decide), f3 16 (by decide), g5, up_app, if_pos rfl, f1 16 (by decide), i5]
          simp only [ck, cn]
          split <;> omega
        refine ⟨f03.trans (f4.mono (by decide)), rw_u g2 (by rw [f4 17 (by decide), f3 17 (by decide)]), bg_u g3 (by rw [f4 17 (by decide), f3 17 (by decide)]) (by rw [f4 39 (by decide), f3 39 (by decide)]) (by rw [f4 84 (by decide), f3 84 (by decide)]), ?_, e16, ?_, ?_, ?_, ?_⟩
        · rw [f4 17 (by decide), f3 17 (by decide)]; exact hl2
        · rw [e22]; exact i6
        · intro g hg
          have hm1 := SS_mono (V := V0) (f := g + 1) (g := f) (by omega)
          have hm2 := CC_mono (V := V0) (f := g + 1) (g := f) (by omega)
          exact (i7 g hg).keep hke4 (by rw [e22]; exact ⟨rfl, rfl⟩) (by omega) (by omega) (hP.2.1 g (by omega)).2.1
        · intro q hq
          by_cases hqp : q = p
          · subst hqp
            refine ⟨?_, ?_, ?_⟩
            · intro j x hx
              have h8 := hrow3 j x hx
              unfold rw4 at h8 ⊢
              rw [f4 18 (by decide), f4 19 (by decide), f4 20 (by decide), f4 21 (by decide)]
              unfold mvA
              rw [if_neg (by simp)]
              exact h8
            · intro h13
              have h8 := g7 h13
              rw [show (V1 16 9).toNat = CC V0 f + ck V0 f q by rw [f1 16 (by decide)]; omega] at h8
              rw [f4 23 (by decide), f4 24 (by decide), f3 23 (by decide), f3 24 (by decide)]
              exact h8
            · rw [f4 27 (by decide), f3 27 (by decide), g4 27 (by decide), e27, up_app, if_pos rfl, i4]
              omega
          · have hm1 := ps_mono (V := V0) (f := f) (p := q + 1) (q := p) (by omega)
            have hm2 := ck_mono (V := V0) (f := f) (p := q + 1) (q := p) (by omega)
            have h8 := i8 q (by omega)
            refine ⟨h8.1.keep hke4 (by omega), h8.2.1.keep hke4 (by omega), ?_⟩
            rw [f4 27 (by decide), f3 27 (by decide), g4 27 (by decide), e27, up_app, if_neg hqp]
            exact h8.2.2
        · intro c hc
          rw [e16] at hc
          rw [f4 23 (by decide), f4 24 (by decide), f3 23 (by decide), f3 24 (by decide)]
          by_cases hcl : c < CC V0 f + ck V0 f p
          · have h8 := g6 c (by rw [f1 16 (by decide), i5]; omega)
            rw [h8.1, h8.2, f1 23 (by decide), f1 24 (by decide)]
            exact i9 c (by omega)
          · simp only [ck, cn] at hc
            have h13 : cW V0 f p = 13 := by
              refine Decidable.byContradiction (fun h => ?_)
              rw [if_neg h] at hc; omega
            rw [if_pos h13] at hc
            have hce : c = CC V0 f + ck V0 f p := by omega
            have h8 := g7 h13
            rw [show (V1 16 9).toNat = CC V0 f + ck V0 f p by rw [f1 16 (by decide)]; omega, ← hce] at h8
            rw [h8.1, h8.2]
            exact hbp.2.2.2.1 h13
      have next : ∀ V4 : pvM, fr [25, 26] V3 V4 → wz (q_X5_makeFunction_b105 N (q_X5_makeFunction_b40 N fu) f (SS V0 f : Nat) p V4) (fun _ V' => fr mks V0 V' ∧ RW V' ∧ BG t V' ∧ V' 17 4 = ((SS V0 (f + 1) : Nat) : Int) ∧ V' 16 9 = ((CC V0 (f + 1) : Nat) : Int) ∧ (∀ g, g < f + 1 → FD V0 V' g) ∧ CBD V0 V') := by
        intro V4 f4
        unfold q_X5_makeFunction_b105
        refine wp_lw (by omega) ?_
        exact ih (p + 1) V4 (by omega) (by omega) (hFI V4 f4)
      have emet : wz (q_X9_isMet N p V3) (fun r V' => V' = V3) := by
        unfold q_X9_isMet
        refine wp_aR (by omega) (wp_lI ?_)
        refine wp_if (fun h => ?_) (fun h => ?_)
        · exact wp_lI (wp_bT (Or.inl rfl) (wp_rT ⟨rfl, rfl⟩))
        · exact wp_lI (wp_bT (Or.inr rfl) (wp_rT ⟨rfl, rfl⟩))
      refine wp_cL emet (fun r V5 h5 => ?_)
      rw [h5]
      refine wp_if (fun _ => next V3 (fr.refl _ _)) (fun _ => ?_)
      have hbe3 := bd_fr f03 pdk f p
      have hms := s_measure (N := N) (f := f) (p := p) (i := SS V0 f + ps V0 f p) (m := gl V0 f p) (V := V3) (by omega) (hP.fr f03 pdk) (by omega) (by omega) (by rw [hbe3.1]; exact hbp) (by rw [f3 17 (by decide), hl2]; simp only [ps]; omega) (by rw [f3 17 (by decide)]; exact hcap2) (by rw [f3 17 (by decide), hl2]; simp only [ps]; omega) (by omega) (fun i ha hb => by
        have hj : i - (SS V0 f + ps V0 f p) < (Gp V0 f p).length := by rw [Gp_len]; omega
        have h8 := hrow3 (i - (SS V0 f + ps V0 f p)) _ (List.getElem?_eq_getElem hj)
        have h7 := grp_ok hP hbp _ _ (List.mem_of_getElem? (List.getElem?_eq_getElem hj))
        rw [show SS V0 f + ps V0 f p + (i - (SS V0 f + ps V0 f p)) = i by omega] at h8
        unfold okR
        rw [h8.1, h8.2.1]
        exact ⟨h7.1, h7.2.1, h7.2.2.1⟩)
      rw [show (((SS V0 f + ps V0 f p : Nat)) : Int) = V 17 4 from i4.symm] at hms
      exact wp_cL hms (fun _ V4 h4 => next V4 h4)
