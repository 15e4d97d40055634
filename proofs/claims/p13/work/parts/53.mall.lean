/-! THE REFERENCE'S LOWER, WHOLE -/
set_option maxHeartbeats 4000000 in
set_option maxRecDepth 100000 in
theorem s_mlowerOne {N f : Nat} {V0 V : pvM} (hN : 3000 ≤ N) (hP : PI V0) (hI : RI V0) (hR : RT V0) (hf : (f : Int) < V0 1 6) (hQ : QE V0 V f) : wz (q_X11_lowerOne N f V) (fun _ V' => QE V0 V' (f + 1)) := by
  obtain ⟨i1, i2, i3, i4, i5, i6, i7⟩ := hQ
  have hn12 := hP.1
  have hlen := (hP.2.1 f (by omega)).2
  have hw := wrS_ok (hR f hf)
  unfold q_X11_lowerOne
  refine wp_lI (wp_aW (by omega) (wp_lI (wp_aW (by omega) (wp_lI (wp_gW ?_)))))
  rw [show ((f : Int)).toNat = f by omega]
  obtain ⟨V1, hV1⟩ : ∃ V1, V1 = pz_u (pz_u (pz_u V 57 f 0) 56 f 0) 45 13 (-1) := ⟨_, rfl⟩
  rw [← hV1]
  have f1 : fr [57, 56, 45] V V1 := by rw [hV1]; exact ((fr_u (by simp)).trans (fr_u (by simp))).trans (fr_u (by simp))
  have e57 : V1 57 = va_up (V 57) f 0 := by rw [hV1]; simp [pu_off, pu_row]
  have e45 : V1 45 = va_up (V 45) 13 (-1) := by rw [hV1]; simp [pu_off, pu_row]
  have f01 : fr mls V0 V1 := i1.trans (f1.mono (by decide))
  have g1 : f45 [13, 21] V0 V1 := i2.trans (fun i hi => by rw [e45, up_app, if_neg (fun e => hi (by simp [e]))])
  have hP1 : PI V1 := hP.fr f01 pdl
  have hI1 : RI V1 := hI.fr f01 rdl (g1 1 (by decide)) (g1 7 (by decide))
  have hwk := s_mwalk (N := N) (n := (V0 9 f).toNat) (f := f) (V := V1) (by omega) hP1 hI1 (by omega) (by omega) (by rw [f01 9 (by decide)]; omega) (fun k hk => by rw [(bd_fr f01 pdl f k).1]; exact hw.2.1 k (by omega)) (by rw [e45, up_app, if_pos rfl])
  refine wp_cL hwk (fun _ V2 h2 => ?_)
  obtain ⟨w1, w2, -⟩ := h2
  refine wp_lI ?_
  have g2 : f45 [13, 21] V1 V2 := fun i hi => w2 i (fun e => hi (by simp [e]))
  have e57' : V2 57 = va_up (V 57) f 0 := by rw [w1 57 (by decide), e57]
  refine s_mone_b26 (n := (V0 9 f).toNat) hN hP hI hR hf (by omega) N 0 V2 (by omega) (by omega) ⟨f01.trans (w1.mono (by decide)), g1.trans g2, ?_, ?_, ?_, ?_, fun g hg => ?_, fun g hg q hq => ?_, fun q hq => by omega, ?_⟩
  · rw [w1 64 (by decide), f1 64 (by decide)]; exact i3
  · rw [w1 65 (by decide), f1 65 (by decide)]; exact i4
  · rw [w2 21 (by decide), e45, up_app, if_neg (by decide), i5]; rfl
  · rw [e57', up_app, if_pos rfl]; rfl
  · rw [e57', up_app, if_neg (by omega)]; exact i6 g hg
  · have h8 := i7 g hg q hq
    unfold CLR at h8 ⊢
    rw [w1 63 (by decide), w1 62 (by decide), f1 63 (by decide), f1 62 (by decide)]; exact h8
  · intro i hi
    rw [e57', up_app, if_pos rfl] at hi; omega
def MLW (V : pvM) : Prop := V 45 21 = ((CC V (V 1 6).toNat : Nat) : Int) ∧ V 45 24 = V 2 6 ∧ (∀ i : Nat, (i : Int) < V 2 6 → V 64 i = V 7 i) ∧ ∀ g : Nat, (g : Int) < V 1 6 → V 57 g = ((ps V g (V 9 g).toNat : Nat) : Int) ∧ ∀ q : Nat, (q : Int) < V 9 g → CLR V V g q
theorem MLW.fr {cs : List Nat} {V V' : pvM} (h : MLW V) (hf : fr cs V V') (hd : ∀ c, c ∈ [1, 2, 3, 4, 5, 6, 7, 8, 9, 10, 11, 12, 57, 62, 63, 64] → c ∉ cs) (e21 : V' 45 21 = V 45 21) (e24 : V' 45 24 = V 45 24) : MLW V' := by
  have hp : ∀ c, c ∈ prog → c ∉ cs := fun c hc => hd c ((by decide : ∀ c, c ∈ prog → c ∈ [1, 2, 3, 4, 5, 6, 7, 8, 9, 10, 11, 12, 57, 62, 63, 64]) c hc)
  obtain ⟨h1, h2, h3, h4⟩ := h
  have e1 := hf 1 (hd 1 (by decide))
  have e2 := hf 2 (hd 2 (by decide))
  have e7 := hf 7 (hd 7 (by decide))
  have e9 := hf 9 (hd 9 (by decide))
  have e57 := hf 57 (hd 57 (by decide))
  have e62 := hf 62 (hd 62 (by decide))
  have e63 := hf 63 (hd 63 (by decide))
  have e64 := hf 64 (hd 64 (by decide))
  refine ⟨?_, ?_, ?_, fun g hg => ?_⟩
  · rw [e21, e1, CC_fr hf hp]; exact h1
  · rw [e24, e2]; exact h2
  · rw [e2, e64, e7]; exact h3
  · rw [e1] at hg
    rw [e57, e9, ps_fr hf hp]
    refine ⟨(h4 g hg).1, fun q hq => ?_⟩
    have h8 := (h4 g hg).2 q hq
    have hb := bd_fr hf hp g q
    unfold CLR at h8 ⊢
    rw [hb.2.1, hb.2.2.1, hb.2.2.2.1, CC_fr hf hp, ck_fr hf hp, e62, e63]; exact h8
set_option maxHeartbeats 4000000 in
set_option maxRecDepth 100000 in
theorem s_mlower_b120 {N nf : Nat} {V0 : pvM} (hN : 3000 ≤ N) (hP : PI V0) (hI : RI V0) (hR : RT V0) (hnf : V0 1 6 = nf) : ∀ (fu f : Nat) (V : pvM), f ≤ nf → nf + 1 ≤ fu + f → QE V0 V f → wz (q_X11_lower_b120 N fu (SS V0 f : Nat) f V) (fun r V' => r = ((SS V0 nf : Nat) : Int) ∧ ∃ V1, QE V0 V1 nf ∧ V' = pz_u V1 45 10 1) := by
  have hn12 := hP.1
  intro fu
  induction fu with
  | zero => intro f V h1 h2; omega
  | succ fu ih =>
    intro f V h1 h2 hQ
    have hQ' := hQ
    obtain ⟨i1, i2, i3, i4, i5, i6, i7⟩ := hQ'
    simp only [q_X11_lower_b120]
    refine wp_gR ?_
    rw [i2 1 (by decide), hI.1, hnf]
    refine wp_if (fun h => ?_) (fun h => ?_)
    · have hfe : f = nf := by omega
      subst hfe
      exact wp_lI (wp_bT (Or.inr rfl) (wp_gW (wp_rT ⟨rfl, rfl, V, hQ, rfl⟩)))
    · refine wp_cL (s_mlowerOne hN hP hI hR (by omega) hQ) (fun _ V1 hV1 => ?_)
      have hss := SS_le hP hR f (by omega)
      have hss1 := SS_le hP hR (f + 1) (by omega)
      refine wp_aR (by omega) ?_
      rw [show ((f : Int)).toNat = f by omega, hV1.2.2.2.2.2.1 f (by omega)]
      simp only [SS] at hss1
      refine wp_lw (by omega) (wp_lw (by omega) ?_)
      have k9 := ih (f + 1) V1 (by omega) (by omega) hV1
      simp only [SS] at k9
      exact k9
/-- the letters of the first r recipes are in the table -/
def TB (V0 V : pvM) (r : Nat) (x : Int) : Prop := fr mls V0 V ∧ f45 [24] V0 V ∧ V 45 24 = x ∧ (∀ i : Nat, (i : Int) < x → V 64 i = V0 7 i)
set_option maxHeartbeats 4000000 in
set_option maxRecDepth 100000 in
theorem s_mlower_b26 {N nr nf : Nat} {V0 : pvM} (hN : 3000 ≤ N) (hP : PI V0) (hI : RI V0) (hR : RT V0) (hnr : V0 2 5 = nr) (hnf : V0 1 6 = nf) (h21 : V0 45 21 = 0) : ∀ (fu r : Nat) (V : pvM), r ≤ nr → nr + 1 ≤ fu + r → TB V0 V r (ls (V0 3) (V0 4) r) → wz (q_X11_lower_b26 N fu r V) (fun z V' => z = ((SS V0 nf : Nat) : Int) ∧ ∃ V1 V2, TB V0 V1 nr (V0 2 6) ∧ QE V1 V2 nf ∧ V' = pz_u V2 45 10 1) := by
  have h8 := hP.2.2.2.2.1
  have hRC := hP.2.2.2.2.2.1
  rw [hnr] at hRC
  have hRC : RC1 V0 nr := hRC
  have hb := hRC.hb
  intro fu
  induction fu with
  | zero => intro r V h1 h2; omega
  | succ fu ih =>
    intro r V h1 h2 hT
    have hT' := hT
    obtain ⟨i1, i2, i3, i4⟩ := hT'
    simp only [q_X11_lower_b26]
    refine wp_gR ?_
    rw [i2 7 (by decide), hI.2.2.2.2.2.2.1, hnr]
    refine wp_if (fun h => ?_) (fun h => ?_)
    · have hre : r = nr := by omega
      subst hre
      refine wp_lI (wp_lI ?_)
      have hP1 : PI V := hP.fr i1 pdl
      have hI1 : RI V := hI.fr i1 rdl (i2 1 (by decide)) (i2 7 (by decide))
      have hR1 : RT V := RT_fr i1 pdl hR
      have k9 := s_mlower_b120 (N := N) (nf := nf) (V0 := V) hN hP1 hI1 hR1 (by rw [i1 1 (by decide)]; exact hnf) N 0 V (by omega) (by have := hP.1; omega) ⟨fr.refl _ _, f45.refl _ _, rfl, rfl, by rw [i2 21 (by decide), h21]; rfl, fun g hg => by omega, fun g hg => by omega⟩
      refine wp_mono k9 (fun _ _ V9 h9 => ⟨h9.1, ?_⟩)
      obtain ⟨q1, V2, q2, q3⟩ := h9.2
      refine ⟨by rw [q1, SS_fr i1 pdl], V, V2, ⟨i1, i2, ?_, ?_⟩, q2, q3⟩
      · rw [i3, ← hRC.2.1]
      · rw [hRC.2.1]; exact i4
    · have hrc := hRC.2.2.2 r (by omega)
      have hlb := ls_bd (L := V0 3) (H := V0 4) r (fun q hq => by have := hb q (by omega); omega)
      have hlb1 := ls_bd (L := V0 3) (H := V0 4) (r + 1) (fun q hq => by have := hb q (by omega); omega)
      simp only [ls] at hlb1
      refine wp_gR (wp_aW (by omega) (wp_lI ?_))
      have inner : ∀ (fu2 k : Nat) (V1 : pvM), (k : Int) ≤ V0 3 r → V0 3 r + 1 ≤ fu2 + k → TB V0 V1 r (ls (V0 3) (V0 4) r + k - c27 (V0 6) (12 * r) k) → wz (q_X11_lower_b46 N (q_X11_lower_b26 N fu) fu2 r k V1) (fun z V' => z = ((SS V0 nf : Nat) : Int) ∧ ∃ V1 V2, TB V0 V1 nr (V0 2 6) ∧ QE V1 V2 nf ∧ V' = pz_u V2 45 10 1) := by
        intro fu2
        induction fu2 with
        | zero => intro k V1 h5 h6; omega
        | succ fu2 ih2 =>
          intro k V1 h5 h6 hT1
          have hT1' := hT1
          obtain ⟨j1, j2, j3, j4⟩ := hT1'
          have hcb := c27_bd (V0 6) (12 * r) k
          have hcm := c27_mono (V0 6) (12 * r) (k := k) (n := (V0 3 r).toNat) (by omega)
          have e51 : V1 51 = V0 3 := by rw [j1 51 (by decide)]; exact hI.2.2.2.2.2.2.2.1
          have e52 : V1 52 = V0 6 := by rw [j1 52 (by decide)]; exact hI.2.2.2.2.2.2.2.2
          simp only [q_X11_lower_b46]
          refine wp_aR (by omega) ?_
          rw [show ((r : Int)).toNat = r by omega, e51]
          refine wp_if (fun h9 => ?_) (fun h9 => ?_)
          · refine wp_lw (by omega) ?_
            refine ih (r + 1) V1 (by omega) (by omega) ?_
            have hk : (V0 3 r).toNat = k := by omega
            simp only [ls]
            rw [hrc.2.1, hk, show ls (V0 3) (V0 4) r + (V0 3 r - c27 (V0 6) (12 * r) k) = ls (V0 3) (V0 4) r + k - c27 (V0 6) (12 * r) k by omega]
            exact hT1
          · have hdk := hrc.2.2.2 k (by omega)
            have nx : ∀ V2 : pvM, TB V0 V2 r (ls (V0 3) (V0 4) r + (k + 1 : Nat) - c27 (V0 6) (12 * r) (k + 1)) → wz (q_X11_lower_b104 N (q_X11_lower_b26 N fu) (q_X11_lower_b46 N (q_X11_lower_b26 N fu) fu2) r k V2) (fun z V' => z = ((SS V0 nf : Nat) : Int) ∧ ∃ V1 V2, TB V0 V1 nr (V0 2 6) ∧ QE V1 V2 nf ∧ V' = pz_u V2 45 10 1) := by
              intro V2 h2'
              unfold q_X11_lower_b104
              refine wp_lw (by omega) ?_
              exact ih2 (k + 1) V2 (by omega) (by omega) h2'
            refine wp_lI (wp_lw (by omega) (wp_lw (by omega) (wp_aR (by omega) (wp_lI ?_))))
            rw [show (12 * (r : Int) + (k : Int)).toNat = 12 * r + k by omega, e52]
            refine wp_if (fun h27 => ?_) (fun h27 => ?_)
            · refine nx V1 ?_
              simp only [c27]
              rw [if_pos (by omega), show ls (V0 3) (V0 4) r + (k + 1 : Nat) - (c27 (V0 6) (12 * r) k + 1) = ls (V0 3) (V0 4) r + k - c27 (V0 6) (12 * r) k by omega]
              exact hT1
            · have hcm1 := c27_mono (V0 6) (12 * r) (k := k + 1) (n := (V0 3 r).toNat) (by omega)
              simp only [c27] at hcm1
              rw [if_neg (by omega)] at hcm1
              rw [hrc.2.1] at hlb1
              refine wp_gR (wp_lI (wp_lw (by omega) (wp_lw (by omega) (wp_aR (by omega) (wp_lI ?_)))))
              rw [show (12 * (r : Int) + (k : Int)).toNat = 12 * r + k by omega, e52, j3]
              refine wp_lw (by omega) (wp_aW (by omega) (wp_gR (wp_lI ?_)))
              rw [pu_off (show (45 : Nat) ≠ 64 by decide), j3]
              refine wp_lw (by omega) (wp_gW ?_)
              refine nx _ ?_
              obtain ⟨V2, hV2⟩ : ∃ V2, V2 = pz_u (pz_u V1 64 (ls (V0 3) (V0 4) r + k - c27 (V0 6) (12 * r) k).toNat (V0 6 (12 * r + k) - 1)) 45 24 (ls (V0 3) (V0 4) r + k - c27 (V0 6) (12 * r) k + 1) := ⟨_, rfl⟩
              rw [← hV2]
              have e64 : V2 64 = va_up (V1 64) (ls (V0 3) (V0 4) r + k - c27 (V0 6) (12 * r) k).toNat (V0 6 (12 * r + k) - 1) := by rw [hV2]; simp [pu_off, pu_row]
              have e45 : V2 45 = va_up (V1 45) 24 (ls (V0 3) (V0 4) r + k - c27 (V0 6) (12 * r) k + 1) := by rw [hV2]; simp [pu_off, pu_row]
              have hx : ls (V0 3) (V0 4) r + (k + 1 : Nat) - c27 (V0 6) (12 * r) (k + 1) = ls (V0 3) (V0 4) r + k - c27 (V0 6) (12 * r) k + 1 := by
                simp only [c27]
                rw [if_neg (by omega)]; omega
              rw [hx]
              refine ⟨j1.trans (by rw [hV2]; exact (fr_u (by decide)).trans (fr_u (by decide))), j2.trans (fun i hi => by rw [e45, up_app, if_neg (fun e => hi (by simp [e]))]), by rw [e45, up_app, if_pos rfl], fun i hi => ?_⟩
              rw [e64, up_app]
              by_cases hii : i = (ls (V0 3) (V0 4) r + k - c27 (V0 6) (12 * r) k).toNat
              · rw [if_pos hii, hii]
                have h7 := hdk.2 (by omega)
                rw [hrc.2.2.1] at h7
                exact h7.symm
              · rw [if_neg hii]
                exact j4 i (by omega)
      refine inner N 0 _ (by omega) (by omega) ?_
      rw [show ((r : Int)).toNat = r by omega]
      simp only [c27]
      rw [show ls (V0 3) (V0 4) r + ((0 : Nat) : Int) - 0 = ls (V0 3) (V0 4) r by omega]
      have fu1 : fr [65] V (pz_u V 65 r (V 45 24)) := fr_u (by simp)
      exact ⟨i1.trans (fu1.mono (by decide)), i2.trans (f45.of_fr fu1 (by decide)), by rw [fu1 45 (by decide)]; exact i3, fun i hi => by rw [fu1 64 (by decide)]; exact i4 i hi⟩
def mlwP (V : pvM) (r : Int) (V' : pvM) : Prop := V' 45 0 = 0 ∧ fr mls V V' ∧ f45 lfs V V' ∧ ((RT V ∧ r = ((SS V (V 1 6).toNat : Nat) : Int) ∧ V' 45 10 = 1 ∧ MLW V') ∨ (¬ RT V ∧ r = -1 ∧ fr mch V V' ∧ f45 [0, 13] V V'))
set_option maxHeartbeats 4000000 in
set_option maxRecDepth 100000 in
theorem s_mlower {N : Nat} {V : pvM} (hN : 3000 ≤ N) (hP : PI V) (hI : RI V) : wz (q_X11_lower N V) (mlwP V) := by
  have hn12 := hP.1
  have h8 := hP.2.2.2.2.1
  unfold q_X11_lower
  refine wp_lI (wp_gW ?_)
  obtain ⟨V1, hV1⟩ : ∃ V1, V1 = pz_u V 45 0 0 := ⟨_, rfl⟩
  rw [← hV1]
  have f1 : fr [45] V V1 := by rw [hV1]; exact fr_u (by simp)
  have g1 : f45 [0] V V1 := by rw [hV1]; exact f45_u (by simp)
  have z1 : V1 45 0 = 0 := by rw [hV1, pz_u_eq]
  have hP1 : PI V1 := hP.fr f1 (by decide)
  have hI1 : RI V1 := hI.fr f1 (by decide) (g1 1 (by decide)) (g1 7 (by decide))
  refine wp_cL (s_mcheckAll (by omega) hP1 hI1) (fun r V2 h2 => ?_)
  obtain ⟨w1, w2, w3⟩ := h2
  have hrt := ckS_RT w3
  have f2 : fr mch V V2 := (f1.mono (by decide)).trans w1
  have g2 : f45 [0, 13] V V2 := (g1.mono (by decide)).trans (fun i hi => w2 i (fun e => hi (by simp [e])))
  have z2 : V2 45 0 = 0 := by rw [w2 0 (by decide)]; exact z1
  have hrt' : (r = -1 ↔ RT V) := by
    rw [hrt]
    constructor
    · intro h
      have h9 : fr [45] V1 V := fun c hc => (f1 c hc).symm
      exact RT_fr h9 (by decide) h
    · exact RT_fr f1 (by decide)
  have hr0 : r < 0 → r = -1 := by
    intro h
    rcases w3 with h9 | ⟨f, p, a1, a2, a3, a4, a5⟩
    · exact h9.1
    · omega
  refine wp_if (fun h => ?_) (fun h => ?_)
  · have hR : RT V := hrt'.mp (hr0 h)
    refine wp_lI (wp_gW (wp_lI (wp_gW (wp_lI ?_))))
    obtain ⟨V3, hV3⟩ : ∃ V3, V3 = pz_u (pz_u V2 45 21 0) 45 24 0 := ⟨_, rfl⟩
    rw [← hV3]
    have e45 : V3 45 = va_up (va_up (V2 45) 21 0) 24 0 := by rw [hV3, pu_row, pu_row]
    have f3 : fr [45] V2 V3 := by rw [hV3]; exact (fr_u (by simp)).trans (fr_u (by simp))
    have g3 : f45 [21, 24] V2 V3 := by rw [hV3]; exact (f45_u (by simp)).trans (f45_u (by simp))
    have f03 : fr mls V V3 := (f2.mono (by decide)).trans (f3.mono (by decide))
    have g03 : f45 lfs V V3 := (g2.mono (by decide)).trans (g3.mono (by decide))
    have hP3 : PI V3 := hP.fr f03 pdl
    have hI3 : RI V3 := hI.fr f03 rdl (g03 1 (by decide)) (g03 7 (by decide))
    have k9 := s_mlower_b26 (N := N) (nr := (V 2 5).toNat) (nf := (V 1 6).toNat) (V0 := V3) hN hP3 hI3 (RT_fr f03 pdl hR) (by rw [f03 2 (by decide)]; omega) (by rw [f03 1 (by decide)]; omega) (by rw [e45, up_app, up_app, if_neg (by decide), if_pos rfl]) N 0 V3 (by omega) (by omega) ⟨fr.refl _ _, f45.refl _ _, by rw [e45, up_app, if_pos rfl]; rfl, fun i hi => by simp only [ls] at hi; omega⟩
    refine wp_mono k9 (fun _ _ V9 h9 => ⟨h9.1, ?_⟩)
    obtain ⟨q0, V4, V5, q1, q2, q3⟩ := h9.2
    obtain ⟨t1, t2, t3, t4⟩ := q1
    obtain ⟨u1, u2, u3, u4, u5, u6, u7⟩ := q2
    have f9 : fr [45] V5 V9 := by rw [q3]; exact fr_u (by simp)
    have g9 : f45 [10] V5 V9 := by rw [q3]; exact f45_u (by simp)
    have f4 : fr mls V V4 := f03.trans t1
    have f09 : fr mls V V9 := (f4.trans u1).trans (f9.mono (by decide))
    have f49 : fr mls V4 V9 := u1.trans (f9.mono (by decide))
    have g09 : f45 lfs V V9 := ((g03.trans (t2.mono (by decide))).trans (u2.mono (by decide))).trans (g9.mono (by decide))
    refine ⟨?_, f09, g09, Or.inl ⟨hR, by rw [q0, SS_fr f03 pdl], by rw [q3, pz_u_eq], ?_, ?_, ?_, fun g hg => ⟨?_, fun q hq => ?_⟩⟩⟩
    · rw [g9 0 (by decide), u2 0 (by decide), t2 0 (by decide), g3 0 (by decide)]; exact z2
    · rw [g9 21 (by decide), u5, f09 1 (by decide), CC_fr f09 pdl, CC_fr f4 pdl]
    · rw [g9 24 (by decide), u2 24 (by decide), t3, f09 2 (by decide), f03 2 (by decide)]
    · intro i hi
      rw [f09 2 (by decide), ← f03 2 (by decide)] at hi
      rw [f9 64 (by decide), u3, t4 i hi, f09 7 (by decide), f03 7 (by decide)]
    · rw [f09 1 (by decide)] at hg
      rw [f9 57 (by decide), u6 g (by omega), ps_fr f09 pdl, ps_fr f4 pdl, f09 9 (by decide), f4 9 (by decide)]
    · rw [f09 1 (by decide)] at hg
      rw [f09 9 (by decide)] at hq
      have h7 := u7 g (by omega) q (by rw [f4 9 (by decide)]; exact hq)
      have hb := bd_fr f49 pdl g q
      unfold CLR at h7 ⊢
      rw [hb.2.1, hb.2.2.1, hb.2.2.2.1, CC_fr f49 pdl, ck_fr f49 pdl, f9 63 (by decide), f9 62 (by decide)]
      exact h7
  · have hR : ¬ RT V := fun h9 => by have := hrt'.mpr h9; omega
    exact wp_lI (wp_rT ⟨rfl, z2, f2.mono (by decide), g2.mono (by decide), Or.inr ⟨hR, rfl, f2, g2⟩⟩)
