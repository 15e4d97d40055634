/-! METHODS AND THE WHOLE -/
def FE (t : Int) (V0 V : pvM) (f : Nat) : Prop := fr mks V0 V ∧ RW V ∧ BG t V ∧ V 17 4 = ((SS V0 f : Nat) : Int) ∧ V 16 9 = ((CC V0 f : Nat) : Int) ∧ (∀ g, g < f → FD V0 V g) ∧ CBD V0 V
set_option maxHeartbeats 4000000 in
set_option maxRecDepth 100000 in
theorem s_makeFunction {N f : Nat} {t : Int} {V0 V : pvM} (hN : 3000 ≤ N) (hP : PI V0) (hK : KP V0) (ht : 0 ≤ t ∧ t ≤ 600) (hR : RT V0) (hf : (f : Int) < V0 1 6) (hE : FE t V0 V f) : wz (q_X5_makeFunction N f V) (fun _ V' => FE t V0 V' (f + 1)) := by
  obtain ⟨i1, i2, i3, i4, i5, i6, i7⟩ := hE
  have hn12 := hP.1
  have hss := SS_le hP hR f (by omega)
  have hlen := (hP.2.1 f (by omega)).2
  unfold q_X5_makeFunction
  rw [cL_eq e_xlength]
  refine wp_aW (by omega) (wp_lI (wp_aW (by omega) (wp_lI (wp_aW (by omega) ?_))))
  rw [show ((f : Int)).toNat = f by omega]
  obtain ⟨V1, hV1⟩ : ∃ V1, V1 = pz_u (pz_u (pz_u V 22 f (V 17 4)) 25 f 0) 26 f 0 := ⟨_, rfl⟩
  rw [← hV1]
  have f1 : fr [22, 25, 26] V V1 := by rw [hV1]; exact ((fr_u (by simp)).trans (fr_u (by simp))).trans (fr_u (by simp))
  have e22 : V1 22 = va_up (V 22) f (V 17 4) := by rw [hV1]; simp [pu_off, pu_row]
  have f01 : fr mks V0 V1 := i1.trans (f1.mono (by decide))
  refine wp_cL (s_wrongPlace (by omega) (hP.fr f01 pdk) (by omega)) (fun _ V2 hV2 => ?_)
  have f2 := hV2.1
  refine wp_lI ?_
  have e22' : V2 22 = va_up (V 22) f (V 17 4) := by rw [f2 22 (by decide), e22]
  rw [i4]
  refine s_fun_b40 (n := (V0 9 f).toNat) hN hP hK ht hR hf (by omega) N 0 V2 (by omega) (by omega) ?_
  refine ⟨f01.trans (f2.mono (by decide)), rw_u i2 (by rw [f2 17 (by decide), f1 17 (by decide)]), bg_u i3 (by rw [f2 17 (by decide), f1 17 (by decide)]) (by rw [f2 39 (by decide), f1 39 (by decide)]) (by rw [f2 84 (by decide), f1 84 (by decide)]), ?_, ?_, ?_, ?_, fun q hq => by omega, ?_⟩
  · rw [f2 17 (by decide), f1 17 (by decide), i4]; rfl
  · rw [f2 16 (by decide), f1 16 (by decide), i5]; rfl
  · rw [e22', up_app, if_pos rfl, i4]
  · intro g hg
    have hm1 := SS_mono (V := V0) (f := g + 1) (g := f) (by omega)
    have hm2 := CC_mono (V := V0) (f := g + 1) (g := f) (by omega)
    refine (i6 g hg).keep (L := SS V0 f) (C := CC V0 f) ((ke.of_fr f1 (by decide)).trans (ke.of_fr f2 (by decide))) ?_ hm1 hm2 (hP.2.1 g (by omega)).2.1
    rw [e22', up_app, up_app, if_neg (by omega)]
    refine ⟨rfl, ?_⟩
    split
    · rename_i h
      rw [h, i4, ← h, (i6 g hg).2.1]
    · rfl
  · exact i7.up (by rw [f2 16 (by decide), f1 16 (by decide)]) (by rw [f2 23 (by decide), f1 23 (by decide)]) (by rw [f2 24 (by decide), f1 24 (by decide)])
/-! methods -/
def gS : Nat → Nat → List Ins
  | 0, _ => []
  | m + 1, k => (23, (k : Int), 0) :: gS m (k + 1)
def lS : Nat → Nat → List Ins
  | 0, _ => []
  | m + 1, k => (1, (k : Int), 0) :: lS m (k + 1)
theorem gS_len : ∀ m k, (gS m k).length = m
  | 0, _ => rfl
  | m + 1, k => by simp [gS, gS_len m]
theorem lS_len : ∀ m k, (lS m k).length = m
  | 0, _ => rfl
  | m + 1, k => by simp [lS, lS_len m]
def mG (own oth : Nat) (a : Int) : List Ins := gS own 0 ++ (lS oth 1 ++ [(10, a, 0), (11, 0, 0)])
theorem mG_len (own oth : Nat) (a : Int) : (mG own oth a).length = own + oth + 2 := by simp [mG, gS_len, lS_len]; omega
/-- a class's method -/
def mL (V : pvM) (c : Nat) : List Ins := mG (V 24 c).toNat (V 8 (V 23 c).toNat - V 24 c).toNat (V 23 c)
def MD (nf : Nat) (V : pvM) (c : Nat) : Prop := ∃ s : Nat, V 22 (nf + c) = s ∧ V 22 (nf + c + 1) = ((s + (mL V c).length : Nat) : Int) ∧ ((s + (mL V c).length : Nat) : Int) ≤ V 17 4 ∧ ∀ (j : Nat) (x : Ins), (mL V c)[j]? = some x → rw4 V (s + j) x.1 x.2.1 x.2.2 0
set_option maxHeartbeats 4000000 in
set_option maxRecDepth 100000 in
theorem s_meth73 {N u c o : Nat} {t : Int} {V0 : pvM} (hu : u < 492) (hc : c < 480) (ho : o ≤ 3) : ∀ (fu m k : Nat) (V : pvM), m + k = o + 1 → m + 1 ≤ fu → fr xcs V0 V → OKX t V (m + 2) → wz (q_X5_makeMethod_b73 N fu c u o k V) (fun _ V' => ∃ V1, AP t V V1 (lS m k ++ [(10, V0 23 c, 0), (11, 0, 0)]) ∧ V' = pz_u V1 22 (u + 1) (V1 17 4)) := by
  intro fu
  induction fu with
  | zero => intro m k V h1 h2; omega
  | succ fu ih =>
    intro m k V h1 h2 hfr hO
    simp only [q_X5_makeMethod_b73]
    refine wp_if (fun h => ?_) (fun h => ?_)
    · have hm : m = 0 := by omega
      subst hm
      refine wp_lI (wp_aR (by omega) (wp_lI ?_))
      rw [show ((c : Int)).toNat = c by omega, hfr 23 (by decide)]
      refine wp_x (n := 1) hO (fun _ V1 hA hO1 => ?_)
      refine wp_lI (wp_lI (wp_lI ?_))
      refine wp_x (n := 0) hO1 (fun _ V2 hA2 hO2 => ?_)
      refine wp_lI (wp_lw (by omega) ?_)
      rw [cL_eq e_xlength]
      refine wp_aW (by omega) (wp_rT ⟨rfl, V2, (AP.trans hO.1 hA hA2 :), ?_⟩)
      rw [show ((u : Int) + 1).toNat = u + 1 by omega]
    · obtain ⟨m', rfl⟩ : ∃ m', m = m' + 1 := ⟨m - 1, by omega⟩
      refine wp_lI (wp_lI ?_)
      refine wp_x (n := m' + 2) (hO.mono (by omega)) (fun _ V1 hA hO1 => ?_)
      refine wp_lw (by omega) ?_
      refine wp_mono (ih m' (k + 1) V1 (by omega) (by omega) (hfr.trans hA.2.2.2) hO1) (fun _ _ V9 h9 => ⟨h9.1, ?_⟩)
      obtain ⟨V2, q1, q2⟩ := h9.2
      exact ⟨V2, (AP.trans hO.1 hA q1 :), q2⟩
set_option maxHeartbeats 4000000 in
set_option maxRecDepth 100000 in
theorem s_meth29 {N u c own : Nat} {t : Int} {V0 : pvM} (hN : 50 ≤ N) (hu : u < 492) (hc : c < 480) (hf : 0 ≤ V0 23 c ∧ V0 23 c < 12) (ho : (own : Int) ≤ V0 8 (V0 23 c).toNat ∧ V0 8 (V0 23 c).toNat ≤ 3) : ∀ (fu m k : Nat) (V : pvM), m + k = own → m + 1 ≤ fu → fr xcs V0 V → OKX t V (m + (V0 8 (V0 23 c).toNat - own).toNat + 2) → wz (q_X5_makeMethod_b29 N fu c u own k V) (fun _ V' => ∃ V1, AP t V V1 (gS m k ++ (lS (V0 8 (V0 23 c).toNat - own).toNat 1 ++ [(10, V0 23 c, 0), (11, 0, 0)])) ∧ V' = pz_u V1 22 (u + 1) (V1 17 4)) := by
  intro fu
  induction fu with
  | zero => intro m k V h1 h2; omega
  | succ fu ih =>
    intro m k V h1 h2 hfr hO
    simp only [q_X5_makeMethod_b29]
    refine wp_if (fun h => ?_) (fun h => ?_)
    · have hm : m = 0 := by omega
      subst hm
      refine wp_aR (by omega) ?_
      rw [show ((c : Int)).toNat = c by omega, hfr 23 (by decide), cL_eq (e_parametersOf (by omega)), hfr 8 (by decide)]
      refine wp_lw (by omega) (wp_lI ?_)
      have k9 := s_meth73 (N := N) (u := u) (c := c) (o := (V0 8 (V0 23 c).toNat - own).toNat) (t := t) (V0 := V0) hu hc (by omega) N (V0 8 (V0 23 c).toNat - own).toNat 1 V (by omega) (by omega) hfr (hO.mono (by omega))
      rw [show (((V0 8 (V0 23 c).toNat - own).toNat : Nat) : Int) = V0 8 (V0 23 c).toNat - own by omega] at k9
      exact k9
    · obtain ⟨m', rfl⟩ : ∃ m', m = m' + 1 := ⟨m - 1, by omega⟩
      refine wp_lI (wp_lI ?_)
      refine wp_x (n := m' + (V0 8 (V0 23 c).toNat - own).toNat + 2) (hO.mono (by omega)) (fun _ V1 hA hO1 => ?_)
      refine wp_lw (by omega) ?_
      refine wp_mono (ih m' (k + 1) V1 (by omega) (by omega) (hfr.trans hA.2.2.2) hO1) (fun _ _ V9 h9 => ⟨h9.1, ?_⟩)
      obtain ⟨V2, q1, q2⟩ := h9.2
      exact ⟨V2, (AP.trans hO.1 hA q1 :), q2⟩
/-- before the method of class c -/
def ME (t : Int) (V0 V : pvM) (nf c : Nat) : Prop := fr mks V0 V ∧ RW V ∧ BG t V ∧ V 16 9 = ((CC V0 nf : Nat) : Int) ∧ (∀ g, g < nf → FD V0 V g) ∧ CBD V0 V ∧ (∀ d, d < c → MD nf V d) ∧ ((SS V0 nf : Nat) : Int) ≤ V 17 4 ∧ V 17 4 ≤ ((SS V0 nf + 5 * c : Nat) : Int) ∧ (0 < c ∨ 0 < nf → V 22 (nf + c) = V 17 4)
set_option maxHeartbeats 4000000 in
set_option maxRecDepth 100000 in
theorem s_makeMethod {N nf c : Nat} {t : Int} {V0 V : pvM} (hN : 3000 ≤ N) (hP : PI V0) (hK : KP V0) (ht : 0 ≤ t ∧ t ≤ 600) (hR : RT V0) (hnf : V0 1 6 = nf) (hc : c < CC V0 nf) (hE : ME t V0 V nf c) : wz (q_X5_makeMethod N c V) (fun _ V' => ME t V0 V' nf (c + 1)) := by
  obtain ⟨i1, i2, i3, i5, i6, i7, i8, i9, i10, i11⟩ := hE
  have hn12 := hP.1
  have hss := SS_le hP hR nf (by omega)
  obtain ⟨c1, c2, c3⟩ := i7 c (by omega)
  rw [hnf] at c1
  have c4 := (hP.2.1 (V 23 c).toNat (by omega)).1
  unfold q_X5_makeMethod
  have em : q_X5_methodOfClass N c V = some (0, ((nf + c : Nat) : Int), V) := wz_to (by
    unfold q_X5_methodOfClass
    rw [cL_eq e_functionTotal, i1 1 (by decide), hnf]
    refine wp_lw (by omega) ?_
    exact wp_rT ⟨rfl, by omega, rfl⟩)
  rw [cL_eq em, cL_eq e_xlength]
  refine wp_aW (by omega) (wp_aR (by omega) (wp_lI ?_))
  rw [show (((nf + c : Nat)) : Int).toNat = nf + c by omega, show ((c : Int)).toNat = c by omega, pu_off (show (24 : Nat) ≠ 22 by decide)]
  obtain ⟨V1, hV1⟩ : ∃ V1, V1 = pz_u V 22 (nf + c) (V 17 4) := ⟨_, rfl⟩
  rw [← hV1]
  have f1 : fr [22] V V1 := by rw [hV1]; exact fr_u (by simp)
  have e22 : V1 22 = va_up (V 22) (nf + c) (V 17 4) := by rw [hV1, pu_row]
  have f01 : fr mks V0 V1 := i1.trans (f1.mono (by decide))
  have hO1 : OKX t V1 5 := ⟨rw_u i2 (f1 17 (by decide)), bg_u i3 (f1 17 (by decide)) (f1 39 (by decide)) (f1 84 (by decide)), KP_fr f01 (by decide) hK, ht, by rw [f1 17 (by decide)]; omega⟩
  have k9 := s_meth29 (N := N) (u := nf + c) (c := c) (own := (V 24 c).toNat) (t := t) (V0 := V1) (by omega) (by omega) (by omega) (by rw [f1 23 (by decide)]; omega) (by rw [f1 23 (by decide), f1 8 (by decide), i1 8 (by decide)]; omega) N (V 24 c).toNat 0 V1 (by omega) (by omega) (fr.refl _ _) (hO1.mono (by rw [f1 23 (by decide), f1 8 (by decide), i1 8 (by decide)]; omega))
  rw [show (((V 24 c).toNat : Nat) : Int) = V 24 c by omega, f1 23 (by decide), f1 8 (by decide)] at k9
  refine wp_mono k9 (fun _ _ V3 h9 => ⟨h9.1, ?_⟩)
  obtain ⟨V2, hA, hV3⟩ := h9.2
  have hA1 : apl V1 V2 (mL V c) := hA.1
  have hll : ((mL V c).length : Int) = V0 8 (V 23 c).toNat + 2 := by unfold mL; rw [mG_len, i1 8 (by decide)]; omega
  have f3 : fr [22] V2 V3 := by rw [hV3]; exact fr_u (by simp)
  have e17 : V3 17 = V2 17 := f3 17 (by decide)
  have el : V3 17 4 = V 17 4 + (mL V c).length := by rw [e17, hA1.1, f1 17 (by decide)]
  have e22' : V3 22 = va_up (va_up (V 22) (nf + c) (V 17 4)) (nf + c + 1) (V3 17 4) := by rw [hV3, pu_row, hA.2.2.2 22 (by decide), e22, pu_off (show (17 : Nat) ≠ 22 by decide)]
  have f03 : fr mks V0 V3 := (f01.trans (hA.2.2.2.mono (by decide))).trans (f3.mono (by decide))
  have hke : ∀ L C : Nat, (L : Int) ≤ V 17 4 → ke L C V V3 := by
    intro L C hL
    refine ⟨fun r ha hb i hi => ?_, fun d hd => ?_⟩
    · rw [f3 r (by simp; omega), hA1.2.1 r ha hb i (by rw [f1 17 (by decide)]; omega), f1 r (by simp; omega)]
    · rw [f3 23 (by decide), f3 24 (by decide), hA.2.2.2 23 (by decide), hA.2.2.2 24 (by decide), f1 23 (by decide), f1 24 (by decide)]; exact ⟨rfl, rfl⟩
  have e23 : V3 23 = V 23 := by rw [f3 23 (by decide), hA.2.2.2 23 (by decide), f1 23 (by decide)]
  have e24 : V3 24 = V 24 := by rw [f3 24 (by decide), hA.2.2.2 24 (by decide), f1 24 (by decide)]
  have e8 : V3 8 = V 8 := by rw [f03 8 (by decide), i1 8 (by decide)]
  have e16 : V3 16 = V 16 := by rw [f3 16 (by decide), hA.2.2.2 16 (by decide), f1 16 (by decide)]
  have emL : ∀ d, mL V3 d = mL V d := by intro d; unfold mL; rw [e23, e24, e8]
  refine ⟨f03, rw_u hA.2.1 e17, bg_u hA.2.2.1 e17 (f3 39 (by decide)) (f3 84 (by decide)), by rw [e16]; exact i5, ?_, i7.up (by rw [e16]) e23 e24, ?_, by rw [el]; omega, by rw [el]; omega, ?_⟩
  · intro g hg
    have hm1 := SS_mono (V := V0) (f := g + 1) (g := nf) (by omega)
    have hm2 := CC_mono (V := V0) (f := g + 1) (g := nf) (by omega)
    refine (i6 g hg).keep (hke (SS V0 nf) (CC V0 nf) i9) ?_ hm1 hm2 (hP.2.1 g (by omega)).2.1
    rw [e22']
    simp only [up_app]
    rw [if_neg (by omega), if_neg (by omega), if_neg (by omega)]
    refine ⟨rfl, ?_⟩
    split
    · rename_i h
      have h8 := i11 (Or.inr (by omega))
      rw [h, ← h8]
    · rfl
  · intro d hd
    by_cases hdc : d = c
    · subst hdc
      refine ⟨(V 17 4).toNat, ?_, ?_, ?_, fun j x hx => ?_⟩
      · rw [e22', up_app, up_app, if_neg (by omega), if_pos rfl]; have := i2.2.1; omega
      · rw [e22', up_app, if_pos rfl, emL, el]; have := i2.2.1; omega
      · rw [emL, el]; have := i2.2.1; omega
      · rw [emL] at hx
        have h8 := hA1.2.2 j x hx
        rw [f1 17 (by decide)] at h8
        unfold rw4
        rw [f3 18 (by decide), f3 19 (by decide), f3 20 (by decide), f3 21 (by decide)]
        exact h8
    · obtain ⟨s, s1, s2, s3, s4⟩ := i8 d (by omega)
      refine ⟨s, ?_, ?_, ?_, fun j x hx => ?_⟩
      · rw [e22', up_app, up_app, if_neg (by omega), if_neg (by omega)]; exact s1
      · rw [e22', up_app, up_app, if_neg (by omega), emL]
        split
        · rename_i h
          have h8 := i11 (Or.inl (by omega))
          rw [← h8, ← h]; exact s2
        · exact s2
      · rw [emL, el]; omega
      · rw [emL] at hx
        have h8 := s4 j x hx
        have h7 := getl hx
        have hk := hke (V 17 4).toNat 0 (by have := i2.2.1; omega)
        unfold rw4 at h8 ⊢
        rw [hk.1 18 (by omega) (by omega) _ (by omega), hk.1 19 (by omega) (by omega) _ (by omega), hk.1 20 (by omega) (by omega) _ (by omega), hk.1 21 (by omega) (by omega) _ (by omega)]
        exact h8
  · intro _
    rw [e22', show nf + (c + 1) = nf + c + 1 by omega, up_app, if_pos rfl]
