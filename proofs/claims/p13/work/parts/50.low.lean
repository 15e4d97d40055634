/-! MAKE AND LOWER OF THE CLASS -/
theorem gl_fr {cs : List Nat} {V V' : pvM} (hf : fr cs V V') (hd : ∀ c, c ∈ prog → c ∉ cs) (f p : Nat) : gl V' f p = gl V f p := by
  have h := bd_fr hf hd f p
  unfold gl
  rw [grp_fr hf hd, h.2.1, h.2.2.1, h.2.2.2.1]
theorem ps_fr {cs : List Nat} {V V' : pvM} (hf : fr cs V V') (hd : ∀ c, c ∈ prog → c ∉ cs) (f : Nat) : ∀ p, ps V' f p = ps V f p
  | 0 => rfl
  | p + 1 => by simp only [ps]; rw [ps_fr hf hd f p, gl_fr hf hd]
theorem ck_fr {cs : List Nat} {V V' : pvM} (hf : fr cs V V') (hd : ∀ c, c ∈ prog → c ∉ cs) (f : Nat) : ∀ p, ck V' f p = ck V f p
  | 0 => rfl
  | p + 1 => by
    have h := bd_fr hf hd f p
    simp only [ck, cn]; rw [ck_fr hf hd f p, h.2.1]
theorem SS_fr {cs : List Nat} {V V' : pvM} (hf : fr cs V V') (hd : ∀ c, c ∈ prog → c ∉ cs) : ∀ f, SS V' f = SS V f
  | 0 => rfl
  | f + 1 => by simp only [SS]; rw [SS_fr hf hd f, ps_fr hf hd, hf 9 (hd 9 (by decide))]
theorem CC_fr {cs : List Nat} {V V' : pvM} (hf : fr cs V V') (hd : ∀ c, c ∈ prog → c ∉ cs) : ∀ f, CC V' f = CC V f
  | 0 => rfl
  | f + 1 => by simp only [CC]; rw [CC_fr hf hd f, ck_fr hf hd, hf 9 (hd 9 (by decide))]
theorem Gp_fr {cs : List Nat} {V V' : pvM} (hf : fr cs V V') (hd : ∀ c, c ∈ prog → c ∉ cs) (f p : Nat) : Gp V' f p = Gp V f p := by
  have h := bd_fr hf hd f p
  unfold Gp
  rw [grp_fr hf hd, h.2.1, h.2.2.1, h.2.2.2.1, CC_fr hf hd, ck_fr hf hd]
theorem FD_fr {cs : List Nat} {V0 V0' V : pvM} (hf : fr cs V0 V0') (hd : ∀ c, c ∈ prog → c ∉ cs) {f : Nat} (h : FD V0 V f) : FD V0' V f := by
  unfold FD at h ⊢
  rw [SS_fr hf hd, SS_fr hf hd, hf 9 (hd 9 (by decide))]
  refine ⟨h.1, h.2.1, fun q hq => ⟨fun j x hx => ?_, ?_⟩⟩
  · rw [Gp_fr hf hd] at hx
    have h9 := (h.2.2 q hq).1 j x hx
    unfold mvA at h9 ⊢
    rw [SS_fr hf hd, ps_fr hf hd, ps_fr hf hd]
    exact h9
  · have hb := bd_fr hf hd f q
    have h9 := (h.2.2 q hq).2
    unfold CLS at h9 ⊢
    rw [hb.2.1, hb.2.2.1, hb.2.2.2.1, CC_fr hf hd, ck_fr hf hd]
    exact h9
/-- the plainer code stands -/
def LOW (V : pvM) : Prop := RT V ∧ V 16 9 = ((CC V (V 1 6).toNat : Nat) : Int) ∧ (∀ g : Nat, (g : Int) < V 1 6 → FD V V g) ∧ CBD V V ∧ (∀ d : Nat, (d : Int) < V 16 9 → MD (V 1 6).toNat V d) ∧ ∀ g : Nat, (g : Int) < V 1 6 → ((SS V (g + 1) : Nat) : Int) ≤ V 17 4
def lowc : List Nat := [1, 2, 3, 4, 5, 6, 7, 8, 9, 10, 11, 12, 16, 17, 18, 19, 20, 21, 22, 23, 24]
theorem RT_fr {cs : List Nat} {V V' : pvM} (hf : fr cs V V') (hd : ∀ c, c ∈ prog → c ∉ cs) (h : RT V) : RT V' := by
  intro f hf9
  rw [hf 1 (hd 1 (by decide))] at hf9
  exact (wrS_fr hf hd f (-1)).mpr (h f hf9)
theorem prog_low : ∀ c, c ∈ prog → c ∈ lowc := by decide
theorem LOW.fr {cs : List Nat} {V V' : pvM} (h : LOW V) (hf : fr cs V V') (hd : ∀ c, c ∈ lowc → c ∉ cs) : LOW V' := by
  have hp : ∀ c, c ∈ prog → c ∉ cs := fun c hc => hd c (prog_low c hc)
  obtain ⟨h1, h2, h3, h4, h5, h6⟩ := h
  have e1 := hf 1 (hd 1 (by decide))
  have e8 := hf 8 (hd 8 (by decide))
  have e16 := hf 16 (hd 16 (by decide))
  have e17 := hf 17 (hd 17 (by decide))
  have e18 := hf 18 (hd 18 (by decide))
  have e19 := hf 19 (hd 19 (by decide))
  have e20 := hf 20 (hd 20 (by decide))
  have e21 := hf 21 (hd 21 (by decide))
  have e22 := hf 22 (hd 22 (by decide))
  have e23 := hf 23 (hd 23 (by decide))
  have e24 := hf 24 (hd 24 (by decide))
  refine ⟨RT_fr hf hp h1, ?_, fun g hg => ?_, ?_, fun d hd9 => ?_, fun g hg => ?_⟩
  · rw [e16, e1, CC_fr hf hp]; exact h2
  · rw [e1] at hg
    have h9 := FD_fr hf hp (h3 g hg)
    unfold FD at h9 ⊢
    rw [e22]
    refine ⟨h9.1, h9.2.1, fun q hq => ⟨fun j x hx => ?_, ?_⟩⟩
    · have h8 := (h9.2.2 q hq).1 j x hx
      unfold rw4 at h8 ⊢
      rw [e18, e19, e20, e21]; exact h8
    · have h8 := (h9.2.2 q hq).2
      unfold CLS at h8 ⊢
      rw [e23, e24]; exact h8
  · unfold CBD at h4 ⊢
    rw [e16, e23, e24, e1, e8]; exact h4
  · rw [e16] at hd9
    obtain ⟨s, s1, s2, s3, s4⟩ := h5 d hd9
    have em : mL V' d = mL V d := by unfold mL; rw [e23, e24, e8]
    refine ⟨s, ?_, ?_, ?_, fun j x hx => ?_⟩
    · rw [e22, e1]; exact s1
    · rw [e22, e1, em]; exact s2
    · rw [em, e17]; exact s3
    · rw [em] at hx
      have h8 := s4 j x hx
      unfold rw4 at h8 ⊢
      rw [e18, e19, e20, e21]; exact h8
  · rw [e1] at hg
    rw [SS_fr hf hp, e17]; exact h6 g hg
def mkP (t : Int) (V : pvM) (r : Int) (V' : pvM) : Prop := r = ((SS V (V 1 6).toNat : Nat) : Int) ∧ fr mks V V' ∧ RW V' ∧ BG t V' ∧ V' 16 10 = 1 ∧ LOW V'
set_option maxHeartbeats 4000000 in
set_option maxRecDepth 100000 in
theorem s_make_b46 {N nf : Nat} {t x : Int} {V0 : pvM} (hN : 3000 ≤ N) (hP : PI V0) (hK : KP V0) (ht : 0 ≤ t ∧ t ≤ 600) (hR : RT V0) (hnf : V0 1 6 = nf) : ∀ (fu c : Nat) (V : pvM), c ≤ CC V0 nf → CC V0 nf + 1 ≤ fu + c → ME t V0 V nf c → wz (q_X5_make_b46 N fu x c V) (fun r V' => r = x ∧ fr mks V0 V' ∧ RW V' ∧ BG t V' ∧ V' 16 10 = 1 ∧ LOW V') := by
  have hss := SS_le hP hR nf (by omega)
  have hn12 := hP.1
  intro fu
  induction fu with
  | zero => intro c V h1 h2; omega
  | succ fu ih =>
    intro c V h1 h2 hE
    simp only [q_X5_make_b46]
    have hE' := hE
    obtain ⟨i1, i2, i3, i5, i6, i7, i8, i9, i10, i11⟩ := hE'
    refine wp_gR ?_
    rw [i5]
    refine wp_if (fun h => ?_) (fun h => ?_)
    · have hc : c = CC V0 nf := by omega
      refine wp_lI (wp_bT (Or.inr rfl) (wp_gW (wp_rT ⟨rfl, rfl, ?_⟩)))
      have f1 : fr [16] V (pz_u V 16 10 1) := fr_u (by simp)
      obtain ⟨V1, hV1⟩ : ∃ V1, V1 = pz_u V 16 10 1 := ⟨_, rfl⟩
      have e169 : V1 16 9 = V 16 9 := by rw [hV1, pu_row, up_app, if_neg (by decide)]
      rw [← hV1] at f1 ⊢
      have f01 : fr mks V0 V1 := i1.trans (f1.mono (by decide))
      have e16 : V1 1 6 = nf := by rw [f01 1 (by decide)]; exact hnf
      refine ⟨f01, rw_u i2 (f1 17 (by decide)), bg_u i3 (f1 17 (by decide)) (f1 39 (by decide)) (f1 84 (by decide)), by rw [hV1, pz_u_eq], RT_fr f01 pdk hR, ?_, fun g hg => ?_, ?_, fun d hd => ?_, fun g hg => ?_⟩
      · rw [e169, e16, CC_fr f01 pdk, i5]; rfl
      · rw [e16] at hg
        refine FD_fr f01 pdk ((i6 g (by omega)).keep (L := SS V0 nf) (C := CC V0 nf) (ke.of_fr f1 (by decide)) ?_ (SS_mono (by omega)) (CC_mono (by omega)) (hP.2.1 g (by omega)).2.1)
        rw [f1 22 (by decide)]; exact ⟨rfl, rfl⟩
      · unfold CBD at i7 ⊢
        rw [e169, f1 23 (by decide), f1 24 (by decide), f01 1 (by decide), f01 8 (by decide)]; exact i7
      · rw [e169, i5] at hd
        obtain ⟨s, s1, s2, s3, s4⟩ := i8 d (by omega)
        have em : mL V1 d = mL V d := by unfold mL; rw [f1 23 (by decide), f1 24 (by decide), f1 8 (by decide)]
        have en : (V1 1 6).toNat = nf := by omega
        refine ⟨s, ?_, ?_, ?_, fun j x hx => ?_⟩
        · rw [f1 22 (by decide), en]; exact s1
        · rw [f1 22 (by decide), en, em]; exact s2
        · rw [em, f1 17 (by decide)]; exact s3
        · rw [em] at hx
          have h8 := s4 j x hx
          unfold rw4 at h8 ⊢
          rw [f1 18 (by decide), f1 19 (by decide), f1 20 (by decide), f1 21 (by decide)]; exact h8
      · rw [e16] at hg
        rw [SS_fr f01 pdk, f1 17 (by decide)]
        have := SS_mono (V := V0) (f := g + 1) (g := nf) (by omega)
        omega
    · refine wp_cL (s_makeMethod hN hP hK ht hR hnf (by omega) hE) (fun _ V1 hV1 => ?_)
      refine wp_lw (by omega) ?_
      exact ih (c + 1) V1 (by omega) (by omega) hV1
set_option maxHeartbeats 4000000 in
set_option maxRecDepth 100000 in
theorem s_make_b14 {N nf : Nat} {t : Int} {V0 : pvM} (hN : 3000 ≤ N) (hP : PI V0) (hK : KP V0) (ht : 0 ≤ t ∧ t ≤ 600) (hR : RT V0) (hnf : V0 1 6 = nf) : ∀ (fu f : Nat) (V : pvM), f ≤ nf → nf + 1 ≤ fu + f → FE t V0 V f → wz (q_X5_make_b14 N fu f V) (fun r V' => r = ((SS V0 nf : Nat) : Int) ∧ fr mks V0 V' ∧ RW V' ∧ BG t V' ∧ V' 16 10 = 1 ∧ LOW V') := by
  have hss := SS_le hP hR nf (by omega)
  have hn12 := hP.1
  intro fu
  induction fu with
  | zero => intro f V h1 h2; omega
  | succ fu ih =>
    intro f V h1 h2 hE
    simp only [q_X5_make_b14]
    have hE' := hE
    obtain ⟨i1, i2, i3, i4, i5, i6, i7⟩ := hE'
    rw [cL_eq e_functionTotal, i1 1 (by decide), hnf]
    refine wp_if (fun h => ?_) (fun h => ?_)
    · have hf : f = nf := by omega
      subst hf
      rw [cL_eq e_xlength, i4]
      refine wp_lI ?_
      refine s_make_b46 hN hP hK ht hR hnf N 0 V (by omega) (by omega) ⟨i1, i2, i3, i5, i6, i7, fun d hd => by omega, by omega, by omega, fun h9 => ?_⟩
      have h8 := (i6 (f - 1) (by omega)).2.1
      rw [show f - 1 + 1 = f by omega] at h8
      rw [Nat.add_zero, h8, i4]
    · refine wp_cL (s_makeFunction hN hP hK ht hR (by omega) hE) (fun _ V1 hV1 => ?_)
      refine wp_lw (by omega) ?_
      exact ih (f + 1) V1 (by omega) (by omega) hV1
set_option maxHeartbeats 4000000 in
set_option maxRecDepth 100000 in
theorem s_make {N : Nat} {t : Int} {V : pvM} (hN : 3000 ≤ N) (hP : PI V) (hW : RW V) (hB : BG t V) (hK : KP V) (ht : 0 ≤ t ∧ t ≤ 600) (hR : RT V) : wz (q_X5_make N V) (mkP t V) := by
  have hn12 := hP.1
  unfold q_X5_make
  have ec : q_X3_clear N V = some (0, 0, pz_u V 17 4 0) := rfl
  rw [cL_eq ec]
  refine wp_lI (wp_gW (wp_lI ?_))
  obtain ⟨V1, hV1⟩ : ∃ V1, V1 = pz_u (pz_u V 17 4 0) 16 9 0 := ⟨_, rfl⟩
  rw [← hV1]
  have f1 : fr mks V V1 := by rw [hV1]; exact (fr_u (by decide)).trans (fr_u (by decide))
  have e17 : V1 17 = va_up (V 17) 4 0 := by rw [hV1]; simp [pu_off, pu_row]
  have e16 : V1 16 = va_up (V 16) 9 0 := by rw [hV1]; simp [pu_off, pu_row]
  have e84 : V1 84 = V 84 := by rw [hV1]; simp [pu_off]
  have k9 := s_make_b14 (N := N) (nf := (V 1 6).toNat) (t := t) (V0 := V) hN hP hK ht hR (by omega) N 0 V1 (by omega) (by omega) ⟨f1, ?_, ?_, ?_, ?_, fun g hg => by omega, ?_⟩
  · exact k9
  · unfold RW at hW ⊢
    rw [e17, up_app, up_app, if_neg (by decide), if_pos rfl]
    refine ⟨hW.1, by omega, ?_⟩
    have := hW.1
    unfold capS at this; omega
  · unfold BG at hB ⊢
    rw [e17, e84, up_app, if_neg (by decide), f1 39 (by decide)]; exact hB
  · rw [e17, up_app, if_pos rfl]; rfl
  · rw [e16, up_app, if_pos rfl]; rfl
  · intro c hc
    rw [e16, up_app, if_pos rfl] at hc; omega
def lowP (t : Int) (V : pvM) (r : Int) (V' : pvM) : Prop := RW V' ∧ BG t V' ∧ fr mks V V' ∧ ((RT V ∧ r = ((SS V (V 1 6).toNat : Nat) : Int) ∧ V' 16 10 = 1 ∧ LOW V') ∨ (¬ RT V ∧ r = -1 ∧ fr [14, 15] V V'))
theorem ckS_RT {V : pvM} {r : Int} (h : ckS V r) : (r = -1 ↔ RT V) := by
  constructor
  · intro hr
    rcases h with h | ⟨f, p, h1, h2, h3, h4, h5⟩
    · exact h.2
    · omega
  · intro hR
    exact ckS_uniq h (Or.inl ⟨rfl, hR⟩)
set_option maxHeartbeats 4000000 in
set_option maxRecDepth 100000 in
theorem s_lower {N : Nat} {t : Int} {V : pvM} (hN : 3000 ≤ N) (hP : PI V) (hW : RW V) (hB : BG t V) (hK : KP V) (ht : 0 ≤ t ∧ t ≤ 600) : wz (q_X10_lower N V) (lowP t V) := by
  unfold q_X10_lower
  refine wp_cL (s_check (by omega) hP) (fun r V1 hV1 => ?_)
  obtain ⟨f1, c1⟩ := hV1
  have hW1 : RW V1 := rw_u hW (f1 17 (by decide))
  have hB1 : BG t V1 := bg_u hB (f1 17 (by decide)) (f1 39 (by decide)) (f1 84 (by decide))
  have hrt := ckS_RT c1
  refine wp_lI ?_
  refine wp_if (fun h => ?_) (fun h => ?_)
  · exact wp_lI (wp_rT ⟨rfl, hW1, hB1, f1.mono (by decide), Or.inr ⟨fun h9 => h (hrt.mpr h9), rfl, f1⟩⟩)
  · have hR : RT V := hrt.mp (Decidable.not_not.mp h)
    have hR1 : RT V1 := RT_fr f1 pd1415 hR
    refine wp_cL (s_make hN (hP.fr f1 pd1415) hW1 hB1 (KP_fr f1 (by decide) hK) ht hR1) (fun r2 V2 h2 => ?_)
    obtain ⟨m1, m2, m3, m4, m5, m6⟩ := h2
    refine wp_rT ⟨rfl, m3, m4, (f1.mono (by decide)).trans m2, Or.inl ⟨hR, ?_, m5, m6⟩⟩
    rw [m1, f1 1 (by decide), SS_fr f1 pd1415]
