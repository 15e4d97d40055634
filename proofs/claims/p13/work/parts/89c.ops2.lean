/-! CALL BY CALL, 2 -/
theorem ckS_fr {cs : List Nat} {V V' : pvM} (hf : fr cs V V') (hd : ∀ c, c ∈ prog → c ∉ cs) (r : Int) : ckS V' r ↔ ckS V r := by
  have e1 := hf 1 (hd 1 (by decide))
  unfold ckS
  rw [e1]
  have hw : ∀ f r, wrS V' f r ↔ wrS V f r := fun f r => wrS_fr hf hd f r
  simp only [hw]
section OP2
variable {N : Nat} {t : Int} {V : pvM}
set_option maxHeartbeats 4000000 in
set_option maxRecDepth 100000 in
theorem op_recipe {v : Int} (hN : 20 ≤ N) (h : LI t V) (ht : t ≤ 600) (hv : I64 v) : wz (q_L_recipe N v V) (fun v' V1 => wz (q_X11_recipe N v V1) (fun r V2 => SAME (t + 1) v' r V2)) := by
  have h5 := h.1.2.2.2.2.1
  have hI := h.2.1
  have h45 : V 45 7 = V 2 5 := hI.2.2.2.2.2.2.1
  have e45 : thV V 45 = V 45 := thV_fr V 45 (by decide)
  unfold q_L_recipe
  refine wz_wL (s_recipe hN hv h5 h.1.2.2.2.2.2.1 (LI_RM h ht)) (fun r V' h9 => ?_) (fun r V' h9 => ?_) (fun r V' h9 => ?_) (fun t' r V' h9 => by unfold crP at h9; omega)
  · rcases h9 with ⟨-, h0, -⟩ | ⟨-, -, h0, -⟩ | ⟨h1, h2, -, rfl, c1, c2, ⟨n, c3, c4, c5⟩, c6, c7⟩
    · omega
    · omega
    obtain ⟨W, hW⟩ : ∃ W, W = pz_u V' 83 0 (V 2 5) := ⟨_, rfl⟩
    rw [← hW]
    have wV : ∀ c, c ≠ 83 → W c = V' c := fun c hc => by rw [hW, pu_off hc]
    have w83 : W 83 0 = V 2 5 := by rw [hW, pz_u_eq]
    have wof : ∀ c, c ∉ [2, 3, 4, 5, 6, 7, 16, 83] → W c = V c := fun c hc => by simp at hc; rw [wV c (by omega), c7 c (by simp; omega)]
    have w45 : W 45 = V 45 := wof 45 (by decide)
    refine wp_mono (s_mrecipe (N := N) hN (v := v) (V := W) hv (by rw [w45, h45]; exact h5)) (fun _ r V2 h9 => ⟨h9.1, ?_⟩)
    rcases h9.2 with ⟨h0, -⟩ | ⟨-, h0, -⟩ | ⟨-, h0, rfl, d1, ⟨m, d3, d4, d5⟩, d6⟩
    · exact absurd h1 h0
    · rw [w45] at h0; omega
    have hmn : m = n := ND_uniq d3 c3
    subst hmn
    have hn1 : 1 ≤ m := by
      rcases Nat.eq_zero_or_pos m with h0 | h0
      · subst h0
        have h8 := c3.2.1
        rw [qt_0] at h8
        have := h1.1
        omega
      · exact h0
    rw [w45, h45] at d1 d4 d5 ⊢
    have zof : ∀ c, c ∉ [2, 3, 4, 5, 6, 7, 16, 45, 51, 52, 83] → V2 c = V c := fun c hc => by simp at hc; rw [d6 c (by simp; omega), wof c (by simp; omega)]
    have zV : ∀ c, c ∉ [45, 51, 52, 83] → V2 c = V' c := fun c hc => by simp at hc; rw [d6 c (by simp; omega), wV c (by omega)]
    have z16 : V2 16 = va_up (V 16) 10 0 := by rw [zV 16 (by decide), c6]
    have zf : ∀ i, i ∉ [0, 7, 10] → V2 45 i = V 45 i := fun i hi => by simp at hi; rw [d1]; simp only [up_app]; rw [if_neg (by omega), if_neg (by omega), if_neg (by omega)]
    obtain ⟨a1, a2, a3, a4, a5, a6, a7, a8⟩ := h
    refine ⟨⟨?_, ?_, rw_u a3 (zof 17 (by decide)), by unfold KS; rw [zof 39 (by decide)]; exact a4, BG_s (bg_u a5 (zof 17 (by decide)) (zof 39 (by decide)) (zof 84 (by decide))), ⟨Or.inl (by rw [z16, up_app, if_pos rfl]), by rw [d1, z16]; simp [up_app], fun h9 => by rw [z16, up_app, if_pos rfl] at h9; omega⟩, ?_, ?_⟩, by rw [d1]; simp [up_app], fun _ => by rw [d6 83 (by decide), w83]⟩
    · obtain ⟨p1, p2, p3, p4, p5, p6, p7⟩ := a1
      have z25 : V2 2 5 = V 2 5 + 1 := by rw [zV 2 (by decide), c1]
      refine ⟨by rw [zof 1 (by decide)]; exact p1, by rw [zof 8 (by decide), zof 9 (by decide)]; exact p2, by rw [zof 10 (by decide)]; exact p3, by rw [zof 11 (by decide), zof 12 (by decide)]; exact p4, by rw [z25]; omega, ?_, fun q hq => ?_⟩
      · rw [z25]
        exact c2.congr (by rw [zV 2 (by decide)]) (zV 3 (by decide)) (zV 4 (by decide)) (zV 5 (by decide)) (zV 6 (by decide)) (zV 7 (by decide))
      · rw [z25] at hq
        rw [zV 3 (by decide), c4, up_app]
        split
        · omega
        · exact p7 q (by omega)
    · obtain ⟨i1, i2, i3, i4, i5, i6, i7, i8, i9⟩ := a2
      have w51 : W 51 = V 51 := wof 51 (by decide)
      have w52 : W 52 = V 52 := wof 52 (by decide)
      refine ⟨by rw [zf 1 (by decide), zof 1 (by decide)]; exact i1, by rw [zof 46 (by decide), zof 8 (by decide)]; exact i2, by rw [zof 47 (by decide), zof 9 (by decide)]; exact i3, by rw [zof 48 (by decide), zof 10 (by decide)]; exact i4, by rw [zof 49 (by decide), zof 11 (by decide)]; exact i5, by rw [zof 50 (by decide), zof 12 (by decide)]; exact i6, ?_, by rw [d4, zV 3 (by decide), c4, w51, i8], by rw [d5, zV 6 (by decide), c5, w52, i9]⟩
      rw [d1, zV 2 (by decide), c1, up_app, if_pos rfl]
    · unfold OUT at a7 ⊢; rw [zof 39 (by decide), zf 31 (by decide)]; exact a7
    · unfold TLD at a8 ⊢; rw [zof 39 (by decide), zof 28 (by decide), zf 27 (by decide), zf 29 (by decide), zf 30 (by decide), zf 31 (by decide)]; exact a8
  · rcases h9 with ⟨h1, -, rfl⟩ | ⟨-, -, h0, -⟩ | ⟨-, -, h0, -⟩
    · refine wp_mono (s_mrecipe (N := N) hN (v := v) (V := thV V) hv (by rw [e45, h45]; exact h5)) (fun _ r V2 h9 => ⟨h9.1, ?_⟩)
      rcases h9.2 with ⟨-, h0⟩ | ⟨h0, -⟩ | ⟨h0, -⟩
      · exact ref_0 (LI_th h) h0 (by decide)
      · exact absurd h0 h1
      · exact absurd h0 h1
    · omega
    · omega
  · rcases h9 with ⟨-, h0, -⟩ | ⟨h1, h2, -, rfl⟩ | ⟨-, -, h0, -⟩
    · omega
    · refine wp_mono (s_mrecipe (N := N) hN (v := v) (V := thV V) hv (by rw [e45, h45]; exact h5)) (fun _ r V2 h9 => ⟨h9.1, ?_⟩)
      have h8 := h9.2
      unfold mrP at h8
      rw [e45, h45] at h8
      rcases h8 with ⟨h0, -⟩ | ⟨-, -, h0⟩ | ⟨-, h0, -⟩
      · exact absurd h1 h0
      · exact ref_0 (LI_th h) h0 (by decide)
      · omega
    · omega
theorem op_check (hN : 50 ≤ N) (h : LI t V) : wz (q_X10_check N V) (fun v V1 => wz (q_X11_check N V1) (fun r V2 => LI (t + 1) V2 ∧ V2 45 0 = 0 ∧ v = r)) := by
  refine wp_mono (s_check hN h.1) (fun _ v V1 h9 => ⟨h9.1, ?_⟩)
  obtain ⟨-, f1, k1⟩ := h9
  have hL1 : LI t V1 := LI_keep h f1 (by decide) (fun i _ => by rw [f1 45 (by decide)]) (bg_u h.2.2.2.2.1 (f1 17 (by decide)) (f1 39 (by decide)) (f1 84 (by decide)))
  have hL2 : LI t (pz_u V1 45 0 0) := LI_0 hL1
  unfold q_X11_check
  refine wp_lI (wp_gW (wp_cL (s_mcheckAll (N := N) hN hL2.1 hL2.2.1) (fun r V2 h8 => wp_rT ⟨rfl, ?_, ?_, ?_⟩)))
  · obtain ⟨f2, f3, -⟩ := h8
    exact LI_keep (LI_s hL2) f2 (by decide) (fun i hi => f3 i (by intro h0; subst h0; revert hi; decide)) (BG_s (bg_u hL2.2.2.2.2.1 (f2 17 (by decide)) (f2 39 (by decide)) (f2 84 (by decide))))
  · rw [h8.2.1 0 (by decide), pz_u_eq]
  · have fu : fr [45] V1 (pz_u V1 45 0 0) := fr_u (by simp)
    have f9 : ∀ c, c ∈ prog → pz_u V1 45 0 0 c = V c := fun c hc => by
      simp [prog] at hc
      rw [fu c (by simp; omega), f1 c (by simp; omega)]
    have k2 := h8.2.2
    refine ckS_uniq k1 ?_
    have f10 : fr [14, 15, 45] V (pz_u V1 45 0 0) := (f1.mono (by decide)).trans (fu.mono (by decide))
    exact (ckS_fr f10 (by decide) r).mp k2
set_option maxHeartbeats 4000000 in
set_option maxRecDepth 100000 in
theorem op_lower (hN : 3000 ≤ N) (h : LI t V) (ht : 0 ≤ t ∧ t ≤ 600) : wz (q_X10_lower N V) (fun v V1 => wz (q_X11_lower N V1) (fun r V2 => LI (t + 1) V2 ∧ V2 45 0 = 0 ∧ v = r)) := by
  have h' := h
  obtain ⟨a1, a2, a3, a4, a5, a6, a7, a8⟩ := h'
  refine wp_mono (s_lower hN a1 a3 a5 a4.kp ht) (fun _ v V1 h9 => ⟨h9.1, ?_⟩)
  obtain ⟨-, l1, l2, l3, l4⟩ := h9
  have pe : ∀ c, c ∈ prog → V1 c = V c := fun c hc => l3 c ((by decide : ∀ c, c ∈ prog → c ∉ mks) c hc)
  have hP1 : PI V1 := PI_of a1 pe
  have hI1 : RI V1 := RI_of a2 pe (fun c hc => l3 c ((by decide : ∀ c, c ∈ [46, 47, 48, 49, 50, 51, 52] → c ∉ mks) c hc)) (by rw [l3 45 (by decide)]) (by rw [l3 45 (by decide)])
  refine wp_mono (s_mlower hN hP1 hI1) (fun _ r V2 h8 => ⟨h8.1, ?_⟩)
  obtain ⟨-, m0, m1, m2, m3⟩ := h8
  have rt : RT V1 ↔ RT V := ⟨fun hr => RT_fr (cs := mks) (fun c hc => (l3 c hc).symm) (by decide) hr, fun hr => RT_fr l3 (by decide) hr⟩
  have n1 : (V1 1 6).toNat = (V 1 6).toNat := by rw [pe 1 (by decide)]
  have sse : SS V1 (V1 1 6).toNat = SS V (V 1 6).toNat := by rw [n1]; exact SS_fr l3 (by decide) _
  have z39 : V2 39 = V 39 := by rw [m1 39 (by decide), l3 39 (by decide)]
  have z28 : V2 28 = V 28 := by rw [m1 28 (by decide), l3 28 (by decide)]
  have pe2 : ∀ c, c ∈ prog → V2 c = V1 c := fun c hc => m1 c ((by decide : ∀ c, c ∈ prog → c ∉ mls) c hc)
  have zf : ∀ i, i ∉ lfs → V2 45 i = V 45 i := fun i hi => by rw [m2 i hi, l3 45 (by decide)]
  have base : MM V2 → LI (t + 1) V2 := fun hM => by
    refine ⟨PI_of hP1 pe2, RI_of hI1 pe2 (fun c hc => m1 c ((by decide : ∀ c, c ∈ [46, 47, 48, 49, 50, 51, 52] → c ∉ mls) c hc)) (m2 1 (by decide)) (m2 7 (by decide)), rw_u l1 (m1 17 (by decide)), by unfold KS; rw [z39]; exact a4, BG_s (bg_u l2 (m1 17 (by decide)) (m1 39 (by decide)) (m1 84 (by decide))), hM, ?_, ?_⟩
    · unfold OUT at a7 ⊢; rw [z39, zf 31 (by decide)]; exact a7
    · unfold TLD at a8 ⊢; rw [z39, z28, zf 27 (by decide), zf 29 (by decide), zf 30 (by decide), zf 31 (by decide)]; exact a8
  have z16 : V2 16 = V1 16 := m1 16 (by decide)
  rcases l4 with ⟨k1, k2, k3, k4⟩ | ⟨k1, k2, k3⟩
  · rcases m3 with ⟨-, q2, q3, q4⟩ | ⟨q1, -⟩
    · refine ⟨base ⟨Or.inr (by rw [z16, k3]), by rw [z16, k3, q3], fun _ => ⟨k4.fr m1 (by decide), q4⟩⟩, m0, by rw [k2, q2, sse]⟩
    · exact absurd (rt.mpr k1) q1
  · rcases m3 with ⟨q1, -⟩ | ⟨-, q2, q3, q4⟩
    · exact absurd (rt.mp q1) k1
    · refine ⟨base ?_, m0, by rw [k2, q2]⟩
      have f1 : fr [14, 15, 45, 53, 54, 55] V V2 := (k3.mono (by decide)).trans (q3.mono (by decide))
      exact MM_keep a6 f1 (by decide) (by rw [q4 10 (by decide), k3 45 (by decide)]) (by rw [q4 21 (by decide), k3 45 (by decide)]) (by rw [q4 24 (by decide), k3 45 (by decide)])
end OP2
