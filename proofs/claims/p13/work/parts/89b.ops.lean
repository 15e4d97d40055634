/-! CALL BY CALL -/
section OP1
variable {N : Nat} {t : Int} {V : pvM}
/-- refused on both sides -/
theorem ref_0 {k : Int} {V1 V2 : pvM} {r : Int} (hL : LI t V1) (h : V2 = pz_u V1 45 0 k) (hk : k ≠ 0) : SAME t k r V2 := by
  subst h
  exact ⟨LI_0 hL, by rw [pz_u_eq], fun h0 => absurd h0 hk⟩
set_option maxHeartbeats 4000000 in
set_option maxRecDepth 100000 in
theorem op_function {x : Int} (h : LI t V) (ht : t ≤ 600) : wz (q_L_function N x V) (fun v V1 => wz (q_X11_function N x V1) (fun r V2 => SAME (t + 1) v r V2)) := by
  have hn := h.1.1
  have hI := h.2.1
  have h45 : V 45 1 = V 1 6 := hI.1
  have e45 : thV V 45 = V 45 := thV_fr V 45 (by decide)
  unfold q_L_function
  refine wz_wL (s_function hn (LI_RM h ht)) (fun r V' h9 => ?_) (fun r V' h9 => ?_) (fun r V' h9 => ?_) (fun t' r V' h9 => by omega)
  · rcases h9 with ⟨-, h0, -⟩ | ⟨-, -, h0, -⟩ | ⟨h1, h2, -, rfl, rfl⟩
    · omega
    · omega
    obtain ⟨n, hnn⟩ : ∃ n : Nat, V 1 6 = n := ⟨(V 1 6).toNat, by omega⟩
    obtain ⟨W, hW⟩ : ∃ W, W = pz_u (fnV V x) 83 0 (V 1 6) := ⟨_, rfl⟩
    rw [← hW]
    have w1 : W 1 = va_up (V 1) 6 ((n + 1 : Nat) : Int) := by rw [hW, pu_off (by decide)]; unfold fnV; rw [pu_row, pu_off (by decide), pu_off (by decide), hnn]; rfl
    have w8 : W 8 = va_up (V 8) n x := by rw [hW, pu_off (by decide)]; unfold fnV; rw [pu_off (by decide), pu_row, pu_off (by decide), hnn]; rfl
    have w16 : W 16 = va_up (V 16) 10 0 := by rw [hW, pu_off (by decide)]; unfold fnV; rw [pu_off (by decide), pu_off (by decide), pu_row]
    have w83 : W 83 0 = V 1 6 := by rw [hW, pz_u_eq]
    have wof : ∀ c, c ∉ [1, 8, 16, 83] → W c = V c := fun c hc => by
      simp at hc; rw [hW, pu_off (by omega)]; unfold fnV; rw [pu_off (by omega), pu_off (by omega), pu_off (by omega)]
    have w45 : W 45 = V 45 := wof 45 (by decide)
    refine wp_mono (s_mfunction (N := N) (x := x) (V := W) (by rw [w45, h45]; exact hn)) (fun _ r V2 h9 => ⟨h9.1, ?_⟩)
    rcases h9.2 with ⟨h0, -⟩ | ⟨-, h0, -⟩ | ⟨-, h0, rfl, rfl⟩
    · exact absurd h0 h1
    · rw [w45] at h0; omega
    rw [w45, h45, hnn, show ((n : Int)).toNat = n by omega, show (n : Int) + 1 = ((n + 1 : Nat) : Int) by omega]
    obtain ⟨Z, hZ⟩ : ∃ Z, Z = pz_u (pz_u (pz_u (pz_u W 45 0 0) 45 10 0) 46 n x) 45 1 ((n + 1 : Nat) : Int) := ⟨_, rfl⟩
    rw [← hZ]
    have z45 : Z 45 = va_up (va_up (va_up (V 45) 0 0) 10 0) 1 ((n + 1 : Nat) : Int) := by rw [hZ, pu_row, pu_off (by decide), pu_row, pu_row, w45]
    have z46 : Z 46 = va_up (V 46) n x := by rw [hZ, pu_off (by decide), pu_row, pu_off (by decide), pu_off (by decide), wof 46 (by decide)]
    have zW : ∀ c, c ≠ 45 → c ≠ 46 → Z c = W c := fun c a1 a2 => by rw [hZ, pu_off a1, pu_off a2, pu_off a1, pu_off a1]
    have zof : ∀ c, c ∉ [1, 8, 16, 45, 46, 83] → Z c = V c := fun c hc => by simp at hc; rw [zW c (by omega) (by omega), wof c (by simp; omega)]
    have z1 : Z 1 = va_up (V 1) 6 ((n + 1 : Nat) : Int) := by rw [zW 1 (by decide) (by decide), w1]
    have z8 : Z 8 = va_up (V 8) n x := by rw [zW 8 (by decide) (by decide), w8]
    have z16 : Z 16 = va_up (V 16) 10 0 := by rw [zW 16 (by decide) (by decide), w16]
    have zf : ∀ i, i ∉ [0, 1, 10] → Z 45 i = V 45 i := fun i hi => by simp at hi; rw [z45]; simp only [up_app]; rw [if_neg (by omega), if_neg (by omega), if_neg (by omega)]
    obtain ⟨a1, a2, a3, a4, a5, a6, a7, a8⟩ := h
    refine ⟨⟨?_, ?_, rw_u a3 (zof 17 (by decide)), by unfold KS; rw [zof 39 (by decide)]; exact a4, BG_s (bg_u a5 (zof 17 (by decide)) (zof 39 (by decide)) (zof 84 (by decide))), ⟨Or.inl (by rw [z16, up_app, if_pos rfl]), by rw [z45, z16]; simp [up_app], fun h9 => by rw [z16, up_app, if_pos rfl] at h9; omega⟩, ?_, ?_⟩, by rw [z45]; simp [up_app], fun _ => by rw [zW 83 (by decide) (by decide), w83, hnn]⟩
    · obtain ⟨p1, p2, p3, p4, p5, p6, p7⟩ := a1
      refine ⟨by rw [z1, up_app, if_pos rfl]; omega, fun f hf => ?_, by rw [zof 10 (by decide)]; exact p3, by rw [zof 11 (by decide), zof 12 (by decide)]; exact p4, by rw [zof 2 (by decide)]; exact p5, ?_, by rw [zof 2 (by decide), zof 3 (by decide)]; exact p7⟩
      · rw [z8, zof 9 (by decide), up_app]
        refine ⟨?_, (p2 f hf).2⟩
        split
        · omega
        · exact (p2 f hf).1
      · rw [zof 2 (by decide)]
        exact p6.congr (by rw [zof 2 (by decide)]) (zof 3 (by decide)) (zof 4 (by decide)) (zof 5 (by decide)) (zof 6 (by decide)) (zof 7 (by decide))
    · obtain ⟨i1, i2, i3, i4, i5, i6, i7, i8, i9⟩ := a2
      refine ⟨by rw [z45, z1]; simp [up_app], by rw [z46, z8, i2], by rw [zof 47 (by decide), zof 9 (by decide)]; exact i3, by rw [zof 48 (by decide), zof 10 (by decide)]; exact i4, by rw [zof 49 (by decide), zof 11 (by decide)]; exact i5, by rw [zof 50 (by decide), zof 12 (by decide)]; exact i6, by rw [zf 7 (by decide), zof 2 (by decide)]; exact i7, by rw [zof 51 (by decide), zof 3 (by decide)]; exact i8, by rw [zof 52 (by decide), zof 6 (by decide)]; exact i9⟩
    · unfold OUT at a7 ⊢; rw [zof 39 (by decide), zf 31 (by decide)]; exact a7
    · unfold TLD at a8 ⊢; rw [zof 39 (by decide), zof 28 (by decide), zf 27 (by decide), zf 29 (by decide), zf 30 (by decide), zf 31 (by decide)]; exact a8
  · rcases h9 with ⟨h1, -, rfl⟩ | ⟨-, -, h0, -⟩ | ⟨-, -, h0, -⟩
    · refine wp_mono (s_mfunction (N := N) (x := x) (V := thV V) (by rw [e45, h45]; exact hn)) (fun _ r V2 h9 => ⟨h9.1, ?_⟩)
      rcases h9.2 with ⟨-, h0⟩ | ⟨h0, -⟩ | ⟨h0, -⟩
      · exact ref_0 (LI_th h) h0 (by decide)
      · exact absurd h1 h0
      · exact absurd h1 h0
    · omega
    · omega
  · rcases h9 with ⟨-, h0, -⟩ | ⟨h1, h2, -, rfl⟩ | ⟨-, -, h0, -⟩
    · omega
    · refine wp_mono (s_mfunction (N := N) (x := x) (V := thV V) (by rw [e45, h45]; exact hn)) (fun _ r V2 h9 => ⟨h9.1, ?_⟩)
      rw [e45, h45] at h9
      rcases h9.2 with ⟨h0, -⟩ | ⟨-, -, h0⟩ | ⟨-, h0, -⟩
      · exact absurd h0 h1
      · exact ref_0 (LI_th h) h0 (by decide)
      · omega
    · omega
set_option maxHeartbeats 4000000 in
set_option maxRecDepth 100000 in
theorem op_code {f w a b : Int} (h : LI t V) (ht : t ≤ 600) (ha : I32 a) (hb : I32 b) : wz (q_L_code N f w a b V) (fun v V1 => wz (q_X11_code N f w a b V1) (fun r V2 => SAME (t + 1) v r V2)) := by
  have hn := h.1.1
  have hl : ∀ k : Nat, k < 12 → 0 ≤ V 9 k ∧ V 9 k ≤ 40 := fun k hk => (h.1.2.1 k hk).2
  have hI := h.2.1
  have h45 : V 45 1 = V 1 6 := hI.1
  have h47 : V 47 = V 9 := hI.2.2.1
  have e45 : thV V 45 = V 45 := thV_fr V 45 (by decide)
  have e47 : thV V 47 = V 47 := thV_fr V 47 (by decide)
  have hcd : ∀ W : pvM, W 45 1 = V 45 1 → (cdR W f w ↔ ccR V f w) := fun W hW => by unfold cdR ccR; rw [hW, h45]
  unfold q_L_code
  refine wz_wL (s_code hn hl (LI_RM h ht)) (fun r V' h9 => ?_) (fun r V' h9 => ?_) (fun r V' h9 => ?_) (fun t' r V' h9 => by omega)
  · rcases h9 with ⟨-, h0, -⟩ | ⟨-, -, h0, -⟩ | ⟨h1, h2, -, rfl, rfl⟩
    · omega
    · omega
    have hf := h1.1
    obtain ⟨fn, hfn⟩ : ∃ fn : Nat, f = fn := ⟨f.toNat, by omega⟩
    subst hfn
    rw [show ((fn : Int)).toNat = fn by omega] at h2 ⊢
    have hfl := hl fn (by omega)
    obtain ⟨l, hll⟩ : ∃ l : Nat, V 9 fn = l := ⟨(V 9 fn).toNat, by omega⟩
    obtain ⟨i, hi⟩ : ∃ i : Nat, i = 40 * fn + l := ⟨_, rfl⟩
    have ei : (40 * (fn : Int) + V 9 fn).toNat = i := by omega
    obtain ⟨W, hW⟩ : ∃ W, W = pz_u (ccV V fn w a b) 83 0 (V 9 fn) := ⟨_, rfl⟩
    rw [← hW]
    unfold ccV at hW
    rw [show ((fn : Int)).toNat = fn by omega, ei, hll] at hW
    have w9 : W 9 = va_up (V 9) fn ((l : Int) + 1) := by rw [hW, pu_off (by decide), pu_row, pu_off (by decide), pu_off (by decide), pu_off (by decide), pu_off (by decide)]
    have w10 : W 10 = va_up (V 10) i w := by rw [hW, pu_off (by decide), pu_off (by decide), pu_off (by decide), pu_off (by decide), pu_row, pu_off (by decide)]
    have w11 : W 11 = va_up (V 11) i a := by rw [hW, pu_off (by decide), pu_off (by decide), pu_off (by decide), pu_row, pu_off (by decide), pu_off (by decide)]
    have w12 : W 12 = va_up (V 12) i b := by rw [hW, pu_off (by decide), pu_off (by decide), pu_row, pu_off (by decide), pu_off (by decide), pu_off (by decide)]
    have w16 : W 16 = va_up (V 16) 10 0 := by rw [hW, pu_off (by decide), pu_off (by decide), pu_off (by decide), pu_off (by decide), pu_off (by decide), pu_row]
    have w83 : W 83 0 = l := by rw [hW, pz_u_eq]
    have wof : ∀ c, c ∉ [9, 10, 11, 12, 16, 83] → W c = V c := fun c hc => by
      simp at hc; rw [hW, pu_off (by omega), pu_off (by omega), pu_off (by omega), pu_off (by omega), pu_off (by omega), pu_off (by omega)]
    have w45 : W 45 = V 45 := wof 45 (by decide)
    have w47 : W 47 = V 9 := by rw [wof 47 (by decide), h47]
    refine wp_mono (s_mcode (N := N) (f := fn) (w := w) (a := a) (b := b) (V := W) (by rw [w45, h45]; exact hn) (by rw [w47]; exact hl)) (fun _ r V2 h9 => ⟨h9.1, ?_⟩)
    have hc9 := hcd W (by rw [w45])
    rcases h9.2 with ⟨h0, -⟩ | ⟨-, h0, -⟩ | ⟨-, h0, rfl, h8⟩
    · exact absurd (hc9.mpr h1) h0
    · rw [w47, show ((fn : Int)).toNat = fn by omega] at h0; omega
    unfold cdV at h8
    rw [w47, show ((fn : Int)).toNat = fn by omega, ei, hll] at h8
    rw [w47, show ((fn : Int)).toNat = fn by omega, hll]
    have z45 : V2 45 = va_up (va_up (V 45) 0 0) 10 0 := by rw [h8, pu_off (by decide), pu_off (by decide), pu_off (by decide), pu_off (by decide), pu_row, pu_row, w45]
    have z47 : V2 47 = va_up (V 9) fn ((l : Int) + 1) := by rw [h8, pu_row, pu_off (by decide), pu_off (by decide), pu_off (by decide), pu_off (by decide), pu_off (by decide), w47]
    have z48 : V2 48 = va_up (V 48) i w := by rw [h8, pu_off (by decide), pu_off (by decide), pu_off (by decide), pu_row, pu_off (by decide), pu_off (by decide), wof 48 (by decide)]
    have z49 : V2 49 = va_up (V 49) i a := by rw [h8, pu_off (by decide), pu_off (by decide), pu_row, pu_off (by decide), pu_off (by decide), pu_off (by decide), wof 49 (by decide)]
    have z50 : V2 50 = va_up (V 50) i b := by rw [h8, pu_off (by decide), pu_row, pu_off (by decide), pu_off (by decide), pu_off (by decide), pu_off (by decide), wof 50 (by decide)]
    have zW : ∀ c, c ∉ [45, 47, 48, 49, 50] → V2 c = W c := fun c hc => by simp at hc; rw [h8, pu_off (by omega), pu_off (by omega), pu_off (by omega), pu_off (by omega), pu_off (by omega), pu_off (by omega)]
    have zof : ∀ c, c ∉ [9, 10, 11, 12, 16, 45, 47, 48, 49, 50, 83] → V2 c = V c := fun c hc => by simp at hc; rw [zW c (by simp; omega), wof c (by simp; omega)]
    have z9 : V2 9 = va_up (V 9) fn ((l : Int) + 1) := by rw [zW 9 (by decide), w9]
    have z10 : V2 10 = va_up (V 10) i w := by rw [zW 10 (by decide), w10]
    have z11 : V2 11 = va_up (V 11) i a := by rw [zW 11 (by decide), w11]
    have z12 : V2 12 = va_up (V 12) i b := by rw [zW 12 (by decide), w12]
    have z16 : V2 16 = va_up (V 16) 10 0 := by rw [zW 16 (by decide), w16]
    have zf : ∀ i, i ∉ [0, 10] → V2 45 i = V 45 i := fun i hi => by simp at hi; rw [z45]; simp only [up_app]; rw [if_neg (by omega), if_neg (by omega)]
    obtain ⟨a1, a2, a3, a4, a5, a6, a7, a8⟩ := h
    refine ⟨⟨?_, ?_, rw_u a3 (zof 17 (by decide)), by unfold KS; rw [zof 39 (by decide)]; exact a4, BG_s (bg_u a5 (zof 17 (by decide)) (zof 39 (by decide)) (zof 84 (by decide))), ⟨Or.inl (by rw [z16, up_app, if_pos rfl]), by rw [z45, z16]; simp [up_app], fun h9 => by rw [z16, up_app, if_pos rfl] at h9; omega⟩, ?_, ?_⟩, by rw [z45]; simp [up_app], fun _ => by rw [zW 83 (by decide), w83]⟩
    · obtain ⟨p1, p2, p3, p4, p5, p6, p7⟩ := a1
      refine ⟨by rw [zof 1 (by decide)]; exact p1, fun g hg => ?_, fun k => ?_, fun k => ?_, by rw [zof 2 (by decide)]; exact p5, ?_, by rw [zof 2 (by decide), zof 3 (by decide)]; exact p7⟩
      · rw [z9, zof 8 (by decide), up_app]
        refine ⟨(p2 g hg).1, ?_⟩
        split
        · omega
        · exact (p2 g hg).2
      · rw [z10, up_app]
        split
        · exact h1.2
        · exact p3 k
      · rw [z11, z12, up_app, up_app]
        split
        · exact ⟨ha, hb⟩
        · exact p4 k
      · rw [zof 2 (by decide)]
        exact p6.congr (by rw [zof 2 (by decide)]) (zof 3 (by decide)) (zof 4 (by decide)) (zof 5 (by decide)) (zof 6 (by decide)) (zof 7 (by decide))
    · obtain ⟨i1, i2, i3, i4, i5, i6, i7, i8, i9⟩ := a2
      refine ⟨by rw [zf 1 (by decide), zof 1 (by decide)]; exact i1, by rw [zof 46 (by decide), zof 8 (by decide)]; exact i2, by rw [z47, z9], by rw [z48, z10, i4], by rw [z49, z11, i5], by rw [z50, z12, i6], by rw [zf 7 (by decide), zof 2 (by decide)]; exact i7, by rw [zof 51 (by decide), zof 3 (by decide)]; exact i8, by rw [zof 52 (by decide), zof 6 (by decide)]; exact i9⟩
    · unfold OUT at a7 ⊢; rw [zof 39 (by decide), zf 31 (by decide)]; exact a7
    · unfold TLD at a8 ⊢; rw [zof 39 (by decide), zof 28 (by decide), zf 27 (by decide), zf 29 (by decide), zf 30 (by decide), zf 31 (by decide)]; exact a8
  · rcases h9 with ⟨h1, -, rfl⟩ | ⟨-, -, h0, -⟩ | ⟨-, -, h0, -⟩
    · refine wp_mono (s_mcode (N := N) (f := f) (w := w) (a := a) (b := b) (V := thV V) (by rw [e45, h45]; exact hn) (by rw [e47, h47]; exact hl)) (fun _ r V2 h9 => ⟨h9.1, ?_⟩)
      have hc9 := hcd (thV V) (by rw [e45])
      rcases h9.2 with ⟨-, h0⟩ | ⟨h0, -⟩ | ⟨h0, -⟩
      · exact ref_0 (LI_th h) h0 (by decide)
      · exact absurd (hc9.mp h0) h1
      · exact absurd (hc9.mp h0) h1
    · omega
    · omega
  · rcases h9 with ⟨-, h0, -⟩ | ⟨h1, h2, -, rfl⟩ | ⟨-, -, h0, -⟩
    · omega
    · refine wp_mono (s_mcode (N := N) (f := f) (w := w) (a := a) (b := b) (V := thV V) (by rw [e45, h45]; exact hn) (by rw [e47, h47]; exact hl)) (fun _ r V2 h9 => ⟨h9.1, ?_⟩)
      have hc9 := hcd (thV V) (by rw [e45])
      rw [e47, h47] at h9
      rcases h9.2 with ⟨h0, -⟩ | ⟨-, -, h0⟩ | ⟨-, h0, -⟩
      · exact absurd (hc9.mpr h1) h0
      · exact ref_0 (LI_th h) h0 (by decide)
      · omega
    · omega
end OP1
