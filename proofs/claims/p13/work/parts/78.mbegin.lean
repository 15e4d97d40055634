/-! THE BEGINNING OF THE REFERENCE'S RUN -/
section MB
variable {N : Nat} {b : Int} {U V0 V Vr : pvM}
set_option maxHeartbeats 4000000 in
set_option maxRecDepth 100000 in
theorem s_mb66 {x y z f : Int} {A : pvM} {Q : Nat → Int → pvM → Prop} (hk : ∀ W, fr [74, 75] A W → (∀ j, j < 3 → W 74 j = 1 ∧ W 75 j = arg3 x y z j) → wp (aR W 46 12 f fun v13 => cL (q_X11_begin N f v13 W) fun _ V => q_X11_run_b125 N N V) Q) : ∀ (fu m k : Nat) (W : pvM), k + m = 3 → m + 1 ≤ fu → fr [74, 75] A W → (∀ j, j < k → W 74 j = 1 ∧ W 75 j = arg3 x y z j) → wp (q_X11_run_b66 N fu f x y z k W) Q := by
  intro fu
  induction fu with
  | zero => intro m k W h1 h2; omega
  | succ fu ih =>
    intro m k W h1 h2 hf hj
    simp only [q_X11_run_b66]
    refine wp_lI ?_
    refine wp_if (fun h9 => ?_) (fun h9 => ?_)
    · have hk3 : k = 3 := by omega
      subst hk3
      exact hk W hf hj
    · refine wp_lI (wp_aW (by omega) ?_)
      rw [show ((k : Int)).toNat = k by omega]
      have k107 : ∀ v : Int, v = arg3 x y z k → wp (q_X11_run_b107 N (q_X11_run_b66 N fu) f x y z k v k (pz_u W 74 k 1)) Q := by
        intro v hv
        unfold q_X11_run_b107
        refine wp_aW (by omega) (wp_lw (by omega) ?_)
        rw [show ((k : Int)).toNat = k by omega]
        refine ih (m - 1) (k + 1) _ (by omega) (by omega) ((hf.trans (fr_u (by simp))).trans (fr_u (by simp))) (fun j hj2 => ?_)
        rw [pu_off (show (74 : Nat) ≠ 75 by decide), pu_row, pu_row, pu_off (show (75 : Nat) ≠ 74 by decide), up_app, up_app]
        by_cases hjk : j = k
        · rw [if_pos hjk, if_pos hjk, hv, hjk]; exact ⟨rfl, rfl⟩
        · rw [if_neg hjk, if_neg hjk]; exact hj j (by omega)
      refine wp_if (fun h0 => ?_) (fun h0 => ?_)
      · refine wp_lI (wp_if (fun h1 => ?_) (fun h1 => ?_))
        · exact k107 z (by unfold arg3; rw [if_neg (by omega), if_neg (by omega)])
        · exact k107 y (by unfold arg3; rw [if_neg (by omega), if_pos (by omega)])
      · exact k107 x (by unfold arg3; rw [if_pos (by omega)])
theorem s_mrun0 {f x y z pl : Int} (hI : RI V) (h : ¬ (0 ≤ f ∧ f < V 1 6) ∨ V 45 10 = 0) : wz (q_X11_run N f x y z pl V) (fun _ V' => mS V V') := by
  unfold q_X11_run
  rw [cL_eq e_misFunction, hI.1]
  refine wp_gR ?_
  by_cases hf : 0 ≤ f ∧ f < V 1 6
  · have h0 : V 45 10 = 0 := by rcases h with h | h; exact absurd hf h; exact h
    rw [if_pos hf, h0, cL_eq (e_goes2 (by decide) rfl), if_neg (by decide)]
    exact wp_lI (wp_rT ⟨rfl, 2, rfl⟩)
  · rw [if_neg hf, cL_eq (e_goes1 rfl), if_neg (by decide)]
    exact wp_lI (wp_rT ⟨rfl, 1, rfl⟩)
theorem SP_0 {c : Int} (hS : SP U V0) : SP (pz_u U 45 0 c) V0 := by
  have hf : fr [45] U (pz_u U 45 0 c) := fr_u (by simp)
  refine ⟨fun e he => ?_, RI_of hS.2 (fun e he => ?_) (fun e he => ?_) (by rw [pu_app, if_neg (by decide)]) (by rw [pu_app, if_neg (by decide)])⟩
  · rw [hf e (by simp [prog] at he; simp; omega)]; exact hS.1 e he
  · exact hf e (by simp [prog] at he; simp; omega)
  · exact hf e (by simp at he; simp; omega)
set_option maxHeartbeats 4000000 in
set_option maxRecDepth 100000 in
theorem s_mrun1 {f : Nat} {x y z pl : Int} {V1 : pvM} (hN : 500 ≤ N) (hS : SP U V0) (hP : PI V0) (hR : RT V0) (hW : RW V0) (hK : KS V0) (hB : BG b V0) (hb : 0 ≤ b ∧ b ≤ 600) (hf : (f : Int) < V0 1 6) (hxyz : I32 x ∧ I32 y ∧ I32 z) (h10 : U 45 10 ≠ 0) (hI : INI V0 V1 f (V0 8 f).toNat x y z 1) : ∃ V', q_X4_perform_b131 N N 0 V1 = some (0, V' 28 8, V') ∧ FIN b V0 V' ∧ wz (q_X11_run N f x y z pl U) (fun r Vr' => r = V' 28 8 ∧ RFN (pz_u U 45 0 0) V' Vr') := by
  have hC := INI_ci hP hR hK hB hf hxyz hI
  have hn12 := hP.1
  have hp8 := (hP.2.1 f (by omega)).1
  obtain ⟨n, hn⟩ : ∃ n : Nat, V0 8 f = n := ⟨(V0 8 f).toNat, by omega⟩
  obtain ⟨i1, i2, i3, i4, i5, i6, i7, i8, i9, i10⟩ := hI
  obtain ⟨U1, hU1⟩ : ∃ U1, U1 = pz_u U 45 0 0 := ⟨_, rfl⟩
  have hS1 : SP U1 V0 := by rw [hU1]; exact SP_0 hS
  rw [← hU1]
  obtain ⟨A, hA⟩ : ∃ A, A = pz_u (pz_u (pz_u (pz_u (pz_u (pz_u (pz_u (pz_u (pz_u U1 45 27 0) 45 28 0) 45 29 0) 45 30 0) 45 31 0) 45 33 0) 45 36 0) 45 44 0) 45 47 0 := ⟨_, rfl⟩
  have aoff : ∀ c, c ≠ 45 → A c = U1 c := fun c hc => by rw [hA]; simp [pu_off hc]
  have a45 : ∀ i, A 45 i = if i = 27 ∨ i = 28 ∨ i = 29 ∨ i = 30 ∨ i = 31 ∨ i = 33 ∨ i = 36 ∨ i = 44 ∨ i = 47 then 0 else U1 45 i := fun i => by
    rw [hA]
    simp only [pu_row, up_app]
    split
    · rename_i h; rw [if_pos (by omega)]
    · split
      · rw [if_pos (by omega)]
      · split
        · rw [if_pos (by omega)]
        · split
          · rw [if_pos (by omega)]
          · split
            · rw [if_pos (by omega)]
            · split
              · rw [if_pos (by omega)]
              · split
                · rw [if_pos (by omega)]
                · split
                  · rw [if_pos (by omega)]
                  · split
                    · rw [if_pos (by omega)]
                    · rw [if_neg (by omega)]
  have key : ∀ W, fr [74, 75] A W → (∀ j, j < 3 → W 74 j = 1 ∧ W 75 j = arg3 x y z j) → RR U1 V1 (mbV W 0 n f) (0 + 1) := by
    intro W hW1 hWj
    have w45 : ∀ i, W 45 i = A 45 i := fun i => by rw [hW1 45 (by decide)]
    have hg0 : hgt V1 0 = 0 := hgt_eq (by rw [i4.2.2]; rfl)
    refine ⟨⟨fun c hc => ?_, fun i hi => ?_⟩, ⟨?_, ?_, ?_, ?_, ?_, ?_, ?_, ?_, ?_⟩, fun e he => ?_, fun c hc => by omega, fun t ht => by omega⟩
    · simp [mrs] at hc
      rw [mbV_off (by omega), hW1 c (by simp; omega), aoff c (by omega)]
    · simp [rfs] at hi
      rw [mbV_45, up_app, if_neg (by omega), w45, a45, if_neg (by omega)]
    · rw [mbV_45, up_app, if_neg (by decide), w45, a45, if_pos (by decide), i3.2.2.1]
    · rw [mbV_45, up_app, if_neg (by decide), w45, a45, if_pos (by decide)]
    · rw [mbV_45, up_app, if_neg (by decide), w45, a45, if_pos (by decide)]
    · rw [mbV_45, up_app, if_neg (by decide), w45, a45, if_pos (by decide)]
    · rw [mbV_45, up_app, if_neg (by decide), w45, a45, if_pos (by decide), i8]
    · rw [mbV_45, up_app, if_neg (by decide), w45, a45, if_pos (by decide)]
      simp only [bs]; rw [hg0]; rfl
    · rw [mbV_45, up_app, if_pos rfl]
    · rw [mbV_45, up_app, if_neg (by decide), w45, a45, if_pos (by decide), i7]
    · rw [mbV_45, up_app, if_neg (by decide), w45, a45, if_pos (by decide), i6]
    · have he0 : e = 0 := by omega
      subst he0
      rw [hg0]
      refine ⟨⟨?_, ?_, ?_⟩, fun k hk => ?_, fun j hj => by omega⟩
      · rw [mbV_69, up_app, if_pos rfl, i4.1]
      · rw [mbV_70, up_app, if_pos rfl, i4.2.1]
      · rw [mbV_71, up_app, if_pos rfl, w45, a45, if_pos (by decide)]; rfl
      · rw [mbV_72, mbV_73]; dsimp only
        have hin : 8 * (0 + 1) ≤ 8 * (0 + 1) + k ∧ 8 * (0 + 1) + k < 8 * (0 + 1) + 8 := by omega
        rw [if_pos hin, if_pos hin, show 8 * (0 + 1) + k - 8 * (0 + 1) = k by omega, show 33 * 0 + k = k by omega, i5 k (by omega), hn, show ((n : Int)).toNat = n by omega]
        by_cases hkn : k < n
        · have h8 := hWj k (by omega)
          have hk1 : I32 (arg3 x y z k) := by
            unfold arg3
            repeat' split
            · exact hxyz.1
            · exact hxyz.2.1
            · exact hxyz.2.2
          rw [if_pos hkn, if_pos hkn, if_pos hkn, h8.1, h8.2, (k1 hk1).1, (k1 hk1).2]; exact ⟨rfl, rfl⟩
        · rw [if_neg hkn, if_neg hkn, if_neg hkn, kd_z, ct_z]; exact ⟨rfl, rfl⟩
  have h46 : U1 46 f = n := by
    rw [hS1.2.2.1, hS1.1 8 (by decide)]; exact hn
  have i1S := hS1.2.1
  have main : ∀ W, fr [74, 75] A W → (∀ j, j < 3 → W 74 j = 1 ∧ W 75 j = arg3 x y z j) → ∃ V', q_X4_perform_b131 N N 0 V1 = some (0, V' 28 8, V') ∧ FIN b V0 V' ∧ wz (aR W 46 12 f fun v13 => cL (q_X11_begin N f v13 W) fun _ V => q_X11_run_b125 N N V) (fun r Vr' => r = V' 28 8 ∧ RFN U1 V' Vr') := by
    intro W hW1 hWj
    obtain ⟨V9, g1, g2, g3⟩ := s_loop2 (N := N) (U := U1) (V0 := V0) (b := b) (by omega) hS1 hP hR hW hb 400 N N 0 V1 (mbV W 0 n f) (by have := i3.2.2.1; omega) (by omega) (by omega) (by omega) (Or.inl ⟨0, hC, key W hW1 hWj⟩)
    refine ⟨V9, g1, g2, wp_aR (by omega) ?_⟩
    rw [show ((f : Int)).toNat = f by omega, hW1 46 (by decide), aoff 46 (by decide), h46, cL_eq ((e_mbegin (N := N) (D := 0) (n := n) (f := (f : Int)) (V := W) (by omega) (by rw [hW1 45 (by decide), a45, if_pos (by decide)]; rfl) (by omega)).1 (by omega))]
    exact g3
  obtain ⟨V9, g1, g2, -⟩ := main (pz_u (pz_u (pz_u (pz_u (pz_u (pz_u A 74 0 1) 74 1 1) 74 2 1) 75 0 x) 75 1 y) 75 2 z) ((((((fr_u (by simp)).trans (fr_u (by simp))).trans (fr_u (by simp))).trans (fr_u (by simp))).trans (fr_u (by simp))).trans (fr_u (by simp))) (fun j hj => by
    simp only [pu_app]
    rcases (by omega : j = 0 ∨ j = 1 ∨ j = 2) with h | h | h <;> subst h <;> simp [arg3])
  refine ⟨V9, g1, g2, ?_⟩
  have hu1 : U 45 1 = V0 1 6 := by rw [hS.2.1, hS.1 1 (by decide)]
  unfold q_X11_run
  rw [cL_eq e_misFunction, if_pos (by omega)]
  refine wp_gR ?_
  rw [cL_eq (e_goesT (by decide) h10), if_pos (by decide), ← hU1]
  refine wp_lI (wp_gW (wp_lI (wp_gW (wp_lI (wp_gW (wp_lI (wp_gW (wp_lI (wp_gW (wp_lI (wp_gW (wp_lI (wp_gW (wp_lI (wp_gW (wp_lI (wp_gW (wp_lI ?_))))))))))))))))))
  rw [← hA]
  refine s_mb66 (A := A) (fun W hW1 hWj => ?_) N 3 0 A (by omega) (by omega) (fr.refl _ _) (fun j hj => by omega)
  obtain ⟨V8, e1, e2, e3⟩ := main W hW1 hWj
  rw [g1] at e1
  have e4 : V9 = V8 := by injection e1 with e1; injection e1 with _ e1; injection e1
  rw [e4]; exact e3
end MB
