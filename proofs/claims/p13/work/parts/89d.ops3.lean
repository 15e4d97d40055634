/-! CALL BY CALL, 3 -/
section OP3
variable {N : Nat} {t : Int} {V : pvM}
theorem op_count {x : Int} (h : LI t V) (ht : t ≤ 600) : wz (q_L_count N x V) (fun v V1 => wz (q_X11_count N x V1) (fun r V2 => SAME (t + 1) v r V2)) := by
  refine wp_mono (ask_ok (tg := fun V => tg_count V x) (vl := fun V => vl_count V x) (vm := fun V => vl_count V x) (om := fun V1 => q_X11_count N x V1) h (s_count (LI_RM h ht) h.2.2.2.2.2.1) (fun V1 h1 => s_mcount h1.2.2.2.2.2.1 h1.2.1) ?_ (fun V1 hf => ?_)) (fun _ v V1 h9 => ⟨h9.1, wp_mono h9.2 (fun _ r V2 h8 => ⟨h8.1, h8.2.1, h8.2.2.1, h8.2.2.2 rfl⟩)⟩)
  · unfold tg_count; split
    · omega
    · split <;> omega
  · unfold tg_count vl_count; rw [hf 16 (by decide), hf 1 (by decide), hf 2 (by decide)]; exact ⟨rfl, rfl⟩
theorem op_size {f x : Int} (h : LI t V) (ht : t ≤ 600) : wz (q_L_size N f x V) (fun v V1 => wz (q_X11_size N f x V1) (fun r V2 => LI (t + 1) V2 ∧ v = V2 45 0 ∧ (vl_size V f x = vm_size V f x → v = 0 → V2 83 0 = r))) := by
  refine ask_ok (tg := fun V => tg_size V f x) (vl := fun V => vl_size V f x) (vm := fun V => vm_size V f x) (om := fun V1 => q_X11_size N f x V1) h (s_size (LI_RM h ht) h.1 h.2.2.2.2.2.1) (fun V1 h1 => s_msize h1.1 h1.2.2.2.2.2.1 h1.2.1) ?_ (fun V1 hf => ?_)
  · unfold tg_size; repeat' split
    all_goals omega
  · unfold tg_size vm_size; rw [ps_fr hf (by decide), hf 16 (by decide), hf 1 (by decide), hf 9 (by decide), hf 55 (by decide), hf 56 (by decide)]; exact ⟨rfl, rfl⟩
theorem op_plain {f i x : Int} (h : LI t V) (ht : t ≤ 600) : wz (q_L_plain N f i x V) (fun _ V1 => wz (q_X11_plain N f i x V1) (fun _ V2 => LI (t + 1) V2)) := by
  have key : ∀ V1, LI (t + 1) V1 → wz (q_X11_plain N f i x V1) (fun _ V2 => LI (t + 1) V2) := fun V1 h1 => by
    refine wp_mono (s_mplain h1.1 h1.2.2.2.2.2.1 h1.2.1) (fun _ r V2 h9 => ⟨h9.1, ?_⟩)
    obtain ⟨c, rfl⟩ := h9.2
    exact LI_0 h1
  unfold q_L_plain
  refine wz_wL (s_plain (LI_RM h ht) h.1 h.2.2.1 h.2.2.2.2.2.1) (fun r V' h9 => ?_) (fun r V' h9 => ?_) (fun r V' h9 => ?_) (fun t' r V' h9 => by unfold aS at h9; omega)
  · rcases h9 with ⟨-, rfl⟩ | ⟨h0, -⟩
    · exact key _ (LI_83 (LI_s h))
    · omega
  · rcases h9 with ⟨h0, -⟩ | ⟨-, rfl⟩
    · omega
    · exact key _ (LI_th h)
  · rcases h9 with ⟨h0, -⟩ | ⟨-, rfl⟩
    · omega
    · exact key _ (LI_th h)
theorem op_made {c x : Int} (h : LI t V) (ht : t ≤ 600) : wz (q_L_made N c x V) (fun v V1 => wz (q_X11_made N c x V1) (fun r V2 => SAME (t + 1) v r V2)) := by
  refine wp_mono (ask_ok (tg := fun V => tg_made V c x) (vl := fun V => vl_made V c x) (vm := fun V => vl_made V c x) (om := fun V1 => q_X11_made N c x V1) h (s_made (LI_RM h ht) h.1 h.2.2.2.2.2.1) (fun V1 h1 => s_mmade h1.1 h1.2.2.2.2.2.1 h1.2.1) ?_ (fun V1 hf => ?_)) (fun _ v V1 h9 => ⟨h9.1, wp_mono h9.2 (fun _ r V2 h8 => ⟨h8.1, h8.2.1, h8.2.2.1, h8.2.2.2 rfl⟩)⟩)
  · unfold tg_made; repeat' split
    all_goals omega
  · unfold tg_made vl_made; rw [hf 16 (by decide), hf 8 (by decide), hf 23 (by decide), hf 24 (by decide)]; exact ⟨rfl, rfl⟩
theorem op_char {x : Int} (h : LI t V) (ht : t ≤ 600) : wz (q_L_character N x V) (fun v V1 => wz (q_X11_character N x V1) (fun r V2 => SAME (t + 1) v r V2)) := by
  refine wp_mono (ask_ok (tg := fun V => tg_char V x) (vl := fun V => V 7 x.toNat) (vm := fun V => V 7 x.toNat) (om := fun V1 => q_X11_character N x V1) h (s_char (LI_RM h ht) h.1 h.2.2.2.2.2.1) (fun V1 h1 => s_mchar h1.1 h1.2.2.2.2.2.1) ?_ (fun V1 hf => ?_)) (fun _ v V1 h9 => ⟨h9.1, wp_mono h9.2 (fun _ r V2 h8 => ⟨h8.1, h8.2.1, h8.2.2.1, h8.2.2.2 rfl⟩)⟩)
  · unfold tg_char; repeat' split
    all_goals omega
  · unfold tg_char; rw [hf 16 (by decide), hf 2 (by decide), hf 7 (by decide)]; exact ⟨rfl, rfl⟩
theorem op_told {x : Int} (h : LI t V) (ht : t ≤ 600) : wz (q_L_told N x V) (fun v V1 => wz (q_X11_told N x V1) (fun r V2 => SAME (t + 1) v r V2)) := by
  have he : vl_told V x = vm_told V x := by
    obtain ⟨e1, e2, e3, e4⟩ := h.2.2.2.2.2.2.2
    unfold vl_told vm_told
    rw [e1, e2, e4]
    by_cases hk : kd (V 28 9) = 1
    · rw [e3 hk]
    · rw [if_neg hk, if_neg hk]
  refine wp_mono (ask_ok1 (tg := fun _ => tg_told x) (vl := fun V => vl_told V x) (vm := fun V => vm_told V x) (om := fun V1 => q_X11_told N x V1) h (s_told (LI_RM h ht)) (fun V1 h1 => s_mtold) ?_ (fun V1 hf => ?_)) (fun _ v V1 h9 => ⟨h9.1, wp_mono h9.2 (fun _ r V2 h8 => ⟨h8.1, h8.2.1, h8.2.2.1, h8.2.2.2 he⟩)⟩)
  · unfold tg_told; split <;> omega
  · unfold vm_told; rw [hf 45 (by decide)]; exact ⟨rfl, rfl⟩
theorem op_said {x : Int} (h : LI t V) (ht : t ≤ 600) : wz (q_L_said N x V) (fun v V1 => wz (q_X11_said N x V1) (fun r V2 => LI (t + 1) V2 ∧ v = V2 45 0 ∧ (V 44 x.toNat = V 66 x.toNat → v = 0 → V2 83 0 = r))) := by
  have e31 : V 45 31 = V 39 7 := h.2.2.2.2.2.2.2.2.2.2
  have hs := s_said (N := N) (x := x) (LI_RM h ht) h.2.2.2.2.2.2.1
  refine ask_ok1 (tg := fun V => if x < 0 ∨ V 45 31 ≤ x then 1 else 0) (vl := fun V => V 44 x.toNat) (vm := fun V => V 66 x.toNat) (om := fun V1 => q_X11_said N x V1) h (by rw [e31]; exact hs) (fun V1 h1 => s_msaid h1.2.2.2.2.2.2.1) ?_ (fun V1 hf => ?_)
  · split <;> omega
  · rw [hf 45 (by decide), hf 66 (by decide)]; exact ⟨rfl, rfl⟩
set_option maxHeartbeats 4000000 in
set_option maxRecDepth 100000 in
theorem op_run {f x y z pl : Int} (hN : 30000 ≤ N) (h : LI t V) (ht : 0 ≤ t ∧ t ≤ 600) (hxyz : I32 x ∧ I32 y ∧ I32 z) : wz (q_L_run N f x y z pl V) (fun v V1 => wz (q_X11_run N f x y z pl V1) (fun r V2 => SAME (t + 1) v r V2)) := by
  have h' := h
  obtain ⟨a1, a2, a3, a4, a5, a6, a7, a8⟩ := h'
  have hR := LI_RM h ht.2
  have h45 : V 45 1 = V 1 6 := a2.1
  have hm := a6.1
  have e45 : thV V 45 = V 45 := thV_fr V 45 (by decide)
  have e1 : thV V 1 = V 1 := thV_fr V 1 (by decide)
  -- what the class does
  have cls : wp (q_X10_run N f x y z pl V) (fun tt r V' => (¬ (0 ≤ f ∧ f < V 1 6) ∧ tt = 1 ∧ V' = thV V) ∨ ((0 ≤ f ∧ f < V 1 6) ∧ V 16 10 = 0 ∧ tt = 2 ∧ V' = thV V) ∨ ((0 ≤ f ∧ f < V 1 6) ∧ V 16 10 = 1 ∧ tt = 0 ∧ r = V' 28 8 ∧ RUN t V N f.toNat x y z V')) := by
    unfold q_X10_run
    by_cases hf : 0 ≤ f ∧ f < V 1 6
    · rw [cL_eq e_hasFunction, if_pos hf, if_pos (by decide), cL_eq (e_isMade hm)]
      by_cases h0 : V 16 10 = 0
      · rw [if_neg (by omega)]
        exact wp_th hR (Or.inr (Or.inl ⟨hf, h0, rfl, rfl⟩))
      · rw [if_pos (by omega)]
        have h1 : V 16 10 = 1 := by omega
        have k9 := s_run (N := N) (b := t) (f := f.toNat) (x := x) (y := y) (z := z) (pl := pl) (V := V) hN a1 (a6.2.2 h1).1 a3 a4 a5 ht (by omega) hxyz
        rw [show ((f.toNat : Nat) : Int) = f by omega] at k9
        exact wp_cL k9 (fun r V' h9 => wp_rT (Or.inr (Or.inr ⟨hf, h1, rfl, h9.1, h9.2⟩)))
    · rw [cL_eq e_hasFunction, if_neg hf, if_neg (by decide)]
      exact wp_th hR (Or.inl ⟨hf, rfl, rfl⟩)
  unfold q_L_run
  refine wz_wL cls (fun r V' h9 => ?_) (fun r V' h9 => ?_) (fun r V' h9 => ?_) (fun t' r V' h9 => by omega)
  · rcases h9 with ⟨-, h0, -⟩ | ⟨-, -, h0, -⟩ | ⟨hf, h1, -, rfl, hF, V1, V9, q1, q2, q3, q4, q5, q6⟩
    · omega
    · omega
    obtain ⟨U, hU⟩ : ∃ U, U = pz_u V' 83 0 (V' 28 8) := ⟨_, rfl⟩
    rw [← hU]
    have uV : ∀ c, c ≠ 83 → U c = V' c := fun c hc => by rw [hU, pu_off hc]
    have u83 : U 83 0 = V' 28 8 := by rw [hU, pz_u_eq]
    have uof : ∀ c, c ∉ rcs → c ≠ 83 → U c = V c := fun c h0 h2 => by rw [uV c h2, hF.1 c h0]
    have u45 : U 45 = V 45 := uof 45 (by decide) (by decide)
    have hL := (a6.2.2 h1).1
    have hS : SP U V := by
      refine ⟨fun c hc => uof c (pdr c hc) (by simp [prog] at hc; omega), RI_of a2 (fun c hc => uof c (pdr c hc) (by simp [prog] at hc; omega)) (fun c hc => uof c ((by decide : ∀ c, c ∈ [46, 47, 48, 49, 50, 51, 52] → c ∉ rcs) c hc) (by simp at hc; omega)) (by rw [u45]) (by rw [u45])⟩
    obtain ⟨W9, g1, g2, g3⟩ := s_mrun1 (N := N) (b := t) (U := U) (V0 := V) (f := f.toNat) (x := x) (y := y) (z := z) (pl := pl) (V1 := V1) (by omega) hS a1 hL.1 a3 a4 a5 ht (by omega) hxyz (by rw [u45, a6.2.1, h1]; decide) q1
    rw [q2] at g1
    have e9 : V9 = W9 := by injection g1 with g1; injection g1 with _ g1; injection g1
    subst e9
    rw [show ((f.toNat : Nat) : Int) = f by omega] at g3
    refine wp_mono g3 (fun _ r V2 h9 => ⟨h9.1, ?_⟩)
    obtain ⟨-, rfl, ⟨⟨m1, m2⟩, m3, m4, m5, m6, m7, m8⟩⟩ := h9
    have hU0 : fr [45] U (pz_u U 45 0 0) := fr_u (by simp)
    have z0 : V2 45 0 = 0 := by rw [m2 0 (by decide), pz_u_eq]
    have zf : ∀ i, i ∉ rfs → i ≠ 0 → V2 45 i = V 45 i := fun i h2 h3 => by rw [m2 i h2, pu_row, up_app, if_neg h3, u45]
    have zU : ∀ c, c ∉ mrs → V2 c = U c := fun c hc => by rw [m1 c hc, hU0 c (by intro h0; simp at h0; subst h0; exact hc (by decide))]
    have zof : ∀ c, c ∉ mrs → c ∉ rcs → c ≠ 83 → V2 c = V c := fun c h0 h2 h3 => by rw [zU c h0, uof c h2 h3]
    have fz : fr (83 :: (rcs ++ mrs)) V V2 := fun c hc => by
      simp only [List.mem_cons, List.mem_append, not_or] at hc
      exact zof c hc.2.2 hc.2.1 hc.1
    obtain ⟨f1, f2, f3, f4, f5, f6⟩ := hF
    have z39 : V2 39 = V' 39 := by rw [zU 39 (by decide), uV 39 (by decide)]
    have z28 : V2 28 = V' 28 := by rw [zU 28 (by decide), uV 28 (by decide)]
    have pz : ∀ c, c ∈ prog → V2 c = V c := fun c hc => fz c ((by decide : ∀ c, c ∈ prog → c ∉ (83 :: (rcs ++ mrs))) c hc)
    refine ⟨⟨PI_of a1 pz, RI_of a2 pz (fun c hc => fz c ((by decide : ∀ c, c ∈ [46, 47, 48, 49, 50, 51, 52] → c ∉ (83 :: (rcs ++ mrs))) c hc)) (zf 1 (by decide) (by decide)) (zf 7 (by decide) (by decide)), rw_u a3 (fz 17 (by decide)), by unfold KS; rw [z39]; exact f2, ?_, ?_, ?_, ?_⟩, by rw [z0], fun _ => by rw [zU 83 (by decide), u83, q4]⟩
    · refine BG_s ?_
      unfold BG at f3 ⊢
      rw [z39, zU 17 (by decide), uV 17 (by decide), zU 84 (by decide), uV 84 (by decide)]
      exact f3
    · obtain ⟨n1, n2, n3⟩ := a6
      have e16 : V2 16 = V 16 := fz 16 (by decide)
      refine ⟨by rw [e16]; exact n1, by rw [e16, zf 10 (by decide) (by decide)]; exact n2, fun h9 => ?_⟩
      rw [e16] at h9
      exact ⟨(n3 h9).1.fr fz (by decide), (n3 h9).2.fr fz (by decide) (zf 21 (by decide) (by decide)) (zf 24 (by decide) (by decide))⟩
    · unfold OUT
      rw [z39, m5, ← q5]; exact ⟨f4, f4⟩
    · unfold TLD
      rw [z28, z39, m3, m5, m6, q3, q5, q6]
      exact ⟨rfl, rfl, m7, rfl⟩
  · rcases h9 with ⟨h1, -, rfl⟩ | ⟨-, -, h0, -⟩ | ⟨-, -, h0, -⟩
    · unfold q_X11_run
      rw [cL_eq e_misFunction, e45, h45, if_neg h1]
      refine wp_gR ?_
      rw [cL_eq (e_goes1 rfl), if_neg (by decide)]
      exact wp_lI (wp_rT ⟨rfl, ref_0 (LI_th h) rfl (by decide)⟩)
    · omega
    · omega
  · rcases h9 with ⟨-, h0, -⟩ | ⟨h1, h2, -, rfl⟩ | ⟨-, -, h0, -⟩
    · omega
    · unfold q_X11_run
      rw [cL_eq e_misFunction, e45, h45, if_pos h1]
      refine wp_gR ?_
      rw [cL_eq (e_goes2 (by decide) (by rw [e45, a6.2.1]; exact h2)), if_neg (by decide)]
      exact wp_lI (wp_rT ⟨rfl, ref_0 (LI_th h) rfl (by decide)⟩)
    · omega
end OP3
