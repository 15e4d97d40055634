/-! THE REFERENCE'S RECIPE -/
set_option maxHeartbeats 4000000 in
set_option maxRecDepth 100000 in
theorem s_mrec_b126 {N nr m : Nat} {v : Int} {V0 : pvM} (hnr : nr < 8) (hv : I64 v) (hm : m ≤ 12) : ∀ (n k : Nat) (V : pvM), 13 ≤ n + k → k ≤ m → V 45 = V0 45 → V0 45 7 = nr → V 51 = V0 51 → V 52 = dgu (V0 52) (12 * nr) k v → fr [45, 51, 52] V0 V →
    wz (q_X11_recipe_b126 N n v m k V) (fun r V' => r = nr ∧ V' 45 = va_up (V0 45) 7 (nr + 1) ∧ V' 51 = va_up (V0 51) nr m ∧ V' 52 = dgu (V0 52) (12 * nr) m v ∧ fr [45, 51, 52] V0 V') := by
  intro n
  induction n with
  | zero => intro k V h1 h2; omega
  | succ n ih =>
    intro k V h1 h2 e45 e7 e51 e52 hf
    have hdk := dg_lo v k
    simp only [q_X11_recipe_b126]
    refine wp_if (fun h => ?_) (fun h => ?_)
    · have hk : k = m := by omega
      subst hk
      refine wp_gR ?_
      rw [e45, e7]
      refine wp_aW (by omega) ?_
      refine wp_gR (wp_lI ?_)
      rw [pu_off (show (45 : Nat) ≠ 51 by decide), e45, e7]
      refine wp_lw (by omega) ?_
      refine wp_gW (wp_gR (wp_lI ?_))
      rw [pz_u_eq]
      refine wp_lw (by omega) ?_
      refine wp_rT ⟨rfl, by omega, ?_, ?_, ?_, ?_⟩
      · rw [pu_row, pu_off (by decide), e45]
      · rw [pu_off (by decide), pu_row, e51]; rfl
      · rw [pu_off (by decide), pu_off (by decide), e52]
      · exact hf.trans ((fr_u (by simp)).trans (fr_u (by simp)))
    · refine wp_lI (wp_gR ?_)
      rw [e45, e7]
      refine wp_lw (by omega) ?_
      refine wp_lw (by omega) ?_
      refine wp_lI ?_
      refine wp_lw (by omega) ?_
      refine wp_lI ?_
      rw [shq hv (by omega)]
      refine wp_lI ?_
      refine wp_lI ?_
      rw [andq hv]
      refine wp_lw (by omega) ?_
      refine wp_aW (by omega) ?_
      refine wp_lw (by omega) ?_
      refine ih (k + 1) _ (by omega) (by omega) ?_ e7 ?_ ?_ (hf.trans (fr_u (by simp)))
      · rw [pu_off (by decide)]; exact e45
      · rw [pu_off (by decide)]; exact e51
      · rw [pu_row, e52, show (12 * (nr : Int) + (k : Int)).toNat = 12 * nr + k by omega, dgu_s]
/-- what the reference's recipe does -/
def mrP (V : pvM) (v r : Int) (V' : pvM) : Prop := (¬ RD v ∧ V' = pz_u V 45 0 1) ∨ (RD v ∧ V 45 7 = 8 ∧ V' = pz_u V 45 0 2) ∨ (RD v ∧ V 45 7 < 8 ∧ r = V 45 7 ∧ V' 45 = va_up (va_up (va_up (V 45) 0 0) 10 0) 7 (V 45 7 + 1) ∧ (∃ n : Nat, ND v n ∧ V' 51 = va_up (V 51) (V 45 7).toNat n ∧ V' 52 = dgu (V 52) (12 * (V 45 7).toNat) n v) ∧ fr [45, 51, 52] V V')
set_option maxHeartbeats 4000000 in
set_option maxRecDepth 100000 in
theorem s_mrec_b110 {N : Nat} (hN : 20 ≤ N) {m : Nat} {v s t : Int} {V : pvM} (hv : I64 v) (h7 : 0 ≤ V 45 7 ∧ V 45 7 ≤ 8) (hm : m ≤ 12) (hs : (s = 0 ∧ ¬ RD v) ∨ (s = 1 ∧ RD v ∧ ND v m)) (ht : (t = 0 ∧ V 45 7 = 8) ∨ (t = 1 ∧ V 45 7 < 8)) : wz (q_X11_recipe_b110 N v m t s V) (mrP V v) := by
  unfold q_X11_recipe_b110
  rcases hs with ⟨rfl, hx⟩ | ⟨rfl, hx, hnd⟩
  · refine wp_cL (s_goes1 rfl) (fun r V' h => ?_)
    obtain ⟨rfl, rfl⟩ := h
    rw [if_neg (by decide)]
    exact wp_lI (wp_rT ⟨rfl, Or.inl ⟨hx, rfl⟩⟩)
  · rcases ht with ⟨rfl, ht⟩ | ⟨rfl, ht⟩
    · refine wp_cL (s_goes2 (by decide) rfl) (fun r V' h => ?_)
      obtain ⟨rfl, rfl⟩ := h
      rw [if_neg (by decide)]
      exact wp_lI (wp_rT ⟨rfl, Or.inr (Or.inl ⟨hx, ht, rfl⟩)⟩)
    · refine wp_cL (s_goesT (by decide) (by decide)) (fun r V' h => ?_)
      obtain ⟨rfl, rfl⟩ := h
      rw [if_pos (by decide)]
      refine wp_lI (wp_bT (Or.inl rfl) (wp_gW (wp_lI ?_)))
      have k9 := s_mrec_b126 (N := N) (nr := (V 45 7).toNat) (m := m) (V0 := pz_u (pz_u V 45 0 0) 45 10 0) (by omega) hv hm N 0 _ (by omega) (by omega) rfl (by simp [pu_app]; omega) rfl (dgu_0 _ _ _).symm (fr.refl _ _)
      refine wp_mono k9 (fun t r V' h => ⟨h.1, Or.inr (Or.inr ⟨hx, ht, ?_, ?_, ⟨m, hnd, ?_, ?_⟩, ?_⟩)⟩)
      · omega
      · rw [h.2.2.1, pu_row, pu_row]
        rw [show ((V 45 7).toNat : Int) = V 45 7 by omega]
      · rw [h.2.2.2.1, pu_off (by decide), pu_off (by decide)]
      · rw [h.2.2.2.2.1, pu_off (by decide), pu_off (by decide)]
      · exact ((fr_u (by simp)).trans (fr_u (by simp))).trans h.2.2.2.2.2
set_option maxHeartbeats 4000000 in
set_option maxRecDepth 100000 in
theorem s_mrec_b52 {N : Nat} (hN : 20 ≤ N) {m : Nat} {v : Int} {V : pvM} (hv : I64 v) (h7 : 0 ≤ V 45 7 ∧ V 45 7 ≤ 8) (hm : m ≤ 12) (h1 : ∀ j, j < m → 0 < dg v j) (h3 : m = 12 ∨ dg v m ≤ 0) : ∀ (n k : Nat) (s : Int), 13 ≤ n + k → k ≤ m → ((s = 0 ∧ ¬ RD v) ∨ (s = 1 ∧ 0 < m ∧ qt v m = 0 ∧ ∀ j, j < k → dg v j ≤ 27)) → wz (q_X11_recipe_b52 N n v m s k V) (mrP V v) := by
  have hnd : RD v → ND v m := by
    intro hx
    have h := RD_to hm h1 h3 hx
    exact ⟨hm, h.2.1, fun j hj h9 => by have := h1 j hj; rw [dg_z h9] at this; omega⟩
  intro n
  induction n with
  | zero => intro k s h1 h2; omega
  | succ n ih =>
    intro k s g1 g2 hs
    simp only [q_X11_recipe_b52]
    refine wp_if (fun h => ?_) (fun h => ?_)
    · have hk : k = m := by omega
      subst hk
      have hs9 : (s = 0 ∧ ¬ RD v) ∨ (s = 1 ∧ RD v ∧ ND v k) := by
        rcases hs with h9 | ⟨rfl, h9, h8, h6⟩
        · exact Or.inl h9
        · have hrd := RD_of hm h1 h9 h8 h6
          exact Or.inr ⟨rfl, hrd, hnd hrd⟩
      refine wp_gR (wp_lI ?_)
      refine wp_if (fun h4 => ?_) (fun h4 => ?_)
      · exact wp_lI (s_mrec_b110 hN hv h7 hm hs9 (Or.inl ⟨rfl, by omega⟩))
      · exact wp_lI (s_mrec_b110 hN hv h7 hm hs9 (Or.inr ⟨rfl, by omega⟩))
    · have nx : ∀ z : Int, ((z = 0 ∧ ¬ RD v) ∨ (z = 1 ∧ 0 < m ∧ qt v m = 0 ∧ ∀ j, j < k + 1 → dg v j ≤ 27)) → wz (q_X11_recipe_b85 N (q_X11_recipe_b52 N n) v m k z V) (mrP V v) := by
        intro z hz
        unfold q_X11_recipe_b85
        refine wp_lw (by omega) ?_
        exact ih (k + 1) z (by omega) (by omega) hz
      refine wp_if (fun h4 => ?_) (fun h4 => ?_)
      · rcases hs with h9 | h9
        · exact wp_lI (nx 0 (Or.inl ⟨rfl, h9.2⟩))
        · omega
      · have hs9 : s = 1 ∧ 0 < m ∧ qt v m = 0 ∧ ∀ j, j < k → dg v j ≤ 27 := by
          rcases hs with h9 | h9
          · exact absurd h9.1 h4
          · exact h9
        refine wp_lI ?_
        refine wp_lw (by omega) ?_
        refine wp_lI ?_
        rw [shq hv (by omega)]
        refine wp_lI ?_
        refine wp_lI ?_
        rw [andq hv]
        refine wp_lI ?_
        refine wp_lI ?_
        refine wp_if (fun h5 => ?_) (fun h5 => ?_)
        · refine wp_lI (nx 0 (Or.inl ⟨rfl, fun hrd => ?_⟩))
          have h9 := cmpgt.mp h5
          have h8 := (RD_to hm h1 h3 hrd).2.2 k (by omega)
          omega
        · refine wp_lI (nx 1 (Or.inr ⟨rfl, hs9.2.1, hs9.2.2.1, fun j hj => ?_⟩))
          rcases Nat.lt_or_eq_of_le (Nat.le_of_lt_succ hj) with h9 | rfl
          · exact hs9.2.2.2 j h9
          · exact Int.not_lt.mp (fun h9 => h5 (cmpgt.mpr h9))
set_option maxHeartbeats 4000000 in
set_option maxRecDepth 100000 in
theorem s_mrec_b2 {N : Nat} (hN : 20 ≤ N) {v : Int} {V : pvM} (hv : I64 v) (h7 : 0 ≤ V 45 7 ∧ V 45 7 ≤ 8) : ∀ (n k : Nat), 13 ≤ n + k → k ≤ 12 → (∀ j, j < k → 0 < dg v j) → wz (q_X11_recipe_b2 N n v k V) (mrP V v) := by
  have k28 : ∀ k : Nat, k ≤ 12 → (∀ j, j < k → 0 < dg v j) → (k = 12 ∨ dg v k ≤ 0) → wz (q_X11_recipe_b28 N v k V) (mrP V v) := by
    intro k hk h1 h3
    have k47 : ∀ s : Int, ((s = 0 ∧ ¬ RD v) ∨ (s = 1 ∧ 0 < k ∧ qt v k = 0)) → wz (q_X11_recipe_b47 N v k s V) (mrP V v) := by
      intro s hs
      unfold q_X11_recipe_b47
      refine wp_lI ?_
      exact s_mrec_b52 hN hv h7 hk h1 h3 N 0 s (by omega) (by omega) (hs.imp id (fun h9 => ⟨h9.1, h9.2.1, h9.2.2, fun j hj => by omega⟩))
    unfold q_X11_recipe_b28
    refine wp_if (fun h => ?_) (fun h => ?_)
    · exact wp_lI (k47 0 (Or.inl ⟨rfl, fun hrd => by have := (RD_to hk h1 h3 hrd).1; omega⟩))
    · refine wp_lI ?_
      refine wp_lw (by omega) ?_
      refine wp_lI ?_
      rw [shq hv hk]
      refine wp_lI ?_
      refine wp_lI ?_
      refine wp_if (fun h4 => ?_) (fun h4 => ?_)
      · exact wp_lI (k47 0 (Or.inl ⟨rfl, fun hrd => h4 (cmp0.mpr (RD_to hk h1 h3 hrd).2.1)⟩))
      · exact wp_lI (k47 1 (Or.inr ⟨rfl, by omega, cmp0.mp (Decidable.not_not.mp h4)⟩))
  intro n
  induction n with
  | zero => intro k h1 h2; omega
  | succ n ih =>
    intro k g1 g2 hd
    simp only [q_X11_recipe_b2]
    refine wp_lI ?_
    refine wp_if (fun h => ?_) (fun h => ?_)
    · exact k28 k g2 hd (Or.inl (by omega))
    · refine wp_lI ?_
      refine wp_lw (by omega) ?_
      refine wp_lI ?_
      rw [shq hv g2]
      refine wp_lI ?_
      refine wp_lI ?_
      rw [andq hv]
      refine wp_lI ?_
      refine wp_lI ?_
      refine wp_if (fun h4 => ?_) (fun h4 => ?_)
      · exact k28 k g2 hd (Or.inr (cmple.mp h4))
      · refine wp_lw (by omega) ?_
        refine ih (k + 1) (by omega) (by omega) (fun j hj => ?_)
        rcases Nat.lt_or_eq_of_le (Nat.le_of_lt_succ hj) with h9 | rfl
        · exact hd j h9
        · exact Int.not_le.mp (fun h9 => h4 (cmple.mpr h9))
theorem s_mrecipe {N : Nat} (hN : 20 ≤ N) {v : Int} {V : pvM} (hv : I64 v) (h7 : 0 ≤ V 45 7 ∧ V 45 7 ≤ 8) : wz (q_X11_recipe N v V) (mrP V v) := by
  unfold q_X11_recipe
  refine wp_lI ?_
  exact s_mrec_b2 hN hv h7 N 0 (by omega) (by omega) (fun j hj => by omega)
