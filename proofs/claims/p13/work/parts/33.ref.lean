/-! THE REFERENCE'S ADDERS -/
theorem s_goes {N : Nat} {a b : Int} {V : pvM} : wz (q_X11_goes N a b V) (fun r V' => (a = 0 ∧ r = 0 ∧ V' = pz_u V 45 0 1) ∨ (a ≠ 0 ∧ b = 0 ∧ r = 0 ∧ V' = pz_u V 45 0 2) ∨ (a ≠ 0 ∧ b ≠ 0 ∧ r = 1 ∧ V' = pz_u V 45 0 0)) := by
  unfold q_X11_goes
  refine wp_if (fun ha => ?_) (fun ha => ?_)
  · refine wp_if (fun hb => ?_) (fun hb => ?_)
    · refine wp_lI ?_
      unfold q_X11_goes_b18
      refine wp_gW (wp_gR ?_)
      rw [pz_u_eq, if_neg (by decide)]
      exact wp_lI (wp_bT (Or.inr rfl) (wp_rT ⟨rfl, Or.inr (Or.inr ⟨ha, hb, rfl, rfl⟩)⟩))
    · refine wp_lI ?_
      unfold q_X11_goes_b18
      refine wp_gW (wp_gR ?_)
      rw [pz_u_eq, if_pos (by decide)]
      exact wp_lI (wp_bT (Or.inl rfl) (wp_rT ⟨rfl, Or.inr (Or.inl ⟨ha, Decidable.not_not.mp hb, rfl, rfl⟩)⟩))
  · refine wp_lI ?_
    unfold q_X11_goes_b18
    refine wp_gW (wp_gR ?_)
    rw [pz_u_eq, if_pos (by decide)]
    exact wp_lI (wp_bT (Or.inl rfl) (wp_rT ⟨rfl, Or.inl ⟨Decidable.not_not.mp ha, rfl, rfl⟩⟩))
theorem s_goesT {N : Nat} {a b : Int} {V : pvM} (ha : a ≠ 0) (hb : b ≠ 0) : wz (q_X11_goes N a b V) (fun r V' => r = 1 ∧ V' = pz_u V 45 0 0) :=
  wp_mono s_goes (fun t r V' h => ⟨h.1, by rcases h.2 with h | h | h <;> first | exact absurd h.1 ha | exact absurd h.2.1 hb | exact h.2.2⟩)
theorem s_goes1 {N : Nat} {a b : Int} {V : pvM} (ha : a = 0) : wz (q_X11_goes N a b V) (fun r V' => r = 0 ∧ V' = pz_u V 45 0 1) :=
  wp_mono s_goes (fun t r V' h => ⟨h.1, by rcases h.2 with h | h | h <;> first | exact h.2 | exact absurd ha h.1⟩)
theorem s_goes2 {N : Nat} {a b : Int} {V : pvM} (ha : a ≠ 0) (hb : b = 0) : wz (q_X11_goes N a b V) (fun r V' => r = 0 ∧ V' = pz_u V 45 0 2) :=
  wp_mono s_goes (fun t r V' h => ⟨h.1, by rcases h.2 with h | h | h <;> first | exact absurd h.1 ha | exact h.2.2 | exact absurd hb h.2.1⟩)
set_option maxHeartbeats 4000000 in
set_option maxRecDepth 100000 in
theorem s_mfunction {N : Nat} {x : Int} {V : pvM} (h0 : 0 ≤ V 45 1 ∧ V 45 1 ≤ 12) : wz (q_X11_function N x V) (fun r V' => ((x < 0 ∨ 3 < x) ∧ V' = pz_u V 45 0 1) ∨ (¬ (x < 0 ∨ 3 < x) ∧ V 45 1 = 12 ∧ V' = pz_u V 45 0 2) ∨ (¬ (x < 0 ∨ 3 < x) ∧ V 45 1 < 12 ∧ r = V 45 1 ∧ V' = pz_u (pz_u (pz_u (pz_u V 45 0 0) 45 10 0) 46 (V 45 1).toNat x) 45 1 (V 45 1 + 1))) := by
  have key : ∀ s : Int, (s = 1 ∧ ¬ (x < 0 ∨ 3 < x)) ∨ (s = 0 ∧ (x < 0 ∨ 3 < x)) → wz (q_X11_function_b15 N x s V) (fun r V' => ((x < 0 ∨ 3 < x) ∧ V' = pz_u V 45 0 1) ∨ (¬ (x < 0 ∨ 3 < x) ∧ V 45 1 = 12 ∧ V' = pz_u V 45 0 2) ∨ (¬ (x < 0 ∨ 3 < x) ∧ V 45 1 < 12 ∧ r = V 45 1 ∧ V' = pz_u (pz_u (pz_u (pz_u V 45 0 0) 45 10 0) 46 (V 45 1).toNat x) 45 1 (V 45 1 + 1))) := by
    intro s hs
    have k29 : ∀ b : Int, (b = 0 ∧ V 45 1 = 12) ∨ (b = 1 ∧ V 45 1 < 12) → wz (q_X11_function_b29 N x b s V) (fun r V' => ((x < 0 ∨ 3 < x) ∧ V' = pz_u V 45 0 1) ∨ (¬ (x < 0 ∨ 3 < x) ∧ V 45 1 = 12 ∧ V' = pz_u V 45 0 2) ∨ (¬ (x < 0 ∨ 3 < x) ∧ V 45 1 < 12 ∧ r = V 45 1 ∧ V' = pz_u (pz_u (pz_u (pz_u V 45 0 0) 45 10 0) 46 (V 45 1).toNat x) 45 1 (V 45 1 + 1))) := by
      intro b hb
      unfold q_X11_function_b29
      rcases hs with ⟨rfl, hx⟩ | ⟨rfl, hx⟩
      · rcases hb with ⟨rfl, hb⟩ | ⟨rfl, hb⟩
        · refine wp_cL (s_goes2 (by decide) rfl) (fun r V' h => ?_)
          obtain ⟨rfl, rfl⟩ := h
          rw [if_neg (by decide)]
          exact wp_lI (wp_rT ⟨rfl, Or.inr (Or.inl ⟨hx, hb, rfl⟩)⟩)
        · refine wp_cL (s_goesT (by decide) (by decide)) (fun r V' h => ?_)
          obtain ⟨rfl, rfl⟩ := h
          rw [if_pos (by decide)]
          have e1 : pz_u (pz_u V 45 0 0) 45 10 0 45 1 = V 45 1 := by simp [pu_app]
          refine wp_lI (wp_bT (Or.inl rfl) (wp_gW (wp_gR ?_)))
          rw [e1]
          refine wp_aW (by omega) ?_
          refine wp_gR (wp_lI ?_)
          rw [pu_off (show (45 : Nat) ≠ 46 by decide), e1]
          refine wp_lw (by omega) ?_
          refine wp_gW (wp_gR (wp_lI ?_))
          rw [pz_u_eq]
          refine wp_lw (by omega) ?_
          exact wp_rT ⟨rfl, Or.inr (Or.inr ⟨hx, hb, by omega, rfl⟩)⟩
      · refine wp_cL (s_goes1 rfl) (fun r V' h => ?_)
        obtain ⟨rfl, rfl⟩ := h
        rw [if_neg (by decide)]
        exact wp_lI (wp_rT ⟨rfl, Or.inl ⟨hx, rfl⟩⟩)
    unfold q_X11_function_b15
    refine wp_gR (wp_lI ?_)
    refine wp_if (fun h => ?_) (fun h => ?_)
    · exact wp_lI (k29 0 (Or.inl ⟨rfl, by omega⟩))
    · exact wp_lI (k29 1 (Or.inr ⟨rfl, by omega⟩))
  unfold q_X11_function
  refine wp_if (fun h => ?_) (fun h => ?_)
  · exact wp_lI (key 0 (Or.inr ⟨rfl, Or.inl h⟩))
  · refine wp_lI ?_
    refine wp_if (fun h1 => ?_) (fun h1 => ?_)
    · exact wp_lI (key 0 (Or.inr ⟨rfl, Or.inr h1⟩))
    · exact wp_lI (key 1 (Or.inl ⟨rfl, by omega⟩))
theorem s_isFunction {N : Nat} {x : Int} {V : pvM} : wz (q_X11_isFunction N x V) (fun r V' => V' = V ∧ ((r = 1 ∧ 0 ≤ x ∧ x < V 45 1) ∨ (r = 0 ∧ ¬ (0 ≤ x ∧ x < V 45 1)))) := by
  unfold q_X11_isFunction
  refine wp_if (fun h => ?_) (fun h => ?_)
  · exact wp_lI (wp_bT (Or.inl rfl) (wp_rT ⟨rfl, rfl, Or.inr ⟨rfl, by omega⟩⟩))
  · refine wp_gR ?_
    refine wp_if (fun h1 => ?_) (fun h1 => ?_)
    · exact wp_lI (wp_bT (Or.inl rfl) (wp_rT ⟨rfl, rfl, Or.inr ⟨rfl, by omega⟩⟩))
    · exact wp_lI (wp_bT (Or.inr rfl) (wp_rT ⟨rfl, rfl, Or.inl ⟨rfl, by omega⟩⟩))
/-- a call of code is right -/
def cdR (V : pvM) (f w : Int) : Prop := (0 ≤ f ∧ f < V 45 1) ∧ 0 ≤ w ∧ w ≤ 15
def cdV (V : pvM) (f w a b : Int) : pvM := pz_u (pz_u (pz_u (pz_u (pz_u (pz_u V 45 0 0) 45 10 0) 48 (40 * f + V 47 f.toNat).toNat w) 49 (40 * f + V 47 f.toNat).toNat a) 50 (40 * f + V 47 f.toNat).toNat b) 47 f.toNat (V 47 f.toNat + 1)
set_option maxHeartbeats 4000000 in
set_option maxRecDepth 100000 in
theorem s_mcode {N : Nat} {f w a b : Int} {V : pvM} (h0 : 0 ≤ V 45 1 ∧ V 45 1 ≤ 12) (hl : ∀ k : Nat, k < 12 → 0 ≤ V 47 k ∧ V 47 k ≤ 40) : wz (q_X11_code N f w a b V) (fun r V' => (¬ cdR V f w ∧ V' = pz_u V 45 0 1) ∨ (cdR V f w ∧ V 47 f.toNat = 40 ∧ V' = pz_u V 45 0 2) ∨ (cdR V f w ∧ V 47 f.toNat < 40 ∧ r = V 47 f.toNat ∧ V' = cdV V f w a b)) := by
  have k49 : ∀ s t : Int, (s = 0 ∧ ¬ cdR V f w) ∨ (s = 1 ∧ cdR V f w ∧ ((t = 0 ∧ V 47 f.toNat = 40) ∨ (t = 1 ∧ V 47 f.toNat < 40))) → wz (q_X11_code_b49 N f w a b t s V) (fun r V' => (¬ cdR V f w ∧ V' = pz_u V 45 0 1) ∨ (cdR V f w ∧ V 47 f.toNat = 40 ∧ V' = pz_u V 45 0 2) ∨ (cdR V f w ∧ V 47 f.toNat < 40 ∧ r = V 47 f.toNat ∧ V' = cdV V f w a b)) := by
    intro s t hs
    unfold q_X11_code_b49
    rcases hs with ⟨rfl, hx⟩ | ⟨rfl, hx, ht⟩
    · refine wp_cL (s_goes1 rfl) (fun r V' h => ?_)
      obtain ⟨rfl, rfl⟩ := h
      rw [if_neg (by decide)]
      exact wp_lI (wp_rT ⟨rfl, Or.inl ⟨hx, rfl⟩⟩)
    · rcases ht with ⟨rfl, ht⟩ | ⟨rfl, ht⟩
      · refine wp_cL (s_goes2 (by decide) rfl) (fun r V' h => ?_)
        obtain ⟨rfl, rfl⟩ := h
        rw [if_neg (by decide)]
        exact wp_lI (wp_rT ⟨rfl, Or.inr (Or.inl ⟨hx, ht, rfl⟩)⟩)
      · refine wp_cL (s_goesT (by decide) (by decide)) (fun r V' h => ?_)
        obtain ⟨rfl, rfl⟩ := h
        rw [if_pos (by decide)]
        have hf := hx.1
        have hlf := hl f.toNat (by omega)
        refine wp_lI (wp_bT (Or.inl rfl) (wp_gW (wp_lI ?_)))
        refine wp_lw (by omega) ?_
        refine wp_aR (by omega) ?_
        rw [pu_off (show (47 : Nat) ≠ 45 by decide), pu_off (show (47 : Nat) ≠ 45 by decide)]
        refine wp_lw (by omega) ?_
        refine wp_aW (by omega) ?_
        refine wp_aW (by omega) ?_
        refine wp_aW (by omega) ?_
        refine wp_aR (by omega) ?_
        rw [pu_off (show (47 : Nat) ≠ 50 by decide), pu_off (show (47 : Nat) ≠ 49 by decide), pu_off (show (47 : Nat) ≠ 48 by decide), pu_off (show (47 : Nat) ≠ 45 by decide), pu_off (show (47 : Nat) ≠ 45 by decide)]
        refine wp_lI ?_
        refine wp_lw (by omega) ?_
        refine wp_aW (by omega) ?_
        refine wp_aR (by omega) ?_
        rw [pz_u_eq]
        refine wp_lI ?_
        refine wp_lw (by omega) ?_
        exact wp_rT ⟨rfl, Or.inr (Or.inr ⟨hx, ht, by omega, rfl⟩)⟩
  have k23 : ∀ s : Int, (s = 0 ∧ ¬ cdR V f w) ∨ (s = 1 ∧ cdR V f w) → wz (q_X11_code_b23 N f w a b s V) (fun r V' => (¬ cdR V f w ∧ V' = pz_u V 45 0 1) ∨ (cdR V f w ∧ V 47 f.toNat = 40 ∧ V' = pz_u V 45 0 2) ∨ (cdR V f w ∧ V 47 f.toNat < 40 ∧ r = V 47 f.toNat ∧ V' = cdV V f w a b)) := by
    intro s hs
    unfold q_X11_code_b23
    rcases hs with ⟨rfl, hx⟩ | ⟨rfl, hx⟩
    · rw [if_pos rfl]
      exact wp_lI (k49 0 0 (Or.inl ⟨rfl, hx⟩))
    · rw [if_neg (by decide)]
      have hf := hx.1
      have hlf := hl f.toNat (by omega)
      refine wp_aR (by omega) (wp_lI ?_)
      refine wp_if (fun h => ?_) (fun h => ?_)
      · exact wp_lI (k49 1 0 (Or.inr ⟨rfl, hx, Or.inl ⟨rfl, by omega⟩⟩))
      · exact wp_lI (k49 1 1 (Or.inr ⟨rfl, hx, Or.inr ⟨rfl, by omega⟩⟩))
  unfold q_X11_code
  refine wp_cL s_isFunction (fun r V' h => ?_)
  obtain ⟨rfl, hr⟩ := h
  rcases hr with ⟨rfl, hf⟩ | ⟨rfl, hf⟩
  · rw [if_neg (by decide)]
    refine wp_if (fun h => ?_) (fun h => ?_)
    · exact wp_lI (k23 0 (Or.inl ⟨rfl, fun h9 => by have := h9.2; omega⟩))
    · refine wp_lI ?_
      refine wp_if (fun h1 => ?_) (fun h1 => ?_)
      · exact wp_lI (k23 0 (Or.inl ⟨rfl, fun h9 => by have := h9.2; omega⟩))
      · exact wp_lI (k23 1 (Or.inr ⟨rfl, hf, by omega, by omega⟩))
  · rw [if_pos rfl]
    exact wp_lI (k23 0 (Or.inl ⟨rfl, fun h9 => hf h9.1⟩))
