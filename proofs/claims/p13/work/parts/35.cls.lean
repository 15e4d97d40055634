/-! THE CLASS'S ADDERS -/
theorem wz_to {o : Option pvO} {r : Int} {V : pvM} (h : wz o (fun r' V' => r' = r ∧ V' = V)) : o = some (0, r, V) := by
  obtain ⟨t, r', V', h1, rfl, rfl, rfl⟩ := h
  exact h1
theorem e_forget {N : Nat} {V : pvM} : q_X5_forget N V = some (0, 0, pz_u V 16 10 0) := wz_to (by
  unfold q_X5_forget
  exact wp_lI (wp_bT (Or.inl rfl) (wp_gW (wp_rT ⟨rfl, rfl, rfl⟩))))
theorem e_functionTotal {N : Nat} {V : pvM} : q_X6_functionTotal N V = some (0, V 1 6, V) := rfl
theorem e_total {N : Nat} {V : pvM} : q_X7_total N V = some (0, V 2 5, V) := rfl
theorem e_recipes {N : Nat} {V : pvM} : q_X6_recipes N V = some (0, 0, V) := rfl
theorem e_letterTotal {N : Nat} {V : pvM} : q_X7_letterTotal N V = some (0, V 2 6, V) := rfl
theorem cL_eq {o : Option pvO} {r : Int} {V : pvM} {k : Int → pvM → Option pvO} (h : o = some (0, r, V)) : cL o k = k r V := by rw [h]; rfl
theorem e_aR {V : pvM} {c n : Nat} {i : Int} {k : Int → Option pvO} (h : 0 ≤ i ∧ i < (n : Int)) : aR V c n i k = k (V c i.toNat) := by unfold aR; rw [if_pos h]
theorem e_hasFunction {N : Nat} {x : Int} {V : pvM} : q_X6_hasFunction N x V = some (0, (if 0 ≤ x ∧ x < V 1 6 then 1 else 0), V) := wz_to (by
  unfold q_X6_hasFunction
  refine wp_if (fun h => ?_) (fun h => ?_)
  · exact wp_lI (wp_bT (Or.inl rfl) (wp_rT ⟨rfl, by rw [if_neg (by omega)], rfl⟩))
  · refine wp_gR ?_
    refine wp_if (fun h1 => ?_) (fun h1 => ?_)
    · exact wp_lI (wp_bT (Or.inl rfl) (wp_rT ⟨rfl, by rw [if_neg (by omega)], rfl⟩))
    · exact wp_lI (wp_bT (Or.inr rfl) (wp_rT ⟨rfl, by rw [if_pos (by omega)], rfl⟩)))
theorem e_lengthOf {N : Nat} {x : Int} {V : pvM} (h : 0 ≤ x ∧ x < 12) : q_X6_lengthOf N x V = some (0, V 9 x.toNat, V) := by unfold q_X6_lengthOf; rw [e_aR h]; rfl
theorem e_parametersOf {N : Nat} {x : Int} {V : pvM} (h : 0 ≤ x ∧ x < 12) : q_X6_parametersOf N x V = some (0, V 8 x.toNat, V) := by unfold q_X6_parametersOf; rw [e_aR h]; rfl
/-- there is room for one exception more -/
def RM (V : pvM) : Prop := 0 ≤ V 84 0 ∧ 0 ≤ V 84 1 ∧ V 84 0 + 1 ≤ (pv_LC : Int) ∧ V 84 1 + 6 ≤ (pv_LS : Int)
/-- behind a throw -/
def thV (V : pvM) : pvM := pz_u (pz_u V 84 0 (V 84 0 + 1)) 84 1 (V 84 1 + 6)
theorem e_tH {V : pvM} {e : Nat} (h : RM V) : tH V e = some (e, 0, thV V) := by unfold tH; rw [if_pos (show 0 ≤ V 84 0 ∧ 0 ≤ V 84 1 ∧ V 84 0 + 1 ≤ (pv_LC : Int) ∧ V 84 1 + 6 ≤ (pv_LS : Int) from h)]; rfl
def fnV (V : pvM) (x : Int) : pvM := pz_u (pz_u (pz_u V 16 10 0) 8 (V 1 6).toNat x) 1 6 (V 1 6 + 1)
theorem s_addFunction {N : Nat} {x : Int} {V : pvM} (h : 0 ≤ V 1 6 ∧ V 1 6 < 12) : wz (q_X6_addFunction N x V) (fun r V' => r = V 1 6 ∧ V' = pz_u (pz_u V 8 (V 1 6).toNat x) 1 6 (V 1 6 + 1)) := by
  unfold q_X6_addFunction
  refine wp_gR ?_
  refine wp_aW (by omega) ?_
  refine wp_gR (wp_lI ?_)
  rw [pu_off (show (1 : Nat) ≠ 8 by decide)]
  refine wp_lw (by omega) ?_
  refine wp_gW (wp_gR (wp_lI ?_))
  rw [pz_u_eq]
  refine wp_lw (by omega) ?_
  exact wp_rT ⟨rfl, by omega, rfl⟩
theorem s_function {N : Nat} {x : Int} {V : pvM} (h0 : 0 ≤ V 1 6 ∧ V 1 6 ≤ 12) (hR : RM V) : wp (q_X10_function N x V) (fun t r V' => ((x < 0 ∨ 3 < x) ∧ t = 1 ∧ V' = thV V) ∨ (¬ (x < 0 ∨ 3 < x) ∧ V 1 6 = 12 ∧ t = 2 ∧ V' = thV V) ∨ (¬ (x < 0 ∨ 3 < x) ∧ V 1 6 < 12 ∧ t = 0 ∧ r = V 1 6 ∧ V' = fnV V x)) := by
  unfold q_X10_function
  refine wp_if (fun h => ?_) (fun h => ?_)
  · exact wp_tH hR (Or.inl ⟨Or.inl h, rfl, rfl⟩)
  · refine wp_lI ?_
    refine wp_if (fun h1 => ?_) (fun h1 => ?_)
    · refine wp_cL (wz_eq e_functionTotal) (fun r V' h2 => ?_)
      obtain ⟨rfl, rfl⟩ := h2
      refine wp_lI ?_
      refine wp_if (fun h2 => ?_) (fun h2 => ?_)
      · refine wp_cL (wz_eq e_forget) (fun r V2 h3 => ?_)
        obtain ⟨rfl, rfl⟩ := h3
        have e1 : pz_u V' 16 10 0 1 6 = V' 1 6 := by rw [pu_off (by decide)]
        refine wp_cL (s_addFunction (by rw [e1]; omega)) (fun r V2 h3 => ?_)
        rw [e1] at h3
        obtain ⟨rfl, rfl⟩ := h3
        exact wp_rT (Or.inr (Or.inr ⟨by omega, by omega, rfl, rfl, rfl⟩))
      · exact wp_tH hR (Or.inr (Or.inl ⟨by omega, by omega, rfl, rfl⟩))
    · exact wp_tH hR (Or.inl ⟨Or.inr (by omega), rfl, rfl⟩)
def ccR (V : pvM) (f w : Int) : Prop := (0 ≤ f ∧ f < V 1 6) ∧ 0 ≤ w ∧ w ≤ 15
def ccV (V : pvM) (f w a b : Int) : pvM := pz_u (pz_u (pz_u (pz_u (pz_u V 16 10 0) 10 (40 * f + V 9 f.toNat).toNat w) 11 (40 * f + V 9 f.toNat).toNat a) 12 (40 * f + V 9 f.toNat).toNat b) 9 f.toNat (V 9 f.toNat + 1)
set_option maxHeartbeats 4000000 in
set_option maxRecDepth 100000 in
theorem s_addInstruction {N : Nat} {f w a b : Int} {V : pvM} (hf : 0 ≤ f ∧ f < 12) (hlf : 0 ≤ V 9 f.toNat ∧ V 9 f.toNat < 40) : wz (q_X6_addInstruction N f w a b V) (fun r V' => r = V 9 f.toNat ∧ V' = pz_u (pz_u (pz_u (pz_u V 10 (40 * f + V 9 f.toNat).toNat w) 11 (40 * f + V 9 f.toNat).toNat a) 12 (40 * f + V 9 f.toNat).toNat b) 9 f.toNat (V 9 f.toNat + 1)) := by
  unfold q_X6_addInstruction
  refine wp_aR (by omega) (wp_lI ?_)
  refine wp_lw (by omega) ?_
  refine wp_lw (by omega) ?_
  rw [show f * 40 + V 9 f.toNat = 40 * f + V 9 f.toNat by omega]
  refine wp_aW (by omega) ?_
  refine wp_aW (by omega) ?_
  refine wp_aW (by omega) ?_
  refine wp_aR (by omega) (wp_lI ?_)
  rw [pu_off (show (9 : Nat) ≠ 12 by decide), pu_off (show (9 : Nat) ≠ 11 by decide), pu_off (show (9 : Nat) ≠ 10 by decide)]
  refine wp_lw (by omega) ?_
  refine wp_aW (by omega) ?_
  exact wp_rT ⟨rfl, rfl, rfl⟩
set_option maxHeartbeats 4000000 in
set_option maxRecDepth 100000 in
theorem s_code {N : Nat} {f w a b : Int} {V : pvM} (h0 : 0 ≤ V 1 6 ∧ V 1 6 ≤ 12) (hl : ∀ k : Nat, k < 12 → 0 ≤ V 9 k ∧ V 9 k ≤ 40) (hR : RM V) : wp (q_X10_code N f w a b V) (fun t r V' => (¬ ccR V f w ∧ t = 1 ∧ V' = thV V) ∨ (ccR V f w ∧ V 9 f.toNat = 40 ∧ t = 2 ∧ V' = thV V) ∨ (ccR V f w ∧ V 9 f.toNat < 40 ∧ t = 0 ∧ r = V 9 f.toNat ∧ V' = ccV V f w a b)) := by
  unfold q_X10_code
  refine wp_cL (wz_eq e_hasFunction) (fun r V' h => ?_)
  obtain ⟨rfl, rfl⟩ := h
  by_cases hf : 0 ≤ f ∧ f < V' 1 6
  · rw [if_pos hf, if_neg (by decide)]
    have hlf := hl f.toNat (by omega)
    refine wp_if (fun h => ?_) (fun h => ?_)
    · exact wp_tH hR (Or.inl ⟨fun h9 => by have := h9.2; omega, rfl, rfl⟩)
    · refine wp_lI ?_
      refine wp_if (fun h1 => ?_) (fun h1 => ?_)
      · have hok : ccR V' f w := ⟨hf, by omega, by omega⟩
        rw [cL_eq (e_lengthOf (by omega))]
        refine wp_lI ?_
        refine wp_if (fun h2 => ?_) (fun h2 => ?_)
        · rw [cL_eq e_forget]
          have e1 : pz_u V' 16 10 0 9 = V' 9 := pu_off (by decide)
          refine wp_cL (s_addInstruction (by omega) (by rw [e1]; omega)) (fun r V2 h3 => ?_)
          rw [e1] at h3
          obtain ⟨rfl, rfl⟩ := h3
          exact wp_rT (Or.inr (Or.inr ⟨hok, by omega, rfl, rfl, rfl⟩))
        · exact wp_tH hR (Or.inr (Or.inl ⟨hok, by omega, rfl, rfl⟩))
      · exact wp_tH hR (Or.inl ⟨fun h9 => by have := h9.2; omega, rfl, rfl⟩)
  · rw [if_neg hf, if_pos rfl]
    exact wp_tH hR (Or.inl ⟨fun h9 => hf h9.1, rfl, rfl⟩)
/-- the class's recipe -/
def crP (V : pvM) (v : Int) (t : Nat) (r : Int) (V' : pvM) : Prop := (¬ RD v ∧ t = 1 ∧ V' = thV V) ∨ (RD v ∧ V 2 5 = 8 ∧ t = 2 ∧ V' = thV V) ∨ (RD v ∧ V 2 5 < 8 ∧ t = 0 ∧ r = V 2 5 ∧ V' 2 5 = V 2 5 + 1 ∧ RC1 V' (V 2 5 + 1).toNat ∧ (∃ n : Nat, ND v n ∧ V' 3 = va_up (V 3) (V 2 5).toNat n ∧ V' 6 = dgu (V 6) (12 * (V 2 5).toNat) n v) ∧ V' 16 = va_up (V 16) 10 0 ∧ fr [2, 3, 4, 5, 6, 7, 16] V V')
set_option maxHeartbeats 4000000 in
set_option maxRecDepth 100000 in
theorem s_recipe {N : Nat} (hN : 20 ≤ N) {v : Int} {V : pvM} (hv : I64 v) (h5 : 0 ≤ V 2 5 ∧ V 2 5 ≤ 8) (hC : RC1 V (V 2 5).toNat) (hR : RM V) : wp (q_X10_recipe N v V) (crP V v) := by
  unfold q_X10_recipe
  refine wp_cL (s_isReadable hN hv) (fun r V' h => ?_)
  obtain ⟨rfl, hr, hrd⟩ := h
  refine wp_if (fun h => ?_) (fun h => ?_)
  · have hx : RD v := hrd.mp (by omega)
    rw [cL_eq e_recipes, cL_eq e_total]
    refine wp_lI ?_
    refine wp_if (fun h2 => ?_) (fun h2 => ?_)
    · rw [cL_eq e_forget, cL_eq e_recipes]
      have hC9 : RC1 (pz_u V' 16 10 0) (V' 2 5).toNat := hC.congr (by rw [pu_off (by decide)]) (pu_off (by decide)) (pu_off (by decide)) (pu_off (by decide)) (pu_off (by decide)) (pu_off (by decide))
      refine wp_cL (s_add (nr := (V' 2 5).toNat) hN (by omega) hv hx (by rw [pu_off (by decide)]; omega) hC9) (fun r V2 h3 => ?_)
      obtain ⟨rfl, g1, g2, g3, g4⟩ := h3
      refine wp_rT (Or.inr (Or.inr ⟨hx, by omega, rfl, by omega, by omega, ?_, ?_, ?_, ?_⟩))
      · rw [show (V' 2 5 + 1).toNat = (V' 2 5).toNat + 1 by omega]; exact g2
      · obtain ⟨n, g5, g6, g7⟩ := g3
        exact ⟨n, g5, by rw [g6, pu_off (by decide)], by rw [g7, pu_off (by decide)]⟩
      · rw [g4 16 (by decide), pu_row]
      · exact (fr_u (by simp)).trans (g4.mono (fun c hc => by simp at hc ⊢; omega))
    · exact wp_tH hR (Or.inr (Or.inl ⟨hx, by omega, rfl, rfl⟩))
  · exact wp_tH hR (Or.inl ⟨fun hx => h (by rw [hrd.mpr hx]; decide), rfl, rfl⟩)
