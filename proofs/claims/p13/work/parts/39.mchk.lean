/-! THE REFERENCE'S CHECK -/
/-- the reference holds the same program -/
def RI (V : pvM) : Prop := V 45 1 = V 1 6 ∧ V 46 = V 8 ∧ V 47 = V 9 ∧ V 48 = V 10 ∧ V 49 = V 11 ∧ V 50 = V 12 ∧ V 45 7 = V 2 5 ∧ V 51 = V 3 ∧ V 52 = V 6
set_option maxHeartbeats 4000000 in
set_option maxRecDepth 100000 in
theorem s_mholes_b4 {N r : Nat} {V : pvM} (hP : PI V) (hI : RI V) (hr : (r : Int) < V 2 5) : ∀ (fu k : Nat), (k : Int) ≤ V 3 r → V 3 r + 1 ≤ fu + k → wz (q_X11_holes_b4 N fu r (c27 (V 6) (12 * r) k) k V) (fun z V' => z = V 4 r ∧ V' = V) := by
  have h8 := hP.2.2.2.2.1
  have hrc := hP.2.2.2.2.2.1.2.2.2 r (by omega)
  intro fu
  induction fu with
  | zero => intro k h1 h2; omega
  | succ fu ih =>
    intro k h1 h2
    have hcb := c27_bd (V 6) (12 * r) k
    simp only [q_X11_holes_b4]
    refine wp_aR (by omega) ?_
    rw [show ((r : Int)).toNat = r by omega, hI.2.2.2.2.2.2.2.1]
    refine wp_if (fun h => ?_) (fun h => ?_)
    · refine wp_rT ⟨rfl, ?_, rfl⟩
      rw [hrc.2.1, show (V 3 r).toNat = k by omega]
    · refine wp_lI (wp_lw (by omega) (wp_lw (by omega) (wp_aR (by omega) (wp_lI ?_))))
      rw [hI.2.2.2.2.2.2.2.2, show (12 * (r : Int) + (k : Int)).toNat = 12 * r + k by omega]
      refine wp_if (fun h27 => ?_) (fun h27 => ?_)
      · refine wp_lI ?_
        unfold q_X11_holes_b36
        refine wp_lw (by omega) (wp_lw (by omega) ?_)
        have k9 := ih (k + 1) (by omega) (by omega)
        simp only [c27] at k9
        rw [if_neg h27] at k9
        exact k9
      · refine wp_lI ?_
        unfold q_X11_holes_b36
        refine wp_lw (by omega) (wp_lw (by omega) ?_)
        have k9 := ih (k + 1) (by omega) (by omega)
        simp only [c27] at k9
        rw [if_pos (Decidable.not_not.mp h27)] at k9
        exact k9
theorem e_mholes {N : Nat} {a : Int} {V : pvM} (hN : 50 ≤ N) (hP : PI V) (hI : RI V) (hr : 0 ≤ a ∧ a < V 2 5) : q_X11_holes N a V = some (0, V 4 a.toNat, V) := wz_to (by
  unfold q_X11_holes
  have h8 := hP.2.2.2.2.1
  have hrc := hP.2.2.2.2.2.1.2.2.2 a.toNat (by omega)
  have k9 := s_mholes_b4 (N := N) (r := a.toNat) hP hI (by omega) N 0 (by omega) (by omega)
  rw [show ((a.toNat : Nat) : Int) = a by omega] at k9
  exact wp_lI (wp_lI k9))
theorem e_misFunction {N : Nat} {x : Int} {V : pvM} : q_X11_isFunction N x V = some (0, (if 0 ≤ x ∧ x < V 45 1 then 1 else 0), V) := wz_to (by
  unfold q_X11_isFunction
  refine wp_if (fun h => ?_) (fun h => ?_)
  · exact wp_lI (wp_bT (Or.inl rfl) (wp_rT ⟨rfl, by rw [if_neg (by omega)], rfl⟩))
  · refine wp_gR ?_
    refine wp_if (fun h1 => ?_) (fun h1 => ?_)
    · exact wp_lI (wp_bT (Or.inl rfl) (wp_rT ⟨rfl, by rw [if_neg (by omega)], rfl⟩))
    · exact wp_lI (wp_bT (Or.inr rfl) (wp_rT ⟨rfl, by rw [if_pos (by omega)], rfl⟩)))
set_option maxHeartbeats 4000000 in
set_option maxRecDepth 100000 in
theorem e_mpops {N f k : Nat} {V : pvM} (hN : 50 ≤ N) (hP : PI V) (hI : RI V) (hf : f < 12) (hk : k < 40) (hb : bd V f k) : q_X11_pops N (40 * (f : Int) + k) V = some (0, cQ V f k, V) := wz_to (by
  have hw := hP.2.2.1 (40 * f + k)
  have hn := hP.1
  have h8 := hP.2.2.2.2.1
  obtain ⟨i1, i2, i3, i4, i5, i6, i7, i8, i9⟩ := id hI
  obtain ⟨b1, b2, b3, b4, b5, b6⟩ := hb
  have e9 : (40 * (f : Int) + (k : Int)).toNat = 40 * f + k := by omega
  have eW : V 10 (40 * f + k) = cW V f k := rfl
  have eA : V 11 (40 * f + k) = cA V f k := rfl
  have eB : V 12 (40 * f + k) = cB V f k := rfl
  unfold q_X11_pops
  refine wp_aR (by omega) (wp_aR (by omega) ?_)
  rw [e9, i4, i5, eW, eA]
  unfold cQ
  have hh : cW V f k = 15 → q_X11_holes N (cA V f k) V = some (0, V 4 (cA V f k).toNat, V) := fun h => e_mholes hN hP hI (b6 h)
  generalize cW V f k = w at *
  generalize cA V f k = a at *
  repeat' (with_reducible first | refine wp_lw ?_ ?_ | refine wp_lI ?_ | refine wp_gR ?_ | refine wp_gW ?_ | refine wp_rT ?_ | refine wp_if (fun h => ?_) (fun h => ?_) | refine wp_bT ?_ ?_ | refine wp_aR ?_ ?_ | refine wp_aW ?_ ?_ | rw [cL_eq (hh (by assumption))])
  all_goals first | omega | (refine ⟨rfl, ?_, rfl⟩; unfold po; rw [e9, i6, eB] <;> (repeat' split) <;> omega) | (refine ⟨rfl, ?_, rfl⟩; unfold po; rw [i2] <;> (repeat' split) <;> omega) | (refine ⟨rfl, ?_, rfl⟩; unfold po; (repeat' split) <;> omega))
set_option maxHeartbeats 4000000 in
set_option maxRecDepth 100000 in
theorem e_mpushes {N f k : Nat} {V : pvM} (hI : RI V) (hf : f < 12) (hk : k < 40) : q_X11_pushes N (40 * (f : Int) + k) V = some (0, cP V f k, V) := wz_to (by
  have e9 : (40 * (f : Int) + (k : Int)).toNat = 40 * f + k := by omega
  have eW : V 10 (40 * f + k) = cW V f k := rfl
  unfold q_X11_pushes
  refine wp_aR (by omega) ?_
  rw [e9, hI.2.2.2.1, eW]
  unfold cP
  generalize cW V f k = w at *
  repeat' (with_reducible first | refine wp_lw ?_ ?_ | refine wp_lI ?_ | refine wp_gR ?_ | refine wp_gW ?_ | refine wp_rT ?_ | refine wp_if (fun h => ?_) (fun h => ?_) | refine wp_bT ?_ ?_ | refine wp_aR ?_ ?_ | refine wp_aW ?_ ?_)
  all_goals (refine ⟨rfl, ?_, rfl⟩; unfold pu; (repeat' split) <;> omega))
set_option maxHeartbeats 4000000 in
set_option maxRecDepth 100000 in
theorem s_mbounds {N f k : Nat} {V : pvM} (hP : PI V) (hI : RI V) (hf : f < 12) (hk : k < 40) : wz (q_X11_isBound N f k V) (fun r V' => V' = V ∧ ((r = 1 ∧ bd V f k) ∨ (r = 0 ∧ ¬ bd V f k))) := by
  have hw := hP.2.2.1 (40 * f + k)
  have hn := hP.1
  obtain ⟨i1, i2, i3, i4, i5, i6, i7, i8, i9⟩ := id hI
  have e9 : (40 * (f : Int) + (k : Int)).toNat = 40 * f + k := by omega
  have e8 : ((f : Int)).toNat = f := by omega
  have eW : V 10 (40 * f + k) = cW V f k := rfl
  have eA : V 11 (40 * f + k) = cA V f k := rfl
  have eB : V 12 (40 * f + k) = cB V f k := rfl
  unfold q_X11_isBound
  refine wp_lI (wp_lw (by omega) (wp_lw (by omega) (wp_aR (by omega) ?_)))
  refine wp_lI (wp_lw (by omega) (wp_lw (by omega) (wp_aR (by omega) ?_)))
  refine wp_lI (wp_lw (by omega) (wp_lw (by omega) (wp_aR (by omega) ?_)))
  rw [e9, i4, i5, i6, eW, eA, eB]
  unfold bd
  generalize cW V f k = w at *
  generalize cA V f k = a at *
  generalize cB V f k = b at *
  have e_f : ∀ x : Int, q_X11_isFunction N x V = some (0, (if 0 ≤ x ∧ x < V 1 6 then 1 else 0), V) := fun x => by rw [← i1]; exact e_misFunction
  repeat' (with_reducible first | refine wp_lw ?_ ?_ | refine wp_lI ?_ | refine wp_gR ?_ | refine wp_gW ?_ | refine wp_rT ?_ | refine wp_if (fun h => ?_) (fun h => ?_) | refine wp_bT ?_ ?_ | refine wp_aR ?_ ?_ | refine wp_aW ?_ ?_ | rw [cL_eq (e_f _)])
  all_goals try rw [e8, i3] at *
  all_goals try rw [i2] at *
  all_goals try rw [i7] at *
  all_goals first | omega | (first | exact ⟨rfl, rfl, Or.inl ⟨rfl, by unfold bdw; omega⟩⟩ | exact ⟨rfl, rfl, Or.inr ⟨rfl, by unfold bdw; omega⟩⟩ | (split; omega; omega) | (refine ⟨rfl, rfl, ?_⟩; unfold bdw; split; exact Or.inl ⟨rfl, by omega⟩; exact Or.inr ⟨rfl, by omega⟩))
