/-! THE LAW COMES TO ITS END -/
theorem wp_sR2 {xs : Nat → Int32} {L : Nat} {i : Int} {k : Int → Option pvO} {Q : Nat → Int → pvM → Prop} (hi : 0 ≤ i ∧ i < (L : Int)) (h : wp (k (xs i.toNat).toInt) Q) : wp (sR xs L i k) Q := by
  unfold sR; rw [if_pos hi]; exact h
theorem I32_x (x : Int32) : I32 x.toInt := by
  have h1 := Int32.le_toInt x
  have h2 := Int32.toInt_lt x
  unfold I32
  omega
theorem cmp_ok {N : Nat} {v r : Int} {V2 : pvM} {A B C : pvM → Option pvO} {Q : Nat → Int → pvM → Prop} (h1 : v = V2 45 0) (h2 : v = 0 → V2 83 0 = r) (hA : wp (A V2) Q) : wp (cL (q_X11_thrown N V2) fun v37 V => if v37 = v then if v ≠ 0 then A V else lI (0) fun v38 => aR V 83 1 v38 fun v39 => lI (r) fun v40 => lI (pv_cmp v39 v40) fun v41 => if v41 = 0 then A V else B V else C V) Q := by
  have e1 : q_X11_thrown N V2 = some (0, V2 45 0, V2) := rfl
  rw [cL_eq e1, if_pos h1.symm]
  refine wp_if (fun _ => hA) (fun h0 => ?_)
  refine wp_lI (wp_aR (by decide) (wp_lI (wp_lI ?_)))
  rw [show V2 83 (0 : Int).toNat = r from h2 (by omega), if_pos (by unfold pv_cmp; rw [if_neg (by omega), if_pos rfl])]
  exact hA
set_option maxHeartbeats 16000000 in
set_option maxRecDepth 100000 in
theorem law_step (xs : Nat → Int32) {L : Nat} (hL : L ≤ 3072) {N n t : Nat} {V : pvM} (hN : 30000 ≤ N) (h : LI t V) (ht : (t : Int) ≤ 512) (nxt0 : ∀ V2, LI ((t + 1 : Nat) : Int) V2 → wp (q_law_b23 xs L N n ((6 * (t + 1) : Nat) : Int) V2) (fun _ _ _ => True)) : wp (q_law_b23 xs L N (n + 1) ((6 * t : Nat) : Int) V) (fun _ _ _ => True) := by
  have nxt : ∀ V2, LI ((t : Int) + 1) V2 → wp (q_law_b650 xs L N (q_law_b23 xs L N n) ((6 * t : Nat) : Int) V2) (fun _ _ _ => True) := by
    intro V2 h2
    unfold q_law_b650
    refine wp_lw (by omega) ?_
    rw [show ((6 * t : Nat) : Int) + 6 = ((6 * (t + 1) : Nat) : Int) by omega]
    exact nxt0 V2 (by rw [show ((t + 1 : Nat) : Int) = (t : Int) + 1 by omega]; exact h2)
  have run : ∀ (p : Int), 6 * (t : Int) + 6 ≤ L → (p = 0 ∨ p = 1) → True := fun _ _ _ => trivial
  simp only [q_law_b23]
  refine wp_lI (wp_lI (wp_lw (by omega) ?_))
  refine wp_if (fun _ => ?_) (fun h6 => ?_)
  · exact wp_lI ⟨0, 1, V, by unfold rL; rw [if_pos rfl], trivial⟩
  refine wp_sR2 (by omega) (wp_lI (wp_lI ?_))
  refine wp_if (fun _ => ?_) (fun _ => ?_)
  · repeat' (with_reducible first | refine wp_lw (by omega) ?_ | refine wp_lI ?_ | refine wp_sR2 (by omega) ?_)
    refine wp_cL (op_function h (by omega)) (fun v V1 h1 => ?_)
    repeat' (with_reducible first | refine wp_lw (by omega) ?_ | refine wp_lI ?_ | refine wp_sR2 (by omega) ?_)
    refine wp_cL h1 (fun r V2 h2 => ?_)
    first | exact nxt _ h2.1 | exact cmp_ok h2.2.1 h2.2.2 (nxt _ h2.1)
  refine wp_if (fun _ => ?_) (fun _ => ?_)
  · repeat' (with_reducible first | refine wp_lw (by omega) ?_ | refine wp_lI ?_ | refine wp_sR2 (by omega) ?_)
    refine wp_cL (op_code h (by omega) (I32_x _) (I32_x _)) (fun v V1 h1 => ?_)
    repeat' (with_reducible first | refine wp_lw (by omega) ?_ | refine wp_lI ?_ | refine wp_sR2 (by omega) ?_)
    refine wp_cL h1 (fun r V2 h2 => ?_)
    first | exact nxt _ h2.1 | exact cmp_ok h2.2.1 h2.2.2 (nxt _ h2.1)
  refine wp_if (fun _ => ?_) (fun _ => ?_)
  · repeat' (with_reducible first | refine wp_lw (by omega) ?_ | refine wp_lI ?_ | refine wp_sR2 (by omega) ?_)
    refine wp_cL (op_recipe (by omega) h (by omega) (I64_or _ _)) (fun v V1 h1 => ?_)
    repeat' (with_reducible first | refine wp_lw (by omega) ?_ | refine wp_lI ?_ | refine wp_sR2 (by omega) ?_)
    refine wp_cL h1 (fun r V2 h2 => ?_)
    first | exact nxt _ h2.1 | exact cmp_ok h2.2.1 h2.2.2 (nxt _ h2.1)
  refine wp_if (fun _ => ?_) (fun _ => ?_)
  · repeat' (with_reducible first | refine wp_lw (by omega) ?_ | refine wp_lI ?_ | refine wp_sR2 (by omega) ?_)
    refine wp_cL (op_check (by omega) h) (fun v V1 h1 => ?_)
    repeat' (with_reducible first | refine wp_lw (by omega) ?_ | refine wp_lI ?_ | refine wp_sR2 (by omega) ?_)
    refine wp_cL h1 (fun r V2 h2 => ?_)
    first | exact nxt _ h2.1 | exact wp_if (fun _ => nxt _ h2.1) (fun h9 => absurd h2.2.2 h9) | exact wp_if (fun h9 => absurd h2.2.2 h9) (fun _ => nxt _ h2.1) | exact wp_if (fun _ => nxt _ h2.1) (fun h9 => absurd h2.2.2.symm h9) | exact wp_if (fun h9 => absurd h2.2.2.symm h9) (fun _ => nxt _ h2.1)
  refine wp_if (fun _ => ?_) (fun _ => ?_)
  · repeat' (with_reducible first | refine wp_lw (by omega) ?_ | refine wp_lI ?_ | refine wp_sR2 (by omega) ?_)
    refine wp_cL (op_lower (by omega) h (by omega)) (fun v V1 h1 => ?_)
    repeat' (with_reducible first | refine wp_lw (by omega) ?_ | refine wp_lI ?_ | refine wp_sR2 (by omega) ?_)
    refine wp_cL h1 (fun r V2 h2 => ?_)
    first | exact nxt _ h2.1 | exact wp_if (fun _ => nxt _ h2.1) (fun h9 => absurd h2.2.2 h9) | exact wp_if (fun h9 => absurd h2.2.2 h9) (fun _ => nxt _ h2.1) | exact wp_if (fun _ => nxt _ h2.1) (fun h9 => absurd h2.2.2.symm h9) | exact wp_if (fun h9 => absurd h2.2.2.symm h9) (fun _ => nxt _ h2.1)
  refine wp_if (fun _ => ?_) (fun _ => ?_)
  · repeat' (with_reducible first | refine wp_lw (by omega) ?_ | refine wp_lI ?_ | refine wp_sR2 (by omega) ?_)
    refine wp_cL (op_count h (by omega)) (fun v V1 h1 => ?_)
    repeat' (with_reducible first | refine wp_lw (by omega) ?_ | refine wp_lI ?_ | refine wp_sR2 (by omega) ?_)
    refine wp_cL h1 (fun r V2 h2 => ?_)
    first | exact nxt _ h2.1 | exact cmp_ok h2.2.1 h2.2.2 (nxt _ h2.1)
  refine wp_if (fun _ => ?_) (fun _ => ?_)
  · repeat' (with_reducible first | refine wp_lw (by omega) ?_ | refine wp_lI ?_ | refine wp_sR2 (by omega) ?_)
    refine wp_cL (op_size h (by omega)) (fun v V1 h1 => ?_)
    repeat' (with_reducible first | refine wp_lw (by omega) ?_ | refine wp_lI ?_ | refine wp_sR2 (by omega) ?_)
    refine wp_cL h1 (fun r V2 h2 => ?_)
    exact nxt _ h2.1
  refine wp_if (fun _ => ?_) (fun _ => ?_)
  · repeat' (with_reducible first | refine wp_lw (by omega) ?_ | refine wp_lI ?_ | refine wp_sR2 (by omega) ?_)
    refine wp_cL (op_plain h (by omega)) (fun v V1 h1 => ?_)
    repeat' (with_reducible first | refine wp_lw (by omega) ?_ | refine wp_lI ?_ | refine wp_sR2 (by omega) ?_)
    refine wp_cL h1 (fun r V2 h2 => ?_)
    exact nxt _ h2
  refine wp_if (fun _ => ?_) (fun _ => ?_)
  · repeat' (with_reducible first | refine wp_lw (by omega) ?_ | refine wp_lI ?_ | refine wp_sR2 (by omega) ?_)
    refine wp_cL (op_made h (by omega)) (fun v V1 h1 => ?_)
    repeat' (with_reducible first | refine wp_lw (by omega) ?_ | refine wp_lI ?_ | refine wp_sR2 (by omega) ?_)
    refine wp_cL h1 (fun r V2 h2 => ?_)
    first | exact nxt _ h2.1 | exact cmp_ok h2.2.1 h2.2.2 (nxt _ h2.1)
  refine wp_if (fun _ => ?_) (fun _ => ?_)
  · repeat' (with_reducible first | refine wp_lw (by omega) ?_ | refine wp_lI ?_ | refine wp_sR2 (by omega) ?_)
    refine wp_cL (op_char h (by omega)) (fun v V1 h1 => ?_)
    repeat' (with_reducible first | refine wp_lw (by omega) ?_ | refine wp_lI ?_ | refine wp_sR2 (by omega) ?_)
    refine wp_cL h1 (fun r V2 h2 => ?_)
    first | exact nxt _ h2.1 | exact cmp_ok h2.2.1 h2.2.2 (nxt _ h2.1)
  refine wp_if (fun _ => ?_) (fun _ => ?_)
  · repeat' (with_reducible first | refine wp_lw (by omega) ?_ | refine wp_lI ?_ | refine wp_sR2 (by omega) ?_)
    refine wp_if (fun h50 => ?_) (fun h50 => ?_)
    · refine wp_lI ?_
      unfold q_law_b513
      refine wp_cL (op_run hN h (by omega) ⟨I32_x _, I32_x _, I32_x _⟩) (fun v V1 h1 => ?_)
      repeat' (with_reducible first | refine wp_lw (by omega) ?_ | refine wp_lI ?_ | refine wp_sR2 (by omega) ?_)
      rw [if_pos h50]
      refine wp_lI ?_
      unfold q_law_b558
      refine wp_cL h1 (fun r V2 h2 => ?_)
      first | exact nxt _ h2.1 | exact cmp_ok h2.2.1 h2.2.2 (nxt _ h2.1)
    · refine wp_lI ?_
      unfold q_law_b513
      refine wp_cL (op_run hN h (by omega) ⟨I32_x _, I32_x _, I32_x _⟩) (fun v V1 h1 => ?_)
      repeat' (with_reducible first | refine wp_lw (by omega) ?_ | refine wp_lI ?_ | refine wp_sR2 (by omega) ?_)
      rw [if_neg h50]
      refine wp_lI ?_
      unfold q_law_b558
      refine wp_cL h1 (fun r V2 h2 => ?_)
      first | exact nxt _ h2.1 | exact cmp_ok h2.2.1 h2.2.2 (nxt _ h2.1)
  refine wp_if (fun _ => ?_) (fun _ => ?_)
  · repeat' (with_reducible first | refine wp_lw (by omega) ?_ | refine wp_lI ?_ | refine wp_sR2 (by omega) ?_)
    refine wp_cL (op_told h (by omega)) (fun v V1 h1 => ?_)
    repeat' (with_reducible first | refine wp_lw (by omega) ?_ | refine wp_lI ?_ | refine wp_sR2 (by omega) ?_)
    refine wp_cL h1 (fun r V2 h2 => ?_)
    first | exact nxt _ h2.1 | exact cmp_ok h2.2.1 h2.2.2 (nxt _ h2.1)
  refine wp_if (fun _ => ?_) (fun _ => ?_)
  · repeat' (with_reducible first | refine wp_lw (by omega) ?_ | refine wp_lI ?_ | refine wp_sR2 (by omega) ?_)
    refine wp_cL (op_said h (by omega)) (fun v V1 h1 => ?_)
    repeat' (with_reducible first | refine wp_lw (by omega) ?_ | refine wp_lI ?_ | refine wp_sR2 (by omega) ?_)
    refine wp_cL h1 (fun r V2 h2 => ?_)
    exact nxt _ h2.1
  exact nxt V (LI_s h)
theorem law_go (xs : Nat → Int32) {L : Nat} (hL : L ≤ 3072) {N : Nat} (hN : 30000 ≤ N) : ∀ (n t : Nat) (V : pvM), 514 ≤ n + t → t ≤ 512 → LI t V → wp (q_law_b23 xs L N n ((6 * t : Nat) : Int) V) (fun _ _ _ => True)
  | 0, t, V, h1, h2, _ => by omega
  | n + 1, t, V, h1, h2, h => by
    by_cases h5 : t = 512
    · subst h5
      simp only [q_law_b23]
      refine wp_lI (wp_lI (wp_lw (by omega) ?_))
      rw [if_pos (by omega)]
      exact wp_lI ⟨0, 1, V, by unfold rL; rw [if_pos rfl], trivial⟩
    · exact law_step xs hL hN h (by omega) (fun V2 h9 => law_go xs hL hN n (t + 1) V2 (by omega) (by omega) h9)
theorem law_ok (xs : Nat → Int32) {L : Nat} (hL : L ≤ 3072) : ∃ q, q_law_b23 xs L pv_N pv_N 0 pv_V0 = some q := by
  have e : pv_N = 2000000 := rfl
  obtain ⟨t, r, V, h1, -⟩ := law_go xs hL (N := pv_N) (by omega) pv_N 0 pv_V0 (by omega) (by omega) LI_start
  exact ⟨_, h1⟩
