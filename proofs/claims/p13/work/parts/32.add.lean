/-! DIGITS OF A RECIPE -/
theorem shq {v : Int} (hv : I64 v) {k : Nat} (hk : k ≤ 12) : pv_shr v (5 * (k : Int)) = qt v k := by
  rw [show (5 : Int) * (k : Int) = ((5 * k : Nat) : Int) by omega, pv_shr_n hv (by omega), p5]; rfl
theorem qt64 {v : Int} (hv : I64 v) (k : Nat) : I64 (qt v k) := by
  unfold qt
  rw [← p5]
  exact I64_ediv hv _
theorem andq {v : Int} (hv : I64 v) (k : Nat) : pv_andl (qt v k) 31 = dg v k := by rw [pv_and31 (qt64 hv k)]; rfl
theorem shq5 {v : Int} (hv : I64 v) (k : Nat) : pv_shr (qt v k) 5 = qt v (k + 1) := by
  have h := pv_shr_n (qt64 hv k) (j := 5) (by decide)
  rw [qt_s]
  exact h
theorem shq60 {v : Int} (hv : I64 v) : pv_shr v 60 = qt v 12 := shq hv (k := 12) (by decide)
theorem cmp0 {x y : Int} : pv_cmp x y = 0 ↔ x = y := by unfold pv_cmp; repeat' split
                                                        all_goals omega
theorem cmple {x y : Int} : pv_cmp x y ≤ 0 ↔ x ≤ y := by unfold pv_cmp; repeat' split
                                                         all_goals omega
theorem cmpgt {x y : Int} : 0 < pv_cmp x y ↔ y < x := by unfold pv_cmp; repeat' split
                                                         all_goals omega
def dgu (D : Nat → Int) (b n : Nat) (v : Int) : Nat → Int := fun j => if b ≤ j ∧ j < b + n then dg v (j - b) else D j
theorem dgu_0 (D : Nat → Int) (b : Nat) (v : Int) : dgu D b 0 v = D := by
  funext j
  unfold dgu
  rw [if_neg (by omega)]
theorem dgu_s (D : Nat → Int) (b k : Nat) (v : Int) : va_up (dgu D b k v) (b + k) (dg v k) = dgu D b (k + 1) v := by
  funext j
  rw [up_app]
  unfold dgu
  by_cases h : j = b + k
  · subst h
    rw [if_pos rfl, if_pos (by omega), show b + k - b = k by omega]
  · rw [if_neg h]
    by_cases h1 : b ≤ j ∧ j < b + k
    · rw [if_pos h1, if_pos (by omega)]
    · rw [if_neg h1, if_neg (by omega)]
set_option maxHeartbeats 4000000 in
set_option maxRecDepth 100000 in
theorem s_isReadable_b22 {N : Nat} {v : Int} {V : pvM} (hv : I64 v) (h0 : 0 < v) (h12 : qt v 12 = 0) : ∀ (n k : Nat), 13 ≤ n + k → k ≤ 12 → (∀ j, j < k → 1 ≤ dg v j ∧ dg v j ≤ 27) → wz (q_X7_isReadable_b22 N n (qt v k) k V) (fun r V' => V' = V ∧ (r = 0 ∨ r = 1) ∧ (r = 1 ↔ RD v)) := by
  intro n
  induction n with
  | zero => intro k h1 h2; omega
  | succ n ih =>
    intro k h1 h2 hd
    have hdk := dg_lo v k
    simp only [q_X7_isReadable_b22]
    refine wp_lI ?_
    refine wp_if (fun h => ?_) (fun h => ?_)
    · refine wp_lI (wp_bT (Or.inr rfl) (wp_rT ⟨rfl, rfl, Or.inr rfl, ⟨fun _ => ⟨h0, h12, fun j hj _ => hd j (by omega)⟩, fun _ => rfl⟩⟩))
    · refine wp_lI ?_
      refine wp_lI ?_
      refine wp_if (fun hc => ?_) (fun hc => ?_)
      · have hq := cmp0.mp hc
        refine wp_lI (wp_bT (Or.inr rfl) (wp_rT ⟨rfl, rfl, Or.inr rfl, ⟨fun _ => ⟨h0, h12, fun j hj hjn => ?_⟩, fun _ => rfl⟩⟩))
        rcases Nat.lt_or_ge j k with h9 | h9
        · exact hd j h9
        · exact absurd (qt_z v hq h9) hjn
      · have hq : qt v k ≠ 0 := fun h9 => hc (cmp0.mpr h9)
        refine wp_lI ?_
        rw [andq hv]
        refine wp_lI ?_
        refine wp_lw (by omega) ?_
        refine wp_if (fun hz => ?_) (fun hz => ?_)
        · refine wp_lI (wp_bT (Or.inl rfl) (wp_rT ⟨rfl, rfl, Or.inl rfl, ⟨fun h9 => absurd h9 (by decide), fun h9 => ?_⟩⟩))
          have := h9.2.2 k (by omega) hq
          omega
        · refine wp_lI ?_
          refine wp_if (fun h27 => ?_) (fun h27 => ?_)
          · refine wp_lI ?_
            rw [shq5 hv]
            refine wp_lI ?_
            refine wp_lw (by omega) ?_
            refine ih (k + 1) (by omega) (by omega) (fun j hj => ?_)
            rcases Nat.lt_or_eq_of_le (Nat.le_of_lt_succ hj) with h9 | rfl
            · exact hd j h9
            · omega
          · refine wp_lI (wp_bT (Or.inl rfl) (wp_rT ⟨rfl, rfl, Or.inl rfl, ⟨fun h9 => absurd h9 (by decide), fun h9 => ?_⟩⟩))
            have := h9.2.2 k (by omega) hq
            omega
set_option maxHeartbeats 4000000 in
set_option maxRecDepth 100000 in
theorem s_isReadable {N : Nat} (hN : 20 ≤ N) {v : Int} {V : pvM} (hv : I64 v) : wz (q_X7_isReadable N v V) (fun r V' => V' = V ∧ (r = 0 ∨ r = 1) ∧ (r = 1 ↔ RD v)) := by
  unfold q_X7_isReadable
  refine wp_lI ?_
  refine wp_lI ?_
  refine wp_if (fun h => ?_) (fun h => ?_)
  · refine wp_lI (wp_bT (Or.inl rfl) (wp_rT ⟨rfl, rfl, Or.inl rfl, ⟨fun h9 => absurd h9 (by decide), fun h9 => ?_⟩⟩))
    have := cmple.mp h
    have := h9.1
    omega
  · refine wp_lI ?_
    rw [shq60 hv]
    refine wp_lI ?_
    refine wp_lI ?_
    refine wp_lI ?_
    refine wp_if (fun h1 => ?_) (fun h1 => ?_)
    · refine wp_lI ?_
      have k9 := s_isReadable_b22 (N := N) (V := V) hv (cmpgt.mp (by omega)) (cmp0.mp h1) N 0 (by omega) (by omega) (fun j hj => by omega)
      rw [qt_0] at k9
      exact k9
    · refine wp_lI (wp_bT (Or.inl rfl) (wp_rT ⟨rfl, rfl, Or.inl rfl, ⟨fun h9 => absurd h9 (by decide), fun h9 => absurd (cmp0.mpr h9.2.1) h1⟩⟩))
/-- n digits, no more -/
def ND (v : Int) (n : Nat) : Prop := n ≤ 12 ∧ qt v n = 0 ∧ ∀ j, j < n → qt v j ≠ 0
theorem ND_uniq {v : Int} {n m : Nat} (h1 : ND v n) (h2 : ND v m) : n = m := by
  rcases Nat.lt_trichotomy n m with h | h | h
  · exact absurd h1.2.1 (h2.2.2 n h)
  · exact h
  · exact absurd h2.2.1 (h1.2.2 m h)
set_option maxHeartbeats 4000000 in
set_option maxRecDepth 100000 in
theorem s_add_b21 {N nr : Nat} {v : Int} {V0 : pvM} (hnr : nr < 8) (hv : I64 v) (hrd : RD v) (h25 : V0 2 5 = nr) : ∀ (n k : Nat) (V : pvM), 13 ≤ n + k → k ≤ 12 → (∀ j, j < k → qt v j ≠ 0) → RC1 V (nr + 1) → V 3 = va_up (V0 3) nr k → V 6 = dgu (V0 6) (12 * nr) k v → V 2 5 = nr → fr [2, 3, 4, 5, 6, 7] V0 V →
    wz (q_X7_add_b21 N n nr (qt v k) k V) (fun r V' => r = nr ∧ V' 2 5 = nr + 1 ∧ RC1 V' (nr + 1) ∧ (∃ n : Nat, ND v n ∧ V' 3 = va_up (V0 3) nr n ∧ V' 6 = dgu (V0 6) (12 * nr) n v) ∧ fr [2, 3, 4, 5, 6, 7] V0 V') := by
  have hfin : ∀ (k : Nat) (V : pvM), ND v k → RC1 V (nr + 1) → V 3 = va_up (V0 3) nr k → V 6 = dgu (V0 6) (12 * nr) k v → V 2 5 = nr → fr [2, 3, 4, 5, 6, 7] V0 V → wz (q_X7_add_b59 N nr V) (fun r V' => r = nr ∧ V' 2 5 = nr + 1 ∧ RC1 V' (nr + 1) ∧ (∃ n : Nat, ND v n ∧ V' 3 = va_up (V0 3) nr n ∧ V' 6 = dgu (V0 6) (12 * nr) n v) ∧ fr [2, 3, 4, 5, 6, 7] V0 V') := by
    intro k V hnd hR h3 h6 h2 hf
    unfold q_X7_add_b59
    refine wp_gR ?_
    refine wp_lI ?_
    refine wp_lw (by omega) ?_
    refine wp_gW ?_
    refine wp_rT ⟨rfl, rfl, ?_, ?_, ⟨k, hnd, ?_, ?_⟩, ?_⟩
    · rw [pu_row, up_app, if_pos rfl, h2]
    · refine hR.congr ?_ (pu_off (by decide)) (pu_off (by decide)) (pu_off (by decide)) (pu_off (by decide)) (pu_off (by decide))
      rw [pu_row, up_app, if_neg (by decide)]
    · rw [pu_off (by decide)]; exact h3
    · rw [pu_off (by decide)]; exact h6
    · exact hf.trans (fr_u (by simp))
  intro n
  induction n with
  | zero => intro k V h1 h2; omega
  | succ n ih =>
    intro k V h1 h2 hj hR h3 h6 h2n hf
    have hdk := dg_lo v k
    simp only [q_X7_add_b21]
    refine wp_lI ?_
    refine wp_if (fun h => ?_) (fun h => ?_)
    · have hk : k = 12 := by omega
      subst hk
      exact hfin 12 V ⟨by omega, hrd.2.1, hj⟩ hR h3 h6 h2n hf
    · refine wp_lI ?_
      refine wp_lI ?_
      refine wp_if (fun hc => ?_) (fun hc => ?_)
      · exact hfin k V ⟨h2, cmp0.mp hc, hj⟩ hR h3 h6 h2n hf
      · have hq : qt v k ≠ 0 := fun h9 => hc (cmp0.mpr h9)
        have hd := hrd.2.2 k (by omega) hq
        refine wp_lI ?_
        rw [andq hv]
        refine wp_lI ?_
        refine wp_lw (by omega) ?_
        refine wp_cL (s_addDigit hR (k := k) (by rw [h3, up_app, if_pos rfl]) (by omega) hd) (fun r V' hV' => ?_)
        obtain ⟨g1, g2, g3, g4, g5, g6⟩ := hV'
        refine wp_lI ?_
        rw [shq5 hv]
        refine wp_lI ?_
        refine wp_lw (by omega) ?_
        refine ih (k + 1) V' (by omega) (by omega) (fun j hj9 => ?_) g1 ?_ ?_ (g5.trans h2n) (hf.trans (g6.mono (fun c hc9 => by simp at hc9 ⊢; omega)))
        · rcases Nat.lt_or_eq_of_le (Nat.le_of_lt_succ hj9) with h9 | rfl
          · exact hj j h9
          · exact hq
        · rw [g2, h3]
          funext j
          simp only [up_app]
          split <;> rfl
        · rw [g3, h6, dgu_s]
set_option maxHeartbeats 4000000 in
set_option maxRecDepth 100000 in
theorem s_add {N : Nat} (hN : 20 ≤ N) {nr : Nat} {v : Int} {V : pvM} (hnr : nr < 8) (hv : I64 v) (hrd : RD v) (h25 : V 2 5 = nr) (hR : RC1 V nr) : wz (q_X7_add N v V) (fun r V' => r = nr ∧ V' 2 5 = nr + 1 ∧ RC1 V' (nr + 1) ∧ (∃ n : Nat, ND v n ∧ V' 3 = va_up (V 3) nr n ∧ V' 6 = dgu (V 6) (12 * nr) n v) ∧ fr [2, 3, 4, 5, 6, 7] V V') := by
  unfold q_X7_add
  refine wp_gR ?_
  refine wp_gR ?_
  rw [h25]
  refine wp_aW (by omega) ?_
  refine wp_lI ?_
  have hR1 : RC1 (pz_u V 5 ((nr : Int)).toNat (V 2 6)) (nr + 1) := by
    obtain ⟨h8, hl, hz, hr⟩ := hR
    have hzn := hz nr hnr (by omega)
    have e3 : pz_u V 5 ((nr : Int)).toNat (V 2 6) 3 = V 3 := pu_off (by decide)
    have e4 : pz_u V 5 ((nr : Int)).toNat (V 2 6) 4 = V 4 := pu_off (by decide)
    have e6 : pz_u V 5 ((nr : Int)).toNat (V 2 6) 6 = V 6 := pu_off (by decide)
    have e7 : pz_u V 5 ((nr : Int)).toNat (V 2 6) 7 = V 7 := pu_off (by decide)
    have e2 : pz_u V 5 ((nr : Int)).toNat (V 2 6) 2 = V 2 := pu_off (by decide)
    unfold RC1
    rw [e3, e4, e6, e7, e2, pu_row, show ((nr : Int)).toNat = nr by omega]
    refine ⟨by omega, ?_, fun r h1 h2 => hz r h1 (by omega), fun r hr9 => ?_⟩
    · simp only [ls]; rw [hl, hzn.1, hzn.2]; omega
    · by_cases h9 : r = nr
      · subst h9
        rw [up_app, if_pos rfl, hzn.1, hzn.2]
        exact ⟨by omega, rfl, hl, fun k hk => by omega⟩
      · rw [up_app, if_neg h9]
        exact hr r (by omega)
  have k9 := s_add_b21 (N := N) (V0 := V) hnr hv hrd h25 N 0 _ (by omega) (by omega) (fun j hj => by omega) hR1 ?_ ?_ ?_ (fr_u (by simp))
  · rw [qt_0] at k9
    exact k9
  · rw [pu_off (by decide)]
    funext j
    rw [up_app]
    by_cases h9 : j = nr
    · subst h9
      rw [if_pos rfl, (hR.2.2.1 j hnr (by omega)).1]; rfl
    · rw [if_neg h9]
  · rw [pu_off (by decide), dgu_0]
  · rw [pu_off (by decide), h25]
