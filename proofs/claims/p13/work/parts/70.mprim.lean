/-! THE REFERENCE'S RUN: ITS PIECES -/
def mpV (V : pvM) (s : Nat) (k v : Int) : pvM := pz_u (pz_u (pz_u V 67 s k) 68 s v) 45 33 ((s + 1 : Nat) : Int)
theorem e_mpush {N s : Nat} {k v : Int} {V : pvM} (hs : V 45 33 = s) (h5 : s < 500) : q_X11_push N k v V = some (0, 0, mpV V s k v) := wz_to (by
  unfold q_X11_push
  refine wp_gR ?_
  rw [hs]
  refine wp_aW (by omega) (wp_gR ?_)
  rw [show ((s : Int)).toNat = s by omega, pu_off (show (45 : Nat) ≠ 67 by decide), hs]
  refine wp_aW (by omega) (wp_gR (wp_lI ?_))
  rw [show ((s : Int)).toNat = s by omega, pu_off (show (45 : Nat) ≠ 68 by decide), pu_off (show (45 : Nat) ≠ 67 by decide), hs]
  refine wp_lw (by omega) (wp_gW (wp_rT ⟨rfl, rfl, ?_⟩))
  unfold mpV
  rw [show (s : Int) + 1 = ((s + 1 : Nat) : Int) by omega])
theorem mpV_67 (V : pvM) (s : Nat) (k v : Int) : mpV V s k v 67 = va_up (V 67) s k := by unfold mpV; rw [pu_off (by decide), pu_off (by decide), pu_row]
theorem mpV_68 (V : pvM) (s : Nat) (k v : Int) : mpV V s k v 68 = va_up (V 68) s v := by unfold mpV; rw [pu_off (by decide), pu_row, pu_off (by decide)]
theorem mpV_45 (V : pvM) (s : Nat) (k v : Int) : mpV V s k v 45 = va_up (V 45) 33 ((s + 1 : Nat) : Int) := by unfold mpV; rw [pu_row, pu_off (by decide), pu_off (by decide)]
theorem mpV_off {V : pvM} {s c : Nat} {k v : Int} (h : c ≠ 67 ∧ c ≠ 68 ∧ c ≠ 45) : mpV V s k v c = V c := by unfold mpV; rw [pu_off h.2.2, pu_off h.2.1, pu_off h.1]
/-! take -/
def mtV (V : pvM) (s n fo : Nat) : pvM := va_up (va_up (pz_u V 45 33 (s : Int)) 74 (fun j => if fo ≤ j ∧ j < fo + n then V 67 (s + (j - fo)) else V 74 j)) 75 (fun j => if fo ≤ j ∧ j < fo + n then V 68 (s + (j - fo)) else V 75 j)
theorem mtV_off {V : pvM} {s n fo c : Nat} (h : c ≠ 74 ∧ c ≠ 75 ∧ c ≠ 45) : mtV V s n fo c = V c := by unfold mtV; rw [up_app, if_neg h.2.1, up_app, if_neg h.1, pu_off h.2.2]
theorem mtV_45 (V : pvM) (s n fo : Nat) : mtV V s n fo 45 = va_up (V 45) 33 (s : Int) := by unfold mtV; rw [up_app, if_neg (by decide), up_app, if_neg (by decide), pu_row]
theorem mtV_74 (V : pvM) (s n fo : Nat) : mtV V s n fo 74 = fun j => if fo ≤ j ∧ j < fo + n then V 67 (s + (j - fo)) else V 74 j := by unfold mtV; rw [up_app, if_neg (by decide), up_app, if_pos rfl]
theorem mtV_75 (V : pvM) (s n fo : Nat) : mtV V s n fo 75 = fun j => if fo ≤ j ∧ j < fo + n then V 68 (s + (j - fo)) else V 75 j := by unfold mtV; rw [up_app, if_pos rfl]
set_option maxHeartbeats 4000000 in
set_option maxRecDepth 100000 in
theorem s_mtake_b12 {N s n fo : Nat} {W : pvM} (hW : W 45 33 = s) (h5 : s + n ≤ 500) (hfo : fo + n ≤ 6) : ∀ (fu m k : Nat) (V : pvM), k + m = n → m + 1 ≤ fu → V = mtV W s k fo → q_X11_take_b12 N fu n fo k V = some (0, 0, mtV W s n fo) := by
  intro fu
  induction fu with
  | zero => intro m k V h1 h2; omega
  | succ fu ih =>
    intro m k V h1 h2 hV
    have e45 : V 45 33 = s := by rw [hV, mtV_45, up_app, if_pos rfl]
    have e67 : V 67 = W 67 := by rw [hV, mtV_off (by decide)]
    have e68 : V 68 = W 68 := by rw [hV, mtV_off (by decide)]
    refine wz_to ?_
    simp only [q_X11_take_b12]
    refine wp_if (fun h9 => ?_) (fun h9 => ?_)
    · have hk : k = n := by omega
      subst hk
      exact wp_rT ⟨rfl, rfl, hV⟩
    · refine wp_lw (by omega) (wp_gR ?_)
      rw [e45]
      refine wp_lw (by omega) (wp_aR (by omega) (wp_aW (by omega) (wp_lw (by omega) (wp_gR ?_))))
      rw [pu_off (show (45 : Nat) ≠ 74 by decide), e45]
      refine wp_lw (by omega) (wp_aR (by omega) (wp_aW (by omega) (wp_lw (by omega) ?_)))
      rw [show ((s : Int) + (k : Int)).toNat = s + k by omega, show ((fo : Int) + (k : Int)).toNat = fo + k by omega, pu_off (show (68 : Nat) ≠ 74 by decide), e67, e68]
      have k9 := ih (m - 1) (k + 1) (pz_u (pz_u V 74 (fo + k) (W 67 (s + k))) 75 (fo + k) (W 68 (s + k))) (by omega) (by omega) (by
        rw [hV]
        unfold mtV
        funext c j
        simp only [pu_app, up_app]
        by_cases h75 : c = 75
        · subst h75
          by_cases hj : j = fo + k
          · simp [hj]
          · have : (fo ≤ j ∧ j < fo + (k + 1)) ↔ (fo ≤ j ∧ j < fo + k) := by omega
            simp [hj, this]
        · by_cases h74 : c = 74
          · subst h74
            by_cases hj : j = fo + k
            · simp [hj]
            · have : (fo ≤ j ∧ j < fo + (k + 1)) ↔ (fo ≤ j ∧ j < fo + k) := by omega
              simp [hj, this]
          · simp [h74, h75])
      rw [show (((k + 1 : Nat)) : Int) = (k : Int) + 1 by omega] at k9
      rw [k9]
      exact ⟨0, _, _, rfl, rfl, rfl, rfl⟩
theorem mtV_0 {V : pvM} {s fo : Nat} : mtV V s 0 fo = pz_u V 45 33 (s : Int) := by
  funext c j
  unfold mtV
  rw [up_app]
  by_cases h75 : c = 75
  · subst h75; rw [if_pos rfl, if_neg (by omega), pu_off (by decide)]
  · rw [if_neg h75, up_app]
    by_cases h74 : c = 74
    · subst h74; rw [if_pos rfl, if_neg (by omega), pu_off (by decide)]
    · rw [if_neg h74]
theorem e_mtake {N s n fo : Nat} {V : pvM} (hN : 50 ≤ N) (hs : V 45 33 = ((s + n : Nat) : Int)) (h5 : s + n ≤ 500) (hfo : fo + n ≤ 6) : q_X11_take N n fo V = some (0, 0, mtV V s n fo) := wz_to (by
  unfold q_X11_take
  refine wp_gR ?_
  rw [hs]
  refine wp_lw (by omega) (wp_gW (wp_lI ?_))
  rw [show (((s + n : Nat)) : Int) - (n : Int) = (s : Int) by omega]
  have k9 := s_mtake_b12 (N := N) (s := s) (n := n) (fo := fo) (W := pz_u V 45 33 (s : Int)) (by rw [pz_u_eq]) h5 hfo N n 0 (pz_u V 45 33 (s : Int)) (by omega) (by omega) (by
    rw [mtV_0]
    funext c j
    simp only [pu_app]
    split <;> rfl)
  refine ⟨0, 0, _, k9, rfl, rfl, ?_⟩
  unfold mtV
  funext c j
  rw [pu_off (show (67 : Nat) ≠ 45 by decide), pu_off (show (68 : Nat) ≠ 45 by decide), pu_off (show (74 : Nat) ≠ 45 by decide), pu_off (show (75 : Nat) ≠ 45 by decide)]
  simp only [up_app]
  by_cases h75 : c = 75
  · simp [h75]
  · by_cases h74 : c = 74
    · simp [h74]
    · simp [h74, h75]
      simp only [pu_app]
      split <;> rfl)
/-! begin -/
def mbV (V : pvM) (D n : Nat) (f : Int) : pvM := va_up (va_up (pz_u (pz_u (pz_u (pz_u V 45 36 ((D + 1 : Nat) : Int)) 69 (D + 1) f) 70 (D + 1) 0) 71 (D + 1) (V 45 33)) 72 (fun j => if 8 * (D + 1) ≤ j ∧ j < 8 * (D + 1) + 8 then (if j - 8 * (D + 1) < n then V 74 (j - 8 * (D + 1)) else 1) else V 72 j)) 73 (fun j => if 8 * (D + 1) ≤ j ∧ j < 8 * (D + 1) + 8 then (if j - 8 * (D + 1) < n then V 75 (j - 8 * (D + 1)) else 0) else V 73 j)
theorem mbV_off {V : pvM} {D n c : Nat} {f : Int} (h : c ≠ 45 ∧ c ≠ 69 ∧ c ≠ 70 ∧ c ≠ 71 ∧ c ≠ 72 ∧ c ≠ 73) : mbV V D n f c = V c := by
  unfold mbV; rw [up_app, if_neg h.2.2.2.2.2, up_app, if_neg h.2.2.2.2.1, pu_off h.2.2.2.1, pu_off h.2.2.1, pu_off h.2.1, pu_off h.1]
theorem mbV_45 (V : pvM) (D n : Nat) (f : Int) : mbV V D n f 45 = va_up (V 45) 36 ((D + 1 : Nat) : Int) := by
  unfold mbV; rw [up_app, if_neg (by decide), up_app, if_neg (by decide), pu_off (by decide), pu_off (by decide), pu_off (by decide), pu_row]
theorem mbV_69 (V : pvM) (D n : Nat) (f : Int) : mbV V D n f 69 = va_up (V 69) (D + 1) f := by
  unfold mbV; rw [up_app, if_neg (by decide), up_app, if_neg (by decide), pu_off (by decide), pu_off (by decide), pu_row, pu_off (by decide)]
theorem mbV_70 (V : pvM) (D n : Nat) (f : Int) : mbV V D n f 70 = va_up (V 70) (D + 1) 0 := by
  unfold mbV; rw [up_app, if_neg (by decide), up_app, if_neg (by decide), pu_off (by decide), pu_row, pu_off (by decide), pu_off (by decide)]
theorem mbV_71 (V : pvM) (D n : Nat) (f : Int) : mbV V D n f 71 = va_up (V 71) (D + 1) (V 45 33) := by
  unfold mbV; rw [up_app, if_neg (by decide), up_app, if_neg (by decide), pu_row, pu_off (by decide), pu_off (by decide), pu_off (by decide)]
theorem mbV_72 (V : pvM) (D n : Nat) (f : Int) : mbV V D n f 72 = fun j => if 8 * (D + 1) ≤ j ∧ j < 8 * (D + 1) + 8 then (if j - 8 * (D + 1) < n then V 74 (j - 8 * (D + 1)) else 1) else V 72 j := by
  unfold mbV; rw [up_app, if_neg (by decide), up_app, if_pos rfl]
theorem mbV_73 (V : pvM) (D n : Nat) (f : Int) : mbV V D n f 73 = fun j => if 8 * (D + 1) ≤ j ∧ j < 8 * (D + 1) + 8 then (if j - 8 * (D + 1) < n then V 75 (j - 8 * (D + 1)) else 0) else V 73 j := by
  unfold mbV; rw [up_app, if_pos rfl]
set_option maxHeartbeats 4000000 in
set_option maxRecDepth 100000 in
theorem s_mbegin_b60 {N D n : Nat} {W : pvM} (hD : D < 30) (hn : n ≤ 3) (hW : W 45 36 = ((D + 1 : Nat) : Int)) : ∀ (fu m k : Nat) (V : pvM), k + m = 8 → m + 1 ≤ fu → V = va_up (va_up W 72 (fun j => if 8 * (D + 1) ≤ j ∧ j < 8 * (D + 1) + k then (if j - 8 * (D + 1) < n then W 74 (j - 8 * (D + 1)) else 1) else W 72 j)) 73 (fun j => if 8 * (D + 1) ≤ j ∧ j < 8 * (D + 1) + k then (if j - 8 * (D + 1) < n then W 75 (j - 8 * (D + 1)) else 0) else W 73 j) → q_X11_begin_b60 N fu n k V = some (0, 0, va_up (va_up W 72 (fun j => if 8 * (D + 1) ≤ j ∧ j < 8 * (D + 1) + 8 then (if j - 8 * (D + 1) < n then W 74 (j - 8 * (D + 1)) else 1) else W 72 j)) 73 (fun j => if 8 * (D + 1) ≤ j ∧ j < 8 * (D + 1) + 8 then (if j - 8 * (D + 1) < n then W 75 (j - 8 * (D + 1)) else 0) else W 73 j)) := by
  intro fu
  induction fu with
  | zero => intro m k V h1 h2; omega
  | succ fu ih =>
    intro m k V h1 h2 hV
    have hoff : ∀ c, c ≠ 72 → c ≠ 73 → V c = W c := fun c a1 a2 => by rw [hV, up_app, if_neg a2, up_app, if_neg a1]
    refine wz_to ?_
    simp only [q_X11_begin_b60]
    refine wp_lI ?_
    refine wp_if (fun h9 => ?_) (fun h9 => ?_)
    · have hk : k = 8 := by omega
      subst hk
      exact wp_rT ⟨rfl, rfl, hV⟩
    · refine wp_lI (wp_gR ?_)
      rw [hoff 45 (by decide) (by decide), hW]
      refine wp_lw (by omega) (wp_lw (by omega) ?_)
      have k94 : ∀ v : Int, v = (if k < n then W 74 k else 1) → wz (q_X11_begin_b94 N (q_X11_begin_b60 N fu) n k v (8 * (((D + 1 : Nat)) : Int) + k) V) (fun r' V' => r' = 0 ∧ V' = va_up (va_up W 72 (fun j => if 8 * (D + 1) ≤ j ∧ j < 8 * (D + 1) + 8 then (if j - 8 * (D + 1) < n then W 74 (j - 8 * (D + 1)) else 1) else W 72 j)) 73 (fun j => if 8 * (D + 1) ≤ j ∧ j < 8 * (D + 1) + 8 then (if j - 8 * (D + 1) < n then W 75 (j - 8 * (D + 1)) else 0) else W 73 j)) := by
        intro v hv
        unfold q_X11_begin_b94
        refine wp_aW (by omega) (wp_lI (wp_gR ?_))
        rw [show (8 * (((D + 1 : Nat)) : Int) + (k : Int)).toNat = 8 * (D + 1) + k by omega, pu_off (show (45 : Nat) ≠ 72 by decide), hoff 45 (by decide) (by decide), hW]
        refine wp_lw (by omega) (wp_lw (by omega) ?_)
        have k123 : ∀ u : Int, u = (if k < n then W 75 k else 0) → wz (q_X11_begin_b123 N (q_X11_begin_b60 N fu) n k u (8 * (((D + 1 : Nat)) : Int) + k) (pz_u V 72 (8 * (D + 1) + k) v)) (fun r' V' => r' = 0 ∧ V' = va_up (va_up W 72 (fun j => if 8 * (D + 1) ≤ j ∧ j < 8 * (D + 1) + 8 then (if j - 8 * (D + 1) < n then W 74 (j - 8 * (D + 1)) else 1) else W 72 j)) 73 (fun j => if 8 * (D + 1) ≤ j ∧ j < 8 * (D + 1) + 8 then (if j - 8 * (D + 1) < n then W 75 (j - 8 * (D + 1)) else 0) else W 73 j)) := by
          intro u hu
          unfold q_X11_begin_b123
          refine wp_aW (by omega) (wp_lw (by omega) ?_)
          rw [show (8 * (((D + 1 : Nat)) : Int) + (k : Int)).toNat = 8 * (D + 1) + k by omega]
          have k9 := ih (m - 1) (k + 1) (pz_u (pz_u V 72 (8 * (D + 1) + k) v) 73 (8 * (D + 1) + k) u) (by omega) (by omega) (by
            rw [hV, hv, hu]
            funext c j
            simp only [pu_app, up_app]
            by_cases h75 : c = 73
            · subst h75
              by_cases hj : j = 8 * (D + 1) + k
              · simp [hj]
              · have : (8 * (D + 1) ≤ j ∧ j < 8 * (D + 1) + (k + 1)) ↔ (8 * (D + 1) ≤ j ∧ j < 8 * (D + 1) + k) := by omega
                simp [hj, this]
            · by_cases h74 : c = 72
              · subst h74
                by_cases hj : j = 8 * (D + 1) + k
                · simp [hj]
                · have : (8 * (D + 1) ≤ j ∧ j < 8 * (D + 1) + (k + 1)) ↔ (8 * (D + 1) ≤ j ∧ j < 8 * (D + 1) + k) := by omega
                  simp [hj, this]
              · simp [h74, h75])
          rw [show (((k + 1 : Nat)) : Int) = (k : Int) + 1 by omega] at k9
          exact ⟨0, 0, _, k9, rfl, rfl, rfl⟩
        refine wp_if (fun h3 => wp_lI (k123 0 (by rw [if_neg (by omega)]))) (fun h3 => ?_)
        refine wp_aR (by omega) (k123 _ ?_)
        rw [if_pos (by omega), show ((k : Int)).toNat = k by omega, pu_off (by decide), hoff 75 (by decide) (by decide)]
      refine wp_if (fun h3 => wp_lI (k94 1 (by rw [if_neg (by omega)]))) (fun h3 => ?_)
      refine wp_aR (by omega) (k94 _ ?_)
      rw [if_pos (by omega), show ((k : Int)).toNat = k by omega, hoff 74 (by decide) (by decide)]
set_option maxHeartbeats 4000000 in
set_option maxRecDepth 100000 in
theorem e_mbegin {N D n : Nat} {f : Int} {V : pvM} (hN : 50 ≤ N) (hD : V 45 36 = D) (hn : n ≤ 3) : (D < 30 → q_X11_begin N f n V = some (0, 0, mbV V D n f)) ∧ (D = 30 → q_X11_begin N f n V = some (0, 0, pz_u V 45 28 3)) := by
  refine ⟨fun h30 => wz_to ?_, fun h30 => wz_to ?_⟩
  · unfold q_X11_begin
    refine wp_gR (wp_lI ?_)
    rw [hD, if_pos (by omega)]
    refine wp_gR (wp_lI ?_)
    rw [hD]
    refine wp_lw (by omega) (wp_gW (wp_gR ?_))
    rw [pz_u_eq, show (D : Int) + 1 = ((D + 1 : Nat) : Int) by omega]
    refine wp_aW (by omega) (wp_gR (wp_lI ?_))
    rw [show (((D + 1 : Nat)) : Int).toNat = D + 1 by omega, pu_off (show (45 : Nat) ≠ 69 by decide), pz_u_eq]
    refine wp_aW (by omega) (wp_gR (wp_gR ?_))
    rw [show (((D + 1 : Nat)) : Int).toNat = D + 1 by omega, pu_off (show (45 : Nat) ≠ 70 by decide), pu_off (show (45 : Nat) ≠ 69 by decide), pz_u_eq, show pz_u V 45 36 ((D + 1 : Nat) : Int) 45 33 = V 45 33 by rw [pu_app, if_neg (by decide)]]
    refine wp_aW (by omega) (wp_lI ?_)
    rw [show (((D + 1 : Nat)) : Int).toNat = D + 1 by omega]
    have k9 := s_mbegin_b60 (N := N) (D := D) (n := n) (W := pz_u (pz_u (pz_u (pz_u V 45 36 ((D + 1 : Nat) : Int)) 69 (D + 1) f) 70 (D + 1) 0) 71 (D + 1) (V 45 33)) h30 hn (by rw [pu_off (by decide), pu_off (by decide), pu_off (by decide), pz_u_eq]) N 8 0 _ (by omega) (by omega) (show pz_u (pz_u (pz_u (pz_u V 45 36 ((D + 1 : Nat) : Int)) 69 (D + 1) f) 70 (D + 1) 0) 71 (D + 1) (V 45 33) = _ by
      funext c j
      simp only [up_app]
      by_cases h75 : c = 73
      · subst h75; rw [if_pos rfl, if_neg (by omega)]
      · rw [if_neg h75]
        by_cases h74 : c = 72
        · subst h74; rw [if_pos rfl, if_neg (by omega)]
        · rw [if_neg h74])
    refine ⟨0, 0, _, k9, rfl, rfl, ?_⟩
    unfold mbV
    rw [pu_off (show (72 : Nat) ≠ 71 by decide), pu_off (show (72 : Nat) ≠ 70 by decide), pu_off (show (72 : Nat) ≠ 69 by decide), pu_off (show (72 : Nat) ≠ 45 by decide), pu_off (show (73 : Nat) ≠ 71 by decide), pu_off (show (73 : Nat) ≠ 70 by decide), pu_off (show (73 : Nat) ≠ 69 by decide), pu_off (show (73 : Nat) ≠ 45 by decide), pu_off (show (74 : Nat) ≠ 71 by decide), pu_off (show (74 : Nat) ≠ 70 by decide), pu_off (show (74 : Nat) ≠ 69 by decide), pu_off (show (74 : Nat) ≠ 45 by decide), pu_off (show (75 : Nat) ≠ 71 by decide), pu_off (show (75 : Nat) ≠ 70 by decide), pu_off (show (75 : Nat) ≠ 69 by decide), pu_off (show (75 : Nat) ≠ 45 by decide)]
  · unfold q_X11_begin
    refine wp_gR (wp_lI ?_)
    rw [hD, if_neg (by omega)]
    exact wp_lI (wp_gW (wp_rT ⟨rfl, rfl, rfl⟩))
/-! write -/
/-- n characters more in the piece -/
def WR (V : pvM) (n : Nat) (V' : pvM) : Prop := fr [45, 82] V V' ∧ f45 [52] V V' ∧ V' 45 52 = V 45 52 + n
theorem WR.trans {V V' V'' : pvM} {n m : Nat} (h : WR V n V') (h' : WR V' m V'') : WR V (n + m) V'' := by
  refine ⟨h.1.trans h'.1, h.2.1.trans h'.2.1, ?_⟩
  rw [h'.2.2, h.2.2]; omega
theorem WR.refl (V : pvM) : WR V 0 V := ⟨fr.refl _ _, f45.refl _ _, by omega⟩
theorem s_mletter {N : Nat} {c : Int} {V : pvM} (h : 0 ≤ V 45 52 ∧ V 45 52 < 100000) : wz (q_X11_letter N c V) (fun _ V' => WR V 1 V') := by
  have k20 : ∀ W : pvM, fr [82] V W → wz (q_X11_letter_b20 N W) (fun _ V' => WR V 1 V') := by
    intro W hW
    unfold q_X11_letter_b20
    refine wp_gR (wp_lI ?_)
    rw [hW 45 (by decide)]
    refine wp_lw (by omega) (wp_gW (wp_rT ⟨rfl, ?_, ?_, ?_⟩))
    · exact (hW.mono (by decide)).trans (fr_u (by simp))
    · exact (f45.of_fr hW (by decide)).trans (f45_u (by simp))
    · rw [pz_u_eq]; rfl
  unfold q_X11_letter
  refine wp_gR (wp_lI ?_)
  refine wp_if (fun _ => k20 V (fr.refl _ _)) (fun h9 => ?_)
  refine wp_gR (wp_aW (by omega) ?_)
  exact k20 _ (fr_u (by simp))
theorem pv_div_n {m n : Nat} (hm : m < 9223372036854775808) (hn : n < 9223372036854775808) : pv_div (m : Int) (n : Int) = ((m / n : Nat) : Int) := by
  unfold pv_div
  rw [Int64.toInt_div, pv_of64 (by unfold I64; omega), pv_of64 (by unfold I64; omega), ← Int.ofNat_tdiv]
  have h9 : m / n ≤ m := Nat.div_le_self m n
  obtain ⟨q, hq⟩ : ∃ q, q = m / n := ⟨_, rfl⟩
  rw [← hq] at h9 ⊢
  exact Int.bmod_eq_of_le (by omega) (by omega)
theorem t10 (k : Nat) : 0 < 10 ^ k := Nat.lt_of_lt_of_le Nat.zero_lt_one (Nat.pow_le_pow_right (n := 10) (by decide) (Nat.zero_le k))
set_option maxHeartbeats 4000000 in
set_option maxRecDepth 100000 in
theorem s_mw100 {N : Nat} {r : Int} : ∀ (fu k : Nat) (V : pvM), k ≤ 10 → k + 1 ≤ fu → (0 ≤ V 45 52 ∧ V 45 52 + k < 100000) → wz (q_X11_write_b100 N fu r ((10 ^ k / 10 : Nat) : Int) V) (fun _ V' => WR V k V') := by
  intro fu
  induction fu with
  | zero => intro k V h1 h2; omega
  | succ fu ih =>
    intro k V h1 h2 h3
    simp only [q_X11_write_b100]
    refine wp_lI (wp_lI ?_)
    cases k with
    | zero =>
      rw [if_pos (by decide)]
      exact wp_rT ⟨rfl, WR.refl V⟩
    | succ k =>
      have hp : 10 ^ (k + 1) / 10 = 10 ^ k := by rw [Nat.pow_succ]; exact Nat.mul_div_cancel _ (by decide)
      have hpos : 0 < 10 ^ k := t10 k
      have hb := p10 (k := k) (by omega)
      rw [hp, if_neg (fun h9 => by rw [cmple] at h9; omega)]
      refine wp_lI (wp_nZ (by omega) (wp_lI (wp_lI (wp_nZ (by decide) (wp_lI (wp_lI (wp_lI ?_)))))))
      refine wp_cL (s_mletter (by omega)) (fun _ V1 hV1 => ?_)
      refine wp_lI (wp_nZ (by decide) (wp_lI ?_))
      have hdv := pv_div_n (m := 10 ^ k) (n := 10) (by omega) (by omega)
      rw [show (((10 : Nat)) : Int) = 10 from rfl] at hdv
      rw [hdv]
      have k9 := ih k V1 (by omega) (by omega) (by rw [hV1.2.2]; omega)
      refine wp_mono k9 (fun _ _ V9 h9 => ⟨h9.1, ?_⟩)
      have := hV1.trans h9.2
      rw [show 1 + k = k + 1 by omega] at this
      exact this
set_option maxHeartbeats 4000000 in
set_option maxRecDepth 100000 in
theorem s_mw78 {N m : Nat} {V : pvM} (hN : 50 ≤ N) (hm : m ≤ 2147483648) (h3 : 0 ≤ V 45 52 ∧ V 45 52 + 20 < 100000) : ∀ (fu g k : Nat), k + g = 9 → g + 1 ≤ fu → wz (q_X11_write_b78 N fu m ((10 ^ k : Nat) : Int) V) (fun _ V' => WR V (ndr m g (k + 1)) V') := by
  intro fu
  induction fu with
  | zero => intro g k h1 h2; omega
  | succ fu ih =>
    intro g k h1 h2
    have hpos : 0 < 10 ^ k := t10 k
    have hb := p10 (k := k) (by omega)
    have hps : 10 ^ (k + 1) = 10 ^ k * 10 := Nat.pow_succ 10 k
    have fin : wz (q_X11_write_b100 N N m ((10 ^ k : Nat) : Int) V) (fun _ V' => WR V (k + 1) V') := by
      have k9 := s_mw100 (N := N) (r := (m : Int)) N (k + 1) V (by omega) (by omega) (by omega)
      rw [hps, Nat.mul_div_cancel _ (by decide)] at k9
      exact k9
    simp only [q_X11_write_b78]
    refine wp_nZ (by omega) (wp_lI (wp_lI (wp_lI ?_)))
    rw [pv_div_n (by omega) (by omega)]
    have hlt : (m / 10 ^ k ≤ 9) ↔ m < 10 ^ (k + 1) := by
      rw [hps, show (m / 10 ^ k ≤ 9) ↔ m / 10 ^ k < 10 by omega, Nat.div_lt_iff_lt_mul hpos, Nat.mul_comm]
    refine wp_if (fun h9 => ?_) (fun h9 => ?_)
    all_goals rw [cmple] at h9
    · have h8 := hlt.mp (by omega)
      cases g with
      | zero => simp only [ndr]; exact fin
      | succ g => simp only [ndr]; rw [if_pos h8]; exact fin
    · have h8 : ¬ m < 10 ^ (k + 1) := fun h => h9 (by have := hlt.mpr h; omega)
      cases g with
      | zero =>
        have hk9 : k = 9 := by omega
        subst hk9
        omega
      | succ g =>
        simp only [ndr]; rw [if_neg h8]
        refine wp_lI (wp_lI ?_)
        have hp := p10 (k := k + 1) (by omega)
        rw [pv_wl_id (by unfold I64; omega), show (((10 ^ k : Nat)) : Int) * 10 = ((10 ^ (k + 1) : Nat) : Int) by omega]
        exact ih g (k + 1) (by omega) (by omega)
theorem s_mwnum {N : Nat} {c : Int} {V : pvM} (hN : 50 ≤ N) (hc : I32 c) (h3 : 0 ≤ V 45 52 ∧ V 45 52 + 20 < 100000) : wz (q_X11_write_b62 N c V) (fun _ V' => WR V (ndg c.natAbs) V') := by
  have hc' := hc
  unfold I32 at hc'
  have k9 := s_mw78 (N := N) (m := c.natAbs) (V := V) hN (by omega) h3 N 9 0 (by omega) (by omega)
  unfold q_X11_write_b62
  refine wp_if (fun h => ?_) (fun h => ?_)
  · refine wp_lI ?_
    unfold q_X11_write_b74
    refine wp_lI ?_
    rw [show (c.natAbs : Int) = c by omega] at k9
    exact k9
  · refine wp_lI (wp_lI ?_)
    rw [pv_neg_id hc]
    unfold q_X11_write_b74
    refine wp_lI ?_
    rw [show (c.natAbs : Int) = -c by omega] at k9
    exact k9
set_option maxHeartbeats 4000000 in
set_option maxRecDepth 100000 in
theorem s_mw19 {N t n : Nat} (ht : t < 400) : ∀ (fu m k : Nat) (V : pvM), k + m = n → m + 1 ≤ fu → n ≤ 200 → V 76 t = n → (0 ≤ V 45 52 ∧ V 45 52 + m < 100000) → wz (q_X11_write_b19 N fu t k V) (fun _ V' => WR V m V') := by
  intro fu
  induction fu with
  | zero => intro m k V h1 h2; omega
  | succ fu ih =>
    intro m k V h1 h2 hn h76 h3
    simp only [q_X11_write_b19]
    refine wp_aR (by omega) ?_
    rw [show ((t : Int)).toNat = t by omega, h76]
    refine wp_if (fun h9 => ?_) (fun h9 => ?_)
    · have hm : m = 0 := by omega
      subst hm
      exact wp_rT ⟨rfl, WR.refl V⟩
    · refine wp_lI (wp_lw (by omega) (wp_lw (by omega) (wp_aR (by omega) ?_)))
      refine wp_cL (s_mletter (by omega)) (fun _ V1 hV1 => ?_)
      refine wp_lw (by omega) ?_
      obtain ⟨m', rfl⟩ : ∃ m', m = m' + 1 := ⟨m - 1, by omega⟩
      have k9 := ih m' (k + 1) V1 (by omega) (by omega) hn (by rw [hV1.1 76 (by decide)]; exact h76) (by rw [hV1.2.2]; omega)
      refine wp_mono k9 (fun _ _ V9 h9 => ⟨h9.1, ?_⟩)
      have := hV1.trans h9.2
      rw [show 1 + m' = m' + 1 by omega] at this
      exact this
/-- a value is written: as long as the class spells it -/
theorem s_mwrite {N : Nat} {T H v : Int} {V W : pvM} (hN : 300 ≤ N) (hv : vok T H v) (hT : T ≤ 400) (hH : H ≤ 400) (h76 : ∀ t : Nat, (t : Int) < T → V 76 t = W 41 t ∧ 0 ≤ W 41 t ∧ W 41 t ≤ 200) (h3 : 0 ≤ V 45 52 ∧ V 45 52 + 250 < 100000) : wz (q_X11_write N (kd v) (ct v) V) (fun _ V' => WR V (spL W v) V') := by
  unfold q_X11_write spL
  refine wp_lI ?_
  rcases vok_cases hv (by omega) (by omega) with h | h | h
  · rw [if_pos (by omega), if_pos h.1]
    refine wp_lI ?_
    rw [if_pos (by omega)]
    unfold nl
    refine wp_if (fun h0 => ?_) (fun h0 => ?_)
    · rw [if_neg (by omega)]
      exact s_mwnum (by omega) h.2.1 (by omega)
    · rw [if_pos (by omega)]
      refine wp_lI ?_
      refine wp_cL (s_mletter (by omega)) (fun _ V1 hV1 => ?_)
      refine wp_mono (s_mwnum (by omega) h.2.1 (by rw [hV1.2.2]; omega)) (fun _ _ V9 h9 => ⟨h9.1, ?_⟩)
      have := hV1.trans h9.2
      rw [Nat.add_comm] at this
      exact this
  · rw [if_pos (show kd v ≠ 3 by omega), if_neg (show ¬ kd v = 1 by omega), if_pos h.1]
    refine wp_lI ?_
    rw [if_neg (show ¬ kd v ≠ 2 by omega)]
    refine wp_lI ?_
    obtain ⟨t, ht⟩ : ∃ t : Nat, ct v = t := ⟨(ct v).toNat, by omega⟩
    have h8 := h76 t (by omega)
    rw [ht, show ((t : Int)).toNat = t by omega]
    exact s_mw19 (N := N) (t := t) (n := (W 41 t).toNat) (by omega) N (W 41 t).toNat 0 V (by omega) (by omega) (by omega) (by rw [h8.1]; omega) (by omega)
  · rw [if_neg (show ¬ kd v ≠ 3 by omega), if_neg (show ¬ kd v = 1 by omega), if_neg (show ¬ kd v = 2 by omega)]
    refine wp_lI ?_
    exact wp_cL (s_mletter (by omega)) (fun _ V1 hV1 => wp_rT ⟨rfl, hV1⟩)
