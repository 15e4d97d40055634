/-! wrongOnWays, wrongPlace, check -/
theorem bd_fr {cs : List Nat} {V V' : pvM} (hf : fr cs V V') (hd : ∀ c, c ∈ prog → c ∉ cs) (f k : Nat) : bd V' f k = bd V f k ∧ cW V' f = cW V f ∧ cA V' f = cA V f ∧ cB V' f = cB V f ∧ cQ V' f = cQ V f ∧ cP V' f = cP V f := by
  have e1 := hf 1 (hd 1 (by decide))
  have e2 := hf 2 (hd 2 (by decide))
  have e4 := hf 4 (hd 4 (by decide))
  have e8 := hf 8 (hd 8 (by decide))
  have e9 := hf 9 (hd 9 (by decide))
  have e10 := hf 10 (hd 10 (by decide))
  have e11 := hf 11 (hd 11 (by decide))
  have e12 := hf 12 (hd 12 (by decide))
  refine ⟨?_, ?_, ?_, ?_, ?_, ?_⟩
  · unfold bd bdw cW cA cB; rw [e1, e2, e8, e9, e10, e11, e12]
  · funext j; unfold cW; rw [e10]
  · funext j; unfold cA; rw [e11]
  · funext j; unfold cB; rw [e12]
  · funext j; unfold cQ po cW cA cB; rw [e4, e8, e10, e11, e12]
  · funext j; unfold cP cW; rw [e10]
theorem pd14 : ∀ c, c ∈ prog → c ∉ [14] := by decide
theorem pd1415 : ∀ c, c ∈ prog → c ∉ [14, 15] := by decide
set_option maxHeartbeats 4000000 in
set_option maxRecDepth 100000 in
theorem s_ways_b36 {N n f : Nat} {V0 : pvM} (hN : 50 ≤ N) (hP : PI V0) (hf : f < 12) (hn : n ≤ 40) (hlen : V0 9 f = n) (hb : ∀ k, k < n → bd V0 f k) : ∀ (fu t : Nat) (V : pvM) (h g : Nat → Int) (hi : Int), t ≤ n → n + 1 ≤ fu + t → fr [14, 15] V0 V → agn n (V 14) h → agn n (V 15) g → (∀ j, j < n → -1 ≤ h j ∧ h j ≤ 12) →
    wz (q_X9_wrongOnWays_b36 N fu f n t V) (fun r V' => fr [14, 15] V0 V' ∧ r = (wk (cW V0 f) (cA V0 f) (cQ V0 f) (cP V0 f) n (n - t) h g hi).1 ∧ (r = -1 → agn n (V' 14) (wk (cW V0 f) (cA V0 f) (cQ V0 f) (cP V0 f) n (n - t) h g hi).2.1)) := by
  intro fu
  induction fu with
  | zero => intro t V h g hi h1 h2; omega
  | succ fu ih =>
    intro t V h g hi h1 h2 hfr h14 h15 hb12
    simp only [q_X9_wrongOnWays_b36]
    refine wp_if (fun ht => ?_) (fun ht => ?_)
    · have : t = n := by omega
      subst this
      rw [Nat.sub_self]
      exact wp_lI (wp_rT ⟨rfl, hfr, rfl, fun _ => h14⟩)
    · obtain ⟨m, hm⟩ : ∃ m, n - t = m + 1 := ⟨n - t - 1, by omega⟩
      rw [hm]
      refine wp_cL (s_least hN hn h14 h15) (fun r V1 hV1 => ?_)
      obtain ⟨rfl, hr⟩ := hV1
      refine wp_lI ?_
      cases hl : lfind (wt h g) n 0 with
      | none =>
        rw [hl] at hr
        have hr : r = -1 := hr
        subst hr
        rw [if_neg (by decide)]
        refine wp_lI (wp_rT ⟨rfl, hfr, ?_, fun _ => ?_⟩)
        · simp only [wk]; rw [hl]
        · simp only [wk]; rw [hl]; exact h14
      | some k =>
        rw [hl] at hr
        have hr : r = (k : Int) := hr
        subst hr
        obtain ⟨k1, k2, k3⟩ := lfind_some hl
        have hkn : k < n := by omega
        rw [if_pos (by omega)]
        refine wp_lI (wp_bT (Or.inr rfl) (wp_aW (by omega) ?_))
        rw [show ((k : Int)).toNat = k by omega]
        have hf2 : fr [14, 15] V0 (pz_u V1 15 k 1) := hfr.trans (fr_u (by simp))
        have hP2 : PI (pz_u V1 15 k 1) := hP.fr hf2 pd1415
        have e9 := bd_fr hf2 pd1415 f k
        have hl9 : pz_u V1 15 k 1 9 f = n := by rw [hf2 9 (by decide)]; exact hlen
        refine wp_cL (s_goesOn hP2 hf hn hl9 hkn (by rw [e9.1]; exact hb k hkn) (hb12 k hkn) (h := h) (by rw [pu_off (by decide)]; exact h14)) (fun r V2 hV2 => ?_)
        rw [e9.2.1, e9.2.2.1, e9.2.2.2.2.1, e9.2.2.2.2.2] at hV2
        obtain ⟨g1, g2⟩ := hV2
        have hfr2 : fr [14, 15] V0 V2 := hf2.trans (g1.mono (fun c hc => by simp at hc ⊢; omega))
        simp only [wk]
        rw [hl]
        dsimp only
        rcases g2 with ⟨rfl, h', g2, g3⟩ | ⟨rfl, g2⟩
        · rw [if_pos (by decide), g2]
          refine wp_lw (by omega) ?_
          have hkm : h k ≠ -1 ∧ g k = 0 := by simpa [wt] using k3
          have hbk := hb12 k hkn
          have hpn : ∀ j, 0 ≤ cP V0 f j := fun j => pu_nn _
          obtain ⟨s1, s2, s3, s4⟩ := stp_ok hpn (by omega) g2
          have hpk := hpn k
          have k9 := ih (t + 1) V2 h' (va_up g k 1) (imax hi (h k - cQ V0 f k + cP V0 f k)) (by omega) (by omega) hfr2 g3 ?_ ?_
          · rw [show n - (t + 1) = m by omega] at k9
            exact k9
          · rw [g1 15 (by decide), pu_row]
            exact h15.up k 1
          · intro j hj
            rcases s3 j with h9 | h9
            · rw [h9]; exact hb12 j hj
            · rw [h9]; omega
        · rw [if_neg (by decide), g2]
          exact wp_rT ⟨rfl, hfr2, rfl, fun h9 => by omega⟩
set_option maxHeartbeats 4000000 in
set_option maxRecDepth 100000 in
theorem s_ways_b2 {N n f : Nat} {V0 : pvM} (hN : 50 ≤ N) (hP : PI V0) (hf : f < 12) (hn : 0 < n ∧ n ≤ 40) (hlen : V0 9 f = n) (hb : ∀ k, k < n → bd V0 f k) : ∀ (fu t : Nat) (V : pvM), t ≤ n → n + 1 ≤ fu + t → fr [14, 15] V0 V → agn t (V 14) (fun _ => -1) → agn t (V 15) g0f →
    wz (q_X9_wrongOnWays_b2 N fu f n t V) (fun r V' => fr [14, 15] V0 V' ∧ r = (wkS (cW V0 f) (cA V0 f) (cQ V0 f) (cP V0 f) n).1 ∧ (r = -1 → agn n (V' 14) (wkS (cW V0 f) (cA V0 f) (cQ V0 f) (cP V0 f) n).2.1)) := by
  intro fu
  induction fu with
  | zero => intro t V h1 h2; omega
  | succ fu ih =>
    intro t V h1 h2 hfr h14 h15
    simp only [q_X9_wrongOnWays_b2]
    refine wp_if (fun ht => ?_) (fun ht => ?_)
    · have : t = n := by omega
      subst this
      refine wp_lI (wp_lI (wp_aW (by omega) (wp_lI ?_)))
      have k9 := s_ways_b36 hN hP hf hn.2 hlen hb N 0 (pz_u V 14 (0 : Int).toNat 0) h0f g0f 0 (by omega) (by omega) (hfr.trans (fr_u (by simp))) ?_ ?_ ?_
      · exact k9
      · intro j hj
        rw [pu_row, show (0 : Int).toNat = 0 from rfl, up_app]
        unfold h0f
        by_cases h0 : j = 0
        · subst h0; rw [if_pos rfl, if_pos rfl]
        · rw [if_neg h0, if_neg h0]; exact h14 j hj
      · rw [pu_off (by decide)]; exact h15
      · intro j hj
        unfold h0f
        split <;> omega
    · refine wp_lI (wp_aW (by omega) (wp_lI (wp_bT (Or.inl rfl) (wp_aW (by omega) (wp_lw (by omega) ?_)))))
      refine ih (t + 1) _ (by omega) (by omega) (hfr.trans ((fr_u (by simp)).trans (fr_u (by simp)))) ?_ ?_
      · intro j hj
        rw [pu_off (by decide), pu_row, up_app]
        split
        · rfl
        · exact h14 j (by omega)
      · intro j hj
        rw [pu_row, pu_off (by decide), up_app]
        split
        · rfl
        · exact h15 j (by omega)
/-- the wrong place of a function, by the document: the first whose numbers are out of bounds, else what the ways say -/
def wrS (V : pvM) (f : Nat) (r : Int) : Prop := (V 9 f = 0 ∧ r = 0) ∨ (V 9 f ≠ 0 ∧ ∃ k : Nat, (k : Int) < V 9 f ∧ ¬ bd V f k ∧ (∀ j, j < k → bd V f j) ∧ r = k) ∨ (V 9 f ≠ 0 ∧ (∀ k : Nat, (k : Int) < V 9 f → bd V f k) ∧ r = (wkS (cW V f) (cA V f) (cQ V f) (cP V f) (V 9 f).toNat).1)
set_option maxHeartbeats 4000000 in
set_option maxRecDepth 100000 in
theorem s_wrong_b17 {N n f : Nat} {V : pvM} (hN : 50 ≤ N) (hP : PI V) (hf : f < 12) (hn : 0 < n ∧ n ≤ 40) (hlen : V 9 f = n) : ∀ (fu t : Nat), t ≤ n → n + 1 ≤ fu + t → (∀ j, j < t → bd V f j) →
    wz (q_X9_wrongPlace_b17 N fu f n t V) (fun r V' => fr [14, 15] V V' ∧ wrS V f r ∧ (r = -1 → agn n (V' 14) (wkS (cW V f) (cA V f) (cQ V f) (cP V f) n).2.1)) := by
  intro fu
  induction fu with
  | zero => intro t h1 h2; omega
  | succ fu ih =>
    intro t h1 h2 hb
    simp only [q_X9_wrongPlace_b17]
    refine wp_if (fun ht => ?_) (fun ht => ?_)
    · have : t = n := by omega
      subst this
      unfold q_X9_wrongOnWays
      have hs := s_ways_b2 hN hP hf hn hlen hb N 0 V (by omega) (by omega) (fr.refl _ _) (fun j hj => by omega) (fun j hj => by omega)
      refine wp_cL (R := _) (wp_lI hs) (fun r V' h => ?_)
      refine wp_rT ⟨rfl, h.1, Or.inr (Or.inr ⟨by omega, fun k hk => hb k (by omega), ?_⟩), h.2.2⟩
      rw [show (V 9 f).toNat = t by omega]
      exact h.2.1
    · refine wp_cL (s_bounds hP hf (by omega)) (fun r V' h => ?_)
      obtain ⟨rfl, h⟩ := h
      rcases h with ⟨rfl, h⟩ | ⟨rfl, h⟩
      · rw [if_pos (by decide)]
        refine wp_lw (by omega) ?_
        refine ih (t + 1) (by omega) (by omega) (fun j hj => ?_)
        rcases Nat.lt_or_eq_of_le (Nat.le_of_lt_succ hj) with h9 | rfl
        · exact hb j h9
        · exact h
      · rw [if_neg (by decide)]
        exact wp_rT ⟨rfl, fr.refl _ _, Or.inr (Or.inl ⟨by omega, t, by omega, h, hb, rfl⟩), fun h9 => by omega⟩
set_option maxHeartbeats 4000000 in
set_option maxRecDepth 100000 in
theorem s_wrongPlace {N f : Nat} {V : pvM} (hN : 50 ≤ N) (hP : PI V) (hf : f < 12) : wz (q_X9_wrongPlace N f V) (fun r V' => fr [14, 15] V V' ∧ wrS V f r ∧ (r = -1 → agn (V 9 f).toNat (V' 14) (wkS (cW V f) (cA V f) (cQ V f) (cP V f) (V 9 f).toNat).2.1)) := by
  unfold q_X9_wrongPlace
  have hl := (hP.2.1 f hf).2
  rw [cL_eq (e_lengthOf (by omega)), show ((f : Int)).toNat = f by omega]
  refine wp_if (fun h => ?_) (fun h => ?_)
  · refine wp_lI ?_
    have k9 := s_wrong_b17 (N := N) (n := (V 9 f).toNat) hN hP hf (by omega) (by omega) N 0 (by omega) (by omega) (fun j hj => by omega)
    rw [show (((V 9 f).toNat : Nat) : Int) = V 9 f by omega] at k9
    exact k9
  · exact wp_lI (wp_rT ⟨rfl, fr.refl _ _, Or.inl ⟨Decidable.not_not.mp h, rfl⟩, fun h9 => by omega⟩)
