/-! the reference's walk from its start; checkOne; both checks -/
set_option maxHeartbeats 4000000 in
set_option maxRecDepth 100000 in
theorem s_mwalk_b9 {N n f : Nat} {V0 : pvM} (hN : 50 ≤ N) (hP : PI V0) (hI : RI V0) (hf : f < 12) (hn : 0 < n ∧ n ≤ 40) (hlen : V0 9 f = n) (hb : ∀ k, k < n → bd V0 f k) : ∀ (fu t : Nat) (V : pvM), t ≤ n → n + 1 ≤ fu + t → fr mch V0 V → f13 V0 V → V 45 13 = -1 → V 55 = V0 55 → agn t (V 53) h0f → agn t (V 54) (wtI h0f g0f) →
    wz (q_X11_walk_b9 N fu f n t V) (fun _ V' => fr mch V0 V' ∧ f13 V0 V' ∧ (∀ j, j ≠ f → V' 55 j = V0 55 j) ∧ V' 45 13 = (wkS (cW V0 f) (cA V0 f) (cQ V0 f) (cP V0 f) n).1 ∧ (V' 45 13 = -1 → agn n (V' 53) (wkS (cW V0 f) (cA V0 f) (cQ V0 f) (cP V0 f) n).2.1 ∧ V' 55 f = (wkS (cW V0 f) (cA V0 f) (cQ V0 f) (cP V0 f) n).2.2)) := by
  have ef : ((f : Int)).toNat = f := by omega
  intro fu
  induction fu with
  | zero => intro t V h1 h2; omega
  | succ fu ih =>
    intro t V h1 h2 hfr h13 hw h55 h53 h54
    have et : ((t : Int)).toNat = t := by omega
    simp only [q_X11_walk_b9]
    refine wp_if (fun ht => ?_) (fun ht => ?_)
    · have : t = n := by omega
      subst this
      refine wp_lI (wp_aW (by omega) ?_)
      rw [ef]
      refine wp_cL (s_mleast hN hn.2 (h := h0f) (g := g0f) (by rw [pu_off (by decide)]; exact h54)) (fun r V1 hV1 => ?_)
      obtain ⟨rfl, hr⟩ := hV1
      rw [hr]
      have k9 := s_mwalk_b63 hN hP hI hf hn.2 hlen hb N t (pz_u V 55 f 0) h0f g0f 0 (by rw [gc_g0]; omega) (by omega) (hfr.trans (fr_u (by decide))) (h13.trans (f13_o (by decide))) (by rw [pu_off (by decide)]; exact h53) (by rw [pu_off (by decide)]; exact h54) (by rw [pu_off (by decide)]; exact hw) (by rw [pz_u_eq]) (fun j _ => by unfold h0f; split <;> omega) (fun j _ => Or.inr rfl)
      refine wp_mono k9 (fun t9 r9 V4 hV4 => ?_)
      obtain ⟨t4, p1, p2, p3, p4, p5⟩ := hV4
      exact ⟨t4, p1, p2, fun j hj => by rw [p3 j hj, pu_row, up_app, if_neg hj, h55], p4, p5⟩
    · have nx : ∀ s w : Int, s = h0f t → w = wtI h0f g0f t → (w = 0 ∨ w = 1) → wz (aW V 53 40 t s fun V => bT w (aW V 54 40 t w fun V => lI (pv_w ((t : Int) + 1)) fun v1 => q_X11_walk_b9 N fu f n v1 V)) (fun _ V' => fr mch V0 V' ∧ f13 V0 V' ∧ (∀ j, j ≠ f → V' 55 j = V0 55 j) ∧ V' 45 13 = (wkS (cW V0 f) (cA V0 f) (cQ V0 f) (cP V0 f) n).1 ∧ (V' 45 13 = -1 → agn n (V' 53) (wkS (cW V0 f) (cA V0 f) (cQ V0 f) (cP V0 f) n).2.1 ∧ V' 55 f = (wkS (cW V0 f) (cA V0 f) (cQ V0 f) (cP V0 f) n).2.2)) := by
        intro s w hs hww hw01
        refine wp_aW (by omega) (wp_bT hw01 (wp_aW (by omega) (wp_lw (by omega) ?_)))
        rw [et]
        refine ih (t + 1) _ (by omega) (by omega) (hfr.trans ((fr_u (by decide)).trans (fr_u (by decide)))) (h13.trans ((f13_o (by decide)).trans (f13_o (by decide)))) (by rw [pu_off (by decide), pu_off (by decide)]; exact hw) (by rw [pu_off (by decide), pu_off (by decide)]; exact h55) ?_ ?_
        · intro j hj
          rw [pu_off (by decide), pu_row, up_app]
          by_cases hjt : j = t
          · subst hjt; rw [if_pos rfl]; exact hs
          · rw [if_neg hjt]; exact h53 j (by omega)
        · intro j hj
          rw [pu_row, pu_off (by decide), up_app]
          by_cases hjt : j = t
          · subst hjt; rw [if_pos rfl]; exact hww
          · rw [if_neg hjt]; exact h54 j (by omega)
      refine wp_if (fun h0 => ?_) (fun h0 => ?_)
      · refine wp_lI ?_
        unfold q_X11_walk_b28
        have e1 : h0f t = -1 := by unfold h0f; rw [if_neg (by omega)]
        have e2 : wtI h0f g0f t = 0 := by unfold wtI wt; rw [e1]; rfl
        have k9 := nx (-1) 0 e1.symm e2.symm (Or.inl rfl)
        simp only [if_pos h0]
        exact k9
      · refine wp_lI ?_
        unfold q_X11_walk_b28
        have ht0 : t = 0 := by omega
        have e1 : h0f t = 0 := by unfold h0f; rw [if_pos ht0]
        have e2 : wtI h0f g0f t = 1 := by unfold wtI wt; rw [e1]; rfl
        have k9 := nx 0 1 e1.symm e2.symm (Or.inr rfl)
        simp only [if_neg h0]
        exact k9
set_option maxHeartbeats 4000000 in
set_option maxRecDepth 100000 in
theorem s_mwalk {N n f : Nat} {V : pvM} (hN : 50 ≤ N) (hP : PI V) (hI : RI V) (hf : f < 12) (hn : 0 < n ∧ n ≤ 40) (hlen : V 9 f = n) (hb : ∀ k, k < n → bd V f k) (hw : V 45 13 = -1) : wz (q_X11_walk N f V) (fun _ V' => fr mch V V' ∧ f13 V V' ∧ (∀ j, j ≠ f → V' 55 j = V 55 j) ∧ V' 45 13 = (wkS (cW V f) (cA V f) (cQ V f) (cP V f) n).1 ∧ (V' 45 13 = -1 → agn n (V' 53) (wkS (cW V f) (cA V f) (cQ V f) (cP V f) n).2.1 ∧ V' 55 f = (wkS (cW V f) (cA V f) (cQ V f) (cP V f) n).2.2)) := by
  unfold q_X11_walk
  refine wp_aR (by omega) (wp_lI ?_)
  rw [show ((f : Int)).toNat = f by omega, hI.2.2.1, hlen]
  exact s_mwalk_b9 hN hP hI hf hn hlen hb N 0 V (by omega) (by omega) (fr.refl _ _) (fun _ _ => rfl) hw rfl (fun j hj => by omega) (fun j hj => by omega)
/-- what both say of one function -/
theorem wrS_fr {cs : List Nat} {V V' : pvM} (hf : fr cs V V') (hd : ∀ c, c ∈ prog → c ∉ cs) (f : Nat) (r : Int) : wrS V' f r ↔ wrS V f r := by
  have e9 := hf 9 (hd 9 (by decide))
  unfold wrS
  have eb : ∀ k, bd V' f k = bd V f k := fun k => (bd_fr hf hd f k).1
  have e := bd_fr hf hd f 0
  rw [e9, e.2.1, e.2.2.1, e.2.2.2.2.1, e.2.2.2.2.2]
  simp only [eb]
theorem wrS_uniq {V : pvM} {f : Nat} {r r' : Int} (h1 : wrS V f r) (h2 : wrS V f r') : r = r' := by
  rcases h1 with ⟨a1, a2⟩ | ⟨a1, k, a2, a3, a4, a5⟩ | ⟨a1, a2, a3⟩ <;> rcases h2 with ⟨b1, b2⟩ | ⟨b1, j, b2, b3, b4, b5⟩ | ⟨b1, b2, b3⟩
  · omega
  · omega
  · omega
  · omega
  · rcases Nat.lt_trichotomy k j with h | h | h
    · exact absurd (b4 k h) a3
    · omega
    · exact absurd (a4 j h) b3
  · exact absurd (b2 k a2) a3
  · omega
  · exact absurd (a2 j b2) b3
  · rw [a3, b3]
theorem wk_range {w a q p : Nat → Int} {n : Nat} : ∀ (m : Nat) (h g : Nat → Int) (hi : Int), -1 ≤ (wk w a q p n m h g hi).1 ∧ (wk w a q p n m h g hi).1 < n
  | 0, h, g, hi => by simp only [wk]; omega
  | m + 1, h, g, hi => by
    simp only [wk]
    cases hl : lfind (wt h g) n 0 with
    | none => dsimp only; omega
    | some k =>
      have := lfind_some hl
      dsimp only
      cases hs : stp w a q p n h k with
      | none => dsimp only; omega
      | some h' => exact wk_range m h' _ _
theorem wrS_range {V : pvM} {f : Nat} {r : Int} (hP : PI V) (hf : f < 12) (h : wrS V f r) : -1 ≤ r ∧ r < 40 := by
  have hl := (hP.2.1 f hf).2
  rcases h with ⟨a1, a2⟩ | ⟨a1, k, a2, a3, a4, a5⟩ | ⟨a1, a2, a3⟩
  · omega
  · omega
  · have := wk_range (w := cW V f) (a := cA V f) (q := cQ V f) (p := cP V f) (n := (V 9 f).toNat) (V 9 f).toNat h0f g0f 0
    unfold wkS at a3
    omega
/-- what a right function's ways say -/
theorem wrS_ok {V : pvM} {f : Nat} (h : wrS V f (-1)) : V 9 f ≠ 0 ∧ (∀ k : Nat, (k : Int) < V 9 f → bd V f k) ∧ (wkS (cW V f) (cA V f) (cQ V f) (cP V f) (V 9 f).toNat).1 = -1 := by
  rcases h with ⟨a1, a2⟩ | ⟨a1, k, a2, a3, a4, a5⟩ | ⟨a1, a2, a3⟩
  · omega
  · omega
  · exact ⟨a1, a2, a3.symm⟩
set_option maxHeartbeats 4000000 in
set_option maxRecDepth 100000 in
theorem s_mone_b27 {N n f : Nat} {V0 : pvM} (hN : 50 ≤ N) (hP : PI V0) (hI : RI V0) (hf : f < 12) (hn : n ≤ 40) (hlen : V0 9 f = n) : ∀ (fu t : Nat) (V : pvM), t ≤ n → t + 1 ≤ fu → fr mch V0 V → f13 V0 V → V 55 = V0 55 → ((n = 0 ∧ V 45 13 = 0) ∨ (n ≠ 0 ∧ V 45 13 = -1 ∧ ∀ j, t ≤ j → j < n → bd V0 f j) ∨ (n ≠ 0 ∧ ∃ k : Nat, t ≤ k ∧ k < n ∧ V 45 13 = k ∧ ¬ bd V0 f k ∧ ∀ j, t ≤ j → j < k → bd V0 f j)) →
    wz (q_X11_checkOne_b27 N fu f ((t : Int) - 1) V) (fun r V' => fr mch V0 V' ∧ f13 V0 V' ∧ (∀ j, j ≠ f → V' 55 j = V0 55 j) ∧ wrS V0 f r ∧ (r = -1 → agn n (V' 53) (wkS (cW V0 f) (cA V0 f) (cQ V0 f) (cP V0 f) n).2.1 ∧ V' 55 f = (wkS (cW V0 f) (cA V0 f) (cQ V0 f) (cP V0 f) n).2.2)) := by
  intro fu
  induction fu with
  | zero => intro t V h1 h2; omega
  | succ fu ih =>
    intro t V h1 h2 hfr h13 h55 hs
    simp only [q_X11_checkOne_b27]
    refine wp_if (fun ht => ?_) (fun ht => ?_)
    · have ht0 : t = 0 := by omega
      subst ht0
      refine wp_gR ?_
      rcases hs with ⟨a1, a2⟩ | ⟨a1, a2, a3⟩ | ⟨a1, k, a2, a3, a4, a5, a6⟩
      · rw [if_pos (by omega)]
        exact wp_gR (wp_rT ⟨rfl, hfr, h13, fun j _ => by rw [h55], Or.inl ⟨by omega, a2⟩, fun h9 => by omega⟩)
      · rw [if_neg (by omega)]
        have eb := bd_fr hfr pdm f 0
        have hs := s_mwalk (N := N) (n := n) hN (hP.fr hfr pdm) (hI.fr hfr rdm (f13_r h13).1 (f13_r h13).2) hf (by omega) (by rw [hfr 9 (by decide)]; exact hlen) (fun k hk => by rw [(bd_fr hfr pdm f k).1]; exact a3 k (by omega) hk) a2
        rw [eb.2.1, eb.2.2.1, eb.2.2.2.2.1, eb.2.2.2.2.2] at hs
        refine wp_cL hs (fun r V2 hV2 => ?_)
        obtain ⟨p1, p2, p3, p4, p5⟩ := hV2
        refine wp_gR (wp_rT ⟨rfl, hfr.trans p1, h13.trans p2, fun j hj => by rw [p3 j hj, h55], Or.inr (Or.inr ⟨by omega, fun k hk => a3 k (by omega) (by omega), ?_⟩), p5⟩)
        rw [show (V0 9 f).toNat = n by omega]
        exact p4
      · rw [if_pos (by omega)]
        exact wp_gR (wp_rT ⟨rfl, hfr, h13, fun j _ => by rw [h55], Or.inr (Or.inl ⟨by omega, k, by omega, a5, fun j hj => a6 j (by omega) hj, a4⟩), fun h9 => by omega⟩)
    · obtain ⟨t', rfl⟩ : ∃ t', t = t' + 1 := ⟨t - 1, by omega⟩
      rw [show ((t' + 1 : Nat) : Int) - 1 = (t' : Int) by omega]
      refine wp_cL (s_mbounds (hP.fr hfr pdm) (hI.fr hfr rdm (f13_r h13).1 (f13_r h13).2) hf (by omega)) (fun r V2 hV2 => ?_)
      obtain ⟨rfl, hV2⟩ := hV2
      rw [(bd_fr hfr pdm f t').1] at hV2
      have nx : ∀ z : Int, ((n ≠ 0 ∧ z = -1 ∧ ∀ j, t' ≤ j → j < n → bd V0 f j) ∨ (n ≠ 0 ∧ ∃ k : Nat, t' ≤ k ∧ k < n ∧ z = k ∧ ¬ bd V0 f k ∧ ∀ j, t' ≤ j → j < k → bd V0 f j)) → wz (q_X11_checkOne_b49 N (q_X11_checkOne_b27 N fu) f t' z V2) (fun r V' => fr mch V0 V' ∧ f13 V0 V' ∧ (∀ j, j ≠ f → V' 55 j = V0 55 j) ∧ wrS V0 f r ∧ (r = -1 → agn n (V' 53) (wkS (cW V0 f) (cA V0 f) (cQ V0 f) (cP V0 f) n).2.1 ∧ V' 55 f = (wkS (cW V0 f) (cA V0 f) (cQ V0 f) (cP V0 f) n).2.2)) := by
        intro z hz
        unfold q_X11_checkOne_b49
        refine wp_gW (wp_lw (by omega) ?_)
        have k9 := ih t' (pz_u V2 45 13 z) (by omega) (by omega) (hfr.trans (fr_u (by decide))) (h13.trans f13_u) (by rw [pu_off (by decide)]; exact h55) (Or.inr (by rw [pz_u_eq]; exact hz))
        rw [show (t' : Int) + -1 = (t' : Int) - 1 by omega]
        exact k9
      rcases hV2 with ⟨rfl, hbd⟩ | ⟨rfl, hbd⟩
      · rw [if_neg (by decide)]
        refine wp_gR ?_
        rcases hs with ⟨a1, a2⟩ | ⟨a1, a2, a3⟩ | ⟨a1, k, a2, a3, a4, a5, a6⟩
        · omega
        · exact nx _ (Or.inl ⟨a1, a2, fun j g1 g2 => by
            rcases Nat.lt_or_eq_of_le g1 with h9 | rfl
            · exact a3 j h9 g2
            · exact hbd⟩)
        · exact nx _ (Or.inr ⟨a1, k, by omega, a3, a4, a5, fun j g1 g2 => by
            rcases Nat.lt_or_eq_of_le g1 with h9 | rfl
            · exact a6 j h9 g2
            · exact hbd⟩)
      · rw [if_pos rfl]
        exact nx _ (Or.inr ⟨by omega, t', by omega, by omega, rfl, hbd, fun j g1 g2 => by omega⟩)
set_option maxHeartbeats 4000000 in
set_option maxRecDepth 100000 in
theorem s_mone {N f : Nat} {V : pvM} (hN : 50 ≤ N) (hP : PI V) (hI : RI V) (hf : f < 12) : wz (q_X11_checkOne N f V) (fun r V' => fr mch V V' ∧ f13 V V' ∧ (∀ j, j ≠ f → V' 55 j = V 55 j) ∧ wrS V f r ∧ (r = -1 → agn (V 9 f).toNat (V' 53) (wkS (cW V f) (cA V f) (cQ V f) (cP V f) (V 9 f).toNat).2.1 ∧ V' 55 f = (wkS (cW V f) (cA V f) (cQ V f) (cP V f) (V 9 f).toNat).2.2)) := by
  have hl := (hP.2.1 f hf).2
  have ef : ((f : Int)).toNat = f := by omega
  have k15 : ∀ s : Int, ((s = 0 ∧ V 9 f = 0) ∨ (s = -1 ∧ V 9 f ≠ 0)) → wz (q_X11_checkOne_b15 N f s V) (fun r V' => fr mch V V' ∧ f13 V V' ∧ (∀ j, j ≠ f → V' 55 j = V 55 j) ∧ wrS V f r ∧ (r = -1 → agn (V 9 f).toNat (V' 53) (wkS (cW V f) (cA V f) (cQ V f) (cP V f) (V 9 f).toNat).2.1 ∧ V' 55 f = (wkS (cW V f) (cA V f) (cQ V f) (cP V f) (V 9 f).toNat).2.2)) := by
    intro s hs
    unfold q_X11_checkOne_b15
    refine wp_gW (wp_aR (by omega) (wp_lI ?_))
    rw [ef, pu_off (show (47 : Nat) ≠ 45 by decide), hI.2.2.1]
    refine wp_lw (by omega) ?_
    have k9 := s_mone_b27 (N := N) (n := (V 9 f).toNat) (V0 := V) hN hP hI hf (by omega) (by omega) N (V 9 f).toNat (pz_u V 45 13 s) (by omega) (by omega) (fr_u (by decide)) f13_u (pu_off (by decide)) (by
      rw [pz_u_eq]
      rcases hs with ⟨rfl, h9⟩ | ⟨rfl, h9⟩
      · exact Or.inl ⟨by omega, rfl⟩
      · exact Or.inr (Or.inl ⟨by omega, rfl, fun j g1 g2 => by omega⟩))
    rw [show (((V 9 f).toNat : Nat) : Int) = V 9 f by omega] at k9
    exact k9
  unfold q_X11_checkOne
  refine wp_aR (by omega) ?_
  rw [ef, hI.2.2.1]
  refine wp_if (fun h => wp_lI (k15 (-1) (Or.inr ⟨rfl, h⟩))) (fun h => wp_lI (k15 0 (Or.inl ⟨rfl, Decidable.not_not.mp h⟩)))
/-- what check answers -/
def ckS (V : pvM) (r : Int) : Prop := (r = -1 ∧ ∀ f : Nat, (f : Int) < V 1 6 → wrS V f (-1)) ∨ (∃ (f : Nat) (p : Int), (f : Int) < V 1 6 ∧ 0 ≤ p ∧ wrS V f p ∧ (∀ g, g < f → wrS V g (-1)) ∧ r = 64 * f + p)
theorem ckS_uniq {V : pvM} {r r' : Int} (h1 : ckS V r) (h2 : ckS V r') : r = r' := by
  rcases h1 with ⟨a1, a2⟩ | ⟨f, p, a1, a2, a3, a4, a5⟩ <;> rcases h2 with ⟨b1, b2⟩ | ⟨g, q, b1, b2, b3, b4, b5⟩
  · omega
  · have := wrS_uniq (a2 g b1) b3; omega
  · have := wrS_uniq (b2 f a1) a3; omega
  · rcases Nat.lt_trichotomy f g with h | h | h
    · have := wrS_uniq (b4 f h) a3; omega
    · subst h
      have := wrS_uniq a3 b3; omega
    · have := wrS_uniq (a4 g h) b3; omega
set_option maxHeartbeats 4000000 in
set_option maxRecDepth 100000 in
theorem s_mall_b2 {N : Nat} {V0 : pvM} (hN : 50 ≤ N) (hP : PI V0) (hI : RI V0) : ∀ (fu f : Nat) (V : pvM), (f : Int) ≤ V0 1 6 → V0 1 6 + 1 ≤ fu + f → fr mch V0 V → f13 V0 V → (∀ g, g < f → wrS V0 g (-1)) → wz (q_X11_checkAll_b2 N fu f V) (fun r V' => fr mch V0 V' ∧ f13 V0 V' ∧ ckS V0 r) := by
  have hn := hP.1
  intro fu
  induction fu with
  | zero => intro f V h1 h2; omega
  | succ fu ih =>
    intro f V h1 h2 hfr h13 hg
    simp only [q_X11_checkAll_b2]
    refine wp_gR ?_
    rw [h13 1 (by decide), hI.1]
    refine wp_if (fun h => ?_) (fun h => ?_)
    · exact wp_lI (wp_rT ⟨rfl, hfr, h13, Or.inl ⟨rfl, fun g hg9 => hg g (by omega)⟩⟩)
    · refine wp_cL (s_mone hN (hP.fr hfr pdm) (hI.fr hfr rdm (f13_r h13).1 (f13_r h13).2) (by omega)) (fun r V2 hV2 => ?_)
      obtain ⟨p1, p2, -, p4, -⟩ := hV2
      rw [wrS_fr hfr pdm] at p4
      have hr := wrS_range hP (by omega) p4
      refine wp_if (fun h9 => ?_) (fun h9 => ?_)
      · have hr1 : r = -1 := by omega
        subst hr1
        refine wp_lw (by omega) ?_
        refine ih (f + 1) V2 (by omega) (by omega) (hfr.trans p1) (h13.trans p2) (fun g hg9 => ?_)
        rcases Nat.lt_or_eq_of_le (Nat.le_of_lt_succ hg9) with h8 | rfl
        · exact hg g h8
        · exact p4
      · refine wp_lI (wp_lw (by omega) (wp_lw (by omega) (wp_rT ⟨rfl, hfr.trans p1, h13.trans p2, Or.inr ⟨f, r, by omega, by omega, p4, hg, by omega⟩⟩)))
theorem s_mcheckAll {N : Nat} {V : pvM} (hN : 50 ≤ N) (hP : PI V) (hI : RI V) : wz (q_X11_checkAll N V) (fun r V' => fr mch V V' ∧ f13 V V' ∧ ckS V r) := by
  have hn := hP.1
  unfold q_X11_checkAll
  exact wp_lI (s_mall_b2 hN hP hI N 0 V (by omega) (by omega) (fr.refl _ _) (fun _ _ => rfl) (fun g hg => by omega))
