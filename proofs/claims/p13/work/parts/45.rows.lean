/-! check of the class -/
set_option maxHeartbeats 4000000 in
set_option maxRecDepth 100000 in
theorem s_check_b2 {N : Nat} {V0 : pvM} (hN : 50 ≤ N) (hP : PI V0) : ∀ (fu f : Nat) (V : pvM), (f : Int) ≤ V0 1 6 → V0 1 6 + 1 ≤ fu + f → fr [14, 15] V0 V → (∀ g, g < f → wrS V0 g (-1)) → wz (q_X10_check_b2 N fu f V) (fun r V' => fr [14, 15] V0 V' ∧ ckS V0 r) := by
  have hn := hP.1
  intro fu
  induction fu with
  | zero => intro f V h1 h2; omega
  | succ fu ih =>
    intro f V h1 h2 hfr hg
    simp only [q_X10_check_b2]
    rw [cL_eq e_functionTotal, hfr 1 (by decide)]
    refine wp_if (fun h => ?_) (fun h => ?_)
    · exact wp_lI (wp_rT ⟨rfl, hfr, Or.inl ⟨rfl, fun g hg9 => hg g (by omega)⟩⟩)
    · refine wp_cL (s_wrongPlace hN (hP.fr hfr pd1415) (by omega)) (fun r V2 hV2 => ?_)
      obtain ⟨p1, p4, -⟩ := hV2
      rw [wrS_fr hfr pd1415] at p4
      have hr := wrS_range hP (by omega) p4
      refine wp_lI ?_
      refine wp_if (fun h9 => ?_) (fun h9 => ?_)
      · subst h9
        refine wp_lw (by omega) ?_
        refine ih (f + 1) V2 (by omega) (by omega) (hfr.trans p1) (fun g hg9 => ?_)
        rcases Nat.lt_or_eq_of_le (Nat.le_of_lt_succ hg9) with h8 | rfl
        · exact hg g h8
        · exact p4
      · refine wp_lI (wp_lw (by omega) (wp_lw (by omega) (wp_rT ⟨rfl, hfr.trans p1, Or.inr ⟨f, r, by omega, by omega, p4, hg, by omega⟩⟩)))
theorem s_check {N : Nat} {V : pvM} (hN : 50 ≤ N) (hP : PI V) : wz (q_X10_check N V) (fun r V' => fr [14, 15] V V' ∧ ckS V r) := by
  have hn := hP.1
  unfold q_X10_check
  exact wp_lI (s_check_b2 hN hP N 0 V (by omega) (by omega) (fr.refl _ _) (fun g hg => by omega))
/-! ROWS OF INSTRUCTIONS -/
abbrev Ins : Type := Int × Int × Int
def capS (z : Int) : Prop := z = 64 ∨ z = 128 ∨ z = 256 ∨ z = 512 ∨ z = 1024 ∨ z = 2048 ∨ z = 4096 ∨ z = 8192 ∨ z = 16384 ∨ z = 32768
/-- what was used so far, of t calls -/
def BG (t : Int) (V : pvM) : Prop := (0 ≤ V 84 0 ∧ 0 ≤ V 84 1) ∧ 16 * V 84 0 ≤ 16 * t + (V 17 0 - 64) + (V 39 2 - 200) ∧ V 84 1 ≤ 6 * t + 8 * (V 17 0 - 64) + 3 * (V 39 2 - 200)
def RW (V : pvM) : Prop := capS (V 17 0) ∧ 0 ≤ V 17 4 ∧ V 17 4 ≤ V 17 0
def KP (V : pvM) : Prop := 200 ≤ V 39 2 ∧ V 39 2 ≤ 80000
def xcs : List Nat := [17, 18, 19, 20, 21, 84]
/-- g was put behind the rows -/
def apl (V V' : pvM) (g : List Ins) : Prop := V' 17 4 = V 17 4 + g.length ∧ (∀ r, 18 ≤ r → r ≤ 21 → ∀ i : Nat, (i : Int) < V 17 4 → V' r i = V r i) ∧ ∀ j : Nat, ∀ x : Ins, g[j]? = some x → V' 18 ((V 17 4).toNat + j) = x.1 ∧ V' 19 ((V 17 4).toNat + j) = x.2.1 ∧ V' 20 ((V 17 4).toNat + j) = x.2.2 ∧ V' 21 ((V 17 4).toNat + j) = 0
theorem apl.refl (V : pvM) : apl V V [] := ⟨by simp, fun _ _ _ _ _ => rfl, fun j x h => by simp at h⟩
theorem apl.trans {V V' V'' : pvM} {g g' : List Ins} (h0 : 0 ≤ V 17 4) (h1 : apl V V' g) (h2 : apl V' V'' g') : apl V V'' (g ++ g') := by
  obtain ⟨a1, a2, a3⟩ := h1
  obtain ⟨b1, b2, b3⟩ := h2
  refine ⟨?_, fun r hr1 hr2 i hi => ?_, fun j x hx => ?_⟩
  · rw [b1, a1, List.length_append]; omega
  · rw [b2 r hr1 hr2 i (by omega), a2 r hr1 hr2 i hi]
  · by_cases hj : j < g.length
    · rw [List.getElem?_append_left hj] at hx
      have h9 := a3 j x hx
      have hi : (((V 17 4).toNat + j : Nat) : Int) < V' 17 4 := by omega
      rw [b2 18 (by omega) (by omega) _ hi, b2 19 (by omega) (by omega) _ hi, b2 20 (by omega) (by omega) _ hi, b2 21 (by omega) (by omega) _ hi]
      exact h9
    · rw [List.getElem?_append_right (by omega)] at hx
      have h9 := b3 (j - g.length) x hx
      rw [show (V' 17 4).toNat + (j - g.length) = (V 17 4).toNat + j by omega] at h9
      exact h9
theorem apl.fr {V V' W : pvM} {g : List Ins} (h : apl V V' g) (e17 : W 17 4 = V 17 4) (e : ∀ r, 18 ≤ r → r ≤ 21 → W r = V r) : apl W V' g := by
  obtain ⟨a1, a2, a3⟩ := h
  unfold apl
  rw [e17]
  exact ⟨a1, fun r h1 h2 i hi => by rw [e r h1 h2]; exact a2 r h1 h2 i hi, a3⟩
theorem apl.fr' {V V' W : pvM} {g : List Ins} (h : apl V V' g) (e17 : W 17 4 = V' 17 4) (e : ∀ r, 18 ≤ r → r ≤ 21 → W r = V' r) : apl V W g := by
  obtain ⟨a1, a2, a3⟩ := h
  refine ⟨by rw [e17]; exact a1, fun r h1 h2 i hi => by rw [e r h1 h2]; exact a2 r h1 h2 i hi, fun j x hx => ?_⟩
  rw [e 18 (by omega) (by omega), e 19 (by omega) (by omega), e 20 (by omega) (by omega), e 21 (by omega) (by omega)]
  exact a3 j x hx
/-- all of it -/
def AP (t : Int) (V V' : pvM) (g : List Ins) : Prop := apl V V' g ∧ RW V' ∧ BG t V' ∧ fr xcs V V'
set_option maxHeartbeats 4000000 in
set_option maxRecDepth 100000 in
theorem s_xadd {N : Nat} {t w a b : Int} {V : pvM} (hW : RW V) (hB : BG t V) (hK : KP V) (ht : 0 ≤ t ∧ t ≤ 600) (hl : V 17 4 < 20480) : wz (q_X3_add N w a b V) (fun _ V' => AP t V V' [(w, a, b)]) := by
  have k16 : ∀ V1 : pvM, RW V1 → BG t V1 → V1 17 4 < V1 17 0 → V1 17 4 = V 17 4 → (∀ r, 18 ≤ r → r ≤ 21 → ∀ i : Nat, (i : Int) < V 17 4 → V1 r i = V r i) → fr xcs V V1 → wz (q_X3_add_b16 N w a b V1) (fun _ V' => AP t V V' [(w, a, b)]) := by
    intro V1 hW1 hB1 hlt h17 hrow hfr
    obtain ⟨c1, c2, c3⟩ := hW1
    have hcap : V1 17 0 ≤ 32768 := by unfold capS at c1; omega
    obtain ⟨n, hn⟩ : ∃ n : Nat, (n : Int) = V1 17 4 := ⟨(V1 17 4).toNat, by omega⟩
    have en : (V1 17 4).toNat = n := by omega
    unfold q_X3_add_b16
    refine wp_gR (wp_aW (by omega) ?_)
    rw [en]
    refine wp_gR ?_
    rw [pu_off (show (17 : Nat) ≠ 18 by decide)]
    refine wp_aW (by omega) ?_
    rw [en]
    refine wp_gR ?_
    rw [pu_off (show (17 : Nat) ≠ 19 by decide), pu_off (show (17 : Nat) ≠ 18 by decide)]
    refine wp_aW (by omega) ?_
    rw [en]
    refine wp_gR (wp_lI ?_)
    rw [pu_off (show (17 : Nat) ≠ 20 by decide), pu_off (show (17 : Nat) ≠ 19 by decide), pu_off (show (17 : Nat) ≠ 18 by decide)]
    refine wp_aW (by omega) ?_
    rw [en]
    refine wp_gR (wp_lI ?_)
    rw [pu_off (show (17 : Nat) ≠ 21 by decide), pu_off (show (17 : Nat) ≠ 20 by decide), pu_off (show (17 : Nat) ≠ 19 by decide), pu_off (show (17 : Nat) ≠ 18 by decide)]
    refine wp_lw (by omega) ?_
    refine wp_gW (wp_rT ⟨rfl, ?_⟩)
    obtain ⟨V2, hV2⟩ : ∃ V2, V2 = pz_u (pz_u (pz_u (pz_u (pz_u V1 18 n w) 19 n a) 20 n b) 21 n 0) 17 4 (V1 17 4 + 1) := ⟨_, rfl⟩
    rw [← hV2]
    have e17 : V2 17 4 = V1 17 4 + 1 := by rw [hV2, pz_u_eq]
    have e170 : V2 17 0 = V1 17 0 := by rw [hV2, pu_row, up_app, if_neg (by decide)]; simp [pu_off]
    have e18 : V2 18 = va_up (V1 18) n w := by rw [hV2]; simp [pu_off, pu_row]
    have e19 : V2 19 = va_up (V1 19) n a := by rw [hV2]; simp [pu_off, pu_row]
    have e20 : V2 20 = va_up (V1 20) n b := by rw [hV2]; simp [pu_off, pu_row]
    have e21 : V2 21 = va_up (V1 21) n 0 := by rw [hV2]; simp [pu_off, pu_row]
    have e84 : V2 84 = V1 84 := by rw [hV2]; simp [pu_off]
    have e39 : V2 39 = V1 39 := by rw [hV2]; simp [pu_off]
    have hfr2 : fr xcs V1 V2 := by rw [hV2]; exact ((((fr_u (by decide)).trans (fr_u (by decide))).trans (fr_u (by decide))).trans (fr_u (by decide))).trans (fr_u (by decide))
    refine ⟨⟨?_, fun r h1 h2 i hi => ?_, fun j x hx => ?_⟩, ⟨?_, ?_, ?_⟩, ?_, hfr.trans hfr2⟩
    · rw [e17, h17]; simp
    · have hin : i ≠ n := by omega
      rw [← hrow r h1 h2 i hi]
      rcases (by omega : r = 18 ∨ r = 19 ∨ r = 20 ∨ r = 21) with rfl | rfl | rfl | rfl
      · rw [e18, up_app, if_neg hin]
      · rw [e19, up_app, if_neg hin]
      · rw [e20, up_app, if_neg hin]
      · rw [e21, up_app, if_neg hin]
    · cases j with
      | zero =>
        simp at hx
        subst hx
        rw [e18, e19, e20, e21, show (V 17 4).toNat + 0 = n by omega]
        simp [up_app]
      | succ j => simp at hx
    · rw [e170]; exact c1
    · rw [e17]; omega
    · rw [e17, e170]; omega
    · unfold BG at hB1 ⊢
      rw [e84, e170, e39]; exact hB1
  unfold q_X3_add
  refine wp_gR (wp_gR ?_)
  refine wp_if (fun h => ?_) (fun h => ?_)
  · exact k16 V hW hB (by have := hW.2.2; omega) rfl (fun _ _ _ _ _ => rfl) (fr.refl _ _)
  · have heq : V 17 4 = V 17 0 := Decidable.not_not.mp h
    have hc := hW.1
    have hg : q_X3_grow N V = some (0, 0, pv_grow V) := by
      unfold q_X3_grow
      unfold BG at hB
      unfold KP at hK
      have e1 : (pv_LC : Int) = 8000 := rfl
      have e2 : (pv_LS : Int) = 1000000 := rfl
      rw [if_pos (by unfold capS at hc; omega)]
    rw [cL_eq hg]
    have e0 : pv_grow V 17 0 = 2 * V 17 0 := by unfold pv_grow; rw [if_pos ⟨rfl, rfl⟩]
    have e4 : pv_grow V 17 4 = V 17 4 := by unfold pv_grow; rw [if_neg (by omega), if_neg (by omega), if_neg (by omega), if_neg (by omega)]
    have e840 : pv_grow V 84 0 = V 84 0 + 4 := by unfold pv_grow; rw [if_neg (by omega), if_neg (by omega), if_pos ⟨rfl, rfl⟩]
    have e841 : pv_grow V 84 1 = V 84 1 + 8 * V 17 0 := by unfold pv_grow; rw [if_neg (by omega), if_neg (by omega), if_neg (by omega), if_pos ⟨rfl, rfl⟩]
    have e39 : pv_grow V 39 2 = V 39 2 := by unfold pv_grow; rw [if_neg (by omega), if_neg (by omega), if_neg (by omega), if_neg (by omega)]
    have hc2 : 64 ≤ V 17 0 := by unfold capS at hc; omega
    refine k16 (pv_grow V) ⟨?_, ?_, ?_⟩ ?_ ?_ e4 (fun r h1 h2 i hi => ?_) (fun c hc9 => ?_)
    · rw [e0]; unfold capS at hc ⊢; omega
    · rw [e4]; exact hW.2.1
    · rw [e4, e0]; omega
    · unfold BG at hB ⊢
      rw [e840, e841, e0, e39]
      omega
    · rw [e4, e0]; omega
    · unfold pv_grow
      rw [if_neg (by omega), if_pos ⟨h1, h2⟩, if_pos (by omega)]
    · funext k
      unfold pv_grow
      simp [xcs] at hc9
      rw [if_neg (by omega), if_neg (by omega), if_neg (by omega), if_neg (by omega)]
