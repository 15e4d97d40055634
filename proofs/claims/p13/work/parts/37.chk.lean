/-! THE PROGRAM IN THE CLASS'S CELLS -/
def cW (V : pvM) (f k : Nat) : Int := V 10 (40 * f + k)
def cA (V : pvM) (f k : Nat) : Int := V 11 (40 * f + k)
def cB (V : pvM) (f k : Nat) : Int := V 12 (40 * f + k)
/-- how many values a word takes -/
def po (V : pvM) (w a b : Int) : Int := if w = 2 ∨ w = 6 ∨ w = 7 ∨ w = 9 ∨ w = 11 ∨ w = 12 ∨ w = 25 then 1 else if w = 3 ∨ w = 4 ∨ w = 5 ∨ w = 21 ∨ w = 26 then 2 else if w = 10 then V 8 a.toNat else if w = 13 then b else if w = 14 ∨ w = 22 then a + 1 else if w = 15 then V 4 a.toNat else 0
/-- how many it puts there -/
def pu (w : Int) : Int := if w = 6 then 2 else if w = 2 ∨ w = 7 ∨ w = 8 ∨ w = 9 ∨ w = 11 ∨ w = 12 then 0 else 1
def cQ (V : pvM) (f k : Nat) : Int := po V (cW V f k) (cA V f k) (cB V f k)
def cP (V : pvM) (f k : Nat) : Int := pu (cW V f k)
theorem pu_nn (w : Int) : 0 ≤ pu w := by unfold pu; repeat' split
                                         all_goals omega
theorem pu_le (w : Int) : pu w ≤ 2 := by unfold pu; repeat' split
                                         all_goals omega
/-- numbers in bounds -/
def bdw (V : pvM) (len w a b : Int) : Prop := ((w = 1 ∨ w = 2) → 0 ≤ a ∧ a < 8) ∧ ((w = 8 ∨ w = 9) → 0 ≤ a ∧ a < len) ∧ (w = 10 → 0 ≤ a ∧ a < V 1 6) ∧ (w = 13 → (0 ≤ a ∧ a < V 1 6) ∧ 0 ≤ b ∧ b ≤ V 8 a.toNat) ∧ (w = 14 → 0 ≤ a ∧ a ≤ 3) ∧ (w = 15 → 0 ≤ a ∧ a < V 2 5)
def bd (V : pvM) (f k : Nat) : Prop := bdw V (V 9 f) (cW V f k) (cA V f k) (cB V f k)
/-- the program is well kept -/
def PI (V : pvM) : Prop := (0 ≤ V 1 6 ∧ V 1 6 ≤ 12) ∧ (∀ f : Nat, f < 12 → (0 ≤ V 8 f ∧ V 8 f ≤ 3) ∧ (0 ≤ V 9 f ∧ V 9 f ≤ 40)) ∧ (∀ k, 0 ≤ V 10 k ∧ V 10 k ≤ 15) ∧ (∀ k, I32 (V 11 k) ∧ I32 (V 12 k)) ∧ (0 ≤ V 2 5 ∧ V 2 5 ≤ 8) ∧ RC1 V (V 2 5).toNat ∧ ∀ r : Nat, (r : Int) < V 2 5 → 1 ≤ V 3 r
theorem PI.hol {V : pvM} (h : PI V) {r : Nat} (hr : (r : Int) < V 2 5) : 0 ≤ V 4 r ∧ V 4 r ≤ 12 := by
  have h1 := h.2.2.2.2.2.1.hb r (by omega)
  omega
/-- cells of the program -/
def prog : List Nat := [1, 2, 3, 4, 5, 6, 7, 8, 9, 10, 11, 12]
theorem PI.fr {cs : List Nat} {V V' : pvM} (h : PI V) (hf : fr cs V V') (hd : ∀ c, c ∈ prog → c ∉ cs) : PI V' := by
  unfold PI at h ⊢
  rw [hf 1 (hd 1 (by decide)), hf 8 (hd 8 (by decide)), hf 9 (hd 9 (by decide)), hf 10 (hd 10 (by decide)), hf 11 (hd 11 (by decide)), hf 12 (hd 12 (by decide)), hf 2 (hd 2 (by decide)), hf 3 (hd 3 (by decide))]
  refine ⟨h.1, h.2.1, h.2.2.1, h.2.2.2.1, h.2.2.2.2.1, ?_, h.2.2.2.2.2.2⟩
  exact h.2.2.2.2.2.1.congr (by rw [hf 2 (hd 2 (by decide))]) (hf 3 (hd 3 (by decide))) (hf 4 (hd 4 (by decide))) (hf 5 (hd 5 (by decide))) (hf 6 (hd 6 (by decide))) (hf 7 (hd 7 (by decide)))
theorem e_wordAt {N f k : Nat} {V : pvM} (hf : f < 12) (hk : k < 40) : q_X6_wordAt N f k V = some (0, cW V f k, V) := wz_to (by
  unfold q_X6_wordAt
  refine wp_lI (wp_lw (by omega) (wp_lw (by omega) (wp_aR (by omega) (wp_rT ⟨rfl, ?_, rfl⟩))))
  rw [show ((f : Int) * 40 + (k : Int)).toNat = 40 * f + k by omega]; rfl)
theorem e_firstNumberAt {N f k : Nat} {V : pvM} (hf : f < 12) (hk : k < 40) : q_X6_firstNumberAt N f k V = some (0, cA V f k, V) := wz_to (by
  unfold q_X6_firstNumberAt
  refine wp_lI (wp_lw (by omega) (wp_lw (by omega) (wp_aR (by omega) (wp_rT ⟨rfl, ?_, rfl⟩))))
  rw [show ((f : Int) * 40 + (k : Int)).toNat = 40 * f + k by omega]; rfl)
theorem e_secondNumberAt {N f k : Nat} {V : pvM} (hf : f < 12) (hk : k < 40) : q_X6_secondNumberAt N f k V = some (0, cB V f k, V) := wz_to (by
  unfold q_X6_secondNumberAt
  refine wp_lI (wp_lw (by omega) (wp_lw (by omega) (wp_aR (by omega) (wp_rT ⟨rfl, ?_, rfl⟩))))
  rw [show ((f : Int) * 40 + (k : Int)).toNat = 40 * f + k by omega]; rfl)
theorem e_holesOf {N : Nat} {r : Int} {V : pvM} (hr : 0 ≤ r ∧ r < 8) : q_X7_holesOf N r V = some (0, V 4 r.toNat, V) := wz_to (by
  unfold q_X7_holesOf
  exact wp_aR (by omega) (wp_rT ⟨rfl, rfl, rfl⟩))
theorem e_has {N : Nat} {x : Int} {V : pvM} : q_X7_has N x V = some (0, (if 0 ≤ x ∧ x < V 2 5 then 1 else 0), V) := wz_to (by
  unfold q_X7_has
  refine wp_if (fun h => ?_) (fun h => ?_)
  · exact wp_lI (wp_bT (Or.inl rfl) (wp_rT ⟨rfl, by rw [if_neg (by omega)], rfl⟩))
  · refine wp_gR ?_
    refine wp_if (fun h1 => ?_) (fun h1 => ?_)
    · exact wp_lI (wp_bT (Or.inl rfl) (wp_rT ⟨rfl, by rw [if_neg (by omega)], rfl⟩))
    · exact wp_lI (wp_bT (Or.inr rfl) (wp_rT ⟨rfl, by rw [if_pos (by omega)], rfl⟩)))
set_option maxHeartbeats 4000000 in
set_option maxRecDepth 100000 in
theorem e_popsOf {N : Nat} {w a b : Int} {V : pvM} (h10 : w = 10 → 0 ≤ a ∧ a < 12) (h15 : w = 15 → 0 ≤ a ∧ a < 8) (h14 : (w = 14 ∨ w = 22) → 0 ≤ a ∧ a < 1000) : q_X6_popsOf N w a b V = some (0, po V w a b, V) := wz_to (by
  unfold q_X6_popsOf
  repeat' (with_reducible first | refine wp_lw ?_ ?_ | refine wp_lI ?_ | refine wp_gR ?_ | refine wp_gW ?_ | refine wp_rT ?_ | refine wp_if (fun h => ?_) (fun h => ?_) | refine wp_bT ?_ ?_ | refine wp_aR ?_ ?_ | refine wp_aW ?_ ?_ | rw [cL_eq (e_holesOf (h15 (by assumption)))])
  all_goals first | omega | (refine ⟨rfl, ?_, rfl⟩; unfold po; repeat' split; all_goals omega))
set_option maxHeartbeats 4000000 in
set_option maxRecDepth 100000 in
theorem e_pushesOf {N : Nat} {w : Int} {V : pvM} : q_X6_pushesOf N w V = some (0, pu w, V) := wz_to (by
  unfold q_X6_pushesOf
  repeat' (with_reducible first | refine wp_lw ?_ ?_ | refine wp_lI ?_ | refine wp_gR ?_ | refine wp_gW ?_ | refine wp_rT ?_ | refine wp_if (fun h => ?_) (fun h => ?_) | refine wp_bT ?_ ?_ | refine wp_aR ?_ ?_ | refine wp_aW ?_ ?_)
  all_goals (refine ⟨rfl, ?_, rfl⟩; unfold pu; repeat' split; all_goals omega))
set_option maxHeartbeats 4000000 in
set_option maxRecDepth 100000 in
theorem s_bounds {N f k : Nat} {V : pvM} (hP : PI V) (hf : f < 12) (hk : k < 40) : wz (q_X6_hasNumbersInBounds N f k V) (fun r V' => V' = V ∧ ((r = 1 ∧ bd V f k) ∨ (r = 0 ∧ ¬ bd V f k))) := by
  have hw := hP.2.2.1 (40 * f + k)
  have hn := hP.1
  unfold q_X6_hasNumbersInBounds
  rw [cL_eq (e_firstNumberAt hf hk), cL_eq (e_secondNumberAt hf hk), cL_eq (e_wordAt hf hk)]
  have e1 : cW V f k = V 10 (40 * f + k) := rfl
  unfold bd
  generalize cW V f k = w at *
  generalize cA V f k = a at *
  generalize cB V f k = b at *
  have e9 : ((f : Int)).toNat = f := by omega
  repeat' (with_reducible first | refine wp_lw ?_ ?_ | refine wp_lI ?_ | refine wp_gR ?_ | refine wp_gW ?_ | refine wp_rT ?_ | refine wp_if (fun h => ?_) (fun h => ?_) | refine wp_bT ?_ ?_ | refine wp_aR ?_ ?_ | refine wp_aW ?_ ?_ | rw [cL_eq e_hasFunction] | rw [cL_eq e_has])
  all_goals first | omega | (rw [e9] at *; first | exact ⟨rfl, rfl, Or.inl ⟨rfl, by unfold bdw; omega⟩⟩ | exact ⟨rfl, rfl, Or.inr ⟨rfl, by unfold bdw; omega⟩⟩ | (refine ⟨rfl, rfl, ?_⟩; unfold bdw; split; exact Or.inl ⟨rfl, by omega⟩; exact Or.inr ⟨rfl, by omega⟩))
/-- what the class keeps of the search -/
def agn (n : Nat) (r : Nat → Int) (h : Nat → Int) : Prop := ∀ k, k < n → r k = h k
theorem agn.up {n : Nat} {r h : Nat → Int} (hr : agn n r h) (k : Nat) (x : Int) : agn n (va_up r k x) (va_up h k x) := by
  intro j hj
  rw [up_app, up_app, hr j hj]
def lfI (o : Option Nat) : Int := match o with
  | some k => (k : Int)
  | none => -1
set_option maxHeartbeats 4000000 in
set_option maxRecDepth 100000 in
theorem s_least_b2 {N n : Nat} {V : pvM} {h g : Nat → Int} (hn : n ≤ 40) (h14 : agn n (V 14) h) (h15 : agn n (V 15) g) : ∀ (fu m k : Nat), k + m = n → m + 1 ≤ fu → wz (q_X9_leastWaiting_b2 N fu n k V) (fun r V' => V' = V ∧ r = lfI (lfind (wt h g) m k)) := by
  intro fu
  induction fu with
  | zero => intro m k h1 h2; omega
  | succ fu ih =>
    intro m k h1 h2
    have nx : ∀ m', m = m' + 1 → wt h g k = false → wz (q_X9_leastWaiting_b28 N (q_X9_leastWaiting_b2 N fu) n k V) (fun r V' => V' = V ∧ r = lfI (lfind (wt h g) m k)) := by
      intro m' hm hw
      subst hm
      unfold q_X9_leastWaiting_b28
      refine wp_lw (by omega) ?_
      have k9 := ih m' (k + 1) (by omega) (by omega)
      simp only [lfind]
      rw [hw, if_neg (by decide)]
      exact k9
    simp only [q_X9_leastWaiting_b2]
    refine wp_if (fun hk => ?_) (fun hk => ?_)
    · have hm : m = 0 := by omega
      subst hm
      exact wp_lI (wp_rT ⟨rfl, rfl, rfl⟩)
    · obtain ⟨m', rfl⟩ : ∃ m', m = m' + 1 := ⟨m - 1, by omega⟩
      refine wp_aR (by omega) (wp_lI ?_)
      rw [show ((k : Int)).toNat = k by omega, h14 k (by omega)]
      refine wp_if (fun hh => ?_) (fun hh => ?_)
      · exact nx m' rfl (by simp [wt, hh])
      · refine wp_aR (by omega) ?_
        rw [show ((k : Int)).toNat = k by omega, h15 k (by omega)]
        refine wp_if (fun hg => ?_) (fun hg => ?_)
        · exact nx m' rfl (by simp [wt, hg])
        · have hw : wt h g k = true := by
            have : g k = 0 := Decidable.not_not.mp hg
            simp [wt, hh, this]
          refine wp_rT ⟨rfl, rfl, ?_⟩
          simp only [lfind]
          rw [hw, if_pos rfl]
          rfl
theorem s_least {N n : Nat} {V : pvM} {h g : Nat → Int} (hN : 50 ≤ N) (hn : n ≤ 40) (h14 : agn n (V 14) h) (h15 : agn n (V 15) g) : wz (q_X9_leastWaiting N n V) (fun r V' => V' = V ∧ r = lfI (lfind (wt h g) n 0)) := by
  unfold q_X9_leastWaiting
  exact wp_lI (s_least_b2 hn h14 h15 N n 0 (by omega) (by omega))
set_option maxHeartbeats 4000000 in
set_option maxRecDepth 100000 in
theorem s_meets {N n : Nat} {t : Nat} {x : Int} {V : pvM} {h : Nat → Int} (hn : n ≤ 40) (h14 : agn n (V 14) h) : wz (q_X9_meets N t x n V) (fun r V' => fr [14] V V' ∧ ((r = 1 ∧ ∃ h', men n h t x = some h' ∧ agn n (V' 14) h') ∨ (r = 0 ∧ men n h t x = none))) := by
  unfold q_X9_meets
  have e9 : ((t : Int)).toNat = t := by omega
  have fin : ∀ V2 : pvM, t < n → fr [14] V V2 → agn n (V2 14) (mt h t x) → wz (q_X9_meets_b24 N t x V2) (fun r V' => fr [14] V V' ∧ ((r = 1 ∧ ∃ h', men n h t x = some h' ∧ agn n (V' 14) h') ∨ (r = 0 ∧ men n h t x = none))) := by
    intro V2 ht hf ha
    unfold q_X9_meets_b24
    refine wp_aR (by omega) ?_
    rw [e9, ha t ht]
    refine wp_if (fun hx => ?_) (fun hx => ?_)
    · refine wp_lI (wp_bT (Or.inl rfl) (wp_rT ⟨rfl, hf, Or.inr ⟨rfl, ?_⟩⟩))
      unfold men me
      rw [if_pos ht, if_neg hx]
    · refine wp_lI (wp_bT (Or.inr rfl) (wp_rT ⟨rfl, hf, Or.inl ⟨rfl, mt h t x, ?_, ha⟩⟩))
      unfold men me
      rw [if_pos ht, if_pos (Decidable.not_not.mp hx)]
  refine wp_if (fun ht => ?_) (fun ht => ?_)
  · have ht9 : t < n := by omega
    refine wp_aR (by omega) (wp_lI ?_)
    rw [e9, h14 t ht9]
    refine wp_if (fun hh => ?_) (fun hh => ?_)
    · refine fin V ht9 (fr.refl _ _) ?_
      unfold mt
      rw [if_neg hh]
      exact h14
    · refine wp_aW (by omega) ?_
      refine fin _ ht9 (fr_u (by simp)) ?_
      unfold mt
      rw [if_pos (Decidable.not_not.mp hh), pu_row, e9]
      exact h14.up t x
  · refine wp_lI (wp_bT (Or.inl rfl) (wp_rT ⟨rfl, fr.refl _ _, Or.inr ⟨rfl, ?_⟩⟩))
    unfold men
    rw [if_neg (by omega)]
theorem men_me {n t : Nat} {h : Nat → Int} {x : Int} (ht : t < n) : men n h t x = me h t x := by unfold men; rw [if_pos ht]
theorem po_bd {V : pvM} (hP : PI V) {f k : Nat} (hb : bd V f k) : 0 ≤ cQ V f k ∧ cQ V f k ≤ 12 := by
  obtain ⟨b1, b2, b3, b4, b5, b6⟩ := hb
  have hn := hP.1
  unfold cQ po
  repeat' split
  all_goals try omega
  · rename_i h10
    have := (hP.2.1 (cA V f k).toNat (by have := b3 h10; omega)).1
    omega
  · rename_i h13
    have h9 := b4 h13
    have := (hP.2.1 (cA V f k).toNat (by omega)).1
    omega
  · rename_i h14
    have hw := hP.2.2.1 (40 * f + k)
    have e1 : cW V f k = V 10 (40 * f + k) := rfl
    have := b5 (by omega)
    omega
  · rename_i h15
    have h9 := b6 h15
    have := hP.hol (r := (cA V f k).toNat) (by omega)
    omega
set_option maxHeartbeats 4000000 in
set_option maxRecDepth 100000 in
theorem s_goesOn {N n f k : Nat} {V : pvM} {h : Nat → Int} (hP : PI V) (hf : f < 12) (hn : n ≤ 40) (hlen : V 9 f = n) (hk : k < n) (hb : bd V f k) (hh : -1 ≤ h k ∧ h k ≤ 12) (h14 : agn n (V 14) h) : wz (q_X9_goesOn N f k n V) (fun r V' => fr [14] V V' ∧ ((r = 1 ∧ ∃ h', stp (cW V f) (cA V f) (cQ V f) (cP V f) n h k = some h' ∧ agn n (V' 14) h') ∨ (r = 0 ∧ stp (cW V f) (cA V f) (cQ V f) (cP V f) n h k = none))) := by
  have hq := po_bd hP hb
  have hp := pu_nn (cW V f k)
  have hp2 := pu_le (cW V f k)
  have hw := hP.2.2.1 (40 * f + k)
  have e1 : cW V f k = V 10 (40 * f + k) := rfl
  obtain ⟨b1, b2, b3, b4, b5, b6⟩ := hb
  have hn1 := hP.1
  unfold q_X9_goesOn
  rw [cL_eq (e_wordAt hf (by omega)), cL_eq (e_firstNumberAt hf (by omega)), cL_eq (e_secondNumberAt hf (by omega))]
  refine wp_aR (by omega) ?_
  rw [show ((k : Int)).toNat = k by omega, h14 k hk, cL_eq (e_popsOf (fun h9 => by have := b3 h9; omega) (fun h9 => by have := b6 h9; have := hP.2.2.2.2.1; omega) (fun h9 => by have := b5 (by omega); omega))]
  have eq9 : po V (cW V f k) (cA V f k) (cB V f k) = cQ V f k := rfl
  have ep9 : pu (cW V f k) = cP V f k := rfl
  rw [eq9]
  refine wp_lw (by omega) ?_
  rw [cL_eq e_pushesOf, ep9]
  have hcP : 0 ≤ cP V f k ∧ cP V f k ≤ 2 := ⟨pu_nn _, pu_le _⟩
  refine wp_lw (by omega) ?_
  unfold stp
  have k120 : ∀ (V2 : pvM) (h2 : Nat → Int), fr [14] V V2 → agn n (V2 14) h2 → cW V f k ≠ 8 → wz (q_X9_goesOn_b120 N k n (cW V f k) (h k - cQ V f k + cP V f k) V2) (fun r V' => fr [14] V V' ∧ ((r = 1 ∧ ∃ h', men n h2 (k + 1) (h k - cQ V f k + cP V f k) = some h' ∧ agn n (V' 14) h') ∨ (r = 0 ∧ men n h2 (k + 1) (h k - cQ V f k + cP V f k) = none))) := by
    intro V2 h2 hf2 ha2 h8
    unfold q_X9_goesOn_b120
    refine wp_lI ?_
    rw [if_neg h8]
    refine wp_lI (wp_lw (by omega) ?_)
    rw [show (k : Int) + 1 = ((k + 1 : Nat) : Int) by omega]
    refine wp_cL (s_meets hn ha2) (fun r V3 h3 => ?_)
    obtain ⟨g1, g2⟩ := h3
    rcases g2 with ⟨rfl, g2⟩ | ⟨rfl, g2⟩
    · rw [if_neg (by decide)]
      exact wp_lI (wp_bT (Or.inr rfl) (wp_rT ⟨rfl, hf2.trans g1, Or.inl ⟨rfl, g2⟩⟩))
    · rw [if_pos rfl]
      exact wp_lI (wp_bT (Or.inl rfl) (wp_rT ⟨rfl, hf2.trans g1, Or.inr ⟨rfl, g2⟩⟩))
  have k106 : (cW V f k = 8 ∨ cW V f k = 9) → wz (q_X9_goesOn_b106 N k n (cW V f k) (cA V f k) (h k - cQ V f k + cP V f k) V) (fun r V' => fr [14] V V' ∧ ((r = 1 ∧ ∃ h', (if cW V f k = 8 then me h (cA V f k).toNat (h k - cQ V f k + cP V f k) else (me h (cA V f k).toNat (h k - cQ V f k + cP V f k)).bind (fun h1 => men n h1 (k + 1) (h k - cQ V f k + cP V f k))) = some h' ∧ agn n (V' 14) h') ∨ (r = 0 ∧ (if cW V f k = 8 then me h (cA V f k).toNat (h k - cQ V f k + cP V f k) else (me h (cA V f k).toNat (h k - cQ V f k + cP V f k)).bind (fun h1 => men n h1 (k + 1) (h k - cQ V f k + cP V f k))) = none))) := by
    intro h89
    have hb9 := b2 h89
    unfold q_X9_goesOn_b106
    have hs := s_meets (N := N) (n := n) (t := (cA V f k).toNat) (x := h k - cQ V f k + cP V f k) hn h14
    rw [show (((cA V f k).toNat : Nat) : Int) = cA V f k by omega] at hs
    refine wp_cL hs (fun r V3 h3 => ?_)
    obtain ⟨g1, g2⟩ := h3
    rw [men_me (by omega)] at g2
    rcases g2 with ⟨rfl, h1, g2, g3⟩ | ⟨rfl, g2⟩
    · rw [if_pos (by decide), g2]
      by_cases h8 : cW V f k = 8
      · rw [if_pos h8]
        unfold q_X9_goesOn_b120
        refine wp_lI ?_
        rw [if_pos h8]
        exact wp_lI (wp_bT (Or.inr rfl) (wp_rT ⟨rfl, g1, Or.inl ⟨rfl, h1, rfl, g3⟩⟩))
      · rw [if_neg h8]
        exact k120 V3 h1 g1 g3 h8
    · rw [if_neg (by decide), g2]
      refine wp_lI (wp_bT (Or.inl rfl) (wp_rT ⟨rfl, g1, Or.inr ⟨rfl, ?_⟩⟩))
      by_cases h8 : cW V f k = 8
      · rw [if_pos h8]
      · rw [if_neg h8]; rfl
  refine wp_if (fun hl => ?_) (fun hl => ?_)
  · rw [if_pos (Or.inl hl)]
    exact wp_lI (wp_bT (Or.inl rfl) (wp_rT ⟨rfl, fr.refl _ _, Or.inr ⟨rfl, rfl⟩⟩))
  · refine wp_lI ?_
    refine wp_if (fun h12 => ?_) (fun h12 => ?_)
    · rw [if_neg (by omega)]
      refine wp_lI ?_
      refine wp_if (fun h11 => ?_) (fun h11 => ?_)
      · rw [if_neg h11]
        refine wp_lI ?_
        refine wp_if (fun h8 => ?_) (fun h8 => ?_)
        · have k9 := k106 (Or.inl h8)
          rw [if_pos h8] at k9 ⊢
          exact k9
        · rw [if_neg h8]
          refine wp_lI ?_
          refine wp_if (fun h9 => ?_) (fun h9 => ?_)
          · rw [if_neg h9]
            exact k120 V h (fr.refl _ _) h14 h8
          · have h9' : cW V f k = 9 := Decidable.not_not.mp h9
            have k9 := k106 (Or.inr h9')
            rw [if_neg h8] at k9
            rw [if_pos h9']
            exact k9
      · rw [if_pos (Decidable.not_not.mp h11)]
        exact wp_lI (wp_bT (Or.inr rfl) (wp_rT ⟨rfl, fr.refl _ _, Or.inl ⟨rfl, h, rfl, h14⟩⟩))
    · rw [if_pos (Or.inr (by omega))]
      exact wp_lI (wp_bT (Or.inl rfl) (wp_rT ⟨rfl, fr.refl _ _, Or.inr ⟨rfl, rfl⟩⟩))
