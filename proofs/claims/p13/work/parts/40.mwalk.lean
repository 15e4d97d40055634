/-! THE REFERENCE'S WALK -/
def wtI (h g : Nat → Int) (j : Nat) : Int := if wt h g j = true then 1 else 0
/-- fields of the reference other than 13 stay -/
def f13 (V V' : pvM) : Prop := ∀ k, k ≠ 13 → V' 45 k = V 45 k
theorem f13.trans {V V' V'' : pvM} (h1 : f13 V V') (h2 : f13 V' V'') : f13 V V'' := fun k hk => (h2 k hk).trans (h1 k hk)
theorem f13_u {V : pvM} {x : Int} : f13 V (pz_u V 45 13 x) := fun k hk => by rw [pu_row, up_app, if_neg hk]
theorem f13_o {V : pvM} {c k : Nat} {x : Int} (hc : 45 ≠ c) : f13 V (pz_u V c k x) := fun j _ => by rw [pu_off hc]
set_option maxHeartbeats 4000000 in
set_option maxRecDepth 100000 in
theorem s_mleast_b2 {N n : Nat} {V : pvM} {h g : Nat → Int} (hn : n ≤ 40) (h54 : agn n (V 54) (wtI h g)) : ∀ (fu m k : Nat), k + m = n → m + 1 ≤ fu → wz (q_X11_least_b2 N fu n k V) (fun r V' => V' = V ∧ r = lfI (lfind (wt h g) m k)) := by
  intro fu
  induction fu with
  | zero => intro m k h1 h2; omega
  | succ fu ih =>
    intro m k h1 h2
    simp only [q_X11_least_b2]
    refine wp_if (fun hk => ?_) (fun hk => ?_)
    · have hm : m = 0 := by omega
      subst hm
      exact wp_lI (wp_rT ⟨rfl, rfl, rfl⟩)
    · obtain ⟨m', rfl⟩ : ∃ m', m = m' + 1 := ⟨m - 1, by omega⟩
      refine wp_aR (by omega) ?_
      rw [show ((k : Int)).toNat = k by omega, h54 k (by omega)]
      unfold wtI
      by_cases hw : wt h g k = true
      · rw [if_pos hw, if_neg (by decide)]
        refine wp_rT ⟨rfl, rfl, ?_⟩
        simp only [lfind]
        rw [hw, if_pos rfl]; rfl
      · rw [if_neg hw, if_pos rfl]
        refine wp_lw (by omega) ?_
        have k9 := ih m' (k + 1) (by omega) (by omega)
        simp only [lfind]
        rw [if_neg hw]
        exact k9
theorem s_mleast {N n : Nat} {V : pvM} {h g : Nat → Int} (hN : 50 ≤ N) (hn : n ≤ 40) (h54 : agn n (V 54) (wtI h g)) : wz (q_X11_least N n V) (fun r V' => V' = V ∧ r = lfI (lfind (wt h g) n 0)) := by
  unfold q_X11_least
  exact wp_lI (s_mleast_b2 hn h54 N n 0 (by omega) (by omega))
set_option maxHeartbeats 4000000 in
set_option maxRecDepth 100000 in
theorem s_mmeet {N n t : Nat} {x fm : Int} {V : pvM} {h g : Nat → Int} (hn : n ≤ 40) (ht : t < n) (hx : x ≠ -1) (h53 : agn n (V 53) h) (h54 : agn n (V 54) (wtI h g)) (hb : ∀ j, j < n → -1 ≤ h j) (hg : h t ≠ -1 ∨ g t = 0) (hw : V 45 13 = -1) : wz (q_X11_meet N t x fm V) (fun _ V' => fr [45, 53, 54] V V' ∧ f13 V V' ∧ agn n (V' 53) (mt h t x) ∧ agn n (V' 54) (wtI (mt h t x) g) ∧ V' 45 13 = (if mt h t x t = x then -1 else fm)) := by
  have e9 : ((t : Int)).toNat = t := by omega
  have hbt := hb t ht
  have fin : ∀ V2 : pvM, fr [45, 53, 54] V V2 → f13 V V2 → V2 45 13 = -1 → agn n (V2 53) (mt h t x) → agn n (V2 54) (wtI (mt h t x) g) → wz (q_X11_meet_b23 N t x fm V2) (fun _ V' => fr [45, 53, 54] V V' ∧ f13 V V' ∧ agn n (V' 53) (mt h t x) ∧ agn n (V' 54) (wtI (mt h t x) g) ∧ V' 45 13 = (if mt h t x t = x then -1 else fm)) := by
    intro V2 g1 g2 g3 g4 g5
    unfold q_X11_meet_b23
    refine wp_aR (by omega) ?_
    rw [e9, g4 t ht]
    refine wp_if (fun hx1 => ?_) (fun hx1 => ?_)
    · refine wp_gR (wp_gW (wp_rT ⟨rfl, g1.trans (fr_u (by simp)), g2.trans f13_u, by rw [pu_off (by decide)]; exact g4, by rw [pu_off (by decide)]; exact g5, ?_⟩))
      rw [pz_u_eq, g3, if_pos hx1]
    · refine wp_gR ?_
      rw [g3, if_neg (by decide)]
      refine wp_gW (wp_rT ⟨rfl, g1.trans (fr_u (by simp)), g2.trans f13_u, by rw [pu_off (by decide)]; exact g4, by rw [pu_off (by decide)]; exact g5, ?_⟩)
      rw [pz_u_eq, if_neg hx1]
  unfold q_X11_meet
  refine wp_aR (by omega) ?_
  rw [e9, h53 t ht]
  refine wp_if (fun h0 => ?_) (fun h0 => ?_)
  · have hm : mt h t x = h := by unfold mt; rw [if_neg (by omega)]
    exact fin V (fr.refl _ _) (fun _ _ => rfl) hw (by rw [hm]; exact h53) (by rw [hm]; exact h54)
  · have h1 : h t = -1 := by omega
    have hm : mt h t x = va_up h t x := by unfold mt; rw [if_pos h1]
    refine wp_aW (by omega) (wp_lI (wp_bT (Or.inr rfl) (wp_aW (by omega) ?_)))
    rw [e9]
    refine fin _ ((fr_u (by simp)).trans (fr_u (by simp))) ((f13_o (by decide)).trans (f13_o (by decide))) (by rw [pu_off (by decide), pu_off (by decide)]; exact hw) ?_ ?_
    · rw [pu_off (by decide), pu_row, hm]; exact h53.up t x
    · rw [pu_row, pu_off (by decide), hm]
      intro j hj
      rw [up_app]
      unfold wtI wt
      by_cases hjt : j = t
      · subst hjt
        rw [if_pos rfl, up_app, if_pos rfl]
        have : g j = 0 := by omega
        simp [hx, this]
      · rw [if_neg hjt, up_app, if_neg hjt]
        exact h54 j hj
/-- the two meets of a ZERO in either order -/
theorem me_comm {n k t : Nat} {h : Nat → Int} {x : Int} (hx : x ≠ -1) : (men n h (k + 1) x).bind (fun h1 => me h1 t x) = (me h t x).bind (fun h1 => men n h1 (k + 1) x) := by
  by_cases hk : k + 1 < n
  · have e1 : ∀ h1 : Nat → Int, men n h1 (k + 1) x = me h1 (k + 1) x := fun h1 => men_me hk
    simp only [e1]
    by_cases htk : t = k + 1
    · subst htk; rfl
    · have a1 : ∀ z : Nat → Int, mt z t x (k + 1) = z (k + 1) := fun z => mt_ne (fun h9 => htk h9.symm)
      have a2 : ∀ z : Nat → Int, mt z (k + 1) x t = z t := fun z => mt_ne htk
      have cm : mt (mt h (k + 1) x) t x = mt (mt h t x) (k + 1) x := by
        funext j
        by_cases j1 : j = t
        · subst j1
          rw [mt_at, a2, a2, mt_at]
        · by_cases j2 : j = k + 1
          · subst j2
            rw [mt_ne j1, mt_at, mt_at, a1]
          · rw [mt_ne j1, mt_ne j2, mt_ne j2, mt_ne j1]
      unfold me
      by_cases c1 : mt h (k + 1) x (k + 1) = x
      · rw [if_pos c1]
        by_cases c2 : mt h t x t = x
        · rw [if_pos c2]
          show (if mt (mt h (k + 1) x) t x t = x then _ else _) = (if mt (mt h t x) (k + 1) x (k + 1) = x then _ else _)
          rw [if_pos (by rw [cm, a2]; exact c2), if_pos (by rw [← cm, a1]; exact c1), cm]
        · rw [if_neg c2]
          show (if mt (mt h (k + 1) x) t x t = x then _ else _) = none
          rw [if_neg (by rw [cm, a2]; exact c2)]
      · rw [if_neg c1]
        by_cases c2 : mt h t x t = x
        · rw [if_pos c2]
          show none = (if mt (mt h t x) (k + 1) x (k + 1) = x then _ else _)
          rw [if_neg (by rw [← cm, a1]; exact c1)]
        · rw [if_neg c2]; rfl
  · have e1 : ∀ h1 : Nat → Int, men n h1 (k + 1) x = none := fun h1 => by unfold men; rw [if_neg hk]
    simp only [e1]
    cases me h t x <;> rfl
