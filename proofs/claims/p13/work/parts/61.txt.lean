/-! HOLDERS -/
def addV (V : pvM) (H : Nat) (ty : Int) (n : Nat) : pvM := va_up (pz_u (pz_u (pz_u V 35 3 ((H + 1 : Nat) : Int)) 36 H ty) 37 H n) 38 (fun k => if 3 * H ≤ k ∧ k < 3 * H + n then zV else V 38 k)
set_option maxHeartbeats 4000000 in
set_option maxRecDepth 100000 in
theorem s_hadd_b46 {N H n : Nat} {W : pvM} (hH : H < 400) (hn : n ≤ 3) : ∀ (fu m k : Nat) (V : pvM), k + m = n → m + 1 ≤ fu → V = va_up W 38 (fun j => if 3 * H ≤ j ∧ j < 3 * H + k then zV else W 38 j) → q_X2_add_b46 N fu n H k V = some (0, vO 3 H, va_up W 38 (fun j => if 3 * H ≤ j ∧ j < 3 * H + n then zV else W 38 j)) := by
  intro fu
  induction fu with
  | zero => intro m k V h1 h2; omega
  | succ fu ih =>
    intro m k V h1 h2 hV
    refine wz_to ?_
    simp only [q_X2_add_b46]
    refine wp_if (fun h9 => ?_) (fun h9 => ?_)
    · have hk : k = n := by omega
      subst hk
      refine wp_lI ?_
      rw [cL_eq e_valueOf]
      exact wp_rT ⟨rfl, rfl, hV⟩
    · refine wp_lI (wp_lw (by omega) (wp_lw (by omega) (wp_lI (wp_aW (by omega) (wp_lw (by omega) ?_)))))
      rw [show ((H : Int) * 3 + (k : Int)).toNat = 3 * H + k by omega]
      have k9 := ih (m - 1) (k + 1) (pz_u V 38 (3 * H + k) 4294967296) (by omega) (by omega) (by
        rw [hV]
        funext c j
        rw [pu_app, up_app, up_app]
        by_cases hc : c = 38
        · subst hc
          by_cases hj : j = 3 * H + k
          · rw [if_pos ⟨rfl, hj⟩, if_pos rfl, if_pos (by omega)]; rfl
          · rw [if_neg (by omega), if_pos rfl, if_pos rfl]
            by_cases h8 : 3 * H ≤ j ∧ j < 3 * H + k
            · rw [if_pos h8, if_pos (by omega)]
            · rw [if_neg h8, if_neg (by omega)]
        · rw [if_neg (by omega), if_neg hc, if_neg hc])
      rw [show (((k + 1 : Nat)) : Int) = (k : Int) + 1 by omega] at k9
      rw [k9]
      exact ⟨0, _, _, rfl, rfl, rfl, rfl⟩
set_option maxHeartbeats 4000000 in
set_option maxRecDepth 100000 in
theorem e_hadd {N H n : Nat} {ty : Int} {V : pvM} (hN : 50 ≤ N) (hH : H < 400) (hn : n ≤ 3) (h3 : V 35 3 = H) : q_X2_add N ty n V = some (0, vO 3 H, addV V H ty n) := wz_to (by
  unfold q_X2_add
  refine wp_gR (wp_lI ?_)
  rw [h3, if_pos (by omega)]
  refine wp_gR (wp_gR (wp_lI ?_))
  rw [h3]
  refine wp_lw (by omega) (wp_gW (wp_aW (by omega) (wp_aW (by omega) (wp_lI ?_))))
  rw [show ((H : Int)).toNat = H by omega, show (H : Int) + 1 = ((H + 1 : Nat) : Int) by omega]
  have k9 := s_hadd_b46 (N := N) (H := H) (n := n) (W := pz_u (pz_u (pz_u V 35 3 ((H + 1 : Nat) : Int)) 36 H ty) 37 H n) hH hn N n 0 _ (by omega) (by omega) (show pz_u (pz_u (pz_u V 35 3 ((H + 1 : Nat) : Int)) 36 H ty) 37 H n = _ by
    funext c j
    rw [up_app]
    by_cases hc : c = 38
    · subst hc; rw [if_pos rfl, if_neg (by omega)]
    · rw [if_neg hc])
  refine ⟨0, _, _, k9, rfl, rfl, ?_⟩
  unfold addV
  rw [pu_off (show (38 : Nat) ≠ 37 by decide), pu_off (show (38 : Nat) ≠ 36 by decide), pu_off (show (38 : Nat) ≠ 35 by decide)])
theorem e_typeOf {N h : Nat} {V : pvM} (hh : h < 400) : q_X2_typeOf N h V = some (0, V 36 h, V) := by unfold q_X2_typeOf; rw [e_aR (by omega)]; rfl
theorem e_sizeOf {N h : Nat} {V : pvM} (hh : h < 400) : q_X2_sizeOf N h V = some (0, V 37 h, V) := by unfold q_X2_sizeOf; rw [e_aR (by omega)]; rfl
theorem e_valueAt {N h k : Nat} {V : pvM} (hh : h < 400) (hk : k < 3) : q_X2_valueAt N h k V = some (0, V 38 (3 * h + k), V) := wz_to (by
  unfold q_X2_valueAt
  refine wp_lI (wp_lw (by omega) (wp_lw (by omega) (wp_aR (by omega) (wp_rT ⟨rfl, ?_, rfl⟩))))
  rw [show ((h : Int) * 3 + (k : Int)).toNat = 3 * h + k by omega])
theorem e_setValue {N h k : Nat} {v : Int} {V : pvM} (hh : h < 400) (hk : k < 3) : q_X2_setValue N h k v V = some (0, 0, pz_u V 38 (3 * h + k) v) := wz_to (by
  unfold q_X2_setValue
  refine wp_lI (wp_lw (by omega) (wp_lw (by omega) (wp_aW (by omega) (wp_rT ⟨rfl, rfl, ?_⟩))))
  rw [show ((h : Int) * 3 + (k : Int)).toNat = 3 * h + k by omega])
/-! TEXTS -/
def KS (V : pvM) : Prop := V 39 2 = 200 ∨ V 39 2 = 400 ∨ V 39 2 = 800 ∨ V 39 2 = 1600 ∨ V 39 2 = 3200 ∨ V 39 2 = 6400 ∨ V 39 2 = 12800 ∨ V 39 2 = 25600 ∨ V 39 2 = 51200 ∨ V 39 2 = 80000
theorem KS.kp {V : pvM} (h : KS V) : KP V := by unfold KS at h; unfold KP; omega
/-- the texts are well kept -/
def TX (V : pvM) : Prop := (0 ≤ V 39 3 ∧ V 39 3 ≤ 400) ∧ ∀ t : Nat, (t : Int) < V 39 3 → (0 ≤ V 41 t ∧ V 41 t ≤ 200) ∧ (0 ≤ V 40 t ∧ V 40 t ≤ 200 * t) ∧ V 40 t + V 41 t ≤ V 39 2
def beginV (V : pvM) (T : Nat) : pvM := pz_u (pz_u (pz_u V 40 T (if T = 0 then 0 else V 40 (T - 1) + V 41 (T - 1))) 41 T 0) 39 3 ((T + 1 : Nat) : Int)
set_option maxHeartbeats 4000000 in
set_option maxRecDepth 100000 in
theorem e_tbegin {N T : Nat} {V : pvM} (hT : T < 400) (h3 : V 39 3 = T) (hX : TX V) : q_X8_begin N V = some (0, vO 2 T, beginV V T) := wz_to (by
  have k56 : ∀ s : Int, s = (if T = 0 then 0 else V 40 (T - 1) + V 41 (T - 1)) → wz (q_X8_begin_b56 N s T V) (fun r' V' => r' = vO 2 T ∧ V' = beginV V T) := by
    intro s hs
    unfold q_X8_begin_b56
    refine wp_aW (by omega) (wp_gR (wp_lI ?_))
    rw [show ((T : Int)).toNat = T by omega, pu_off (show (39 : Nat) ≠ 40 by decide), h3]
    refine wp_aW (by omega) (wp_gR (wp_lI ?_))
    rw [show ((T : Int)).toNat = T by omega, pu_off (show (39 : Nat) ≠ 41 by decide), pu_off (show (39 : Nat) ≠ 40 by decide), h3]
    refine wp_lw (by omega) (wp_gW (wp_lI (wp_gR (wp_lI ?_))))
    rw [pz_u_eq]
    refine wp_lw (by omega) ?_
    rw [cL_eq e_valueOf]
    refine wp_rT ⟨rfl, ?_, ?_⟩
    · rw [show (T : Int) + 1 - 1 = (T : Int) by omega]
    · unfold beginV
      rw [hs, show (T : Int) + 1 = ((T + 1 : Nat) : Int) by omega]
  unfold q_X8_begin
  refine wp_gR (wp_lI ?_)
  rw [h3, if_pos (by omega)]
  refine wp_gR (wp_gR ?_)
  rw [h3]
  refine wp_if (fun h0 => ?_) (fun h0 => ?_)
  · have hx := hX.2 (T - 1) (by omega)
    refine wp_gR (wp_lI ?_)
    rw [h3]
    refine wp_lw (by omega) (wp_aR (by omega) (wp_gR (wp_lI ?_)))
    rw [h3]
    refine wp_lw (by omega) (wp_aR (by omega) ?_)
    rw [show ((T : Int) - 1).toNat = T - 1 by omega]
    refine wp_lw (by omega) ?_
    exact k56 _ (by rw [if_neg (by omega)])
  · exact wp_lI (k56 0 (by rw [if_pos (by omega)])))
/-! lengths of what is spelled -/
def ndr (m : Nat) : Nat → Nat → Nat
  | 0, k => k
  | fu + 1, k => if m < 10 ^ k then k else ndr m fu (k + 1)
def ndg (m : Nat) : Nat := ndr m 9 1
theorem ndr_b (m : Nat) : ∀ fu k, k ≤ ndr m fu k ∧ ndr m fu k ≤ k + fu
  | 0, k => ⟨Nat.le_refl _, Nat.le_refl _⟩
  | fu + 1, k => by
    simp only [ndr]
    split
    · omega
    · have := ndr_b m fu (k + 1); omega
theorem ndg_b (m : Nat) : 1 ≤ ndg m ∧ ndg m ≤ 10 := by have := ndr_b m 9 1; unfold ndg; omega
def nl (c : Int) : Nat := ndg c.natAbs + (if c < 0 then 1 else 0)
theorem nl_b (c : Int) : 1 ≤ nl c ∧ nl c ≤ 11 := by
  have := ndg_b c.natAbs
  unfold nl
  split <;> omega
def spL (V : pvM) (v : Int) : Nat := if kd v = 1 then nl (ct v) else if kd v = 2 then (V 41 (ct v).toNat).toNat else 1
/-- n characters were spelled -/
def SPn (V : pvM) (n : Nat) (V' : pvM) : Prop := fr [39, 43] V V' ∧ V' 39 = va_up (V 39) 5 (n : Int)
set_option maxHeartbeats 4000000 in
set_option maxRecDepth 100000 in
theorem s_spn_b85 {N : Nat} : ∀ (fu m s : Nat) (x : Int) (V : pvM), s + m ≤ 20 → m + 1 ≤ fu → wz (q_X8_spellNumber_b85 N fu x s ((s : Int) + m - 1) V) (fun _ V' => fr [43] V V') := by
  intro fu
  induction fu with
  | zero => intro m s x V h1 h2; omega
  | succ fu ih =>
    intro m s x V h1 h2
    simp only [q_X8_spellNumber_b85]
    refine wp_if (fun _ => wp_rT ⟨rfl, fr.refl _ _⟩) (fun h9 => ?_)
    refine wp_lI (wp_lI (wp_nZ (by decide) (wp_lI (wp_lI (wp_lI (wp_lI ?_))))))
    refine wp_aW (by omega) (wp_lI (wp_nZ (by decide) (wp_lI (wp_lw (by omega) ?_))))
    obtain ⟨m', rfl⟩ : ∃ m', m = m' + 1 := ⟨m - 1, by omega⟩
    rw [show (s : Int) + ((m' + 1 : Nat) : Int) - 1 + -1 = (s : Int) + m' - 1 by omega]
    exact wp_mono (ih m' s _ _ (by omega) (by omega)) (fun _ _ _ h => ⟨h.1, (fr_u (by simp)).trans h.2⟩)
set_option maxHeartbeats 4000000 in
set_option maxRecDepth 100000 in
theorem s_spn_b49 {N : Nat} {c x : Int} {k : Nat} {V : pvM} (hN : 50 ≤ N) (hk : k ≤ 10) : wz (q_X8_spellNumber_b49 N c x k V) (fun _ V' => SPn V (k + (if c < 0 then 1 else 0)) V') := by
  have k58 : ∀ s : Nat, s ≤ 1 → wz (q_X8_spellNumber_b58 N x k s V) (fun _ V' => SPn V (k + s) V') := by
    intro s hs
    unfold q_X8_spellNumber_b58
    refine wp_lI (wp_lI (wp_aW (by omega) (wp_lw (by omega) (wp_gW (wp_gR (wp_lI ?_))))))
    rw [pz_u_eq]
    refine wp_lw (by omega) ?_
    have k9 := s_spn_b85 (N := N) N k s x (pz_u (pz_u V 43 (0 : Int).toNat (pv_wb 45)) 39 5 ((s : Int) + k)) (by omega) (by omega)
    refine wp_mono k9 (fun _ _ V9 h => ⟨h.1, ?_, ?_⟩)
    · exact ((fr_u (by simp)).trans (fr_u (by simp))).trans (h.2.mono (by decide))
    · rw [h.2 39 (by decide), pu_row, pu_off (by decide), show (s : Int) + k = ((k + s : Nat) : Int) by omega]
  unfold q_X8_spellNumber_b49
  refine wp_if (fun h => ?_) (fun h => ?_)
  · rw [if_neg (by omega)]
    exact wp_lI (k58 0 (by omega))
  · rw [if_pos (by omega)]
    exact wp_lI (k58 1 (by omega))
theorem pv_wl_id {z : Int} (h : I64 z) : pv_wl z = z := by
  unfold pv_wl
  unfold I64 at h
  exact Int.bmod_eq_of_le (by omega) (by omega)
theorem p10 {k : Nat} (h : k ≤ 10) : 10 ^ k ≤ 10000000000 := Nat.pow_le_pow_right (n := 10) (by decide) h
set_option maxHeartbeats 4000000 in
set_option maxRecDepth 100000 in
theorem s_spn_b21 {N m : Nat} {c : Int} {V : pvM} (hN : 50 ≤ N) (hm : m ≤ 2147483648) : ∀ (fu g k : Nat), k + g = 10 → g + 1 ≤ fu → wz (q_X8_spellNumber_b21 N fu c m k ((10 ^ k : Nat) : Int) V) (fun _ V' => SPn V (ndr m g k + (if c < 0 then 1 else 0)) V') := by
  intro fu
  induction fu with
  | zero => intro g k h1 h2; omega
  | succ fu ih =>
    intro g k h1 h2
    simp only [q_X8_spellNumber_b21]
    refine wp_lI ?_
    refine wp_if (fun h9 => ?_) (fun h9 => ?_)
    · have hg : g = 0 := by omega
      subst hg
      exact s_spn_b49 hN (by omega)
    · obtain ⟨g', rfl⟩ : ∃ g', g = g' + 1 := ⟨g - 1, by omega⟩
      simp only [ndr]
      refine wp_lI ?_
      refine wp_if (fun h8 => ?_) (fun h8 => ?_)
      · rw [cmpgt] at h8
        rw [if_pos (by omega)]
        exact s_spn_b49 hN (by omega)
      · rw [cmpgt] at h8
        rw [if_neg (by omega)]
        have hp := p10 (k := k + 1) (by omega)
        have hps : 10 ^ (k + 1) = 10 ^ k * 10 := Nat.pow_succ 10 k
        refine wp_lw (by omega) (wp_lI (wp_lI ?_))
        rw [pv_wl_id (by unfold I64; omega), show (((10 ^ k : Nat)) : Int) * 10 = ((10 ^ (k + 1) : Nat) : Int) by omega]
        exact ih g' (k + 1) (by omega) (by omega)
theorem pv_neg_id {c : Int} (h : I32 c) : pv_neg c = -c := by
  unfold pv_neg
  rw [Int64.toInt_neg, pv_of64 (I32_64 h)]
  unfold I32 at h
  exact Int.bmod_eq_of_le (by omega) (by omega)
theorem s_spn {N : Nat} {c : Int} {V : pvM} (hN : 50 ≤ N) (hc : I32 c) : wz (q_X8_spellNumber N c V) (fun _ V' => SPn V (nl c) V') := by
  have hc' := hc
  unfold I32 at hc'
  have k9 := s_spn_b21 (N := N) (m := c.natAbs) (c := c) (V := V) hN (by omega) N 9 1 (by omega) (by omega)
  unfold q_X8_spellNumber
  refine wp_if (fun h => ?_) (fun h => ?_)
  · refine wp_lI ?_
    unfold q_X8_spellNumber_b12
    refine wp_lI (wp_lI ?_)
    rw [show (c.natAbs : Int) = c by omega] at k9
    exact k9
  · refine wp_lI (wp_lI ?_)
    rw [pv_neg_id hc]
    unfold q_X8_spellNumber_b12
    refine wp_lI (wp_lI ?_)
    rw [show (c.natAbs : Int) = -c by omega] at k9
    exact k9
theorem spL_b {V : pvM} {H v : Int} (hX : TX V) (hv : vok (V 39 3) H v) (hH : H ≤ 1000) : spL V v ≤ 200 := by
  have h4 := hX.1
  unfold spL
  rcases vok_cases hv (by omega) hH with h | h | h
  · rw [if_pos h.1]; have := nl_b (ct v); omega
  · rw [if_neg (by omega), if_pos h.1]; have := hX.2 (ct v).toNat (by omega); omega
  · rw [if_neg (by omega), if_neg (by omega)]; omega
set_option maxHeartbeats 4000000 in
set_option maxRecDepth 100000 in
theorem s_spell {N : Nat} {H v : Int} {V : pvM} (hN : 50 ≤ N) (hX : TX V) (hv : vok (V 39 3) H v) (hH : H ≤ 1000) : wz (q_X8_spell N v V) (fun _ V' => SPn V (spL V v) V') := by
  have h4 := hX.1
  unfold q_X8_spell
  rw [cL_eq e_kindOf, cL_eq e_contentOf]
  unfold spL
  refine wp_lI ?_
  rcases vok_cases hv (by omega) hH with h | h | h
  · rw [if_neg (by omega), if_pos h.1]
    exact wp_cL (s_spn hN h.2.1) (fun _ V1 h1 => wp_rT ⟨rfl, h1⟩)
  · rw [if_pos (by omega), if_neg (by omega), if_pos h.1]
    refine wp_lI ?_
    rw [if_neg (by omega)]
    have hx := hX.2 (ct v).toNat (by omega)
    refine wp_aR (by omega) (wp_gW (wp_aR (by omega) (wp_lI (wp_gR ?_))))
    rw [pz_u_eq, pu_off (show (40 : Nat) ≠ 39 by decide), show pz_u V 39 5 (V 41 (ct v).toNat) 39 2 = V 39 2 by rw [pu_app, if_neg (by decide)]]
    refine wp_aC (by omega) (wp_rT ⟨rfl, ?_, ?_⟩)
    · intro c hc
      rw [up_app, if_neg (fun e => hc (by simp [e])), pu_off (fun e => hc (by simp [e]))]
    · rw [up_app, if_neg (by decide), pu_row, show (((V 41 (ct v).toNat).toNat : Nat) : Int) = V 41 (ct v).toNat by omega]
  · rw [if_pos (by omega), if_neg (by omega), if_neg (by omega)]
    refine wp_lI ?_
    rw [if_pos (by omega)]
    refine wp_lI (wp_lI (wp_aW (by omega) (wp_lI (wp_gW (wp_rT ⟨rfl, ?_, ?_⟩)))))
    · exact (fr_u (by simp)).trans (fr_u (by simp))
    · rw [pu_row, pu_off (by decide)]; rfl
def f39 (is : List Nat) (V V' : pvM) : Prop := ∀ i, i ∉ is → V' 39 i = V 39 i
theorem f39.refl (is : List Nat) (V : pvM) : f39 is V V := fun _ _ => rfl
theorem f39.trans {is : List Nat} {V V' V'' : pvM} (h : f39 is V V') (h' : f39 is V' V'') : f39 is V V'' := fun i hi => (h' i hi).trans (h i hi)
theorem f39.mono {is js : List Nat} {V V' : pvM} (h : f39 is V V') (hs : ∀ i, i ∈ is → i ∈ js) : f39 js V V' := fun i hi => h i (fun h9 => hi (hs i h9))
theorem SPn.f39 {V V' : pvM} {n : Nat} (h : SPn V n V') : f39 [5] V V' := fun i hi => by
  rw [h.2, up_app, if_neg (fun e : i = 5 => hi (by simp [e]))]
/-- n characters were put behind text t, or there is no place for them -/
def APv (b : Int) (V : pvM) (t n : Nat) (r : Int) (V' : pvM) : Prop := (V 41 t + n ≤ 200 ∧ r = 1 ∧ V' 41 = va_up (V 41) t (V 41 t + n) ∧ fr [39, 41, 42, 43, 84] V V' ∧ f39 [2, 5] V V' ∧ V 39 2 ≤ V' 39 2 ∧ V 40 t + V 41 t + n ≤ V' 39 2 ∧ KS V' ∧ BG b V') ∨ (200 < V 41 t + n ∧ r = 0 ∧ fr [39, 43] V V' ∧ f39 [5] V V')
set_option maxHeartbeats 4000000 in
set_option maxRecDepth 100000 in
theorem s_appendSpelled {N t n : Nat} {b : Int} {V : pvM} (hX : TX V) (hK : KS V) (hW : RW V) (hB : BG b V) (hb : 0 ≤ b ∧ b ≤ 600) (ht : (t : Int) < V 39 3) (hs : V 39 5 = n) (hn : n ≤ 200) : wz (q_X8_appendSpelled N t V) (fun r V' => (r = 0 ∨ r = 1) ∧ APv b V t n r V') := by
  have h4 := hX.1
  obtain ⟨x1, x2, x3⟩ := hX.2 t ht
  unfold q_X8_appendSpelled
  refine wp_aR (by omega) (wp_gR ?_)
  rw [show ((t : Int)).toNat = t by omega, hs]
  refine wp_lw (by omega) (wp_lI ?_)
  refine wp_if (fun h => ?_) (fun h => ?_)
  · have k70 : ∀ V1 : pvM, V1 41 = V 41 → V1 40 = V 40 → fr [39, 42, 84] V V1 → f39 [2] V V1 → V 39 2 ≤ V1 39 2 → V 40 t + V 41 t + n ≤ V1 39 2 → KS V1 → BG b V1 → wz (q_X8_appendSpelled_b70 N t (V 40 t + V 41 t) V1) (fun r V' => (r = 0 ∨ r = 1) ∧ APv b V t n r V') := by
      intro V1 e41 e40 f1 g1 h5 h6 hK1 hB1
      have e5 : V1 39 5 = n := by rw [g1 5 (by decide)]; exact hs
      have hkp := hK1.kp
      unfold KP at hkp
      unfold q_X8_appendSpelled_b70
      refine wp_lI (wp_gR ?_)
      rw [e5]
      refine wp_aC (by omega) (wp_aR (by omega) (wp_gR ?_))
      obtain ⟨V2, hV2⟩ : ∃ V2, V2 = va_up V1 42 (va_cpy (V1 43) (V1 42) (0 : Int).toNat (V 40 t + V 41 t).toNat ((n : Int)).toNat) := ⟨_, rfl⟩
      rw [← hV2]
      have f2 : fr [42] V1 V2 := by
        rw [hV2]; intro c hc
        rw [up_app, if_neg (fun e => hc (by simp [e]))]
      rw [show ((t : Int)).toNat = t by omega, f2 41 (by decide), f2 39 (by decide), e41, e5]
      refine wp_lw (by omega) (wp_aW (by omega) (wp_lI (wp_bT (Or.inr rfl) (wp_rT ⟨rfl, Or.inr rfl, Or.inl ⟨h, rfl, ?_, ?_, ?_, ?_, ?_, ?_, ?_⟩⟩))))
      · rw [show ((t : Int)).toNat = t by omega, pu_row, f2 41 (by decide), e41]
      · exact ((f1.mono (by decide)).trans (f2.mono (by decide))).trans (fr_u (by decide))
      · intro i hi
        rw [pu_off (by decide), f2 39 (by decide)]
        exact g1 i (fun h9 => hi (by simp at h9; simp [h9]))
      · rw [pu_off (by decide), f2 39 (by decide)]; exact h5
      · rw [pu_off (by decide), f2 39 (by decide)]; exact h6
      · unfold KS at hK1 ⊢
        rw [pu_off (by decide), f2 39 (by decide)]; exact hK1
      · refine bg_u hB1 ?_ ?_ ?_
        · rw [pu_off (by decide), f2 17 (by decide)]
        · rw [pu_off (by decide), f2 39 (by decide)]
        · rw [pu_off (by decide), f2 84 (by decide)]
    refine wp_aR (by omega) (wp_aR (by omega) ?_)
    rw [show ((t : Int)).toNat = t by omega]
    refine wp_lw (by omega) (wp_gR ?_)
    rw [hs]
    refine wp_lw (by omega) (wp_gR ?_)
    refine wp_if (fun h9 => ?_) (fun h9 => ?_)
    · exact k70 V rfl rfl (fr.refl _ _) (f39.refl _ _) (by omega) h9 hK hB
    · have hcap := hW.1
      unfold capS at hcap
      have hkn : V 39 2 < 80000 ∧ pv_kn V = (if 80000 < 2 * V 39 2 then 80000 else 2 * V 39 2) := ⟨by omega, rfl⟩
      have hkk : V 39 2 + 200 ≤ pv_kn V ∧ pv_kn V ≤ 3 * (pv_kn V - V 39 2) ∧ pv_kn V ≤ 80000 := by
        rw [hkn.2]; unfold KS at hK; split <;> omega
      have hg : gK V (fun V => q_X8_appendSpelled_b70 N t (V 40 t + V 41 t) V) = q_X8_appendSpelled_b70 N t (pv_growK V 40 t + pv_growK V 41 t) (pv_growK V) := by
        unfold gK
        unfold BG at hB
        have e1 : (pv_LC : Int) = 8000 := rfl
        have e2 : (pv_LS : Int) = 1000000 := rfl
        rw [if_pos (by unfold KS at hK; omega)]
      have e40 : pv_growK V 40 = V 40 := by funext k; unfold pv_growK; rw [if_neg (by omega), if_neg (by omega), if_neg (by omega), if_neg (by omega)]
      have e41 : pv_growK V 41 = V 41 := by funext k; unfold pv_growK; rw [if_neg (by omega), if_neg (by omega), if_neg (by omega), if_neg (by omega)]
      have e17 : pv_growK V 17 = V 17 := by funext k; unfold pv_growK; rw [if_neg (by omega), if_neg (by omega), if_neg (by omega), if_neg (by omega)]
      have e392 : pv_growK V 39 2 = pv_kn V := by unfold pv_growK; rw [if_pos ⟨rfl, rfl⟩]
      have e840 : pv_growK V 84 0 = V 84 0 + 1 := by unfold pv_growK; rw [if_neg (by omega), if_neg (by omega), if_pos ⟨rfl, rfl⟩]
      have e841 : pv_growK V 84 1 = V 84 1 + pv_kn V := by unfold pv_growK; rw [if_neg (by omega), if_neg (by omega), if_neg (by omega), if_pos ⟨rfl, rfl⟩]
      have hgo : gK V (fun V1 => q_X8_appendSpelled_b70 N t (V 40 t + V 41 t) V1) = q_X8_appendSpelled_b70 N t (V 40 t + V 41 t) (pv_growK V) := by
        unfold gK
        unfold BG at hB
        have e1 : (pv_LC : Int) = 8000 := rfl
        have e2 : (pv_LS : Int) = 1000000 := rfl
        rw [if_pos (by unfold KS at hK; omega)]
      rw [hgo]
      refine k70 (pv_growK V) e41 e40 (fun c hc => ?_) (fun i hi => ?_) (by rw [e392]; omega) (by rw [e392]; omega) ?_ ?_
      · funext k
        simp at hc
        unfold pv_growK
        rw [if_neg (by omega), if_neg (by omega), if_neg (by omega), if_neg (by omega)]
      · simp at hi
        unfold pv_growK
        rw [if_neg (by omega), if_neg (by omega), if_neg (by omega), if_neg (by omega)]
      · unfold KS at hK ⊢
        rw [e392, hkn.2]
        split <;> omega
      · unfold BG at hB ⊢
        rw [e17, e392, e840, e841]
        omega
  · exact wp_lI (wp_bT (Or.inl rfl) (wp_rT ⟨rfl, Or.inl rfl, Or.inr ⟨by omega, rfl, fr.refl _ _, f39.refl _ _⟩⟩))
theorem TX.sp {V V' : pvM} {n : Nat} (h : TX V) (hs : SPn V n V') : TX V' := by
  have g := hs.f39
  unfold TX at h ⊢
  rw [g 3 (by decide), g 2 (by decide), hs.1 41 (by decide), hs.1 40 (by decide)]; exact h
theorem KS.sp {V V' : pvM} {n : Nat} (h : KS V) (hs : SPn V n V') : KS V' := by
  have g := hs.f39
  unfold KS at h ⊢
  rw [g 2 (by decide)]; exact h
theorem BG_sp {b : Int} {V V' : pvM} (h : BG b V) (hf : fr [39, 43] V V') (g : f39 [5] V V') : BG b V' := by
  unfold BG at h ⊢
  rw [hf 84 (by decide), hf 17 (by decide), g 2 (by decide)]; exact h
theorem APv.pre {b : Int} {V V1 V' : pvM} {t n : Nat} {r : Int} (hs : SPn V n V1) (h : APv b V1 t n r V') : APv b V t n r V' := by
  have g := hs.f39
  unfold APv at h ⊢
  rw [hs.1 41 (by decide), hs.1 40 (by decide), g 2 (by decide)] at h
  rcases h with ⟨a1, a2, a3, a4, a5, a6, a7, a8, a9⟩ | ⟨a1, a2, a3, a4⟩
  · exact Or.inl ⟨a1, a2, a3, (hs.1.mono (by decide)).trans a4, (g.mono (by decide)).trans a5, a6, a7, a8, a9⟩
  · exact Or.inr ⟨a1, a2, hs.1.trans a3, g.trans a4⟩
set_option maxHeartbeats 4000000 in
set_option maxRecDepth 100000 in
theorem s_appendValue {N t : Nat} {b H v : Int} {V : pvM} (hN : 50 ≤ N) (hX : TX V) (hK : KS V) (hW : RW V) (hB : BG b V) (hb : 0 ≤ b ∧ b ≤ 600) (ht : (t : Int) < V 39 3) (hv : vok (V 39 3) H v) (hH : H ≤ 1000) : wz (q_X8_appendValue N t v V) (fun r V' => (r = 0 ∨ r = 1) ∧ APv b V t (spL V v) r V') := by
  unfold q_X8_appendValue
  refine wp_cL (s_spell hN hX hv hH) (fun _ V1 h1 => ?_)
  have g := h1.f39
  refine wp_cL (s_appendSpelled (N := N) (t := t) (n := spL V v) (hX.sp h1) (hK.sp h1) (rw_u hW (h1.1 17 (by decide))) (BG_sp hB h1.1 g) hb (by rw [g 3 (by decide)]; exact ht) (by rw [h1.2, up_app, if_pos rfl]) (spL_b hX hv hH)) (fun r V2 h2 => ?_)
  exact wp_bT h2.1 (wp_rT ⟨rfl, h2.1, APv.pre h1 h2.2⟩)
set_option maxHeartbeats 4000000 in
set_option maxRecDepth 100000 in
theorem s_appendLetter {N t : Nat} {b l : Int} {V : pvM} (hX : TX V) (hK : KS V) (hW : RW V) (hB : BG b V) (hb : 0 ≤ b ∧ b ≤ 600) (ht : (t : Int) < V 39 3) : wz (q_X8_appendLetter N t l V) (fun r V' => (r = 0 ∨ r = 1) ∧ APv b V t 1 r V') := by
  unfold q_X8_appendLetter
  refine wp_lI (wp_lI (wp_lI (wp_lI (wp_aW (by omega) (wp_lI (wp_gW ?_))))))
  obtain ⟨V1, hV1⟩ : ∃ V1, V1 = pz_u (pz_u V 43 (0 : Int).toNat (pv_wb (pv_wb (pv_w (97 + l))))) 39 5 1 := ⟨_, rfl⟩
  rw [← hV1]
  have h1 : SPn V 1 V1 := by
    refine ⟨by rw [hV1]; exact (fr_u (by simp)).trans (fr_u (by simp)), ?_⟩
    rw [hV1, pu_row, pu_off (by decide)]; rfl
  have g := h1.f39
  refine wp_cL (s_appendSpelled (N := N) (t := t) (n := 1) (hX.sp h1) (hK.sp h1) (rw_u hW (h1.1 17 (by decide))) (BG_sp hB h1.1 g) hb (by rw [g 3 (by decide)]; exact ht) (by rw [h1.2, up_app, if_pos rfl]) (by omega)) (fun r V2 h2 => ?_)
  exact wp_bT h2.1 (wp_rT ⟨rfl, h2.1, APv.pre h1 h2.2⟩)
def SYv (V : pvM) (n : Nat) (r : Int) (V' : pvM) : Prop := (V 39 7 + n ≤ 200 ∧ r = 1 ∧ V' 39 7 = V 39 7 + n ∧ fr [39, 43, 44] V V' ∧ f39 [5, 7] V V') ∨ (200 < V 39 7 + n ∧ r = 0 ∧ fr [39, 43, 44] V V' ∧ f39 [5] V V')
set_option maxHeartbeats 4000000 in
set_option maxRecDepth 100000 in
theorem s_sayValue {N : Nat} {H v : Int} {V : pvM} (hN : 50 ≤ N) (hX : TX V) (hv : vok (V 39 3) H v) (hH : H ≤ 1000) (h7 : 0 ≤ V 39 7 ∧ V 39 7 ≤ 200) : wz (q_X8_sayValue N v V) (fun r V' => SYv V (spL V v) r V') := by
  have hsb := spL_b hX hv hH
  unfold q_X8_sayValue
  refine wp_cL (s_spell hN hX hv hH) (fun _ V1 h1 => ?_)
  have g := h1.f39
  have e5 : V1 39 5 = (spL V v : Int) := by rw [h1.2, up_app, if_pos rfl]
  have e7 : V1 39 7 = V 39 7 := g 7 (by decide)
  refine wp_gR (wp_gR ?_)
  rw [e5, e7]
  refine wp_lw (by omega) (wp_lI ?_)
  refine wp_if (fun h => ?_) (fun h => ?_)
  · refine wp_lI (wp_gR (wp_gR ?_))
    rw [e5, e7]
    refine wp_aC (by omega) (wp_gR (wp_gR ?_))
    rw [up_app, if_neg (by decide), e5, e7]
    refine wp_lw (by omega) (wp_gW (wp_lI (wp_bT (Or.inr rfl) (wp_rT ⟨rfl, Or.inl ⟨h, rfl, ?_, ?_, ?_⟩⟩))))
    · rw [pz_u_eq]
    · refine (h1.1.mono (by decide)).trans (fun c hc => ?_)
      rw [pu_off (fun e => hc (by simp [e])), up_app, if_neg (fun e => hc (by simp [e]))]
    · refine (g.mono (by decide)).trans (fun i hi => ?_)
      rw [pu_row, up_app, if_neg (fun e => hi (by simp [e])), up_app, if_neg (by decide)]
  · exact wp_lI (wp_bT (Or.inl rfl) (wp_rT ⟨rfl, Or.inr ⟨by omega, rfl, h1.1.mono (by decide), g⟩⟩))
