/-! VALUES -/
def vO (k c : Int) : Int := pv_orl (pv_shl k 32) (pv_andl c 4294967295)
def zV : Int := 4294967296
theorem e_valueOf {N : Nat} {k c : Int} {V : pvM} : q_X10_valueOf N k c V = some (0, vO k c, V) := rfl
theorem pv_and32 {v : Int} (hv : I64 v) : pv_andl v 4294967295 = v % 4294967296 := by
  have key : ∀ x : Int64, (x &&& (Int64.ofInt 4294967295)).toInt = x.toInt % 4294967296 := by
    intro x
    have e1 : (x &&& (Int64.ofInt 4294967295)).toBitVec.toNat = x.toBitVec.toNat % 4294967296 := by
      show (x.toBitVec &&& (Int64.ofInt 4294967295).toBitVec).toNat = _
      rw [BitVec.toNat_and]
      exact Nat.and_two_pow_sub_one_eq_mod _ 32
    have e2 : (x &&& (Int64.ofInt 4294967295)).toInt = ((x &&& (Int64.ofInt 4294967295)).toBitVec.toNat : Int) := by
      show (x &&& (Int64.ofInt 4294967295)).toBitVec.toInt = _
      rw [BitVec.toInt_eq_toNat_of_lt]
      rw [e1]; omega
    rw [e2, e1]
    have e3 : x.toInt = if 2 * x.toBitVec.toNat < 2 ^ 64 then (x.toBitVec.toNat : Int) else (x.toBitVec.toNat : Int) - ((2 ^ 64 : Nat) : Int) := BitVec.toInt_eq_toNat_cond x.toBitVec
    rw [e3]
    split <;> omega
  unfold pv_andl
  rw [key, pv_of64 hv]
theorem of64_nat {n : Nat} (hn : n < 9223372036854775808) : (Int64.ofInt (n : Int)).toBitVec.toNat = n := by
  show (BitVec.ofInt 64 (n : Int)).toNat = n
  rw [BitVec.toNat_ofInt]
  omega
theorem pv_or32 {k m : Nat} (hk : k < 8) (hm : m < 4294967296) : pv_orl ((k : Int) * 4294967296) m = (k : Int) * 4294967296 + m := by
  have e0 : ((k : Int) * 4294967296) = ((4294967296 * k : Nat) : Int) := by omega
  rw [e0]
  unfold pv_orl
  have e1 : (Int64.ofInt ((4294967296 * k : Nat) : Int) ||| Int64.ofInt (m : Int)).toBitVec.toNat = 4294967296 * k + m := by
    show ((Int64.ofInt ((4294967296 * k : Nat) : Int)).toBitVec ||| (Int64.ofInt (m : Int)).toBitVec).toNat = _
    rw [BitVec.toNat_or, of64_nat (by omega), of64_nat (by omega)]
    exact (Nat.two_pow_add_eq_or_of_lt (i := 32) hm k).symm
  show (Int64.ofInt ((4294967296 * k : Nat) : Int) ||| Int64.ofInt (m : Int)).toBitVec.toInt = _
  rw [BitVec.toInt_eq_toNat_of_lt (by rw [e1]; omega), e1]
  omega
theorem I32_64 {c : Int} (h : I32 c) : I64 c := by unfold I32 at h; unfold I64; omega
theorem vO_eq {k : Nat} {c : Int} (hk : k = 1 ∨ k = 2 ∨ k = 3) (hc : I32 c) : vO k c = (k : Int) * 4294967296 + c % 4294967296 := by
  unfold vO
  rw [pv_and32 (I32_64 hc)]
  have e : pv_shl (k : Int) 32 = (k : Int) * 4294967296 := by rcases hk with rfl | rfl | rfl <;> decide
  rw [e, show c % 4294967296 = (((c % 4294967296).toNat : Nat) : Int) by omega]
  exact pv_or32 (by omega) (by omega)
theorem w_mod (k c : Int) (hc : I32 c) : pv_w (k * 4294967296 + c % 4294967296) = c := by
  have e : pv_w (k * 4294967296 + c % 4294967296) = pv_w c := by
    unfold pv_w
    rw [show k * 4294967296 + c % 4294967296 = c + (k - c / 4294967296) * 4294967296 by omega]
    exact Int.add_mul_bmod_self_right c (k - c / 4294967296) (2 ^ 32)
  rw [e]
  exact pv_w_id hc
theorem kd_vO {k : Nat} {c : Int} (hk : k = 1 ∨ k = 2 ∨ k = 3) (hc : I32 c) : kd (vO k c) = k := by
  unfold kd
  have e := pv_shr_n (v := (k : Int) * 4294967296 + c % 4294967296) (j := 32) (by unfold I64; unfold I32 at hc; omega) (by decide)
  rw [show ((32 : Nat) : Int) = 32 from rfl] at e
  rw [vO_eq hk hc, e]
  rw [show ((k : Int) * 4294967296 + c % 4294967296) / 2 ^ 32 = (k : Int) by omega]
  exact pv_w_id (by omega)
theorem ct_vO {k : Nat} {c : Int} (hk : k = 1 ∨ k = 2 ∨ k = 3) (hc : I32 c) : ct (vO k c) = c := by
  unfold ct
  rw [vO_eq hk hc]
  exact w_mod _ _ hc
theorem vO_zero : vO 1 0 = zV := by decide
theorem kd_z : kd zV = 1 := by decide
theorem ct_z : ct zV = 0 := by decide
/-- a value that says what it is; T texts, H function values -/
def vok (T H v : Int) : Prop := (∃ c, I32 c ∧ v = vO 1 c) ∨ (∃ c, (0 ≤ c ∧ c < T) ∧ v = vO 2 c) ∨ (∃ c, (0 ≤ c ∧ c < H) ∧ v = vO 3 c)
theorem vok.mono {T H T' H' v : Int} (h : vok T H v) (hT : T ≤ T') (hH : H ≤ H') : vok T' H' v := by
  rcases h with h | ⟨c, h1, h2⟩ | ⟨c, h1, h2⟩
  · exact Or.inl h
  · exact Or.inr (Or.inl ⟨c, by omega, h2⟩)
  · exact Or.inr (Or.inr ⟨c, by omega, h2⟩)
theorem vok_z (T H : Int) : vok T H zV := Or.inl ⟨0, by unfold I32; omega, vO_zero.symm⟩
theorem vok_n {T H c : Int} (h : I32 c) : vok T H (vO 1 c) := Or.inl ⟨c, h, rfl⟩
theorem k1 {c : Int} (hc : I32 c) : kd (vO 1 c) = 1 ∧ ct (vO 1 c) = c := ⟨kd_vO (k := 1) (Or.inl rfl) hc, ct_vO (k := 1) (Or.inl rfl) hc⟩
theorem k2 {c : Int} (hc : I32 c) : kd (vO 2 c) = 2 ∧ ct (vO 2 c) = c := ⟨kd_vO (k := 2) (Or.inr (Or.inl rfl)) hc, ct_vO (k := 2) (Or.inr (Or.inl rfl)) hc⟩
theorem k3 {c : Int} (hc : I32 c) : kd (vO 3 c) = 3 ∧ ct (vO 3 c) = c := ⟨kd_vO (k := 3) (Or.inr (Or.inr rfl)) hc, ct_vO (k := 3) (Or.inr (Or.inr rfl)) hc⟩
theorem vok_cases {T H v : Int} (h : vok T H v) (hT : T ≤ 1000) (hH : H ≤ 1000) : (kd v = 1 ∧ I32 (ct v) ∧ v = vO 1 (ct v)) ∨ (kd v = 2 ∧ (0 ≤ ct v ∧ ct v < T) ∧ v = vO 2 (ct v)) ∨ (kd v = 3 ∧ (0 ≤ ct v ∧ ct v < H) ∧ v = vO 3 (ct v)) := by
  rcases h with ⟨c, h1, rfl⟩ | ⟨c, h1, rfl⟩ | ⟨c, h1, rfl⟩
  · have h := k1 h1
    rw [h.1, h.2]; exact Or.inl ⟨rfl, h1, rfl⟩
  · have h := k2 (c := c) (by unfold I32; omega)
    rw [h.1, h.2]; exact Or.inr (Or.inl ⟨rfl, h1, rfl⟩)
  · have h := k3 (c := c) (by unfold I32; omega)
    rw [h.1, h.2]; exact Or.inr (Or.inr ⟨rfl, h1, rfl⟩)
/-! FRAMES -/
def tp (V : pvM) (d h : Nat) : Prop := V 29 6 = d ∧ d < 60 ∧ V 33 d = ((33 * d + 20 + h : Nat) : Int) ∧ h ≤ 13
def pushV (V : pvM) (d h : Nat) (v : Int) : pvM := pz_u (pz_u V 30 (33 * d + 20 + h) v) 33 d ((33 * d + 20 + (h + 1) : Nat) : Int)
def popV (V : pvM) (d h : Nat) : pvM := pz_u V 33 d ((33 * d + 20 + h : Nat) : Int)
set_option maxHeartbeats 4000000 in
set_option maxRecDepth 100000 in
theorem e_push {N d h : Nat} {v : Int} {V : pvM} (ht : tp V d h) (hh : h < 13) : q_X1_push N v V = some (0, 0, pushV V d h v) := wz_to (by
  obtain ⟨t1, t2, t3, t4⟩ := ht
  unfold q_X1_push
  refine wp_gR ?_
  rw [t1]
  refine wp_aR (by omega) ?_
  rw [show ((d : Int)).toNat = d by omega, t3]
  refine wp_gR (wp_lI ?_)
  rw [t1]
  refine wp_lw (by omega) (wp_lI (wp_lw (by omega) ?_))
  rw [if_neg (by omega)]
  refine wp_gR ?_
  rw [t1]
  refine wp_aR (by omega) ?_
  rw [show ((d : Int)).toNat = d by omega, t3]
  refine wp_aW (by omega) (wp_gR ?_)
  rw [show (((33 * d + 20 + h : Nat)) : Int).toNat = 33 * d + 20 + h by omega, pu_off (show (29 : Nat) ≠ 30 by decide), t1]
  refine wp_aR (by omega) (wp_lI ?_)
  rw [show ((d : Int)).toNat = d by omega, pu_off (show (33 : Nat) ≠ 30 by decide), t3]
  refine wp_lw (by omega) (wp_aW (by omega) (wp_rT ⟨rfl, rfl, ?_⟩))
  unfold pushV
  rw [show ((d : Int)).toNat = d by omega, show (((33 * d + 20 + h : Nat)) : Int) + 1 = ((33 * d + 20 + (h + 1) : Nat) : Int) by omega])
set_option maxHeartbeats 4000000 in
set_option maxRecDepth 100000 in
theorem e_pop {N d h : Nat} {V : pvM} (ht : tp V d (h + 1)) : q_X1_pop N V = some (0, V 30 (33 * d + 20 + h), popV V d h) := wz_to (by
  obtain ⟨t1, t2, t3, t4⟩ := ht
  unfold q_X1_pop
  refine wp_gR ?_
  rw [t1]
  refine wp_aR (by omega) ?_
  rw [show ((d : Int)).toNat = d by omega, t3]
  refine wp_gR (wp_lI ?_)
  rw [t1]
  refine wp_lw (by omega) (wp_lI (wp_lw (by omega) ?_))
  rw [if_pos (by omega)]
  refine wp_gR ?_
  rw [t1]
  refine wp_aR (by omega) (wp_lI ?_)
  rw [show ((d : Int)).toNat = d by omega, t3]
  refine wp_lw (by omega) (wp_aW (by omega) (wp_gR ?_))
  rw [pu_off (show (29 : Nat) ≠ 33 by decide), t1]
  refine wp_aR (by omega) ?_
  rw [show ((d : Int)).toNat = d by omega, pz_u_eq]
  refine wp_aR (by omega) (wp_rT ⟨rfl, ?_, ?_⟩)
  · rw [pu_off (show (30 : Nat) ≠ 33 by decide), show ((((33 * d + 20 + (h + 1) : Nat)) : Int) - 1).toNat = 33 * d + 20 + h by omega]
  · unfold popV
    rw [show (((33 * d + 20 + (h + 1) : Nat)) : Int) - 1 = ((33 * d + 20 + h : Nat) : Int) by omega])
theorem tp_push {V : pvM} {d h : Nat} {v : Int} (ht : tp V d h) (hh : h < 13) : tp (pushV V d h v) d (h + 1) := by
  obtain ⟨t1, t2, t3, t4⟩ := ht
  refine ⟨?_, t2, ?_, by omega⟩
  · unfold pushV; rw [pu_off (by decide), pu_off (by decide)]; exact t1
  · unfold pushV; rw [pz_u_eq]
theorem tp_pop {V : pvM} {d h : Nat} (ht : tp V d (h + 1)) : tp (popV V d h) d h := by
  obtain ⟨t1, t2, t3, t4⟩ := ht
  refine ⟨?_, t2, ?_, by omega⟩
  · unfold popV; rw [pu_off (by decide)]; exact t1
  · unfold popV; rw [pz_u_eq]
/-- n values taken, h are left -/
def takeV (V : pvM) (d h n : Nat) : pvM := va_up (pz_u V 33 d ((33 * d + 20 + h : Nat) : Int)) 34 (fun k => if k < n then V 30 (33 * d + 20 + h + k) else V 34 k)
theorem takeV_0 {V : pvM} {d h : Nat} (ht : tp V d h) : takeV V d h 0 = V := by
  unfold takeV
  rw [← ht.2.2.1]
  funext c k
  rw [up_app]
  by_cases h34 : c = 34
  · subst h34; rw [if_pos rfl, if_neg (by omega)]
  · rw [if_neg h34, pu_app]
    split
    · rename_i h9; rw [h9.1, h9.2]
    · rfl
set_option maxHeartbeats 4000000 in
set_option maxRecDepth 100000 in
theorem s_take_b4 {N d h : Nat} : ∀ (fu m : Nat) (V : pvM), m + 1 ≤ fu → m ≤ 12 → tp V d (h + m) → q_X1_take_b4 N fu ((m : Int) - 1) V = some (0, 0, takeV V d h m) := by
  intro fu
  induction fu with
  | zero => intro m V h1; omega
  | succ fu ih =>
    intro m V h1 h12 ht
    refine wz_to ?_
    simp only [q_X1_take_b4]
    refine wp_if (fun h9 => ?_) (fun h9 => ?_)
    · have hm : m = 0 := by omega
      subst hm
      exact wp_rT ⟨rfl, rfl, (takeV_0 ht).symm⟩
    · obtain ⟨m', rfl⟩ : ∃ m', m = m' + 1 := ⟨m - 1, by omega⟩
      rw [cL_eq (e_pop (h := h + m') ht)]
      refine wp_aW (by omega) (wp_lw (by omega) ?_)
      rw [show (((m' + 1 : Nat) : Int) - 1).toNat = m' by omega, show ((m' + 1 : Nat) : Int) - 1 + -1 = (m' : Int) - 1 by omega]
      have ht2 : tp (pz_u (popV V d (h + m')) 34 m' (V 30 (33 * d + 20 + (h + m')))) d (h + m') := by
        have h8 := tp_pop (h := h + m') ht
        unfold tp at h8 ⊢
        rw [pu_off (by decide), pu_off (by decide)]; exact h8
      rw [ih m' _ (by omega) (by omega) ht2]
      refine ⟨0, 0, _, rfl, rfl, rfl, ?_⟩
      unfold takeV popV
      funext c k
      simp only [up_app, pu_app]
      by_cases h34 : c = 34
      · subst h34
        by_cases hk : k < m'
        · simp [hk, Nat.lt_succ_of_lt hk]
        · by_cases hk2 : k = m'
          · subst hk2; simp; rw [show 33 * d + 20 + (h + k) = 33 * d + 20 + h + k by omega]
          · have : ¬ k < m' + 1 := by omega
            simp [hk, hk2, this]
      · simp [h34]
        simp only [pu_app]
        by_cases h33 : c = 33 ∧ k = d
        · rw [if_pos h33, if_pos h33]
        · rw [if_neg h33, if_neg (fun h => h34 h.1), if_neg h33, if_neg h33]
theorem e_take {N d h n : Nat} {V : pvM} (hN : 50 ≤ N) (hn : n ≤ 12) (ht : tp V d (h + n)) : q_X1_take N n V = some (0, 0, takeV V d h n) := by
  have h1 := s_take_b4 (N := N) (d := d) (h := h) N n V (by omega) hn ht
  refine wz_to ?_
  unfold q_X1_take
  refine wp_lI (wp_lw (by omega) ?_)
  rw [h1]
  exact ⟨0, 0, _, rfl, rfl, rfl, rfl⟩
theorem tp_take {V : pvM} {d h n : Nat} (ht : tp V d (h + n)) : tp (takeV V d h n) d h := by
  obtain ⟨t1, t2, t3, t4⟩ := ht
  refine ⟨?_, t2, ?_, by omega⟩
  · unfold takeV; rw [up_app, if_neg (by decide), pu_off (by decide)]; exact t1
  · unfold takeV; rw [up_app, if_neg (by decide), pz_u_eq]
theorem takeV_34 {V : pvM} {d h n k : Nat} (hk : k < n) : takeV V d h n 34 k = V 30 (33 * d + 20 + h + k) := by
  unfold takeV; rw [up_app, if_pos rfl, if_pos hk]
theorem e_takenAt {N k : Nat} {V : pvM} (hk : k < 12) : q_X1_takenAt N k V = some (0, V 34 k, V) := by
  unfold q_X1_takenAt; rw [e_aR (by omega)]; rfl
theorem e_local {N d k : Nat} {V : pvM} (hd : V 29 6 = d) (hd6 : d < 60) (hk : k < 20) : q_X1_local N k V = some (0, V 30 (33 * d + k), V) := wz_to (by
  unfold q_X1_local
  refine wp_gR (wp_lI ?_)
  rw [hd]
  refine wp_lw (by omega) (wp_lw (by omega) (wp_aR (by omega) (wp_rT ⟨rfl, ?_, rfl⟩)))
  rw [show ((d : Int) * 33 + (k : Int)).toNat = 33 * d + k by omega])
theorem e_setLocal {N d k : Nat} {v : Int} {V : pvM} (hd : V 29 6 = d) (hd6 : d < 60) (hk : k < 20) : q_X1_setLocal N k v V = some (0, 0, pz_u V 30 (33 * d + k) v) := wz_to (by
  unfold q_X1_setLocal
  refine wp_gR (wp_lI ?_)
  rw [hd]
  refine wp_lw (by omega) (wp_lw (by omega) (wp_aW (by omega) (wp_rT ⟨rfl, rfl, ?_⟩)))
  rw [show ((d : Int) * 33 + (k : Int)).toNat = 33 * d + k by omega])
theorem e_goTo {N d : Nat} {p : Int} {V : pvM} (hd : V 29 6 = d) (hd6 : d < 60) : q_X1_goTo N p V = some (0, 0, pz_u V 32 d p) := wz_to (by
  unfold q_X1_goTo
  refine wp_gR ?_
  rw [hd]
  refine wp_aW (by omega) (wp_rT ⟨rfl, rfl, ?_⟩)
  rw [show ((d : Int)).toNat = d by omega])
theorem e_unit {N d : Nat} {V : pvM} (hd : V 29 6 = d) (hd6 : d < 60) : q_X1_unit N V = some (0, V 31 d, V) := wz_to (by
  unfold q_X1_unit
  refine wp_gR ?_
  rw [hd]
  refine wp_aR (by omega) (wp_rT ⟨rfl, ?_, rfl⟩)
  rw [show ((d : Int)).toNat = d by omega])
theorem e_place {N d : Nat} {V : pvM} (hd : V 29 6 = d) (hd6 : d < 60) : q_X1_place N V = some (0, V 32 d, V) := wz_to (by
  unfold q_X1_place
  refine wp_gR ?_
  rw [hd]
  refine wp_aR (by omega) (wp_rT ⟨rfl, ?_, rfl⟩)
  rw [show ((d : Int)).toNat = d by omega])
theorem e_areOpen {N : Nat} {V : pvM} : q_X1_areOpen N V = some (0, (if 0 < V 29 5 then 1 else 0), V) := wz_to (by
  unfold q_X1_areOpen
  refine wp_gR ?_
  refine wp_if (fun h => ?_) (fun h => ?_)
  · exact wp_lI (wp_bT (Or.inl rfl) (wp_rT ⟨rfl, by rw [if_neg (by omega)], rfl⟩))
  · exact wp_lI (wp_bT (Or.inr rfl) (wp_rT ⟨rfl, by rw [if_pos (by omega)], rfl⟩)))
/-- a frame is opened on top of D -/
def openV (V : pvM) (D : Nat) (u : Int) : pvM := pz_u (va_up (pz_u (pz_u (pz_u (pz_u V 29 6 D) 29 5 ((D + 1 : Nat) : Int)) 31 D u) 32 D 0) 30 (fun k => if 33 * D ≤ k ∧ k < 33 * D + 20 then zV else V 30 k)) 33 D ((33 * D + 20 : Nat) : Int)
set_option maxHeartbeats 4000000 in
set_option maxRecDepth 100000 in
theorem s_open_b57 {N D : Nat} {W : pvM} (hD : D < 60) : ∀ (fu m k : Nat) (V : pvM), k + m = 20 → m + 1 ≤ fu → V 29 6 = D → V = va_up W 30 (fun j => if 33 * D ≤ j ∧ j < 33 * D + k then zV else W 30 j) → q_X1_open_b57 N fu ((33 * D : Nat) : Int) k V = some (0, 0, pz_u (va_up W 30 (fun j => if 33 * D ≤ j ∧ j < 33 * D + 20 then zV else W 30 j)) 33 D ((33 * D + 20 : Nat) : Int)) := by
  intro fu
  induction fu with
  | zero => intro m k V h1 h2; omega
  | succ fu ih =>
    intro m k V h1 h2 h29 hV
    refine wz_to ?_
    simp only [q_X1_open_b57]
    refine wp_lI ?_
    refine wp_if (fun h9 => ?_) (fun h9 => ?_)
    · have hk : k = 20 := by omega
      subst hk
      refine wp_gR (wp_lI ?_)
      rw [h29]
      refine wp_lw (by omega) (wp_aW (by omega) (wp_rT ⟨rfl, rfl, ?_⟩))
      rw [show ((D : Int)).toNat = D by omega, hV, show (((33 * D : Nat)) : Int) + 20 = ((33 * D + 20 : Nat) : Int) by omega]
    · refine wp_lw (by omega) (wp_lI (wp_aW (by omega) (wp_lw (by omega) ?_)))
      rw [show ((((33 * D : Nat)) : Int) + (k : Int)).toNat = 33 * D + k by omega]
      have k9 := ih (m - 1) (k + 1) (pz_u V 30 (33 * D + k) 4294967296) (by omega) (by omega) (by rw [pu_off (by decide)]; exact h29) (by
        rw [hV]
        funext c j
        rw [pu_app, up_app, up_app]
        by_cases hc : c = 30
        · subst hc
          by_cases hj : j = 33 * D + k
          · rw [if_pos ⟨rfl, hj⟩, if_pos rfl, if_pos (by omega)]; rfl
          · rw [if_neg (by omega), if_pos rfl, if_pos rfl]
            by_cases h8 : 33 * D ≤ j ∧ j < 33 * D + k
            · rw [if_pos h8, if_pos (by omega)]
            · rw [if_neg h8, if_neg (by omega)]
        · rw [if_neg (by omega), if_neg hc, if_neg hc])
      rw [show (((k + 1 : Nat)) : Int) = (k : Int) + 1 by omega] at k9
      rw [k9]
      exact ⟨0, 0, _, rfl, rfl, rfl, rfl⟩
set_option maxHeartbeats 4000000 in
set_option maxRecDepth 100000 in
theorem e_open {N D : Nat} {u : Int} {V : pvM} (hN : 50 ≤ N) (hD : D < 60) (h5 : V 29 5 = D) : q_X1_open N u V = some (0, 0, openV V D u) := wz_to (by
  unfold q_X1_open
  refine wp_gR (wp_lI ?_)
  rw [h5, if_neg (by omega)]
  refine wp_gR (wp_gW (wp_gR (wp_lI ?_)))
  rw [h5]
  rw [show pz_u V 29 6 (D : Int) 29 5 = D by rw [pu_app, if_neg (by decide)]; exact h5]
  refine wp_lw (by omega) (wp_gW (wp_gR ?_))
  have e6 : pz_u (pz_u V 29 6 (D : Int)) 29 5 ((D : Int) + 1) 29 6 = D := by rw [pu_app, if_neg (by decide), pz_u_eq]
  rw [e6]
  refine wp_aW (by omega) (wp_gR (wp_lI ?_))
  rw [pu_off (show (29 : Nat) ≠ 31 by decide), e6]
  refine wp_aW (by omega) (wp_gR (wp_lI ?_))
  rw [pu_off (show (29 : Nat) ≠ 32 by decide), pu_off (show (29 : Nat) ≠ 31 by decide), e6]
  refine wp_lw (by omega) (wp_lI ?_)
  rw [show ((D : Int)).toNat = D by omega, show (D : Int) * 33 = ((33 * D : Nat) : Int) by omega]
  have k9 := s_open_b57 (N := N) (D := D) (W := pz_u (pz_u (pz_u (pz_u V 29 6 (D : Int)) 29 5 ((D : Int) + 1)) 31 D u) 32 D 0) hD N 20 0 (pz_u (pz_u (pz_u (pz_u V 29 6 (D : Int)) 29 5 ((D : Int) + 1)) 31 D u) 32 D 0) (by omega) (by omega) (by rw [pu_off (by decide), pu_off (by decide)]; exact e6) (by
    funext c j
    rw [up_app]
    by_cases hc : c = 30
    · subst hc; rw [if_pos rfl, if_neg (by omega)]
    · rw [if_neg hc])
  refine ⟨0, 0, _, k9, rfl, rfl, ?_⟩
  unfold openV
  rw [show (((D + 1 : Nat)) : Int) = (D : Int) + 1 by omega]
  rw [pu_off (show (30 : Nat) ≠ 32 by decide), pu_off (show (30 : Nat) ≠ 31 by decide), pu_off (show (30 : Nat) ≠ 29 by decide), pu_off (show (30 : Nat) ≠ 29 by decide)])
def closeV (V : pvM) (D : Nat) : pvM := pz_u (pz_u V 29 5 ((D - 1 : Nat) : Int)) 29 6 ((D - 1 - 1 : Nat) : Int)
theorem e_close {N D : Nat} {V : pvM} (hD : 0 < D ∧ D ≤ 60) (h5 : V 29 5 = D) : q_X1_close N V = some (0, 0, closeV V D) := wz_to (by
  unfold q_X1_close
  refine wp_gR (wp_lI ?_)
  rw [h5]
  refine wp_lw (by omega) (wp_gW (wp_gR (wp_lI ?_)))
  rw [pz_u_eq]
  refine wp_lw (by omega) (wp_lI (wp_lI (wp_gW (wp_rT ⟨rfl, rfl, ?_⟩))))
  unfold closeV
  rw [show ((D - 1 : Nat) : Int) = (D : Int) - 1 by omega]
  congr 1
  split <;> omega)
/-- locals set to what was taken -/
def slV (V : pvM) (d f n : Nat) : pvM := va_up V 30 (fun k => if 33 * d + f ≤ k ∧ k < 33 * d + f + n then V 34 (k - (33 * d + f)) else V 30 k)
set_option maxHeartbeats 4000000 in
set_option maxRecDepth 100000 in
theorem s_slt_b2 {N d f n : Nat} {W : pvM} (hd : W 29 6 = d) (hd6 : d < 60) (hn : n ≤ 12) (hf : f + n ≤ 20) : ∀ (fu m k : Nat) (V : pvM), k + m = n → m + 1 ≤ fu → V = slV W d f k → q_X1_setLocalsToTaken_b2 N fu f n k V = some (0, 0, slV W d f n) := by
  intro fu
  induction fu with
  | zero => intro m k V h1 h2; omega
  | succ fu ih =>
    intro m k V h1 h2 hV
    refine wz_to ?_
    simp only [q_X1_setLocalsToTaken_b2]
    refine wp_if (fun h9 => ?_) (fun h9 => ?_)
    · have hk : k = n := by omega
      subst hk
      exact wp_rT ⟨rfl, rfl, hV⟩
    · refine wp_lw (by omega) (wp_aR (by omega) ?_)
      have e29 : V 29 6 = d := by rw [hV]; unfold slV; rw [up_app, if_neg (by decide)]; exact hd
      have e34 : V 34 = W 34 := by rw [hV]; unfold slV; rw [up_app, if_neg (by decide)]
      rw [show ((k : Int)).toNat = k by omega, e34, show (f : Int) + (k : Int) = ((f + k : Nat) : Int) by omega, cL_eq (e_setLocal e29 hd6 (by omega))]
      refine wp_lw (by omega) ?_
      have k9 := ih (m - 1) (k + 1) (pz_u V 30 (33 * d + (f + k)) (W 34 k)) (by omega) (by omega) (by
        rw [hV]
        unfold slV
        funext c j
        rw [pu_app, up_app, up_app]
        by_cases hc : c = 30
        · subst hc
          by_cases hj : j = 33 * d + (f + k)
          · rw [if_pos ⟨rfl, hj⟩, if_pos rfl, if_pos (by omega), show j - (33 * d + f) = k by omega]
          · rw [if_neg (by omega), if_pos rfl, if_pos rfl]
            by_cases h8 : 33 * d + f ≤ j ∧ j < 33 * d + f + k
            · rw [if_pos h8, if_pos (by omega)]
            · rw [if_neg h8, if_neg (by omega)]
        · rw [if_neg (by omega), if_neg hc, if_neg hc])
      rw [show (((k + 1 : Nat)) : Int) = (k : Int) + 1 by omega] at k9
      rw [k9]
      exact ⟨0, 0, _, rfl, rfl, rfl, rfl⟩
theorem slV_0 (V : pvM) (d f : Nat) : slV V d f 0 = V := by
  unfold slV
  funext c j
  rw [up_app]
  by_cases hc : c = 30
  · subst hc; rw [if_pos rfl, if_neg (by omega)]
  · rw [if_neg hc]
theorem e_slt {N d f n : Nat} {V : pvM} (hN : 50 ≤ N) (hd : V 29 6 = d) (hd6 : d < 60) (hn : n ≤ 12) (hf : f + n ≤ 20) : q_X1_setLocalsToTaken N f n V = some (0, 0, slV V d f n) := by
  have h1 := s_slt_b2 (N := N) (W := V) hd hd6 hn hf N n 0 V (by omega) (by omega) (slV_0 V d f).symm
  unfold q_X1_setLocalsToTaken
  exact h1
