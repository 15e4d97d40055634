/-! REASONING ON THE PURE PROGRAMS -/
def wp (o : Option pvO) (Q : Nat → Int → pvM → Prop) : Prop := ∃ t r V, o = some (t, r, V) ∧ Q t r V
abbrev wz (o : Option pvO) (Q : Int → pvM → Prop) : Prop := wp o (fun t r V => t = 0 ∧ Q r V)
def I32 (z : Int) : Prop := -2147483648 ≤ z ∧ z < 2147483648
def I64 (z : Int) : Prop := -9223372036854775808 ≤ z ∧ z < 9223372036854775808
theorem pv_w_id {z : Int} (h : -2147483648 ≤ z ∧ z < 2147483648) : pv_w z = z := by
  unfold pv_w
  exact Int.bmod_eq_of_le (by omega) (by omega)
theorem pv_w_32 (z : Int) : I32 (pv_w z) := by
  unfold pv_w I32
  have h1 := Int.le_bmod (x := z) (m := 2 ^ 32) (by decide)
  have h2 := Int.bmod_lt (x := z) (m := 2 ^ 32) (by decide)
  omega
theorem wp_mono {o : Option pvO} {Q R : Nat → Int → pvM → Prop} (h : wp o Q) (hQ : ∀ t r V, Q t r V → R t r V) : wp o R := by
  obtain ⟨t, r, V, h1, h2⟩ := h
  exact ⟨t, r, V, h1, hQ t r V h2⟩
section WPR
variable {Q : Nat → Int → pvM → Prop} {V : pvM}
theorem wp_lI {x : Int} {k : Int → Option pvO} (h : wp (k x) Q) : wp (lI x k) Q := h
theorem wp_lw {z : Int} {k : Int → Option pvO} (hz : -2147483648 ≤ z ∧ z < 2147483648) (h : wp (k z) Q) : wp (lI (pv_w z) k) Q := by
  show wp (k (pv_w z)) Q
  rw [pv_w_id hz]; exact h
theorem wp_gR {c i : Nat} {k : Int → Option pvO} (h : wp (k (V c i)) Q) : wp (gR V c i k) Q := h
theorem wp_gW {c i : Nat} {x : Int} {k : pvM → Option pvO} (h : wp (k (pz_u V c i x)) Q) : wp (gW V c i x k) Q := h
theorem wp_aR {c n : Nat} {i : Int} {k : Int → Option pvO} (hi : 0 ≤ i ∧ i < (n : Int)) (h : wp (k (V c i.toNat)) Q) : wp (aR V c n i k) Q := by
  unfold aR; rw [if_pos hi]; exact h
theorem wp_aW {c n : Nat} {i x : Int} {k : pvM → Option pvO} (hi : 0 ≤ i ∧ i < (n : Int)) (h : wp (k (pz_u V c i.toNat x)) Q) : wp (aW V c n i x k) Q := by
  unfold aW; rw [if_pos hi]; exact h
theorem wp_bT {x : Int} {o : Option pvO} (hx : x = 0 ∨ x = 1) (h : wp o Q) : wp (bT x o) Q := by
  unfold bT; rw [if_pos hx]; exact h
theorem wp_nZ {x : Int} {o : Option pvO} (hx : ¬ x = 0) (h : wp o Q) : wp (nZ x o) Q := by
  unfold nZ; rw [if_neg hx]; exact h
theorem wp_rT {x : Int} (h : Q 0 x V) : wp (rT V x) Q := ⟨0, x, V, rfl, h⟩
theorem wp_if {c : Prop} [Decidable c] {a b : Option pvO} (h1 : c → wp a Q) (h2 : ¬ c → wp b Q) : wp (if c then a else b) Q := by
  by_cases h : c
  · rw [if_pos h]; exact h1 h
  · rw [if_neg h]; exact h2 h
theorem wp_cL {o : Option pvO} {k : Int → pvM → Option pvO} {R : Int → pvM → Prop} (h : wz o R) (hk : ∀ r V', R r V' → wp (k r V') Q) : wp (cL o k) Q := by
  obtain ⟨t, r, V', h1, h2, h3⟩ := h
  subst h2
  rw [h1]
  exact hk r V' h3
theorem wp_tH {e : Nat} (hr : 0 ≤ V 84 0 ∧ 0 ≤ V 84 1 ∧ V 84 0 + 1 ≤ (pv_LC : Int) ∧ V 84 1 + 6 ≤ (pv_LS : Int)) (h : Q e 0 (pz_u (pz_u V 84 0 (V 84 0 + 1)) 84 1 (V 84 1 + 6))) : wp (tH V e) Q := by
  unfold tH; rw [if_pos hr]; exact ⟨e, 0, _, rfl, h⟩
theorem wp_aC {c0 n0 c1 n1 : Nat} {sp dp n : Int} {k : pvM → Option pvO} (hi : 0 ≤ sp ∧ 0 ≤ dp ∧ 0 ≤ n ∧ sp + n ≤ (n0 : Int) ∧ dp + n ≤ (n1 : Int)) (h : wp (k (va_up V c1 (va_cpy (V c0) (V c1) sp.toNat dp.toNat n.toNat))) Q) : wp (aC V c0 n0 c1 n1 sp dp n k) Q := by
  unfold aC; rw [if_pos hi]; exact h
end WPR
/-- an answer that is known as a whole -/
theorem wz_eq {o : Option pvO} {r : Int} {V : pvM} (h : o = some (0, r, V)) : wz o (fun r' V' => r' = r ∧ V' = V) := ⟨0, r, V, h, rfl, rfl, rfl⟩
theorem pu_app (V : pvM) (c k : Nat) (x : Int) (a b : Nat) : pz_u V c k x a b = if a = c ∧ b = k then x else V a b := by
  by_cases h : a = c ∧ b = k
  · obtain ⟨rfl, rfl⟩ := h
    rw [pz_u_eq, if_pos ⟨rfl, rfl⟩]
  · rw [if_neg h, pv_u_ne (by omega)]
theorem pu_off {V : pvM} {c k a : Nat} {x : Int} (h : a ≠ c) : pz_u V c k x a = V a := pz_u_off V k x h
theorem pu_row (V : pvM) (c k : Nat) (x : Int) : pz_u V c k x c = va_up (V c) k x := pz_u_row V c k x
theorem up_app {α : Type} (f : Nat → α) (k : Nat) (x : α) (b : Nat) : va_up f k x b = if b = k then x else f b := rfl
/-- shifts and masks -/
theorem pv_of64 {v : Int} (h : I64 v) : (Int64.ofInt v).toInt = v := by
  have e : (Int64.size : Nat) = 18446744073709551616 := rfl
  rw [Int64.toInt_ofInt, e]
  unfold I64 at h
  exact Int.bmod_eq_of_le (by omega) (by omega)
theorem pv_shr_n {v : Int} (hv : I64 v) {j : Nat} (hj : j < 64) : pv_shr v (j : Int) = v / 2 ^ j := by
  unfold pv_shr
  have e : Int32.ofInt (j : Int) = nI j := rfl
  rw [e, sh_int _ hj, pv_of64 hv]
theorem pv_and31 {v : Int} (hv : I64 v) : pv_andl v 31 = v % 32 := by
  unfold pv_andl
  rw [show Int64.ofInt 31 = 31 from rfl, and_int, pv_of64 hv]
theorem I64_ediv {v : Int} (hv : I64 v) (k : Nat) : I64 (v / 2 ^ k) := by
  unfold I64 at hv ⊢
  have hp : (0 : Int) < 2 ^ k := Int.pow_pos (by decide)
  have h1 : v / 2 ^ k < 9223372036854775808 := by
    refine Int.ediv_lt_of_lt_mul hp ?_
    have : (9223372036854775808 : Int) * 1 ≤ 9223372036854775808 * 2 ^ k := Int.mul_le_mul_of_nonneg_left (by omega) (by decide)
    omega
  have h2 : -9223372036854775808 ≤ v / 2 ^ k := by
    refine Int.le_ediv_of_mul_le hp ?_
    have : (-9223372036854775808 : Int) * 2 ^ k ≤ -9223372036854775808 * 1 := Int.mul_le_mul_of_nonpos_left (by decide) (by omega)
    omega
  exact ⟨h2, h1⟩
