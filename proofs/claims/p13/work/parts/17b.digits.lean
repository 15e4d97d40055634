/-! digits to the base of 32 -/
def qt (v : Int) (k : Nat) : Int := v / 32 ^ k
def dg (v : Int) (k : Nat) : Int := qt v k % 32
def RD (v : Int) : Prop := 0 < v ∧ qt v 12 = 0 ∧ ∀ k, k < 12 → qt v k ≠ 0 → 1 ≤ dg v k ∧ dg v k ≤ 27
theorem qt_0 (v : Int) : qt v 0 = v := by simp [qt]
theorem qt_s (v : Int) (k : Nat) : qt v (k + 1) = qt v k / 32 := by
  unfold qt
  rw [Int.pow_succ, Int.ediv_ediv_of_nonneg (by exact Int.pow_nonneg (by decide))]
theorem dg_lo (v : Int) (k : Nat) : 0 ≤ dg v k ∧ dg v k < 32 := ⟨Int.emod_nonneg _ (by decide), Int.emod_lt_of_pos _ (by decide)⟩
theorem qt_z (v : Int) {k n : Nat} (h : qt v k = 0) (hkn : k ≤ n) : qt v n = 0 := by
  induction hkn with
  | refl => exact h
  | step _ ih => rw [qt_s, ih]; rfl
theorem dg_z {v : Int} {k : Nat} (h : qt v k = 0) : dg v k = 0 := by unfold dg; rw [h]; rfl
theorem qt_pos {v : Int} {k : Nat} (h : qt v k = 0) : 0 ≤ v := by
  rcases Int.lt_or_le v 0 with h1 | h1
  · have h2 : v / 32 ^ k < 0 := Int.ediv_neg_of_neg_of_pos h1 (Int.pow_pos (by decide))
    unfold qt at h; omega
  · exact h1
/-- the reference's test is the class's -/
theorem RD_of {v : Int} {n : Nat} (hn : n ≤ 12) (h1 : ∀ j, j < n → 0 < dg v j) (h0 : 0 < n) (hq : qt v n = 0) (h2 : ∀ j, j < n → dg v j ≤ 27) : RD v := by
  have hv : 0 ≤ v := qt_pos hq
  refine ⟨?_, qt_z v hq hn, fun k _ hk => ?_⟩
  · rcases Int.lt_or_eq_of_le hv with h | h
    · exact h
    · have := h1 0 h0
      rw [dg_z (by rw [qt_0]; exact h.symm)] at this
      exact absurd this (by decide)
  · have hkn : k < n := by
      rcases Nat.lt_or_ge k n with h | h
      · exact h
      · exact absurd (qt_z v hq h) hk
    exact ⟨by have := h1 k hkn; omega, h2 k hkn⟩
theorem RD_to {v : Int} {n : Nat} (hn : n ≤ 12) (h1 : ∀ j, j < n → 0 < dg v j) (h3 : n = 12 ∨ dg v n ≤ 0) (h : RD v) : 0 < n ∧ qt v n = 0 ∧ ∀ j, j < n → dg v j ≤ 27 := by
  obtain ⟨hv, hq, hd⟩ := h
  refine ⟨?_, ?_, fun j hj => ?_⟩
  · rcases Nat.eq_zero_or_pos n with rfl | h
    · rcases h3 with h3 | h3
      · exact absurd h3 (by decide)
      · have := hd 0 (by decide) (by rw [qt_0]; omega)
        omega
    · exact h
  · rcases h3 with rfl | h3
    · exact hq
    · rcases Nat.lt_or_ge n 12 with h | h
      · rcases Decidable.em (qt v n = 0) with h5 | h5
        · exact h5
        · have := hd n h h5; omega
      · have : n = 12 := by omega
        subst this; exact hq
  · refine (hd j (by omega) (fun h5 => ?_)).2
    have := h1 j hj
    rw [dg_z h5] at this
    exact absurd this (by decide)
theorem i64_c : ∀ k, k < 64 → ((nI k).toInt64 &&& 63).toBitVec.smod 64 = BitVec.ofNat 64 k := by decide +kernel
theorem sh_int (x : Int64) {j : Nat} (hj : j < 64) : (x >>> ((nI j).toInt64 &&& 63)).toInt = x.toInt / 2 ^ j := by
  have e : (x >>> ((nI j).toInt64 &&& 63)).toInt = x.toInt >>> j := by
    show (x.toBitVec.sshiftRight (((nI j).toInt64 &&& 63).toBitVec.smod 64).toNat).toInt = _
    rw [i64_c j hj, BitVec.toInt_sshiftRight, BitVec.toNat_ofNat, Nat.mod_eq_of_lt (by omega)]
    rfl
  rw [e, Int.shiftRight_eq_div_pow]
  simp
theorem and_int (x : Int64) : (x &&& 31).toInt = x.toInt % 32 := by
  have e1 : (x &&& 31).toBitVec.toNat = x.toBitVec.toNat % 32 := by
    show (x.toBitVec &&& (31 : Int64).toBitVec).toNat = _
    rw [BitVec.toNat_and]
    exact Nat.and_two_pow_sub_one_eq_mod _ 5
  have e2 : (x &&& 31).toInt = ((x &&& 31).toBitVec.toNat : Int) := by
    show (x &&& 31).toBitVec.toInt = _
    rw [BitVec.toInt_eq_toNat_of_lt]
    rw [e1]; omega
  rw [e2, e1]
  have e3 : x.toInt = if 2 * x.toBitVec.toNat < 2 ^ 64 then (x.toBitVec.toNat : Int) else (x.toBitVec.toNat : Int) - ((2 ^ 64 : Nat) : Int) := BitVec.toInt_eq_toNat_cond x.toBitVec
  rw [e3]
  split <;> omega
theorem l2i_int {y : Int64} (h0 : 0 ≤ y.toInt) (h : y.toInt < 32) : y.toInt32.toInt = y.toInt := by
  rw [Int64.toInt_toInt32]
  exact Int.bmod_eq_of_le (by omega) (by omega)
theorem dg_int (c0 : Int64) {k : Nat} {r : Int64} (hr : r.toInt = qt c0.toInt k) : (r &&& 31).toInt = dg c0.toInt k := by rw [and_int, hr]; rfl
theorem dgi_int (c0 : Int64) {k : Nat} {r : Int64} (hr : r.toInt = qt c0.toInt k) : (r &&& 31).toInt32.toInt = dg c0.toInt k := by
  have h1 := dg_int c0 hr
  have h2 := dg_lo c0.toInt k
  rw [l2i_int (by rw [h1]; exact h2.1) (by rw [h1]; exact h2.2), h1]
theorem cmp_le {x y : Int64} : lg_cmp x y ≤ 0 ↔ x.toInt ≤ y.toInt := by
  unfold lg_cmp
  simp only [gt_iff_lt, Int64.lt_iff_toInt_lt, ← Int64.toInt_inj]
  repeat' split
  all_goals simp
  all_goals omega
theorem cmp_eq {x y : Int64} : lg_cmp x y = 0 ↔ x.toInt = y.toInt := by
  unfold lg_cmp
  simp only [gt_iff_lt, Int64.lt_iff_toInt_lt, ← Int64.toInt_inj]
  repeat' split
  all_goals simp
  all_goals omega
theorem cmp_gt {x y : Int64} : 0 < lg_cmp x y ↔ y.toInt < x.toInt := by
  unfold lg_cmp
  simp only [gt_iff_lt, Int64.lt_iff_toInt_lt, ← Int64.toInt_inj]
  repeat' split
  all_goals simp
  all_goals omega
theorem i5 : ∀ k, k ≤ 12 → (5 : Int32) * nI k = nI (5 * k) := by decide +kernel
theorem p5 (k : Nat) : (2 : Int) ^ (5 * k) = 32 ^ k := by rw [Int.pow_mul]; rfl
/-- c shifted by k digits -/
theorem shk (c0 : Int64) {k : Nat} (hk : k ≤ 12) : (c0 >>> (((5 : Int32) * nI k).toInt64 &&& 63)).toInt = qt c0.toInt k := by
  rw [i5 k hk, sh_int c0 (by omega), p5]; rfl
theorem shr5 (c0 : Int64) {k : Nat} {r : Int64} (hr : r.toInt = qt c0.toInt k) : (r >>> ((5 : Int32).toInt64 &&& 63)).toInt = qt c0.toInt (k + 1) := by
  have := sh_int r (j := 5) (by decide)
  rw [show (nI 5) = (5 : Int32) from rfl] at this
  rw [this, hr, qt_s]; rfl
theorem shr60 (c0 : Int64) : (c0 >>> ((60 : Int32).toInt64 &&& 63)).toInt = qt c0.toInt 12 := by
  have := sh_int c0 (j := 60) (by decide)
  rw [show (nI 60) = (60 : Int32) from rfl] at this
  rw [this]; rfl
theorem pz_locsub {p : Program} {l : Launch} {e : Env} {R : Room} {s : State} {m : MethodId} {args : Array Value} {below : List Frame} {meth : Method} {c : Code} {nL : Nat} {D : va_G} {cy : Nat → ClassId} {A : Nat → Prop} {n0 : Nat} {ad0 : Nat → Nat} {Q : State → Prop} {σ : pzS} {M : pzM} {cells slots pc : Nat} {loc loc' : List (Nat × Value)} {st : List Value} (ks : List Nat) (hk : lv_pick loc ks = loc') (k : pz_W p l e R s m args below meth c nL D cy A n0 ad0 Q σ M cells slots pc loc' st) : pz_W p l e R s m args below meth c nL D cy A n0 ad0 Q σ M cells slots pc loc st :=
  fun ad H locs ls ha hP hD hS hl => k ad H locs ls ha hP hD hS (lv_sub hl ks (by
    rw [← hk]
    unfold lv_pick
    rw [List.map_filterMap]
    simp only [List.getElem?_map]))
