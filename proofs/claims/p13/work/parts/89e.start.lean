/-! THE START, AND READING THE SCRIPT -/
theorem v0z {c k : Nat} (h : ¬ (c = 17 ∧ k = 0) := by omega) (h1 : ¬ (c = 39 ∧ k = 2) := by omega) (h2 : ¬ (c = 28 ∧ k = 5) := by omega) : pv_V0 c k = 0 := pv_V0_0 h h1 h2
theorem v0r {c d : Nat} (hc : c ≠ 17 ∧ c ≠ 39 ∧ c ≠ 28) (hd : d ≠ 17 ∧ d ≠ 39 ∧ d ≠ 28) : pv_V0 c = pv_V0 d := by
  funext k
  rw [v0z, v0z]
theorem v0_17 : pv_V0 17 0 = 64 := by unfold pv_V0; rw [if_pos ⟨rfl, rfl⟩]
theorem v0_39 : pv_V0 39 2 = 200 := by unfold pv_V0; rw [if_neg (by decide), if_pos ⟨rfl, rfl⟩]
theorem LI_start : LI 0 pv_V0 := by
  refine ⟨⟨?_, fun f _ => ?_, fun k => ?_, fun k => ?_, ?_, ⟨?_, ?_, fun r _ _ => ?_, fun r hr => ?_⟩, fun r hr => ?_⟩, ⟨?_, v0r (by decide) (by decide), v0r (by decide) (by decide), v0r (by decide) (by decide), v0r (by decide) (by decide), v0r (by decide) (by decide), ?_, v0r (by decide) (by decide), v0r (by decide) (by decide)⟩, ⟨?_, ?_, ?_⟩, ?_, ⟨?_, ?_, ?_⟩, ⟨?_, ?_, fun h => ?_⟩, ⟨?_, ?_⟩, ?_⟩
  · rw [v0z]; decide
  · rw [v0z, v0z]; decide
  · rw [v0z]; decide
  · rw [v0z, v0z]; unfold I32; decide
  · rw [v0z]; decide
  · rw [v0z]; decide
  · rw [v0z, v0z (c := 2) (k := 5)]; rfl
  · rw [v0z, v0z]; exact ⟨rfl, rfl⟩
  · rw [v0z (c := 2) (k := 5)] at hr; exact absurd hr (by simp)
  · rw [v0z (c := 2) (k := 5)] at hr; omega
  · rw [v0z, v0z]
  · rw [v0z, v0z]
  · rw [v0_17]; exact Or.inl rfl
  · rw [v0z]; decide
  · rw [v0z (c := 17) (k := 4), v0_17]; decide
  · exact Or.inl v0_39
  · rw [v0z, v0z]; decide
  · rw [v0z (c := 84) (k := 0), v0_17, v0_39]; decide
  · rw [v0z (c := 84) (k := 1), v0_17, v0_39]; decide
  · rw [v0z]; exact Or.inl rfl
  · rw [v0z, v0z]
  · rw [v0z] at h; omega
  · rw [v0z]; decide
  · rw [v0z]; decide
  · refine ⟨by rw [v0z, v0z], by rw [v0z, v0z (c := 28) (k := 9)]; decide, fun h => ?_, by rw [v0z, v0z]⟩
    rw [v0z (c := 28) (k := 9)] at h
    exact absurd h (by decide)
theorem wp_sR {xs : Nat → Int32} {L : Nat} {i : Int} {k : Int → Option pvO} {Q : Nat → Int → pvM → Prop} (hi : 0 ≤ i ∧ i < (L : Int)) (h : ∀ x, I32 x → x = (xs i.toNat).toInt → wp (k x) Q) : wp (sR xs L i k) Q := by
  unfold sR; rw [if_pos hi]
  refine h _ ?_ rfl
  have h1 := Int32.le_toInt (xs i.toNat)
  have h2 := Int32.toInt_lt (xs i.toNat)
  unfold I32
  omega
theorem I64_or (x y : Int) : I64 (pv_orl x y) := by
  unfold pv_orl I64
  have h1 := Int64.le_toInt (Int64.ofInt x ||| Int64.ofInt y)
  have h2 := Int64.toInt_lt (Int64.ofInt x ||| Int64.ofInt y)
  omega
