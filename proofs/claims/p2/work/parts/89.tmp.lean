theorem law_ok (xs : Nat → Int32) {L : Nat} (hL : L ≤ 3072) : ∃ q, q_law_b23 xs L pv_N pv_N 0 pv_V0 = some q := by
  sorry
