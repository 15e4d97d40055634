abbrev pz_z : pzM := (fun _ _ => 0, fun _ _ => 0)
theorem pz_nz (σ : pzS) : pz_nM σ pz_z = pz_z := by
  unfold pz_nM pz_z
  refine Prod.ext ?_ ?_ <;> (funext a b; simp only [va_up]; split <;> rfl)
def pz_pR (σ : pzS) (i k j : Nat) : pzS := (σ.1, σ.2.1, pz_u σ.2.2 i k (some j))
theorem pz_uz (i k : Nat) : ((pz_z.1, pz_u pz_z.2 i k 0) : pzM) = pz_z := by
  refine Prod.ext rfl ?_
  funext a b
  by_cases h : a = i ∧ b = k
  · obtain ⟨rfl, rfl⟩ := h; exact pz_u_eq _ _ _ _
  · exact pz_u_ne _ _ (by by_cases ha : a = i <;> simp_all)
theorem pz_new_K {σ : pzS} {q : Nat × Nat} {i : Nat} (h : i < σ.1) : (pz_new σ q).2.1 i = σ.2.1 i := by simp [pz_new, va_up, Nat.ne_of_lt h]
theorem pz_new_R {σ : pzS} {q : Nat × Nat} {i : Nat} (h : i < σ.1) : (pz_new σ q).2.2 i = σ.2.2 i := by simp [pz_new, va_up, Nat.ne_of_lt h]
theorem pz_new_k {σ : pzS} {q : Nat × Nat} : (pz_new σ q).2.1 σ.1 = q := by simp [pz_new, va_up]
theorem pz_lt0 {a n k : Nat} {S : pzS} (h : S.1 = n + k) (ha : a < n) : a < S.1 := by rw [h]; exact Nat.lt_of_lt_of_le ha (Nat.le_add_right _ _)
theorem pz_lt2 {x n a b : Nat} {S : pzS} (h : S.1 = n + b) (hx : x = n + a) (hab : Nat.blt a b = true) : x < S.1 := by rw [h, hx]; exact Nat.add_lt_add_left (Nat.blt_eq.mp hab) n
theorem pz_le0 {n k : Nat} {S : pzS} (h : S.1 = n + k) : n ≤ S.1 := by rw [h]; exact Nat.le_add_right _ _
theorem pz_n1 {n k : Nat} {S S2 : pzS} {q : Nat × Nat} (h : S.1 = n + k) (h2 : S2 = pz_new S q) : S2.1 = n + (k + 1) := by rw [h2]; show S.1 + 1 = _; rw [h]; rfl
theorem pz_ne0 {x n a j : Nat} (hj : j < n) (hx : x = n + a) : j ≠ x := by omega
theorem wco : Cond.code objectInit ⟨#[0xb1]⟩ 1 none ∈ lw_good := lw_at1 27 rfl rfl
theorem dfX1 : ∀ j, j < 7 → defaultValue (tyX1 j) = vp_V ((pz_ft 0).map pz_dv) j := by
  intro j hj
  match j, hj with
  | 0, _ => rfl
  | 1, _ => rfl
  | 2, _ => rfl
  | 3, _ => rfl
  | 4, _ => rfl
  | 5, _ => rfl
  | 6, _ => rfl
  | k + 7, h => exact absurd h (by omega)
theorem dfX2 : ∀ j, j < 4 → defaultValue (tyX2 j) = vp_V ((pz_ft 1).map pz_dv) j := by
  intro j hj
  match j, hj with
  | 0, _ => rfl
  | 1, _ => rfl
  | 2, _ => rfl
  | 3, _ => rfl
  | k + 4, h => exact absurd h (by omega)
theorem dfX3 : ∀ j, j < 5 → defaultValue (tyX3 j) = vp_V ((pz_ft 2).map pz_dv) j := by
  intro j hj
  match j, hj with
  | 0, _ => rfl
  | 1, _ => rfl
  | 2, _ => rfl
  | 3, _ => rfl
  | 4, _ => rfl
  | k + 5, h => exact absurd h (by omega)
theorem dfX4 : ∀ j, j < 10 → defaultValue (tyX4 j) = vp_V ((pz_ft 3).map pz_dv) j := by
  intro j hj
  match j, hj with
  | 0, _ => rfl
  | 1, _ => rfl
  | 2, _ => rfl
  | 3, _ => rfl
  | 4, _ => rfl
  | 5, _ => rfl
  | 6, _ => rfl
  | 7, _ => rfl
  | 8, _ => rfl
  | 9, _ => rfl
  | k + 10, h => exact absurd h (by omega)
theorem dfX5 : ∀ j, j < 11 → defaultValue (tyX5 j) = vp_V ((pz_ft 4).map pz_dv) j := by
  intro j hj
  match j, hj with
  | 0, _ => rfl
  | 1, _ => rfl
  | 2, _ => rfl
  | 3, _ => rfl
  | 4, _ => rfl
  | 5, _ => rfl
  | 6, _ => rfl
  | 7, _ => rfl
  | 8, _ => rfl
  | 9, _ => rfl
  | 10, _ => rfl
  | k + 11, h => exact absurd h (by omega)
theorem dfX6 : ∀ j, j < 7 → defaultValue (tyX6 j) = vp_V ((pz_ft 5).map pz_dv) j := by
  intro j hj
  match j, hj with
  | 0, _ => rfl
  | 1, _ => rfl
  | 2, _ => rfl
  | 3, _ => rfl
  | 4, _ => rfl
  | 5, _ => rfl
  | 6, _ => rfl
  | k + 7, h => exact absurd h (by omega)
theorem dfX7 : ∀ j, j < 7 → defaultValue (tyX7 j) = vp_V ((pz_ft 6).map pz_dv) j := by
  intro j hj
  match j, hj with
  | 0, _ => rfl
  | 1, _ => rfl
  | 2, _ => rfl
  | 3, _ => rfl
  | 4, _ => rfl
  | 5, _ => rfl
  | 6, _ => rfl
  | k + 7, h => exact absurd h (by omega)
theorem dfX8 : ∀ j, j < 8 → defaultValue (tyX8 j) = vp_V ((pz_ft 7).map pz_dv) j := by
  intro j hj
  match j, hj with
  | 0, _ => rfl
  | 1, _ => rfl
  | 2, _ => rfl
  | 3, _ => rfl
  | 4, _ => rfl
  | 5, _ => rfl
  | 6, _ => rfl
  | 7, _ => rfl
  | k + 8, h => exact absurd h (by omega)
theorem dfX9 : ∀ j, j < 3 → defaultValue (tyX9 j) = vp_V ((pz_ft 8).map pz_dv) j := by
  intro j hj
  match j, hj with
  | 0, _ => rfl
  | 1, _ => rfl
  | 2, _ => rfl
  | k + 3, h => exact absurd h (by omega)
theorem dfX10 : ∀ j, j < 4 → defaultValue (tyX10 j) = vp_V ((pz_ft 9).map pz_dv) j := by
  intro j hj
  match j, hj with
  | 0, _ => rfl
  | 1, _ => rfl
  | 2, _ => rfl
  | 3, _ => rfl
  | k + 4, h => exact absurd h (by omega)
theorem dfX11 : ∀ j, j < 54 → defaultValue (tyX11 j) = vp_V ((pz_ft 10).map pz_dv) j := by
  intro j hj
  match j, hj with
  | 0, _ => rfl
  | 1, _ => rfl
  | 2, _ => rfl
  | 3, _ => rfl
  | 4, _ => rfl
  | 5, _ => rfl
  | 6, _ => rfl
  | 7, _ => rfl
  | 8, _ => rfl
  | 9, _ => rfl
  | 10, _ => rfl
  | 11, _ => rfl
  | 12, _ => rfl
  | 13, _ => rfl
  | 14, _ => rfl
  | 15, _ => rfl
  | 16, _ => rfl
  | 17, _ => rfl
  | 18, _ => rfl
  | 19, _ => rfl
  | 20, _ => rfl
  | 21, _ => rfl
  | 22, _ => rfl
  | 23, _ => rfl
  | 24, _ => rfl
  | 25, _ => rfl
  | 26, _ => rfl
  | 27, _ => rfl
  | 28, _ => rfl
  | 29, _ => rfl
  | 30, _ => rfl
  | 31, _ => rfl
  | 32, _ => rfl
  | 33, _ => rfl
  | 34, _ => rfl
  | 35, _ => rfl
  | 36, _ => rfl
  | 37, _ => rfl
  | 38, _ => rfl
  | 39, _ => rfl
  | 40, _ => rfl
  | 41, _ => rfl
  | 42, _ => rfl
  | 43, _ => rfl
  | 44, _ => rfl
  | 45, _ => rfl
  | 46, _ => rfl
  | 47, _ => rfl
  | 48, _ => rfl
  | 49, _ => rfl
  | 50, _ => rfl
  | 51, _ => rfl
  | 52, _ => rfl
  | 53, _ => rfl
  | k + 54, h => exact absurd h (by omega)
