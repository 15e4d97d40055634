def pz_kl : List (Nat × Nat) := [(13, 0), (9, 0), (10, 0), (1, 8), (1, 8), (1, 8), (1, 96), (1, 96), (1, 12), (1, 12), (1, 480), (1, 480), (1, 480), (12, 0), (1, 40), (3, 40), (8, 0), (6, 0), (1, 64), (1, 64), (1, 64), (1, 64), (1, 493), (1, 480), (1, 480), (1, 12), (1, 12), (1, 40), (7, 0), (4, 0), (2, 1980), (1, 60), (1, 60), (1, 60), (2, 12), (5, 0), (1, 400), (1, 400), (2, 1200), (11, 0), (1, 400), (1, 400), (0, 200), (0, 200), (0, 200), (14, 0), (1, 12), (1, 12), (1, 480), (1, 480), (1, 480), (1, 8), (1, 96), (1, 40), (3, 40), (1, 12), (1, 12), (1, 12), (1, 18000), (1, 18000), (1, 18000), (1, 40), (1, 480), (1, 480), (1, 96), (1, 8), (1, 200), (1, 500), (1, 500), (1, 32), (1, 32), (1, 32), (1, 256), (1, 256), (1, 6), (1, 6), (1, 401), (1, 80200), (1, 401), (1, 401), (1, 1203), (1, 1203), (1, 2500), (2, 1)]
def pz_rl : List (List (Option Nat)) := [[some 1, some 13, some 16, some 28], [some 2, some 8, some 9, some 10, some 11, some 12], [some 3, some 4, some 5, some 6, some 7], [], [], [], [], [], [], [], [], [], [], [some 1, some 14, some 15], [], [], [some 1, some 13, some 17, some 22, some 23, some 24, some 25, some 26, some 27], [none, none, none, none], [], [], [], [], [], [], [], [], [], [], [some 1, some 16, some 29, some 35, some 39, none], [some 30, some 31, some 32, some 33, some 34], [], [], [], [], [], [some 36, some 37, some 38], [], [], [], [some 40, some 41, none, none, some 43, none, some 44], [], [], [], [], [], [none, none, some 46, some 47, some 48, some 49, some 50, none, some 51, some 52, none, some 53, some 54, none, some 55, some 56, some 57, some 58, some 59, some 60, some 61, none, some 62, some 63, none, some 64, some 65, none, none, none, none, none, some 66, none, some 67, some 68, none, some 69, some 70, some 71, some 72, some 73, some 74, some 75, none, some 76, some 77, none, some 78, some 79, some 80, some 81, none, some 82], [], [], [], [], [], [], [], [], [], [], [], [], [], [], [], [], [], [], [], [], [], [], [], [], [], [], [], [], [], [], [], [], [], [], [], [], [], []]
def pz_k0 (i : Nat) : Nat × Nat := pz_kl.getD i (0, 0)
def pz_r0 (i k : Nat) : Option Nat := (pz_rl.getD i []).getD k none
/-- the cells of the class (x at 0), of the reference (at 45) and of the law's own row (at 83) as they stand behind the constructors -/
def pz_sh (σ : pzS) : Prop := 84 ≤ σ.1 ∧ (∀ i, i < 84 → σ.2.1 i = pz_k0 i) ∧ (∀ i, i < 84 → ∀ k, k < 60 → ∀ j, pz_r0 i k = some j → σ.2.2 i k = some j) ∧ pz_wf σ
theorem shL {σ : pzS} (h : pz_sh σ) (i : Nat) (hi : Nat.blt i 84 = true) : i < σ.1 := Nat.lt_of_lt_of_le (Nat.blt_eq.mp hi) h.1
theorem shK {σ : pzS} (h : pz_sh σ) (i : Nat) (hi : Nat.blt i 84 = true) {q : Nat} (hq : (pz_k0 i).1 = q) : (σ.2.1 i).1 = q := by rw [h.2.1 i (Nat.blt_eq.mp hi)]; exact hq
theorem shN {σ : pzS} (h : pz_sh σ) (i : Nat) (hi : Nat.blt i 84 = true) {q : Nat} (hq : (pz_k0 i).2 = q) : (σ.2.1 i).2 = q := by rw [h.2.1 i (Nat.blt_eq.mp hi)]; exact hq
theorem shR {σ : pzS} (h : pz_sh σ) (i k j : Nat) (hi : Nat.blt i 84 = true) (hk : Nat.blt k 60 = true) (hq : pz_r0 i k = some j) : σ.2.2 i k = some j := h.2.2.1 i (Nat.blt_eq.mp hi) k (Nat.blt_eq.mp hk) j hq
theorem shB {σ : pzS} (h : pz_sh σ) (i : Nat) (hi : Nat.blt i 84 = true) {q : Nat} {x : Int32} (hq : (pz_k0 i).2 = q) (hx : vp_in x q) : vp_in x (σ.2.1 i).2 := by rw [shN h i hi hq]; exact hx
def pz_s0 : pzS := (0, fun _ => (0, 0), fun _ _ => none)
def pz_s1 : pzS := kX10 (pz_new pz_s0 (13, 0)) 0
def pz_s2 : pzS := kX11 (pz_new pz_s1 (14, 0)) 45
def pz_si : pzS := pz_new pz_s2 (2, 1)
theorem pz_s0_wf : pz_wf pz_s0 := fun i k r h => by simp [pz_s0] at h
theorem pz_s1_n : pz_s1.1 = 45 := by unfold pz_s1; rw [kX10_n]; rfl
theorem pz_s2_n : pz_s2.1 = 83 := by unfold pz_s2; rw [kX11_n]; show pz_s1.1 + 1 + _ = _; rw [pz_s1_n]
theorem pz_s1_wf : pz_wf pz_s1 := kX10_wf (pz_wf_new pz_s0_wf) (by decide)
theorem pz_s2_wf : pz_wf pz_s2 := kX11_wf (pz_wf_new pz_s1_wf) (show 45 < pz_s1.1 + 1 by rw [pz_s1_n]; decide)
theorem pz_si_k : ∀ i, i < 84 → pz_si.2.1 i = pz_k0 i := by decide +kernel
theorem pz_si_r : ∀ i, i < 84 → ∀ k, k < 60 → (pz_r0 i k = none ∨ pz_si.2.2 i k = pz_r0 i k) := by decide +kernel
theorem pz_si_sh : pz_sh pz_si := ⟨by show 84 ≤ pz_s2.1 + 1; rw [pz_s2_n]; decide, pz_si_k, fun i hi k hk j hj => by
  rcases pz_si_r i hi k hk with h | h
  · rw [h] at hj; cases hj
  · rw [h]; exact hj, pz_wf_new pz_s2_wf⟩
