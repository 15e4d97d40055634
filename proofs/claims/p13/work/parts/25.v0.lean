/-! THE START: the memory behind the constructors -/
def pv_N : Nat := 2000000
def pv_V0 : pvM := fun c k => if c = 17 ∧ k = 0 then 64 else if c = 39 ∧ k = 2 then 200 else if c = 28 ∧ k = 5 then 1 else 0
theorem pv_V0_0 {c k : Nat} (h : ¬ (c = 17 ∧ k = 0)) (h1 : ¬ (c = 39 ∧ k = 2)) (h2 : ¬ (c = 28 ∧ k = 5)) : pv_V0 c k = 0 := by unfold pv_V0; rw [if_neg h, if_neg h1, if_neg h2]
theorem pv_si_j : ∀ r, r < 4 → pz_si.2.2 17 r = some (18 + r) := by decide +kernel
theorem pv_si_k : pz_si.2.2 39 2 = some 42 := by decide +kernel
theorem pv_si_c : pz_si.2.2 28 5 = some 1 := by decide +kernel
theorem pv_V0_R : pv_R pv_V0 pz_si pz_z := by
  have ej : ∀ r, r < 4 → pv_j pz_si r = 18 + r := fun r hr => by unfold pv_j; rw [pv_si_j r hr]; rfl
  have ek : pv_k pz_si = 42 := by unfold pv_k; rw [pv_si_k]; rfl
  have ec : pv_cd pz_si = 1 := by unfold pv_cd; rw [pv_si_c]; rfl
  have hn : 84 ≤ pz_si.1 := pz_si_sh.1
  refine ⟨pz_si_sh, fun c k h => ?_, fun c k h => ?_, ⟨⟨fun r hr => ?_, fun r t hr ht h => ?_⟩, ?_⟩, ⟨⟨?_, ?_, ?_, ?_, fun k hk => ?_⟩, ?_⟩, ⟨fun k => ?_, fun k => ?_, fun k => ?_⟩, ?_⟩
  · have := pv_li_ps h
    rw [pv_V0_0 (by omega) (by omega) (by omega)]; rfl
  · have := pv_ll_lt h
    rw [pv_V0_0 (by omega) (by omega) (by omega)]; rfl
  · rw [ej r hr]
    refine ⟨Or.inl rfl, by omega, pv_si_j r hr, ?_, fun k hk => ?_⟩
    · rw [pz_si_k _ (by omega)]
      match r, hr with
      | 0, _ => rfl
      | 1, _ => rfl
      | 2, _ => rfl
      | 3, _ => rfl
    · rw [pv_V0_0 (by omega) (by omega) (by omega)]; rfl
  · rw [ej r hr, ej t ht] at h; omega
  · decide
  · rw [ek]; exact Or.inl rfl
  · rw [ek]; omega
  · rw [ek]; exact pv_si_k
  · rw [ek, pz_si_k _ (by decide)]; rfl
  · rw [pv_V0_0 (by omega) (by omega) (by omega)]; rfl
  · decide
  · rw [pv_V0_0 (by omega) (by omega) (by omega)]; omega
  · rw [pv_V0_0 (by omega) (by omega) (by omega)]; omega
  · rw [pv_V0_0 (by omega) (by omega) (by omega)]; omega
  · rw [ec]; exact ⟨pv_si_c, rfl, Or.inl rfl⟩
