/-! JOIN OF THE FIRST CODE, WHOLE -/
theorem jl_congr {V V' : pvM} {r : Nat} {sp : Nat → Nat} (h6 : V' 6 = V 6) : ∀ {k : Nat}, jl V' r sp k = jl V r sp k
  | 0 => rfl
  | k + 1 => by simp only [jl]; rw [jl_congr h6 (k := k), h6]
theorem jl_sp {V : pvM} {r : Nat} {sp sp' : Nat → Nat} {n : Nat} : ∀ k : Nat, k ≤ n → (∀ j : Nat, (j : Int) < c27 (V 6) (12 * r) n → sp j = sp' j) → jl V r sp k = jl V r sp' k
  | 0, _, _ => rfl
  | k + 1, hk, he => by
    simp only [jl]
    rw [jl_sp k (by omega) he]
    split
    · rename_i h27
      have hcm := c27_mono (V 6) (12 * r) (k := k + 1) (n := n) hk
      simp only [c27] at hcm
      rw [if_pos h27] at hcm
      have hcb := c27_bd (V 6) (12 * r) k
      rw [he _ (by omega)]
    · rfl
set_option maxHeartbeats 4000000 in
set_option maxRecDepth 100000 in
theorem s_fi15 {N r T d h n : Nat} {b H : Int} {V : pvM} (hN : 50 ≤ N) (hP : PI V) (hr : (r : Int) < V 2 5) (hn : V 4 r = n) (hW : RW V) (hb : 0 ≤ b ∧ b ≤ 600) (hT : V 39 3 = T) (hT4 : T < 400) (hH : H ≤ 400) (h8 : V 28 8 = 0) (hX : TX V) (hK : KS V) (hB : BG b V) (ht : tp V d (h + n)) (hh : h < 13) (hv : ∀ k, k < n → vok (V 39 3) H (V 30 (33 * d + 20 + h + k))) : wz (q_X4_join N r V) (fun _ V' => jnP b (takeV V d h n) T d h (jl V r (fun j => spL V (V 30 (33 * d + 20 + h + j))) (V 3 r).toNat) V') := by
  have h25 := hP.2.2.2.2.1
  have hhol := hP.hol hr
  have hr3 := hP.2.2.2.2.2.1.hb r (by omega)
  have h4 := (hP.2.2.2.2.2.1.2.2.2 r (by omega)).2.1
  obtain ⟨W, hWd⟩ : ∃ W, W = takeV V d h n := ⟨_, rfl⟩
  rw [← hWd]
  have wV : fr [33, 34] V W := fun c hc => by
    simp at hc
    rw [hWd, takeV_off (by omega) (by omega)]
  have hPW : PI W := hP.fr wV (by decide)
  have hWX : TX W := by unfold TX at hX ⊢; rw [wV 39 (by decide), wV 40 (by decide), wV 41 (by decide)]; exact hX
  have hWK : KS W := by unfold KS at hK ⊢; rw [wV 39 (by decide)]; exact hK
  have hWB : BG b W := bg_u hB (wV 17 (by decide)) (wV 39 (by decide)) (wV 84 (by decide))
  have hWR : RW W := rw_u hW (wV 17 (by decide))
  have e34 : ∀ k, k < n → W 34 k = V 30 (33 * d + 20 + h + k) := fun k hk => by rw [hWd, takeV_34 hk]
  have htW : tp W d h := by rw [hWd]; exact tp_take ht
  have hTW : W 39 3 = T := by rw [wV 39 (by decide)]; exact hT
  have hJ0 := JI_begin (b := b) (T := T) hT4 hTW hWX hWK hWB
  have k9 := s_join39 (N := N) (r := r) (T := T) (d := d) (h := h) (len := (V 3 r).toNat) (b := b) (H := H) (V0 := W) hN hPW (by rw [wV 2 (by decide)]; exact hr) (by rw [wV 3 (by decide)]; omega) hWR hb hT4 hH (by rw [wV 28 (by decide)]; exact h8) (fun k hk => by
    rw [wV 4 (by decide), hn] at hk
    rw [e34 k (by omega), ← hT]
    exact hv k (by omega)) htW hh N (V 3 r).toNat 0 (beginV W T) (by omega) (by omega) (by simp only [jl]; omega) (by simp only [jl]; exact hJ0)
  have ejl : jl W r (fun j => spL W (W 34 j)) (V 3 r).toNat = jl V r (fun j => spL V (V 30 (33 * d + 20 + h + j))) (V 3 r).toNat := by
    rw [jl_congr (wV 6 (by decide))]
    refine jl_sp (n := (V 3 r).toNat) _ (Nat.le_refl _) (fun j hj => ?_)
    rw [e34 j (by omega)]
    unfold spL
    rw [wV 41 (by decide)]
  rw [ejl] at k9
  simp only [c27] at k9
  rw [show W 5 r + ((0 : Nat) : Int) - 0 = W 5 r by omega, show ((0 : Nat) : Int) = 0 from rfl] at k9
  unfold q_X4_join
  rw [cL_eq (e_holesOf (by omega)), show ((r : Int)).toNat = r by omega, hn, cL_eq (e_take hN (by omega) ht), ← hWd, cL_eq (e_tbegin hT4 hTW hWX), cL_eq e_contentOf, (k2 (c := (T : Int)) (by unfold I32; omega)).2, cL_eq (e_firstLetterOf (by omega)), show ((r : Int)).toNat = r by omega, hJ0.1 5 (by decide)]
  exact wp_lI (wp_lI k9)
