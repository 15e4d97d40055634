noncomputable def rdI (c0 : Int64) : Int32 := @ite _ (RD c0.toInt) (Classical.propDecidable _) 1 0
theorem rdI_1 {c0 : Int64} (h : RD c0.toInt) : rdI c0 = 1 := by unfold rdI; exact if_pos h
theorem rdI_0 {c0 : Int64} (h : ¬ RD c0.toInt) : rdI c0 = 0 := by unfold rdI; exact if_neg h
theorem i32_le27 {x : Int32} : x ≤ 27 ↔ x.toInt ≤ 27 := Int32.le_iff_toInt_le
theorem i32_0 {x : Int32} : x = 0 ↔ x.toInt = 0 := (Int32.toInt_inj (x := x) (y := 0)).symm
set_option maxHeartbeats 4000000 in
set_option maxRecDepth 100000 in
theorem c_X7_isReadable (l : Launch) (D : va_G) (cy : Nat → ClassId) {σ : pzS} {M : pzM} {c0 : Int64} (h : pz_sh σ)  : pz_Met l yX7_isReadable cX7_isReadable 6 (some .boolean) 0 0 0 0 D cy σ M [.long c0] (fun r σ' M' => r = some (.int (rdI c0)) ∧ σ' = σ ∧ M' = M) := by
  refine pz_ofW (by decide) (Nat.le_of_ble_eq_true rfl) (fun p e s m args below meth c ad A C hr hnm => ?_)
  refine pz_lload_n C 0 dX7_isReadable_0 rfl ?_
  refine pz_lconst C (v := 0) dX7_isReadable_1 (by decide) ?_
  refine pz_lcmp C dX7_isReadable_2 ?_
  refine pz_if_le (tgt := 15) C dX7_isReadable_3 (by decide) (fun h3 => ?_) (fun h3 => ?_)
  · refine pz_iconst C (v := 0) dX7_isReadable_15 (by decide) ?_
    exact pz_zret C hr rfl (Nat.le_of_ble_eq_true rfl) (Nat.le_of_ble_eq_true rfl) dX7_isReadable_16 (by first | exact ⟨by rw [rdI_0 (fun q => absurd q.1 (Int.not_lt.mpr (cmp_le.mp h3)))], rfl, rfl⟩ | exact ⟨by rw [rdI_0 (fun q => h12 (cmp_eq.mpr ((shr60 c0).trans q.2.1)))], rfl, rfl⟩)
  · refine pz_lload_n C 0 dX7_isReadable_6 rfl ?_
    refine pz_bipush C (v := 60) dX7_isReadable_7 (by decide) ?_
    refine pz_lshr C dX7_isReadable_9 ?_
    refine pz_lconst C (v := 0) dX7_isReadable_10 (by decide) ?_
    refine pz_lcmp C dX7_isReadable_11 ?_
    refine pz_if_eq (tgt := 17) C dX7_isReadable_12 (by decide) (fun h12 => ?_) (fun h12 => ?_)
    · have hpos : 0 < c0.toInt := by
        have a1 : ¬ c0.toInt ≤ (0 : Int64).toInt := fun q => h3 (cmp_le.mpr q)
        have e0 : (0 : Int64).toInt = 0 := rfl
        omega
      have hq12 : qt c0.toInt 12 = 0 := (shr60 c0).symm.trans (cmp_eq.mp h12)
      refine pz_lload_n C 0 dX7_isReadable_17 rfl ?_
      refine pz_topl (fun x2_18 e2_18 => ?_)
      refine pz_lstore_n (loc' := [(2, .long x2_18), (0, .long c0)]) C dX7_isReadable_18 (by decide) rfl ?_
      refine pz_iconst C (v := 0) dX7_isReadable_19 (by decide) ?_
      refine pz_istore (loc' := [(4, .int 0), (2, .long x2_18), (0, .long c0)]) C dX7_isReadable_20 (by decide) rfl ?_
      have LOOP : ∀ (n k : Nat) (rest : Int64), k + n = 12 → rest.toInt = qt c0.toInt k → (∀ j, j < k → 1 ≤ dg c0.toInt j ∧ dg c0.toInt j ≤ 27) → pz_W p l e ({ frames := 0, cells := 0, slots := 0, locals := 0 }) s m args below meth c 6 D cy A σ.1 ad (MQ below (pz_Q D cy σ.1 ad (fun r σ' M' => r = some (.int (rdI c0)) ∧ σ' = σ ∧ M' = M) A) args s 0 0 A) σ M 0 0 22 [(4, .int (nI k)), (2, .long rest), (0, .long c0)] [] := by
        intro n
        induction n with
        | zero =>
          intro k rest hk hrest hd
          obtain rfl : k = 12 := by omega
          refine pz_iload C 0 dX7_isReadable_22 rfl ?_
          refine pz_bipush C (v := 12) dX7_isReadable_24 (by decide) ?_
          refine pz_icmp_ge (tgt := 67) C dX7_isReadable_26 (by decide) (fun h26 => ?_) (fun h26 => ?_)
          · refine pz_iconst C (v := 1) dX7_isReadable_67 (by decide) ?_
            exact pz_zret C hr rfl (Nat.le_of_ble_eq_true rfl) (Nat.le_of_ble_eq_true rfl) dX7_isReadable_68 (⟨by rw [rdI_1 ⟨hpos, hq12, fun j hj hq => hd j hj⟩], rfl, rfl⟩)
          · exact absurd (by decide) h26
        | succ n ih =>
          intro k rest hk hrest hd
          have hk12 : k < 12 := by omega
          refine pz_iload C 0 dX7_isReadable_22 rfl ?_
          refine pz_bipush C (v := 12) dX7_isReadable_24 (by decide) ?_
          refine pz_icmp_ge (tgt := 67) C dX7_isReadable_26 (by decide) (fun h26 => ?_) (fun h26 => ?_)
          · exact absurd h26 (nI_ge hk12 (by decide))
          · refine pz_lload_n C 1 dX7_isReadable_29 rfl ?_
            refine pz_lconst C (v := 0) dX7_isReadable_30 (by decide) ?_
            refine pz_lcmp C dX7_isReadable_31 ?_
            refine pz_if_eq (tgt := 67) C dX7_isReadable_32 (by decide) (fun h32 => ?_) (fun h32 => ?_)
            · refine pz_iconst C (v := 1) dX7_isReadable_67 (by decide) ?_
              exact pz_zret C hr rfl (Nat.le_of_ble_eq_true rfl) (Nat.le_of_ble_eq_true rfl) dX7_isReadable_68 (⟨by rw [rdI_1 ⟨hpos, hq12, fun j hj hq => hd j (Nat.lt_of_not_le (fun q => hq (qt_z _ (hrest.symm.trans (cmp_eq.mp h32)) q)))⟩], rfl, rfl⟩)
            · have hnz : qt c0.toInt k ≠ 0 := fun q => h32 (cmp_eq.mpr (hrest.trans q))
              refine pz_lload_n C 1 dX7_isReadable_35 rfl ?_
              refine pz_ldc2 C kl_X7_27 dX7_isReadable_36 ?_
              refine pz_land C dX7_isReadable_39 ?_
              refine pz_l2i C dX7_isReadable_40 ?_
              refine pz_topi (fun x5_41 e5_41 => ?_)
              refine pz_istore (loc' := [(5, .int x5_41), (4, .int (nI k)), (2, .long rest), (0, .long c0)]) C dX7_isReadable_41 (by decide) rfl ?_
              have hdg : x5_41.toInt = dg c0.toInt k := by rw [e5_41]; exact dgi_int c0 hrest
              refine pz_iload C 0 dX7_isReadable_43 rfl ?_
              refine pz_if_eq (tgt := 55) C dX7_isReadable_45 (by decide) (fun h45 => ?_) (fun h45 => ?_)
              · refine pz_iconst C (v := 0) dX7_isReadable_55 (by decide) ?_
                exact pz_zret C hr rfl (Nat.le_of_ble_eq_true rfl) (Nat.le_of_ble_eq_true rfl) dX7_isReadable_56 (by first | exact ⟨by rw [rdI_0 (fun q => absurd (q.2.2 k hk12 hnz).1 (by have := i32_0.mp h45; omega))], rfl, rfl⟩ | exact ⟨by rw [rdI_0 (fun q => h52 (i32_le27.mpr (by rw [hdg]; exact (q.2.2 k hk12 hnz).2)))], rfl, rfl⟩)
              · refine pz_iload C 0 dX7_isReadable_48 rfl ?_
                refine pz_bipush C (v := 27) dX7_isReadable_50 (by decide) ?_
                refine pz_icmp_le (tgt := 57) C dX7_isReadable_52 (by decide) (fun h52 => ?_) (fun h52 => ?_)
                · have hlo : 1 ≤ dg c0.toInt k := by
                    have a1 := (dg_lo c0.toInt k).1
                    have a2 : ¬ x5_41.toInt = 0 := fun q => h45 (i32_0.mpr q)
                    omega
                  have hhi : dg c0.toInt k ≤ 27 := by rw [← hdg]; exact i32_le27.mp h52
                  refine pz_lload_n C 2 dX7_isReadable_57 rfl ?_
                  refine pz_iconst C (v := 5) dX7_isReadable_58 (by decide) ?_
                  refine pz_lshr C dX7_isReadable_59 ?_
                  refine pz_topl (fun x2_60 e2_60 => ?_)
                  refine pz_lstore_n (loc' := [(2, .long x2_60), (5, .int x5_41), (4, .int (nI k)), (0, .long c0)]) C dX7_isReadable_60 (by decide) rfl ?_
                  obtain ⟨x4_61, e4_61⟩ : ∃ z : Int32, z = (nI k) + (1) := ⟨_, rfl⟩
                  refine pz_iinc (v := x4_61) (loc' := [(4, .int x4_61), (2, .long x2_60), (5, .int x5_41), (0, .long c0)]) C 2 dX7_isReadable_61 rfl (by rw [e4_61]; rfl) (by decide) rfl ?_
                  refine pz_goto (tgt := 22) C dX7_isReadable_64 (by decide) ?_
                  obtain rfl : x4_61 = nI (k + 1) := e4_61.trans (nI_1 k)
                  refine pz_locsub [0, 1, 3] rfl ?_
                  refine ih (k + 1) x2_60 (by omega) (by rw [e2_60]; exact shr5 c0 hrest) (fun j hj => ?_)
                  rcases Nat.lt_or_eq_of_le (Nat.le_of_lt_succ hj) with h9 | rfl
                  · exact hd j h9
                  · exact ⟨hlo, hhi⟩
                · refine pz_iconst C (v := 0) dX7_isReadable_55 (by decide) ?_
                  exact pz_zret C hr rfl (Nat.le_of_ble_eq_true rfl) (Nat.le_of_ble_eq_true rfl) dX7_isReadable_56 (by first | exact ⟨by rw [rdI_0 (fun q => absurd (q.2.2 k hk12 hnz).1 (by have := i32_0.mp h45; omega))], rfl, rfl⟩ | exact ⟨by rw [rdI_0 (fun q => h52 (i32_le27.mpr (by rw [hdg]; exact (q.2.2 k hk12 hnz).2)))], rfl, rfl⟩)
      have e9 := e2_18.symm; subst e9
      exact LOOP 12 0 c0 rfl (qt_0 _).symm (fun j hj => absurd hj (Nat.not_lt_zero j))
    · refine pz_iconst C (v := 0) dX7_isReadable_15 (by decide) ?_
      exact pz_zret C hr rfl (Nat.le_of_ble_eq_true rfl) (Nat.le_of_ble_eq_true rfl) dX7_isReadable_16 (by first | exact ⟨by rw [rdI_0 (fun q => absurd q.1 (Int.not_lt.mpr (cmp_le.mp h3)))], rfl, rfl⟩ | exact ⟨by rw [rdI_0 (fun q => h12 (cmp_eq.mpr ((shr60 c0).trans q.2.1)))], rfl, rfl⟩)
