/-! THE LOOP OF A RUN -/
theorem e_loopF {N fu : Nat} {x : Int} {V : pvM} (hx : x < 1000000) (h8 : V 28 8 ≠ 0) : q_X4_perform_b131 N (fu + 1) x V = some (0, V 28 8, V) := wz_to (by
  simp only [q_X4_perform_b131]
  refine wp_lI ?_
  rw [if_neg (by omega)]
  refine wp_gR ?_
  rw [if_pos h8]
  exact wp_gR (wp_rT ⟨rfl, rfl, rfl⟩))
theorem e_loopE {N fu : Nat} {x : Int} {V : pvM} (hx : x < 1000000) (h8 : V 28 8 = 0) (h5 : V 29 5 = 0) : q_X4_perform_b131 N (fu + 1) x V = some (0, V 28 8, V) := wz_to (by
  simp only [q_X4_perform_b131]
  refine wp_lI ?_
  rw [if_neg (by omega)]
  refine wp_gR ?_
  rw [if_neg (by omega), cL_eq e_areOpen, if_neg (show ¬ 0 < V 29 5 by omega), if_pos rfl]
  exact wp_gR (wp_rT ⟨rfl, rfl, rfl⟩))
theorem e_loopS {N fu : Nat} {x r : Int} {V V1 : pvM} (hx : 0 ≤ x ∧ x < 1000000) (h8 : V 28 8 = 0) (h5 : 0 < V 29 5) (hn : q_X4_doNext N V = some (0, r, V1)) : q_X4_perform_b131 N (fu + 1) x V = q_X4_perform_b131 N fu (x + 1) V1 := by
  show (lI (1000000) fun v3 => if v3 ≤ x then gR V 28 8 fun v4 => rT V v4 else gR V 28 8 fun v5 => if v5 ≠ 0 then gR V 28 8 fun v6 => rT V v6 else cL (q_X1_areOpen N V) fun v7 V => if v7 = 0 then gR V 28 8 fun v8 => rT V v8 else cL (q_X4_doNext N V) fun _ V => lI (pv_w (x + (1))) fun v9 => q_X4_perform_b131 N fu v9 V) = _
  show (if (1000000 : Int) ≤ x then gR V 28 8 fun v4 => rT V v4 else gR V 28 8 fun v5 => if v5 ≠ 0 then gR V 28 8 fun v6 => rT V v6 else cL (q_X1_areOpen N V) fun v7 V => if v7 = 0 then gR V 28 8 fun v8 => rT V v8 else cL (q_X4_doNext N V) fun _ V => lI (pv_w (x + (1))) fun v9 => q_X4_perform_b131 N fu v9 V) = _
  rw [if_neg (by omega)]
  show (if V 28 8 ≠ 0 then gR V 28 8 fun v6 => rT V v6 else cL (q_X1_areOpen N V) fun v7 V => if v7 = 0 then gR V 28 8 fun v8 => rT V v8 else cL (q_X4_doNext N V) fun _ V => lI (pv_w (x + (1))) fun v9 => q_X4_perform_b131 N fu v9 V) = _
  rw [if_neg (by omega), cL_eq e_areOpen, if_pos h5, if_neg (by decide), cL_eq hn, pv_w_id (by omega)]
  rfl
theorem wz_some {o : Option pvO} {Q : Int → pvM → Prop} (h : wz o Q) : ∃ r V, o = some (0, r, V) ∧ Q r V := by
  obtain ⟨t, r, V, h1, h2, h3⟩ := h
  subst h2
  exact ⟨r, V, h1, h3⟩
theorem FIN_stop {N fu : Nat} {x b : Int} {V0 V : pvM} (hx : x < 1000000) (h : FIN b V0 V) : q_X4_perform_b131 N (fu + 1) x V = some (0, V 28 8, V) := by
  rcases h.2.2.2.2.2 with h1 | h1
  · exact e_loopF hx h1.1
  · exact e_loopE hx h1.1 h1.2.1
/-- the steps are used up -/
theorem e_next4 {N d : Nat} {b : Int} {V0 V : pvM} (hP : PI V0) (hR : RT V0) (hC : CI b V0 V (d + 1)) (h400 : V 28 7 = 400) : q_X4_doNext N V = some (0, 0, pz_u V 28 8 4) ∧ FIN b V0 (pz_u V 28 8 4) := by
  obtain ⟨f, p, h, q1, q2, q3, hP1, hR1, hf, hp, hbd, hCL, ht⟩ := top_of hP hR hC
  have hC' := hC
  obtain ⟨c1, c2, c3, c4, c5, c6, c7, c8, c9, c10⟩ := hC'
  refine ⟨wz_to ?_, ?_⟩
  · unfold q_X4_doNext
    rw [cL_eq (e_unit ht.1 (by omega)), cL_eq (e_place ht.1 (by omega)), q1.1.1, q1.1.2.1, if_pos c2.2.2.2.1]
    have es : q_X6_isStepAt N f p V = some (0, 1, V) := rfl
    rw [cL_eq es, if_neg (by decide)]
    refine wp_gR (wp_lI ?_)
    rw [if_neg (by omega)]
    exact wp_lI (wp_gW (wp_rT ⟨rfl, rfl, rfl⟩))
  · have hf : fr [28] V (pz_u V 28 8 4) := fr_u (by simp)
    refine FIN_flt (e := 4) hC (hf.mono (by decide)) (fun i h7 h8 => by rw [pu_row, up_app, if_neg h8]) (Or.inr (by rw [pu_row, up_app, if_neg (by decide)])) (Or.inr (by rw [pu_row, up_app, if_neg (by decide)])) (by rw [pz_u_eq]) (by decide) (by rw [hf 39 (by decide)]) ?_ (bg_u c8 (hf 17 (by decide)) (hf 39 (by decide)) (hf 84 (by decide)))
    unfold KS at c7 ⊢
    rw [hf 39 (by decide)]; exact c7
theorem CI_go {b : Int} {V0 V : pvM} {D : Nat} (hC : CI b V0 V D) : V 28 8 = 0 ∧ 0 < V 29 5 := by
  obtain ⟨c1, c2, c3, -⟩ := hC
  exact ⟨c2.2.2.2.2.1, by omega⟩
set_option maxHeartbeats 4000000 in
set_option maxRecDepth 100000 in
theorem s_loop1 {N : Nat} {b : Int} {V0 : pvM} (hN : 50 ≤ N) (hP : PI V0) (hR : RT V0) (hW : RW V0) (hb : 0 ≤ b ∧ b ≤ 600) : ∀ (m fu : Nat) (x : Int) (V : pvM), 400 ≤ V 28 7 + m → m + 2 ≤ fu → (0 ≤ x ∧ x + m + 2 ≤ 1000000) → ((∃ D, CI b V0 V (D + 1)) ∨ FIN b V0 V) → ∃ V', q_X4_perform_b131 N fu x V = some (0, V' 28 8, V') ∧ FIN b V0 V' := by
  intro m
  induction m with
  | zero =>
    intro fu x V h4 h2 hx hC
    obtain ⟨fu', rfl⟩ : ∃ fu', fu = fu' + 1 + 1 := ⟨fu - 2, by omega⟩
    rcases hC with ⟨D, hC⟩ | hC
    · have h7 := hC.2.2.2.2.2.2.2.2.1
      obtain ⟨e1, e2⟩ := e_next4 (N := N) hP hR hC (by omega)
      rw [e_loopS (by omega) (CI_go hC).1 (CI_go hC).2 e1]
      exact ⟨_, FIN_stop (by omega) e2, e2⟩
    · exact ⟨V, FIN_stop (by omega) hC, hC⟩
  | succ m ih =>
    intro fu x V h4 h2 hx hC
    obtain ⟨fu', rfl⟩ : ∃ fu', fu = fu' + 1 := ⟨fu - 1, by omega⟩
    rcases hC with ⟨D, hC⟩ | hC
    · have h7 := hC.2.2.2.2.2.2.2.2.1
      by_cases h400 : V 28 7 = 400
      · obtain ⟨e1, e2⟩ := e_next4 (N := N) hP hR hC h400
        rw [e_loopS (by omega) (CI_go hC).1 (CI_go hC).2 e1]
        obtain ⟨fu2, rfl⟩ : ∃ fu2, fu' = fu2 + 1 := ⟨fu' - 1, by omega⟩
        exact ⟨_, FIN_stop (by omega) e2, e2⟩
      · obtain ⟨f, p, h, q1, q2, q3, hbd, hCL, hs⟩ := s_next (N := N) hN hP hR hW hb hC (by omega)
        obtain ⟨r, V1, e1, e2, e3⟩ := wz_some hs
        have hk := post_ci (PI_rcs hP hC.1) (RT_fr hC.1 pdr hR) hC (by omega) q1 q2 q3 hbd hCL e3
        rw [e_loopS (by omega) (CI_go hC).1 (CI_go hC).2 e1]
        exact ih fu' (x + 1) V1 (by omega) (by omega) (by omega) hk.2
    · exact ⟨V, FIN_stop (by omega) hC, hC⟩
/-! the beginning of a run -/
def arg3 (x y z : Int) (k : Nat) : Int := if k = 0 then x else if k = 1 then y else z
def INI (V V' : pvM) (f n : Nat) (x y z md : Int) : Prop := fr rcs V V' ∧ (V' 29 5 = 1 ∧ V' 29 6 = 0) ∧ (V' 28 5 = md ∧ V' 28 6 = 1 ∧ V' 28 7 = 0 ∧ V' 28 8 = 0 ∧ V' 28 9 = 0) ∧ (V' 31 0 = f ∧ V' 32 0 = 0 ∧ V' 33 0 = 20) ∧ (∀ k, k < 20 → V' 30 k = if k < n then vO 1 (arg3 x y z k) else zV) ∧ V' 35 3 = 0 ∧ V' 39 3 = 0 ∧ V' 39 7 = 0 ∧ V' 39 2 = V 39 2 ∧ V' 84 = V 84
set_option maxHeartbeats 4000000 in
set_option maxRecDepth 100000 in
theorem s_prm {N f n : Nat} {x y z md : Int} {V : pvM} {Q : Nat → Int → pvM → Prop} (hn : n ≤ 3) (hk : ∀ V', INI V V' f n x y z md → wp (q_X4_perform_b131 N N 0 V') Q) : ∀ (fu m k : Nat) (V1 : pvM), k + m = n → m + 1 ≤ fu → INI V V1 f k x y z md → wp (q_X4_perform_b81 N fu x y z n k V1) Q := by
  intro fu
  induction fu with
  | zero => intro m k V1 h1 h2; omega
  | succ fu ih =>
    intro m k V1 h1 h2 hI
    simp only [q_X4_perform_b81]
    refine wp_if (fun h9 => ?_) (fun h9 => ?_)
    · have hkn : k = n := by omega
      subst hkn
      exact wp_lI (hk V1 hI)
    · have hI' := hI
      obtain ⟨i1, i2, i3, i4, i5, i6, i7, i8, i9, i10⟩ := hI'
      have k116 : ∀ v : Int, v = arg3 x y z k → wp (q_X4_perform_b116 N (q_X4_perform_b81 N fu) x y z n k v 1 k V1) Q := by
        intro v hv
        unfold q_X4_perform_b116
        rw [cL_eq e_valueOf, cL_eq (e_setLocal (d := 0) (by rw [i2.2]; rfl) (by omega) (by omega))]
        refine wp_lw (by omega) ?_
        refine ih (m - 1) (k + 1) _ (by omega) (by omega) ⟨i1.trans (fr_u (by decide)), ?_, ?_, ?_, ?_, ?_, ?_, ?_, ?_, ?_⟩
        · rw [pu_off (by decide)]; exact i2
        · rw [pu_off (by decide)]; exact i3
        · rw [pu_off (by decide), pu_off (by decide), pu_off (by decide)]; exact i4
        · intro j hj
          rw [pu_row, up_app]
          by_cases hjk : j = k
          · rw [if_pos (by omega), if_pos (by omega), hv, hjk]
          · rw [if_neg (by omega), i5 j hj]
            by_cases hj2 : j < k
            · rw [if_pos hj2, if_pos (by omega)]
            · rw [if_neg hj2, if_neg (by omega)]
        · rw [pu_off (by decide)]; exact i6
        · rw [pu_off (by decide)]; exact i7
        · rw [pu_off (by decide)]; exact i8
        · rw [pu_off (by decide)]; exact i9
        · rw [pu_off (by decide)]; exact i10
      refine wp_lI ?_
      refine wp_if (fun h0 => wp_lI ?_) (fun h0 => ?_)
      · refine wp_if (fun h1 => ?_) (fun h1 => ?_)
        · exact k116 z (by unfold arg3; rw [if_neg (by omega), if_neg (by omega)])
        · exact k116 y (by unfold arg3; rw [if_neg (by omega), if_pos (by omega)])
      · exact k116 x (by unfold arg3; rw [if_pos (by omega)])
set_option maxHeartbeats 4000000 in
set_option maxRecDepth 100000 in
theorem s_perform {N f : Nat} {x y z pl : Int} {V : pvM} {Q : Nat → Int → pvM → Prop} (hN : 50 ≤ N) (hP : PI V) (hf : (f : Int) < V 1 6) (hk : ∀ V', INI V V' f (V 8 f).toNat x y z (if pl = 0 then 1 else 16) → wp (q_X4_perform_b131 N N 0 V') Q) : wp (q_X4_perform N f x y z pl V) Q := by
  have hn12 := hP.1
  have hp8 := (hP.2.1 f (by omega)).1
  unfold q_X4_perform
  have e1 : q_X1_clear N V = some (0, 0, pz_u (pz_u V 29 5 0) 29 6 0) := rfl
  have e2 : ∀ W : pvM, q_X2_clear N W = some (0, 0, pz_u W 35 3 0) := fun _ => rfl
  have e3 : ∀ W : pvM, q_X8_clear N W = some (0, 0, pz_u (pz_u W 39 3 0) 39 7 0) := fun _ => rfl
  rw [cL_eq e1, cL_eq (e2 _), cL_eq (e3 _)]
  refine wp_lI (wp_gW (wp_lI (wp_gW (wp_lI (wp_gW (wp_lI (wp_gW (wp_gW ?_))))))))
  obtain ⟨A, hA⟩ : ∃ A, A = pz_u (pz_u (pz_u (pz_u (pz_u (pz_u (pz_u (pz_u (pz_u (pz_u V 29 5 0) 29 6 0) 35 3 0) 39 3 0) 39 7 0) 28 6 0) 28 7 0) 28 8 0) 28 9 0) 28 5 1 := ⟨_, rfl⟩
  rw [← hA]
  have af : fr rcs V A := by
    rw [hA]
    exact (((((((((fr_u (by decide)).trans (fr_u (by decide))).trans (fr_u (by decide))).trans (fr_u (by decide))).trans (fr_u (by decide))).trans (fr_u (by decide))).trans (fr_u (by decide))).trans (fr_u (by decide))).trans (fr_u (by decide))).trans (fr_u (by decide))
  have a29 : A 29 = va_up (va_up (V 29) 5 0) 6 0 := by rw [hA]; simp [pu_off, pu_row]
  have a35 : A 35 = va_up (V 35) 3 0 := by rw [hA]; simp [pu_off, pu_row]
  have a39 : A 39 = va_up (va_up (V 39) 3 0) 7 0 := by rw [hA]; simp [pu_off, pu_row]
  have a28 : A 28 = va_up (va_up (va_up (va_up (va_up (V 28) 6 0) 7 0) 8 0) 9 0) 5 1 := by rw [hA]; simp [pu_off, pu_row]
  have a84 : A 84 = V 84 := by rw [hA]; simp [pu_off]
  have k62 : ∀ (B : pvM) (md : Int), fr [28] A B → B 28 = va_up (A 28) 5 md → (∀ V', INI V V' f (V 8 f).toNat x y z md → wp (q_X4_perform_b131 N N 0 V') Q) → wp (q_X4_perform_b62 N f x y z B) Q := by
    intro B md bf b28 hk2
    unfold q_X4_perform_b62
    have b5 : B 29 5 = ((0 : Nat) : Int) := by rw [bf 29 (by decide), a29, up_app, if_neg (by decide), up_app, if_pos rfl]; rfl
    have b6 : B 28 6 = 0 := by rw [b28, up_app, if_neg (by decide), a28]; simp [up_app]
    rw [cL_eq (e_beginT (D := 0) hN (by omega) b5 (by omega))]
    have e8 : bfV B 0 f 8 = V 8 := by unfold bfV; rw [openV_off (by decide), pu_off (by decide), bf 8 (by decide), af 8 (by decide)]
    rw [cL_eq (e_parametersOf (by omega)), e8, show ((f : Int)).toNat = f by omega]
    refine wp_lI ?_
    have hI : INI V (bfV B 0 f) f 0 x y z md := by
      refine ⟨?_, ?_, ?_, ?_, ?_, ?_, ?_, ?_, ?_, ?_⟩
      · intro c hc
        simp [rcs] at hc
        unfold bfV
        rw [openV_off (by omega), pu_off (by omega), bf c (by simp; omega), af c (by simp [rcs]; omega)]
      · unfold bfV
        rw [openV_29]; simp [up_app]
      · unfold bfV
        rw [openV_off (by decide), pu_row, b28, a28]; simp [up_app]
      · unfold bfV
        rw [openV_31, openV_32, openV_33]; simp [up_app]
      · intro k hk
        unfold bfV
        rw [openV_30]; dsimp only
        rw [if_pos (by omega), if_neg (by omega)]
      · unfold bfV
        rw [openV_off (by decide), pu_off (by decide), bf 35 (by decide), a35]; simp [up_app]
      · unfold bfV
        rw [openV_off (by decide), pu_off (by decide), bf 39 (by decide), a39]; simp [up_app]
      · unfold bfV
        rw [openV_off (by decide), pu_off (by decide), bf 39 (by decide), a39]; simp [up_app]
      · unfold bfV
        rw [openV_off (by decide), pu_off (by decide), bf 39 (by decide), a39]; simp [up_app]
      · unfold bfV
        rw [openV_off (by decide), pu_off (by decide), bf 84 (by decide), a84]
    have k9 := s_prm (N := N) (f := f) (n := (V 8 f).toNat) (x := x) (y := y) (z := z) (md := md) (V := V) (Q := Q) (by omega) hk2 N (V 8 f).toNat 0 (bfV B 0 f) (by omega) (by omega) hI
    rw [show (((V 8 f).toNat : Nat) : Int) = V 8 f by omega] at k9
    exact k9
  refine wp_if (fun h0 => ?_) (fun h0 => ?_)
  · rw [if_pos h0] at hk
    refine k62 A 1 (fr.refl _ _) ?_ hk
    rw [a28]
    funext j; simp only [up_app]; split <;> rfl
  · rw [if_neg h0] at hk
    refine wp_gW (k62 _ 16 (fr_u (by simp)) ?_ hk)
    rw [pu_row]
theorem INI_ci {b : Int} {V V' : pvM} {f : Nat} {x y z : Int} (hP : PI V) (hR : RT V) (hK : KS V) (hB : BG b V) (hf : (f : Int) < V 1 6) (hxyz : I32 x ∧ I32 y ∧ I32 z) (h : INI V V' f (V 8 f).toNat x y z 1) : CI b V V' (0 + 1) := by
  obtain ⟨i1, i2, i3, i4, i5, i6, i7, i8, i9, i10⟩ := h
  have hwo := wrS_ok (hR f hf)
  have hl := (hP.2.1 f (by have := hP.1; omega)).2
  have hHT := Hf_ok hR hf
  refine ⟨i1, ⟨i2.1, by rw [i2.2]; rfl, i3.2.1, i3.1, i3.2.2.2.1, i3.2.2.2.2⟩, by omega, ?_, ?_, ?_, ?_, ?_, by omega, by omega⟩
  · intro d hd
    have hd0 : d = 0 := by omega
    subst hd0
    refine ⟨f, 0, 0, ⟨⟨i4.1, i4.2.1, i4.2.2⟩, ?_, fun j hj => by omega, fun k hk => ?_⟩, by omega, ?_⟩
    · rw [i1 1 (by decide), i1 9 (by decide)]; exact ⟨hf, by omega⟩
    · rw [show 33 * 0 + k = k by omega, i5 k (by omega)]
      split
      · refine vok_n ?_
        unfold arg3
        repeat' split
        · exact hxyz.1
        · exact hxyz.2.1
        · exact hxyz.2.2
      · exact vok_z _ _
    · rw [if_pos rfl, Hf_fr i1 pdr, hHT.1]; rfl
  · exact ⟨by omega, fun c hc => by omega⟩
  · exact ⟨by omega, fun t ht => by omega⟩
  · unfold KS at hK ⊢
    rw [i9]; exact hK
  · unfold BG at hB ⊢
    rw [i9, i10, i1 17 (by decide)]; exact hB
/-- a run of the first code -/
theorem s_run1 {N f : Nat} {x y z b : Int} {V : pvM} (hN : 500 ≤ N) (hP : PI V) (hR : RT V) (hW : RW V) (hK : KS V) (hB : BG b V) (hb : 0 ≤ b ∧ b ≤ 600) (hf : (f : Int) < V 1 6) (hxyz : I32 x ∧ I32 y ∧ I32 z) : wz (q_X4_perform N f x y z 0 V) (fun r V' => r = V' 28 8 ∧ FIN b V V') := by
  refine s_perform (by omega) hP hf (fun V' hI => ?_)
  rw [if_pos rfl] at hI
  have hC := INI_ci hP hR hK hB hf hxyz hI
  obtain ⟨V9, h1, h2⟩ := s_loop1 (N := N) (by omega) hP hR hW hb 400 N 0 V' (by have := hI.2.2.1.2.2.1; omega) (by omega) (by omega) (Or.inl ⟨0, hC⟩)
  exact ⟨0, _, V9, h1, rfl, rfl, h2⟩
