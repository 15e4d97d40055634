/-! THE PLAINER CODE'S RUN, WHOLE -/
section PZ
variable {N : Nat} {b : Int} {V0 V Vp : pvM} {d f p h : Nat} {ix : Nat → Nat}
set_option maxHeartbeats 4000000 in
set_option maxRecDepth 100000 in
theorem pw_step {V' : pvM} (hN : 250 ≤ N) (hL : LOW V0) (hW : RW V0) (hP : PI V0) (hb : 0 ≤ b ∧ b ≤ 600) (hC : CI b V0 V (d + 1)) (hR : RP b V0 V Vp (d + 1) ix) (h400 : V 28 7 < 400) (hm : frm V d f p h) (hh : h ≤ 12) (hbd : bd V f p) (hPo : POST b V d f p h V') : RE N 50 Vp (RPO b V0 V') := by
  obtain ⟨b1, b2, b3, b4, b5, b6⟩ := hbd
  have hPV := PI_rcs hP hC.1
  have hn12 := hPV.1
  have m1 : ∀ {n : Nat} {Q : pvM → Prop}, n ≤ 50 → RE N n Vp Q → RE N 50 Vp Q := fun h1 h2 => RE_mono h2 h1 (fun _ h => h)
  have r1 := fun hw => row1 hL hW hP hC hm hw
  rcases hPo with ⟨h0, rfl⟩ | ⟨h0, rfl⟩ | ⟨h0, h', rfl, rfl⟩ | ⟨h0, h', rfl, rfl⟩ | ⟨h0, h', rfl, rfl⟩ | ⟨h0, h', rfl, rfl⟩ | ⟨h0, rfl⟩ | ⟨h0, h', rfl, rfl⟩ | ⟨h0, h', n, rfl, h9, rfl⟩ | ⟨h0, h', h2, rfl, h9, rfl⟩ | ⟨h0, h', rfl, h9⟩ | ⟨h0, h', n, rfl, h9, rfl⟩ | ⟨h0, h', n, rfl, h9, rfl⟩ | ⟨h0, h', n, rfl, h9, h8⟩
  · obtain ⟨q1, q2⟩ := r1 (by omega)
    rw [if_neg (by omega), h0] at q1
    exact m1 (by omega) (pw_0 hC hR hm hh h400 q1 q2)
  · obtain ⟨a, ha⟩ : ∃ a : Nat, cA V f p = a := ⟨(cA V f p).toNat, by have := b1 (Or.inl h0); omega⟩
    obtain ⟨q1, q2⟩ := r1 (by omega)
    rw [if_neg (by omega), h0, ha] at q1
    rw [ha, show ((a : Int)).toNat = a by omega]
    exact m1 (by omega) (pw_1 hC hR hm hh h400 q1 q2 (by have := b1 (Or.inl h0); omega))
  · obtain ⟨a, ha⟩ : ∃ a : Nat, cA V f p = a := ⟨(cA V f p).toNat, by have := b1 (Or.inr h0); omega⟩
    obtain ⟨q1, q2⟩ := r1 (by omega)
    rw [if_neg (by omega), h0, ha] at q1
    rw [ha, show ((a : Int)).toNat = a by omega]
    exact m1 (by omega) (pw_2 hC hR hm hh h400 q1 q2 (by have := b1 (Or.inr h0); omega))
  · obtain ⟨q1, q2⟩ := r1 (by omega)
    exact m1 (by omega) (pw_345 (by omega) hC hR hm hh h400 h0 q1 q2)
  · obtain ⟨q1, q2⟩ := r1 (by omega)
    rw [if_neg (by omega), h0] at q1
    exact m1 (by omega) (pw_6 hC hR hm hh h400 q1 q2)
  · obtain ⟨q1, q2⟩ := r1 (by omega)
    rw [if_neg (by omega), h0] at q1
    exact m1 (by omega) (pw_7 hC hR hm hh h400 q1 q2)
  · obtain ⟨a, ha⟩ : ∃ a : Nat, cA V f p = a := ⟨(cA V f p).toNat, by have := b2 (Or.inl h0); omega⟩
    obtain ⟨q1, q2⟩ := r1 (by omega)
    rw [if_pos (by omega), h0, ha, show ((a : Int)).toNat = a by omega] at q1
    rw [ha]
    exact m1 (by omega) (pw_8 hC hR hm hh h400 q1)
  · obtain ⟨a, ha⟩ : ∃ a : Nat, cA V f p = a := ⟨(cA V f p).toNat, by have := b2 (Or.inr h0); omega⟩
    obtain ⟨q1, q2⟩ := r1 (by omega)
    rw [if_pos (by omega), h0, ha, show ((a : Int)).toNat = a by omega] at q1
    rw [ha]
    exact m1 (by omega) (pw_9 hC hR hm hh h400 q1 q2)
  · have hb3 := b3 h0
    obtain ⟨a, ha⟩ : ∃ a : Nat, cA V f p = a := ⟨(cA V f p).toNat, by omega⟩
    obtain ⟨q1, q2⟩ := r1 (by omega)
    rw [if_neg (by omega), h0, ha] at q1
    rw [ha, show ((a : Int)).toNat = a by omega] at h9
    have h8 := (hPV.2.1 a (by omega)).1
    rw [ha]
    exact m1 (by omega) (pw_10 (by omega) hP hC hR hm hh h400 q1 q2 (by omega) h9 (by omega))
  · obtain ⟨q1, q2⟩ := r1 (by omega)
    rw [if_neg (by omega), h0] at q1
    exact m1 (by omega) (pw_11 hL hW hP hC hR hm hh h400 q1 h9)
  · obtain ⟨q1, q2⟩ := r1 (by omega)
    rw [if_neg (by omega), h0] at q1
    exact m1 (by omega) (pw_12 (by omega) hC hR hm hh h400 q1 q2 h9)
  · have hb4 := b4 h0
    have h8 := (hPV.2.1 (cA V f p).toNat (by omega)).1
    exact m1 (by omega) (pw_13 (by omega) hL hW hP hC hR hm hh h400 h0 h9 (by omega))
  · exact m1 (by omega) (pw_14 (by omega) hL hW hP hC hR hm hh h400 h0 h9 (by have := b5 h0; omega))
  · have hb6 := b6 h0
    obtain ⟨a, ha⟩ : ∃ a : Nat, cA V f p = a := ⟨(cA V f p).toNat, by omega⟩
    rw [ha, show ((a : Int)).toNat = a by omega] at h8 h9
    exact pw_15 hN hL hW hP hb hC hR hm hh h400 h0 ha (by omega) h9 h8
theorem e_pnext4 {e u q : Nat} {w a b0 : Int} (h5 : V 28 5 ≠ 1) (he : V 29 6 = e) (he6 : e < 60) (hu : V 31 e = u) (hq : V 32 e = q) (hr : row V u q w a b0 1) (h7 : V 28 7 = 400) : q_X4_doNext N V = some (0, 0, pz_u V 28 8 4) := wz_to (by
  obtain ⟨r1, r2, r3, r4, r5, r6⟩ := hr
  obtain ⟨-, -, -, e4⟩ := e_pat (f := u) (i := q) (V := V) r1 r2 N
  rw [r6, if_pos rfl] at e4
  unfold q_X4_doNext
  rw [cL_eq (e_unit he he6), cL_eq (e_place he he6), hu, hq, if_neg h5, cL_eq e4, if_neg (by decide)]
  refine wp_gR (wp_lI ?_)
  rw [if_neg (by omega)]
  exact wp_lI (wp_gW (wp_rT ⟨rfl, rfl, rfl⟩)))
theorem pw_four (hL : LOW V0) (hW : RW V0) (hP : PI V0) (hC : CI b V0 V (d + 1)) (hR : RP b V0 V Vp (d + 1) ix) (h400 : V 28 7 = 400) (hm : frm V d f p h) (hh : h ≤ 12) : q_X4_doNext N Vp = some (0, 0, pz_u Vp 28 8 4) ∧ PFN b V0 (pz_u V 28 8 4) (pz_u Vp 28 8 4) := by
  obtain ⟨t1, t2, t3, t4, t5, t6⟩ := RP_tops hC hR hm hh
  have hR' := hR
  obtain ⟨r1, r2, r3, r4, r5, r6, r7, r8⟩ := hR'
  have hfn : (f : Int) < V0 1 6 := by rw [← hC.1 1 (by decide)]; exact hm.2.1.1
  have hpn : (p : Int) < V0 9 f := by rw [← hC.1 9 (by decide)]; exact hm.2.1.2
  have hpos : 0 < (Gp V0 f p).length := by unfold Gp; exact grp_len_pos _ _ _ _ _
  have hrow := low_row hL hW hP (j := 0) (x := (Gp V0 f p)[0]) hfn hpn (List.getElem?_eq_getElem hpos)
  rw [if_pos rfl, Nat.add_zero] at hrow
  refine ⟨e_pnext4 (e := ix d) (by rw [t5.1]; decide) t1.2.1 (by omega) t2.1 t2.2.1 (row_fr r1 hrow) (by rw [t5.2.2.2.2]; exact h400), ?_⟩
  refine PFN_flt (e := 4) hR (fr_u (by decide)) ?_ (by rw [pz_u_eq]) (by rw [pz_u_eq]) (by decide) ?_ ?_ ?_ ?_ ?_
  · rw [pu_row, pu_row, up_app, up_app, if_neg (by decide), if_neg (by decide)]; exact r2.2.2.1
  · rw [pu_off (by decide), pu_off (by decide)]; exact r7.2.1
  · rw [pu_row, up_app, if_neg (by decide)]; exact hC.2.1.2.2.2.2.2
  · rw [pu_row, up_app, if_neg (by decide)]; exact r2.2.2.2.2
  · unfold KS; rw [pu_off (by decide)]; exact r8.2.1
  · exact bg_u r8.2.2 (pu_off (by decide)) (pu_off (by decide)) (pu_off (by decide))
theorem PFN_stop {fu : Nat} {x : Int} (hx : x < 1000000) (h : PFN b V0 V Vp) : q_X4_perform_b131 N (fu + 1) x Vp = some (0, Vp 28 8, Vp) := by
  have h8 := h.2.2.2.2.1
  rcases h.2.2.2.2.2.2.2 with h1 | h1
  · exact e_loopF hx (by rw [h8]; exact h1)
  · by_cases h0 : Vp 28 8 = 0
    · exact e_loopE hx h0 h1.2
    · exact e_loopF hx h0
end PZ
section PY
variable {N : Nat} {b : Int} {V0 : pvM}
set_option maxHeartbeats 4000000 in
set_option maxRecDepth 100000 in
theorem s_loop3 (hN : 250 ≤ N) (hL : LOW V0) (hP : PI V0) (hW : RW V0) (hb : 0 ≤ b ∧ b ≤ 600) : ∀ (m fuc fu : Nat) (xc x : Int) (V Vp : pvM), 400 ≤ V 28 7 + m → m + 2 ≤ fuc → 50 * (m + 2) ≤ fu → (0 ≤ xc ∧ xc + m + 2 ≤ 1000000) → (0 ≤ x ∧ x + 50 * (m + 2) ≤ 1000000) → ((∃ D ix, CI b V0 V (D + 1) ∧ RP b V0 V Vp (D + 1) ix) ∨ (FIN b V0 V ∧ PFN b V0 V Vp)) → ∃ V9 Vp9, q_X4_perform_b131 N fuc xc V = some (0, V9 28 8, V9) ∧ FIN b V0 V9 ∧ q_X4_perform_b131 N fu x Vp = some (0, Vp9 28 8, Vp9) ∧ PFN b V0 V9 Vp9 := by
  have hR := hL.1
  intro m
  induction m with
  | zero =>
    intro fuc fu xc x V Vp h4 h2 h3 hxc hx hC
    obtain ⟨fuc', rfl⟩ : ∃ fu', fuc = fu' + 1 + 1 := ⟨fuc - 2, by omega⟩
    obtain ⟨fu', rfl⟩ : ∃ fu', fu = fu' + 1 + 1 := ⟨fu - 2, by omega⟩
    rcases hC with ⟨D, ix, hC, hRP⟩ | ⟨hC, hF⟩
    · have h7 := hC.2.2.2.2.2.2.2.2.1
      obtain ⟨e1, e2⟩ := e_next4 (N := N) hP hR hC (by omega)
      obtain ⟨f, p, h, q1, q2, -⟩ := top_of hP hR hC
      obtain ⟨e3, e4⟩ := pw_four (N := N) hL hW hP hC hRP (by omega) q1 q2
      rw [e_loopS (by omega) (CI_go hC).1 (CI_go hC).2 e1, e_loopS (by omega) hRP.2.1.2.2.2.1 (by rw [hRP.2.2.1.1]; omega) e3]
      exact ⟨_, _, FIN_stop (by omega) e2, e2, PFN_stop (by omega) e4, e4⟩
    · exact ⟨V, Vp, FIN_stop (by omega) hC, hC, PFN_stop (by omega) hF, hF⟩
  | succ m ih =>
    intro fuc fu xc x V Vp h4 h2 h3 hxc hx hC
    obtain ⟨fuc', rfl⟩ : ∃ fu', fuc = fu' + 1 := ⟨fuc - 1, by omega⟩
    rcases hC with ⟨D, ix, hC, hRP⟩ | ⟨hC, hF⟩
    · have h7 := hC.2.2.2.2.2.2.2.2.1
      by_cases h400 : V 28 7 = 400
      · obtain ⟨e1, e2⟩ := e_next4 (N := N) hP hR hC h400
        obtain ⟨f, p, h, q1, q2, -⟩ := top_of hP hR hC
        obtain ⟨e3, e4⟩ := pw_four (N := N) hL hW hP hC hRP h400 q1 q2
        obtain ⟨fu', rfl⟩ : ∃ fu', fu = fu' + 1 + 1 := ⟨fu - 2, by omega⟩
        obtain ⟨fuc2, rfl⟩ : ∃ fu2, fuc' = fu2 + 1 := ⟨fuc' - 1, by omega⟩
        rw [e_loopS (by omega) (CI_go hC).1 (CI_go hC).2 e1, e_loopS (by omega) hRP.2.1.2.2.2.1 (by rw [hRP.2.2.1.1]; omega) e3]
        exact ⟨_, _, FIN_stop (by omega) e2, e2, PFN_stop (by omega) e4, e4⟩
      · obtain ⟨f, p, h, q1, q2, q3, hbd, hCL, hs⟩ := s_next (N := N) (by omega) hP hR hW hb hC (by omega)
        obtain ⟨r, V1, e1, e2, e3⟩ := wz_some hs
        have hk := post_ci (PI_rcs hP hC.1) (RT_fr hC.1 pdr hR) hC (by omega) q1 q2 q3 hbd hCL e3
        obtain ⟨k, Vp1, k1, k2, k3⟩ := RE_loop (pw_step (N := N) hN hL hW hP hb hC hRP (by omega) q1 q2 hbd e3)
        rw [e_loopS (by omega) (CI_go hC).1 (CI_go hC).2 e1]
        obtain ⟨fu', rfl⟩ : ∃ fu', fu = fu' + k := ⟨fu - k, by omega⟩
        rw [k3 fu' x (by omega) (by omega)]
        refine ih fuc' fu' (xc + 1) (x + k) V1 Vp1 (by omega) (by omega) (by omega) (by omega) (by omega) ?_
        rcases k2 with ⟨D2, ix2, z1, z2⟩ | z2
        · rcases hk.2 with ⟨D3, z3⟩ | z3
          · have hD : D3 = D2 := by have := z3.2.1.1; omega
            subst hD
            exact Or.inl ⟨D3, ix2, z3, z2⟩
          · exfalso
            have := z3.2.2.2.2.2
            omega
        · rcases hk.2 with ⟨D3, z3⟩ | z3
          · exfalso
            have h5 := z3.2.1.1
            have h8 := z3.2.1.2.2.2.2.1
            have h9 := z2.2.2.2.2.2.2.2
            omega
          · exact Or.inr ⟨z3, z2⟩
    · obtain ⟨fu', rfl⟩ : ∃ fu', fu = fu' + 1 := ⟨fu - 1, by omega⟩
      exact ⟨V, Vp, FIN_stop (by omega) hC, hC, PFN_stop (by omega) hF, hF⟩
theorem PFN_fin {V9 Vp9 : pvM} (h1 : FIN b V0 V9) (h2 : PFN b V0 V9 Vp9) : FIN b V0 Vp9 := by
  obtain ⟨a1, a2, a3, a4, a5, a6⟩ := h1
  obtain ⟨b1, b2, b3, b4, b5, b6, b7, b8⟩ := h2
  refine ⟨b1, b2, b3, by rw [b6]; exact a4, by rw [b4]; exact a5, ?_⟩
  rcases a6 with a6 | ⟨c1, c2, c3⟩
  · exact Or.inl (by rw [b5, b7]; exact a6)
  · refine Or.inr ⟨by rw [b5]; exact c1, ?_, by rw [b7]; exact c3⟩
    omega
/-- what a run of either code leaves behind: V9 is where the first code ends -/
def RUN (b : Int) (V : pvM) (N f : Nat) (x y z : Int) (V' : pvM) : Prop := FIN b V V' ∧ ∃ V1 V9, INI V V1 f (V 8 f).toNat x y z 1 ∧ q_X4_perform_b131 N N 0 V1 = some (0, V9 28 8, V9) ∧ V' 28 7 = V9 28 7 ∧ V' 28 8 = V9 28 8 ∧ V' 39 7 = V9 39 7 ∧ V' 28 9 = V9 28 9
set_option maxHeartbeats 4000000 in
set_option maxRecDepth 100000 in
theorem s_run {f : Nat} {x y z pl : Int} {V : pvM} (hN : 30000 ≤ N) (hP : PI V) (hL : LOW V) (hW : RW V) (hK : KS V) (hB : BG b V) (hb : 0 ≤ b ∧ b ≤ 600) (hf : (f : Int) < V 1 6) (hxyz : I32 x ∧ I32 y ∧ I32 z) : wz (q_X4_perform N f x y z pl V) (fun r V' => r = V' 28 8 ∧ RUN b V N f x y z V') := by
  refine s_perform (by omega) hP hf (fun V' hI => ?_)
  by_cases hpl : pl = 0
  · rw [if_pos hpl] at hI
    have hC := INI_ci hP hL.1 hK hB hf hxyz hI
    obtain ⟨V9, h1, h2⟩ := s_loop1 (N := N) (by omega) hP hL.1 hW hb 400 N 0 V' (by have := hI.2.2.1.2.2.1; omega) (by omega) (by omega) (Or.inl ⟨0, hC⟩)
    exact ⟨0, _, V9, h1, rfl, rfl, h2, V', V9, hI, h1, rfl, rfl, rfl, rfl⟩
  · rw [if_neg hpl] at hI
    have hI' := hI
    obtain ⟨i1, i2, i3, i4, i5, i6, i7, i8, i9, i10⟩ := hI'
    obtain ⟨Vh, hVh⟩ : ∃ Vh, Vh = pz_u V' 28 5 1 := ⟨_, rfl⟩
    have hof : ∀ c, c ≠ 28 → Vh c = V' c := fun c hc => by rw [hVh, pu_off hc]
    have h28 : Vh 28 = va_up (V' 28) 5 1 := by rw [hVh, pu_row]
    have hIh : INI V Vh f (V 8 f).toNat x y z 1 := by
      refine ⟨i1.trans (by rw [hVh]; exact fr_u (by decide)), by rw [hof 29 (by decide)]; exact i2, ?_, by rw [hof 31 (by decide), hof 32 (by decide), hof 33 (by decide)]; exact i4, fun k hk => by rw [hof 30 (by decide)]; exact i5 k hk, by rw [hof 35 (by decide)]; exact i6, by rw [hof 39 (by decide)]; exact i7, by rw [hof 39 (by decide)]; exact i8, by rw [hof 39 (by decide)]; exact i9, by rw [hof 84 (by decide)]; exact i10⟩
      rw [h28]
      rw [up_app, up_app, up_app, up_app, up_app, if_pos rfl, if_neg (by decide), if_neg (by decide), if_neg (by decide), if_neg (by decide)]
      exact ⟨rfl, i3.2⟩
    have hC := INI_ci hP hL.1 hK hB hf hxyz hIh
    have hRP : RP b V Vh V' (0 + 1) (fun _ => 0) := by
      refine ⟨i1, ⟨i3.1, ?_, ?_, i3.2.2.2.1, i3.2.2.2.2⟩, ⟨i2.1, i2.2⟩, ⟨rfl, fun d hd => by omega⟩, fun d hd => ?_, ⟨by rw [hof 35 (by decide)], fun c hc => by rw [hof 35 (by decide), i6] at hc; omega⟩, ⟨by rw [hof 39 (by decide)], by rw [hof 39 (by decide)], fun t ht => by rw [hof 39 (by decide), i7] at ht; omega⟩, ⟨by omega, fun t ht => by omega⟩, ?_, ?_⟩
      · rw [h28, up_app, if_neg (by decide)]
      · rw [h28, up_app, if_neg (by decide)]
      · have hd0 : d = 0 := by omega
        subst hd0
        refine ⟨f, 0, 0, ⟨by rw [hof 31 (by decide)]; exact i4.1, by rw [hof 32 (by decide)]; exact i4.2.1, by rw [hof 33 (by decide)]; exact i4.2.2⟩, ⟨i4.1, i4.2.1, i4.2.2⟩, by omega, fun k hk => by rw [hof 30 (by decide)], fun j hj => by omega⟩
      · unfold KS; rw [i9]; exact hK
      · unfold BG at hB ⊢; rw [i9, i10, i1 17 (by decide)]; exact hB
    obtain ⟨V9, Vp9, g1, g2, g3, g4⟩ := s_loop3 (N := N) (by omega) hL hP hW hb 400 N N 0 0 Vh V' (by have := hIh.2.2.1.2.2.1; omega) (by omega) (by omega) (by omega) (by omega) (Or.inl ⟨0, fun _ => 0, hC, hRP⟩)
    obtain ⟨b1, b2, b3, b4, b5, b6, b7, b8⟩ := g4
    exact ⟨0, _, Vp9, g3, rfl, rfl, PFN_fin g2 ⟨b1, b2, b3, b4, b5, b6, b7, b8⟩, Vh, V9, hIh, g1, b4, b5, b6, b7⟩
end PY
