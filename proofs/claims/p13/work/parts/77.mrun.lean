/-! THE REFERENCE'S RUN, WHOLE -/
section MR
variable {N : Nat} {b : Int} {U V0 V Vr : pvM} {d f p h : Nat}
set_option maxHeartbeats 4000000 in
set_option maxRecDepth 100000 in
theorem mw_body {V' : pvM} (hN : 300 ≤ N) (hS : SP U V0) (hP : PI V) (hC : CI b V0 V (d + 1)) (hR : RR U V Vr (d + 1)) (h400 : V 28 7 < 400) (hm : frm V d f p h) (hh : h ≤ 12) (hf : f < 12) (hp : p < 40) (hbd : bd V f p) (hPo : POST b V d f p h V') : wz (mbd N (40 * (f : Int) + p) (cA V f p) (cW V f p) (mnx Vr d ((p + 1 : Nat) : Int))) (fun _ Vr' => RO U V' Vr') := by
  obtain ⟨b1, b2, b3, b4, b5, b6⟩ := hbd
  have hn12 := hP.1
  have hA := (hP.2.2.2.1 (40 * f + p)).1
  rcases hPo with ⟨h0, rfl⟩ | ⟨h0, rfl⟩ | ⟨h0, h', rfl, rfl⟩ | ⟨h0, h', rfl, rfl⟩ | ⟨h0, h', rfl, rfl⟩ | ⟨h0, h', rfl, rfl⟩ | ⟨h0, rfl⟩ | ⟨h0, h', rfl, rfl⟩ | ⟨h0, h', n, rfl, h9, rfl⟩ | ⟨h0, h', h2, rfl, h9, rfl⟩ | ⟨h0, h', rfl, h9⟩ | ⟨h0, h', n, rfl, h9, rfl⟩ | ⟨h0, h', n, rfl, h9, rfl⟩ | ⟨h0, h', n, rfl, h9, h8⟩
  · rw [h0]; exact mw_0 hC hR hm hh hA
  · obtain ⟨a, ha⟩ : ∃ a : Nat, cA V f p = a := ⟨(cA V f p).toNat, by have := b1 (Or.inl h0); omega⟩
    rw [h0, ha, show ((a : Int)).toNat = a by omega]
    exact mw_1 hC hR hm hh (by have := b1 (Or.inl h0); omega)
  · obtain ⟨a, ha⟩ : ∃ a : Nat, cA V f p = a := ⟨(cA V f p).toNat, by have := b1 (Or.inr h0); omega⟩
    rw [h0, ha, show ((a : Int)).toNat = a by omega]
    exact mw_2 hC hR hm (by omega) (by have := b1 (Or.inr h0); omega)
  · exact mw_345 hS hC hR hm (by omega) hf hp h0 rfl
  · rw [h0]; exact mw_6 hC hR hm (by omega)
  · rw [h0]; exact mw_7 hC hR hm (by omega)
  · obtain ⟨a, ha⟩ : ∃ a : Nat, cA V f p = a := ⟨(cA V f p).toNat, by have := b2 (Or.inl h0); omega⟩
    rw [h0, ha]
    exact mw_8 hC hR hm hh
  · obtain ⟨a, ha⟩ : ∃ a : Nat, cA V f p = a := ⟨(cA V f p).toNat, by have := b2 (Or.inr h0); omega⟩
    rw [h0, ha]
    exact mw_9 hC hR hm (by omega)
  · have hb3 := b3 h0
    obtain ⟨a, ha⟩ : ∃ a : Nat, cA V f p = a := ⟨(cA V f p).toNat, by omega⟩
    rw [ha, show ((a : Int)).toNat = a by omega] at h9
    have h8 := (hP.2.1 a (by omega)).1
    rw [h0, ha]
    exact mw_10 (by omega) hS hC hR hm (by omega) (by omega) h9 (by omega) _
  · rw [h0]; exact mw_11 hC hR hm (by omega) h9
  · rw [h0]; exact mw_12 hN hC hR hm (by omega) h9
  · have hb4 := b4 h0
    obtain ⟨a, ha⟩ : ∃ a : Nat, cA V f p = a := ⟨(cA V f p).toNat, by omega⟩
    have h8 := (hP.2.1 (cA V f p).toNat (by omega)).1
    rw [h0, ha]
    exact mw_13 (by omega) hS hC hR hm (by omega) hf hp (by omega) h9 h400
  · rw [h0, h9]
    exact mw_14 (by omega) hS hP hC hR hm (by omega) (by have := b5 h0; omega) _
  · have hb6 := b6 h0
    obtain ⟨a, ha⟩ : ∃ a : Nat, cA V f p = a := ⟨(cA V f p).toNat, by omega⟩
    rw [ha, show ((a : Int)).toNat = a by omega] at h8 h9
    rw [h0, ha]
    exact mw_15 hN hS hP hC hR hm (by omega) (by omega) h9 h400 h8
theorem mw_step {V' : pvM} (hN : 300 ≤ N) (hS : SP U V0) (hP : PI V) (hC : CI b V0 V (d + 1)) (hR : RR U V Vr (d + 1)) (h400 : V 28 7 < 400) (hm : frm V d f p h) (hh : h ≤ 12) (hbd : bd V f p) (hPo : POST b V d f p h V') : wz (q_X11_step N (pz_u Vr 45 27 (Vr 45 27 + 1))) (fun _ Vr' => RO U V' Vr') := by
  obtain ⟨t1, t2, t3, t4, t5⟩ := RR_tops hC hR hm
  have hn12 := hP.1
  have hl := (hP.2.1 f (by have := hm.2.1; omega)).2
  have hf : f < 12 := by have := hm.2.1; omega
  have hp : p < 40 := by have := hm.2.1; omega
  have hs := SP_at hS hC.1 hR.1.1 f p
  refine s_mstep (d := d) (f := f) (p := p) (w := cW V f p) (a := cA V f p) (by rw [pu_app, if_neg (by decide)]; exact t3) (by omega) (by rw [pu_off (by decide), t1.1.1]; exact hm.1.1) (by rw [pu_off (by decide), t1.1.2.1]; exact hm.1.2.1) hf hp (by rw [pu_off (by decide)]; exact hs.1) (by rw [pu_off (by decide)]; exact hs.2.1) ?_
  exact mw_body hN hS hP hC hR h400 hm hh hf hp hbd hPo
theorem e_mloop0 {fu : Nat} {W : pvM} (h : W 45 28 ≠ 0 ∨ W 45 36 = 0) : q_X11_run_b125 N (fu + 1) W = some (0, W 45 28, W) := wz_to (by
  simp only [q_X11_run_b125]
  refine wp_gR ?_
  refine wp_if (fun h0 => wp_gR (wp_rT ⟨rfl, rfl, rfl⟩)) (fun h0 => ?_)
  refine wp_gR ?_
  rw [if_pos (by omega)]
  exact wp_gR (wp_rT ⟨rfl, rfl, rfl⟩))
theorem s_mloopS {fu : Nat} {W : pvM} {Q : Int → pvM → Prop} {R : pvM → Prop} (h28 : W 45 28 = 0) (h36 : 0 < W 45 36) (h27 : 0 ≤ W 45 27 ∧ W 45 27 < 400) (hs : wz (q_X11_step N (pz_u W 45 27 (W 45 27 + 1))) (fun _ W' => R W')) (hk : ∀ W', R W' → wz (q_X11_run_b125 N fu W') Q) : wz (q_X11_run_b125 N (fu + 1) W) Q := by
  simp only [q_X11_run_b125]
  refine wp_gR ?_
  rw [if_neg (by omega)]
  refine wp_gR ?_
  rw [if_neg (by omega)]
  refine wp_gR (wp_lI ?_)
  rw [if_pos (by omega)]
  refine wp_gR (wp_lI (wp_lw (by omega) (wp_gW ?_)))
  exact wp_cL hs (fun _ W' h9 => hk W' h9)
theorem s_mloop4 {fu : Nat} {W : pvM} {Q : Int → pvM → Prop} (h28 : W 45 28 = 0) (h36 : 0 < W 45 36) (h27 : W 45 27 = 400) (hk : wz (q_X11_run_b125 N fu (pz_u W 45 28 4)) Q) : wz (q_X11_run_b125 N (fu + 1) W) Q := by
  simp only [q_X11_run_b125]
  refine wp_gR ?_
  rw [if_neg (by omega)]
  refine wp_gR ?_
  rw [if_neg (by omega)]
  refine wp_gR (wp_lI ?_)
  rw [if_neg (by omega)]
  exact wp_lI (wp_gW hk)
theorem RFN_end {V' Vr' : pvM} {fu : Nat} (h : RFN U V' Vr') : wz (q_X11_run_b125 N (fu + 1) Vr') (fun r W' => r = V' 28 8 ∧ RFN U V' W') := by
  have h1 := h.2.2.1
  have h2 := h.2.2.2.2.2.2
  rw [e_mloop0 (by omega)]
  exact ⟨0, _, _, rfl, rfl, h1, h⟩
set_option maxHeartbeats 4000000 in
set_option maxRecDepth 100000 in
theorem s_loop2 (hN : 300 ≤ N) (hS : SP U V0) (hP : PI V0) (hR : RT V0) (hW : RW V0) (hb : 0 ≤ b ∧ b ≤ 600) : ∀ (m fu fv : Nat) (x : Int) (V Vr : pvM), 400 ≤ V 28 7 + m → m + 2 ≤ fu → m + 2 ≤ fv → (0 ≤ x ∧ x + m + 2 ≤ 1000000) → ((∃ D, CI b V0 V (D + 1) ∧ RR U V Vr (D + 1)) ∨ (FIN b V0 V ∧ RFN U V Vr)) → ∃ V', q_X4_perform_b131 N fu x V = some (0, V' 28 8, V') ∧ FIN b V0 V' ∧ wz (q_X11_run_b125 N fv Vr) (fun r Vr' => r = V' 28 8 ∧ RFN U V' Vr') := by
  intro m
  induction m with
  | zero =>
    intro fu fv x V Vr h4 h2 h3 hx hC
    obtain ⟨fu', rfl⟩ : ∃ fu', fu = fu' + 1 + 1 := ⟨fu - 2, by omega⟩
    obtain ⟨fv', rfl⟩ : ∃ fv', fv = fv' + 1 + 1 := ⟨fv - 2, by omega⟩
    rcases hC with ⟨D, hC, hRR⟩ | ⟨hC, hF⟩
    · have h7 := hC.2.2.2.2.2.2.2.2.1
      obtain ⟨e1, e2⟩ := e_next4 (N := N) hP hR hC (by omega)
      rw [e_loopS (by omega) (CI_go hC).1 (CI_go hC).2 e1]
      obtain ⟨a1, ⟨u1, u2, u3, u4, u5, u6, u7, u8, u9⟩, a3, a4, a5⟩ := hRR
      refine ⟨_, FIN_stop (by omega) e2, e2, s_mloop4 u2 (by omega) (by omega) (RFN_end ?_)⟩
      refine RFN_flt (e := 4) hC ⟨a1, ⟨u1, u2, u3, u4, u5, u6, u7, u8, u9⟩, a3, a4, a5⟩ (fr_u (by decide)) (f45_u (by decide)) ?_ (by rw [pz_u_eq]) ?_ ?_ (by rw [pz_u_eq]) ?_ (by decide)
      · rw [pu_row, up_app, if_neg (by decide), pu_row, up_app, if_neg (by decide)]; exact u1
      · rw [pu_row, up_app, if_neg (by decide)]
      · rw [pu_row, up_app, if_neg (by decide), pu_off (by decide)]; exact u5
      · rw [pu_row, up_app, if_neg (by decide)]
    · exact ⟨V, FIN_stop (by omega) hC, hC, RFN_end hF⟩
  | succ m ih =>
    intro fu fv x V Vr h4 h2 h3 hx hC
    obtain ⟨fu', rfl⟩ : ∃ fu', fu = fu' + 1 := ⟨fu - 1, by omega⟩
    obtain ⟨fv', rfl⟩ : ∃ fv', fv = fv' + 1 := ⟨fv - 1, by omega⟩
    rcases hC with ⟨D, hC, hRR⟩ | ⟨hC, hF⟩
    · have h7 := hC.2.2.2.2.2.2.2.2.1
      have hRR' := hRR
      obtain ⟨a1, ⟨u1, u2, u3, u4, u5, u6, u7, u8, u9⟩, a3, a4, a5⟩ := hRR'
      by_cases h400 : V 28 7 = 400
      · obtain ⟨e1, e2⟩ := e_next4 (N := N) hP hR hC h400
        rw [e_loopS (by omega) (CI_go hC).1 (CI_go hC).2 e1]
        obtain ⟨fu2, rfl⟩ : ∃ fu2, fu' = fu2 + 1 := ⟨fu' - 1, by omega⟩
        obtain ⟨fv2, rfl⟩ : ∃ fv2, fv' = fv2 + 1 := ⟨fv' - 1, by omega⟩
        refine ⟨_, FIN_stop (by omega) e2, e2, s_mloop4 u2 (by omega) (by omega) (RFN_end ?_)⟩
        refine RFN_flt (e := 4) hC hRR (fr_u (by decide)) (f45_u (by decide)) ?_ (by rw [pz_u_eq]) ?_ ?_ (by rw [pz_u_eq]) ?_ (by decide)
        · rw [pu_row, up_app, if_neg (by decide), pu_row, up_app, if_neg (by decide)]; exact u1
        · rw [pu_row, up_app, if_neg (by decide)]
        · rw [pu_row, up_app, if_neg (by decide), pu_off (by decide)]; exact u5
        · rw [pu_row, up_app, if_neg (by decide)]
      · obtain ⟨f, p, h, q1, q2, q3, hbd, hCL, hs⟩ := s_next (N := N) (by omega) hP hR hW hb hC (by omega)
        obtain ⟨r, V1, e1, e2, e3⟩ := wz_some hs
        have hk := post_ci (PI_rcs hP hC.1) (RT_fr hC.1 pdr hR) hC (by omega) q1 q2 q3 hbd hCL e3
        have hst := mw_step hN hS (PI_rcs hP hC.1) hC hRR (by omega) q1 q2 hbd e3
        rw [e_loopS (by omega) (CI_go hC).1 (CI_go hC).2 e1]
        obtain ⟨r9, Vr1, g1, g2⟩ := wz_some hst
        obtain ⟨V9, k1, k2, k3⟩ := ih fu' fv' (x + 1) V1 Vr1 (by omega) (by omega) (by omega) (by omega) (by
          rcases g2 with ⟨D2, z1, z2⟩ | z2
          · rcases hk.2 with ⟨D3, z3⟩ | z3
            · have hD : D3 = D2 := by have := z3.2.1.1; omega
              subst hD
              exact Or.inl ⟨D3, z3, z2⟩
            · exfalso
              have := z3.2.2.2.2.2
              omega
          · rcases hk.2 with ⟨D3, z3⟩ | z3
            · exfalso
              have h5 := z3.2.1.1
              have h8 := z3.2.1.2.2.2.2.1
              have h9 := z2.2.2.2.2.2.2
              omega
            · exact Or.inr ⟨z3, z2⟩)
        refine ⟨V9, k1, k2, s_mloopS (R := fun W => W = Vr1) u2 (by omega) (by omega) ?_ (fun W' hW' => by rw [hW']; exact k3)⟩
        rw [g1]
        exact ⟨0, r9, Vr1, rfl, rfl, rfl⟩
    · exact ⟨V, FIN_stop (by omega) hC, hC, RFN_end hF⟩
end MR
