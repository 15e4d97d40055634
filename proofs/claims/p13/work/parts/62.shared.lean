/-! WORDS OF BOTH CODES -/
theorem tp_off {V V' : pvM} {d h : Nat} (ht : tp V d h) (e29 : V' 29 6 = V 29 6) (e33 : V' 33 d = V 33 d) : tp V' d h := by
  unfold tp at ht ⊢; rw [e29, e33]; exact ht
theorem e_sh0 {N d h : Nat} {a : Int} {V : pvM} (ht : tp V d h) (hh : h < 13) : q_X4_doShared N 0 a V = some (0, 0, pushV V d h (vO 1 a)) := wz_to (by
  unfold q_X4_doShared
  rw [if_pos rfl]
  refine wp_lI ?_
  rw [cL_eq e_valueOf, cL_eq (e_push ht hh)]
  exact wp_rT ⟨rfl, rfl, rfl⟩)
theorem e_sh1 {N d h k : Nat} {V : pvM} (ht : tp V d h) (hh : h < 13) (hk : k < 20) : q_X4_doShared N 1 k V = some (0, 0, pushV V d h (V 30 (33 * d + k))) := wz_to (by
  unfold q_X4_doShared
  rw [if_neg (by decide), if_pos rfl, cL_eq (e_local ht.1 ht.2.1 hk), cL_eq (e_push ht hh)]
  exact wp_rT ⟨rfl, rfl, rfl⟩)
theorem e_sh2 {N d h k : Nat} {V : pvM} (ht : tp V d (h + 1)) (hk : k < 20) : q_X4_doShared N 2 k V = some (0, 0, pz_u (popV V d h) 30 (33 * d + k) (V 30 (33 * d + 20 + h))) := wz_to (by
  have h9 := tp_pop ht
  unfold q_X4_doShared
  rw [if_neg (by decide), if_neg (by decide), if_pos rfl, cL_eq (e_pop ht), cL_eq (e_setLocal h9.1 h9.2.1 hk)]
  exact wp_rT ⟨rfl, rfl, rfl⟩)
def rk (w x y : Int) : Int := if w = 3 then pv_w (x + y) else if w = 4 then pv_w (x - y) else pv_w (x * y)
def rkV (w : Int) (V : pvM) (d h : Nat) : pvM := if kd (V 30 (33 * d + 20 + h)) = 1 ∧ kd (V 30 (33 * d + 20 + (h + 1))) = 1 then pushV (takeV V d h 2) d h (vO 1 (rk w (ct (V 30 (33 * d + 20 + h))) (ct (V 30 (33 * d + 20 + (h + 1)))))) else pz_u (takeV V d h 2) 28 8 1
set_option maxHeartbeats 4000000 in
set_option maxRecDepth 100000 in
theorem e_reckon {N d h : Nat} {w : Int} {V : pvM} (hN : 50 ≤ N) (ht : tp V d (h + 2)) : q_X4_reckon N w V = some (0, 0, rkV w V d h) := wz_to (by
  have h9 := tp_take (n := 2) ht
  have hh := ht.2.2.2
  unfold q_X4_reckon rkV
  refine wp_lI ?_
  have et := e_take (N := N) (n := 2) hN (by omega) ht
  rw [show (((2 : Nat)) : Int) = 2 from rfl] at et
  rw [cL_eq et]
  refine wp_lI ?_
  have e0 := e_takenAt (N := N) (k := 0) (V := takeV V d h 2) (by omega)
  have e1 := e_takenAt (N := N) (k := 1) (V := takeV V d h 2) (by omega)
  rw [takeV_34 (by omega)] at e0 e1
  rw [show (((0 : Nat)) : Int) = 0 from rfl, Nat.add_zero] at e0
  rw [show (((1 : Nat)) : Int) = 1 from rfl, show 33 * d + 20 + h + 1 = 33 * d + 20 + (h + 1) by omega] at e1
  rw [cL_eq e0]
  refine wp_lI ?_
  rw [cL_eq e1, cL_eq e_kindOf]
  refine wp_lI ?_
  refine wp_if (fun h1 => ?_) (fun h1 => ?_)
  · rw [if_neg (fun h => h1 h.1)]
    exact wp_lI (wp_gW (wp_rT ⟨rfl, rfl, rfl⟩))
  · rw [cL_eq e_kindOf]
    refine wp_lI ?_
    refine wp_if (fun h2 => ?_) (fun h2 => ?_)
    · rw [if_pos ⟨Decidable.not_not.mp h1, h2⟩, cL_eq e_contentOf, cL_eq e_contentOf]
      have k94 : ∀ s : Int, wz (q_X4_reckon_b94 N s (takeV V d h 2)) (fun r' V' => r' = 0 ∧ V' = pushV (takeV V d h 2) d h (vO 1 s)) := by
        intro s
        unfold q_X4_reckon_b94
        refine wp_lI ?_
        rw [cL_eq e_valueOf, cL_eq (e_push h9 (by omega))]
        exact wp_rT ⟨rfl, rfl, rfl⟩
      unfold rk
      refine wp_lI ?_
      refine wp_if (fun h3 => ?_) (fun h3 => ?_)
      · rw [if_neg h3]
        refine wp_lI ?_
        refine wp_if (fun h4 => ?_) (fun h4 => ?_)
        · rw [if_neg h4]; exact wp_lI (k94 _)
        · rw [if_pos (Decidable.not_not.mp h4)]; exact wp_lI (k94 _)
      · rw [if_pos (Decidable.not_not.mp h3)]; exact wp_lI (k94 _)
    · rw [if_neg (fun h => h2 h.2)]
      exact wp_lI (wp_gW (wp_rT ⟨rfl, rfl, rfl⟩)))
theorem e_sh345 {N d h : Nat} {w a : Int} {V : pvM} (hN : 50 ≤ N) (hw : w = 3 ∨ w = 4 ∨ w = 5) (ht : tp V d (h + 2)) : q_X4_doShared N w a V = some (0, 0, rkV w V d h) := wz_to (by
  unfold q_X4_doShared
  rcases hw with rfl | rfl | rfl
  · rw [if_neg (by decide), if_neg (by decide), if_neg (by decide), if_pos rfl, cL_eq (e_reckon hN ht)]
    exact wp_rT ⟨rfl, rfl, rfl⟩
  · rw [if_neg (by decide), if_neg (by decide), if_neg (by decide), if_neg (by decide), if_pos rfl, cL_eq (e_reckon hN ht)]
    exact wp_rT ⟨rfl, rfl, rfl⟩
  · rw [if_neg (by decide), if_neg (by decide), if_neg (by decide), if_neg (by decide), if_neg (by decide), if_pos rfl, cL_eq (e_reckon hN ht)]
    exact wp_rT ⟨rfl, rfl, rfl⟩)
theorem e_sh6 {N d h : Nat} {a : Int} {V : pvM} (ht : tp V d (h + 1)) (hh : h + 2 ≤ 13) : q_X4_doShared N 6 a V = some (0, 0, pushV (pushV (popV V d h) d h (V 30 (33 * d + 20 + h))) d (h + 1) (V 30 (33 * d + 20 + h))) := wz_to (by
  have h9 := tp_pop ht
  unfold q_X4_doShared
  rw [if_neg (by decide), if_neg (by decide), if_neg (by decide), if_neg (by decide), if_neg (by decide), if_neg (by decide), if_pos rfl, cL_eq (e_pop ht), cL_eq (e_push h9 (by omega)), cL_eq (e_push (tp_push h9 (by omega)) (by omega))]
  exact wp_rT ⟨rfl, rfl, rfl⟩)
theorem e_sh7 {N d h : Nat} {a : Int} {V : pvM} (ht : tp V d (h + 1)) : q_X4_doShared N 7 a V = some (0, 0, popV V d h) := wz_to (by
  unfold q_X4_doShared
  rw [if_neg (by decide), if_neg (by decide), if_neg (by decide), if_neg (by decide), if_neg (by decide), if_neg (by decide), if_neg (by decide), if_pos rfl, cL_eq (e_pop ht)]
  exact wp_rT ⟨rfl, rfl, rfl⟩)
theorem e_sh8 {N d h : Nat} {a : Int} {V : pvM} (ht : tp V d h) : q_X4_doShared N 8 a V = some (0, 0, pz_u V 32 d a) := wz_to (by
  unfold q_X4_doShared
  rw [if_neg (by decide), if_neg (by decide), if_neg (by decide), if_neg (by decide), if_neg (by decide), if_neg (by decide), if_neg (by decide), if_neg (by decide), if_pos rfl, cL_eq (e_goTo ht.1 ht.2.1)]
  exact wp_rT ⟨rfl, rfl, rfl⟩)
def gzV (V : pvM) (d h : Nat) (a : Int) : pvM := if kd (V 30 (33 * d + 20 + h)) = 1 then (if ct (V 30 (33 * d + 20 + h)) = 0 then pz_u (popV V d h) 32 d a else popV V d h) else pz_u (popV V d h) 28 8 1
theorem e_sh9 {N d h : Nat} {a : Int} {V : pvM} (ht : tp V d (h + 1)) : q_X4_doShared N 9 a V = some (0, 0, gzV V d h a) := wz_to (by
  have h9 := tp_pop ht
  have eg : q_X4_goIfZero N a V = some (0, 0, gzV V d h a) := wz_to (by
    unfold q_X4_goIfZero gzV
    rw [cL_eq (e_pop ht), cL_eq e_kindOf]
    refine wp_lI ?_
    refine wp_if (fun h1 => ?_) (fun h1 => ?_)
    · rw [if_pos h1, cL_eq e_contentOf]
      refine wp_if (fun h2 => ?_) (fun h2 => ?_)
      · rw [if_neg h2]; exact wp_rT ⟨rfl, rfl, rfl⟩
      · rw [if_pos (Decidable.not_not.mp h2), cL_eq (e_goTo h9.1 h9.2.1)]; exact wp_rT ⟨rfl, rfl, rfl⟩
    · rw [if_neg h1]
      exact wp_lI (wp_gW (wp_rT ⟨rfl, rfl, rfl⟩)))
  unfold q_X4_doShared
  rw [if_neg (by decide), if_neg (by decide), if_neg (by decide), if_neg (by decide), if_neg (by decide), if_neg (by decide), if_neg (by decide), if_neg (by decide), if_neg (by decide), if_pos rfl, cL_eq eg]
  exact wp_rT ⟨rfl, rfl, rfl⟩)
/-- a function is begun on top of D frames -/
def bfV (V : pvM) (D : Nat) (f : Int) : pvM := openV (pz_u V 28 6 (V 28 6 + 1)) D f
theorem e_beginT {N D : Nat} {f : Int} {V : pvM} (hN : 50 ≤ N) (hD : D < 60) (h5 : V 29 5 = D) (h6 : 0 ≤ V 28 6 ∧ V 28 6 < 30) : q_X4_beginFunction N f V = some (0, 1, bfV V D f) := wz_to (by
  unfold q_X4_beginFunction
  refine wp_gR (wp_lI ?_)
  rw [if_pos (by omega)]
  refine wp_gR (wp_lI (wp_lw (by omega) (wp_gW ?_)))
  rw [cL_eq (e_open hN hD (by rw [pu_off (by decide)]; exact h5))]
  exact wp_lI (wp_bT (Or.inr rfl) (wp_rT ⟨rfl, rfl, rfl⟩)))
theorem e_beginF {N : Nat} {f : Int} {V : pvM} (h6 : V 28 6 = 30) : q_X4_beginFunction N f V = some (0, 0, pz_u V 28 8 3) := wz_to (by
  unfold q_X4_beginFunction
  refine wp_gR (wp_lI ?_)
  rw [if_neg (by omega)]
  exact wp_lI (wp_gW (wp_lI (wp_bT (Or.inl rfl) (wp_rT ⟨rfl, rfl, rfl⟩)))))
def clV (V : pvM) (D d h n : Nat) (f : Int) : pvM := if V 28 6 = 30 then pz_u (takeV V d h n) 28 8 3 else slV (bfV (takeV V d h n) D f) D 0 n
theorem takeV_off {V : pvM} {d h n c : Nat} (h3 : c ≠ 33) (h4 : c ≠ 34) : takeV V d h n c = V c := by
  unfold takeV; rw [up_app, if_neg h4, pu_off h3]
theorem openV_29 (V : pvM) (D : Nat) (u : Int) : openV V D u 29 = va_up (va_up (V 29) 6 D) 5 ((D + 1 : Nat) : Int) := by
  unfold openV
  rw [pu_off (by decide), up_app, if_neg (by decide), pu_off (by decide), pu_off (by decide), pu_row, pu_row]
theorem openV_30 (V : pvM) (D : Nat) (u : Int) : openV V D u 30 = fun k => if 33 * D ≤ k ∧ k < 33 * D + 20 then zV else V 30 k := by
  unfold openV
  rw [pu_off (by decide), up_app, if_pos rfl]
theorem openV_31 (V : pvM) (D : Nat) (u : Int) : openV V D u 31 = va_up (V 31) D u := by
  unfold openV
  rw [pu_off (by decide), up_app, if_neg (by decide), pu_off (by decide), pu_row, pu_off (by decide), pu_off (by decide)]
theorem openV_32 (V : pvM) (D : Nat) (u : Int) : openV V D u 32 = va_up (V 32) D 0 := by
  unfold openV
  rw [pu_off (by decide), up_app, if_neg (by decide), pu_row, pu_off (by decide), pu_off (by decide), pu_off (by decide)]
theorem openV_33 (V : pvM) (D : Nat) (u : Int) : openV V D u 33 = va_up (V 33) D ((33 * D + 20 : Nat) : Int) := by
  unfold openV
  rw [pu_row, up_app, if_neg (by decide), pu_off (by decide), pu_off (by decide), pu_off (by decide), pu_off (by decide)]
theorem openV_off {V : pvM} {D c : Nat} {u : Int} (h : c ≠ 29 ∧ c ≠ 30 ∧ c ≠ 31 ∧ c ≠ 32 ∧ c ≠ 33) : openV V D u c = V c := by
  obtain ⟨a, b, c1, e, f⟩ := h
  unfold openV
  rw [pu_off f, up_app, if_neg b, pu_off e, pu_off c1, pu_off a, pu_off a]
theorem tp_open {V : pvM} {D : Nat} {u : Int} (hD : D < 60) : tp (openV V D u) D 0 := by
  refine ⟨?_, hD, ?_, by omega⟩
  · rw [openV_29, up_app, if_neg (by decide), up_app, if_pos rfl]
  · rw [openV_33, up_app, if_pos rfl]
set_option maxHeartbeats 4000000 in
set_option maxRecDepth 100000 in
theorem e_call {N D d h n : Nat} {f : Int} {V : pvM} (hN : 50 ≤ N) (ht : tp V d (h + n)) (hf : 0 ≤ f ∧ f < 12) (hn : V 8 f.toNat = n) (hn3 : n ≤ 3) (hD : D < 60) (h5 : V 29 5 = D) (h6 : 0 ≤ V 28 6 ∧ V 28 6 ≤ 30) : q_X4_callFunction N f V = some (0, 0, clV V D d h n f) := wz_to (by
  unfold q_X4_callFunction clV
  rw [cL_eq (e_parametersOf hf), hn, cL_eq (e_take hN (by omega) ht)]
  have e28 : takeV V d h n 28 = V 28 := takeV_off (by decide) (by decide)
  have e29 : takeV V d h n 29 = V 29 := takeV_off (by decide) (by decide)
  by_cases h30 : V 28 6 = 30
  · rw [if_pos h30, cL_eq (e_beginF (by rw [e28]; exact h30)), if_pos rfl]
    exact wp_rT ⟨rfl, rfl, rfl⟩
  · rw [if_neg h30, cL_eq (e_beginT hN hD (by rw [e29]; exact h5) (by rw [e28]; omega)), if_neg (by decide)]
    refine wp_lI ?_
    have es := e_slt (N := N) (d := D) (f := 0) (n := n) (V := bfV (takeV V d h n) D f) hN (tp_open hD).1 hD (by omega) (by omega)
    rw [show (((0 : Nat)) : Int) = 0 from rfl] at es
    rw [cL_eq es]
    exact wp_rT ⟨rfl, rfl, rfl⟩)
theorem e_sh10 {N D d h n : Nat} {f : Int} {V : pvM} (hN : 50 ≤ N) (ht : tp V d (h + n)) (hf : 0 ≤ f ∧ f < 12) (hn : V 8 f.toNat = n) (hn3 : n ≤ 3) (hD : D < 60) (h5 : V 29 5 = D) (h6 : 0 ≤ V 28 6 ∧ V 28 6 ≤ 30) : q_X4_doShared N 10 f V = some (0, 0, clV V D d h n f) := wz_to (by
  unfold q_X4_doShared
  rw [if_neg (by decide), if_neg (by decide), if_neg (by decide), if_neg (by decide), if_neg (by decide), if_neg (by decide), if_neg (by decide), if_neg (by decide), if_neg (by decide), if_neg (by decide), if_pos rfl, cL_eq (e_call hN ht hf hn hn3 hD h5 h6)]
  exact wp_rT ⟨rfl, rfl, rfl⟩)
/-- the top frame is closed, v is given back -/
def gvV (V : pvM) (D d h : Nat) : pvM := closeV (if V 1 6 ≤ V 31 d then popV V d h else pz_u (popV V d h) 28 6 (V 28 6 - 1)) D
theorem e_isMethod {N : Nat} {u : Int} {V : pvM} : q_X5_isMethod N u V = some (0, (if V 1 6 ≤ u then 1 else 0), V) := wz_to (by
  unfold q_X5_isMethod
  rw [cL_eq e_functionTotal]
  refine wp_if (fun h => ?_) (fun h => ?_)
  · exact wp_lI (wp_bT (Or.inl rfl) (wp_rT ⟨rfl, by rw [if_neg (by omega)], rfl⟩))
  · exact wp_lI (wp_bT (Or.inr rfl) (wp_rT ⟨rfl, by rw [if_pos (by omega)], rfl⟩)))
theorem closeV_off {V : pvM} {D c : Nat} (h : c ≠ 29) : closeV V D c = V c := by unfold closeV; rw [pu_off h, pu_off h]
theorem closeV_29 (V : pvM) (D : Nat) : closeV V D 29 = va_up (va_up (V 29) 5 ((D - 1 : Nat) : Int)) 6 ((D - 1 - 1 : Nat) : Int) := by unfold closeV; rw [pu_row, pu_row]
set_option maxHeartbeats 4000000 in
set_option maxRecDepth 100000 in
theorem e_giveBack {N D d h h2 : Nat} {V : pvM} (ht : tp V d (h + 1)) (hD : D = d + 1) (h5 : V 29 5 = D) (h6 : 0 ≤ V 28 6 ∧ V 28 6 ≤ 60) (hbel : 0 < d → V 33 (d - 1) = ((33 * (d - 1) + 20 + h2 : Nat) : Int) ∧ h2 < 13) : q_X4_giveBack N V = some (0, 0, if d = 0 then pz_u (gvV V D d h) 28 9 (V 30 (33 * d + 20 + h)) else pushV (gvV V D d h) (d - 1) h2 (V 30 (33 * d + 20 + h))) := wz_to (by
  have h9 := tp_pop ht
  have hd6 := ht.2.1
  have e29 : popV V d h 29 = V 29 := by unfold popV; rw [pu_off (by decide)]
  have e1 : popV V d h 1 = V 1 := by unfold popV; rw [pu_off (by decide)]
  have e31 : popV V d h 31 = V 31 := by unfold popV; rw [pu_off (by decide)]
  have e28 : popV V d h 28 = V 28 := by unfold popV; rw [pu_off (by decide)]
  have k35 : ∀ W : pvM, W 29 = V 29 → W 33 = popV V d h 33 → gvV V D d h = closeV W D → wz (q_X4_giveBack_b35 N (V 30 (33 * d + 20 + h)) W) (fun r' V' => r' = 0 ∧ V' = if d = 0 then pz_u (gvV V D d h) 28 9 (V 30 (33 * d + 20 + h)) else pushV (gvV V D d h) (d - 1) h2 (V 30 (33 * d + 20 + h))) := by
    intro W w29 w33 hg
    unfold q_X4_giveBack_b35
    rw [cL_eq (e_close (D := D) (by omega) (by rw [w29]; exact h5)), cL_eq e_areOpen, hg]
    have e5 : closeV W D 29 5 = ((D - 1 : Nat) : Int) := by rw [closeV_29, up_app, if_neg (by decide), up_app, if_pos rfl]
    rw [e5]
    by_cases h0 : d = 0
    · rw [if_pos h0, if_neg (show ¬ (0 : Int) < ((D - 1 : Nat) : Int) by omega), if_pos rfl]
      exact wp_gW (wp_rT ⟨rfl, rfl, rfl⟩)
    · rw [if_neg h0, if_pos (show (0 : Int) < ((D - 1 : Nat) : Int) by omega), if_neg (by decide)]
      have hb := hbel (by omega)
      have ht2 : tp (closeV W D) (d - 1) h2 := by
        refine ⟨?_, by omega, ?_, by omega⟩
        · rw [closeV_29, up_app, if_pos rfl]; omega
        · rw [closeV_off (by decide), w33]
          unfold popV
          rw [pu_row, up_app, if_neg (by omega)]; exact hb.1
      rw [cL_eq (e_push ht2 hb.2)]
      exact wp_rT ⟨rfl, rfl, rfl⟩
  unfold q_X4_giveBack
  rw [cL_eq (e_pop ht), cL_eq (e_unit h9.1 h9.2.1), cL_eq e_isMethod, e31, e1]
  by_cases hm : V 1 6 ≤ V 31 d
  · rw [if_pos hm, if_pos (by decide)]
    refine k35 _ e29 rfl ?_
    unfold gvV
    rw [if_pos hm]
  · rw [if_neg hm, if_neg (by decide)]
    refine wp_gR (wp_lI ?_)
    rw [e28]
    refine wp_lw (by omega) (wp_gW ?_)
    refine k35 _ (by rw [pu_off (by decide), e29]) (by rw [pu_off (by decide)]) ?_
    unfold gvV
    rw [if_neg hm])
theorem e_sh11 {N D d h h2 : Nat} {a : Int} {V : pvM} (ht : tp V d (h + 1)) (hD : D = d + 1) (h5 : V 29 5 = D) (h6 : 0 ≤ V 28 6 ∧ V 28 6 ≤ 60) (hbel : 0 < d → V 33 (d - 1) = ((33 * (d - 1) + 20 + h2 : Nat) : Int) ∧ h2 < 13) : q_X4_doShared N 11 a V = some (0, 0, if d = 0 then pz_u (gvV V D d h) 28 9 (V 30 (33 * d + 20 + h)) else pushV (gvV V D d h) (d - 1) h2 (V 30 (33 * d + 20 + h))) := wz_to (by
  unfold q_X4_doShared
  rw [if_neg (by decide), if_neg (by decide), if_neg (by decide), if_neg (by decide), if_neg (by decide), if_neg (by decide), if_neg (by decide), if_neg (by decide), if_neg (by decide), if_neg (by decide), if_neg (by decide), if_pos rfl, cL_eq (e_giveBack ht hD h5 h6 hbel)]
  exact wp_rT ⟨rfl, rfl, rfl⟩)
theorem e_faultT {N : Nat} {x : Int} {V : pvM} : q_X4_faultUnless N 1 x V = some (0, 0, V) := wz_to (by
  unfold q_X4_faultUnless
  rw [if_pos (by decide)]
  exact wp_rT ⟨rfl, rfl, rfl⟩)
theorem e_faultF {N : Nat} {x : Int} {V : pvM} : q_X4_faultUnless N 0 x V = some (0, 0, pz_u V 28 8 x) := wz_to (by
  unfold q_X4_faultUnless
  rw [if_neg (by decide)]
  exact wp_gW (wp_rT ⟨rfl, rfl, rfl⟩))
def syP (V : pvM) (d h : Nat) (V' : pvM) : Prop := (V 39 7 + spL V (V 30 (33 * d + 20 + h)) ≤ 200 ∧ V' 39 7 = V 39 7 + spL V (V 30 (33 * d + 20 + h)) ∧ fr [39, 43, 44] (popV V d h) V' ∧ f39 [5, 7] V V') ∨ (200 < V 39 7 + spL V (V 30 (33 * d + 20 + h)) ∧ ∃ V1, fr [39, 43, 44] (popV V d h) V1 ∧ f39 [5] V V1 ∧ V' = pz_u V1 28 8 5)
set_option maxHeartbeats 4000000 in
set_option maxRecDepth 100000 in
theorem s_sh12 {N d h : Nat} {a H : Int} {V : pvM} (hN : 50 ≤ N) (ht : tp V d (h + 1)) (hX : TX V) (hv : vok (V 39 3) H (V 30 (33 * d + 20 + h))) (hH : H ≤ 1000) (h7 : 0 ≤ V 39 7 ∧ V 39 7 ≤ 200) : wz (q_X4_doShared N 12 a V) (fun _ V' => syP V d h V') := by
  have e39 : popV V d h 39 = V 39 := by unfold popV; rw [pu_off (by decide)]
  have e41 : popV V d h 41 = V 41 := by unfold popV; rw [pu_off (by decide)]
  have e40 : popV V d h 40 = V 40 := by unfold popV; rw [pu_off (by decide)]
  have hX2 : TX (popV V d h) := by unfold TX at hX ⊢; rw [e39, e40, e41]; exact hX
  have es : spL (popV V d h) (V 30 (33 * d + 20 + h)) = spL V (V 30 (33 * d + 20 + h)) := by unfold spL; rw [e41]
  unfold q_X4_doShared
  rw [if_neg (by decide), if_neg (by decide), if_neg (by decide), if_neg (by decide), if_neg (by decide), if_neg (by decide), if_neg (by decide), if_neg (by decide), if_neg (by decide), if_neg (by decide), if_neg (by decide), if_neg (by decide), if_pos rfl, cL_eq (e_pop ht)]
  refine wp_cL (s_sayValue (N := N) hN hX2 (by rw [e39]; exact hv) hH (by rw [e39]; exact h7)) (fun r V1 h1 => wp_lI ?_)
  unfold SYv at h1
  rw [es, e39] at h1
  rcases h1 with ⟨a1, rfl, a3, a4, a5⟩ | ⟨a1, rfl, a3, a4⟩
  · rw [cL_eq e_faultT]
    exact wp_rT ⟨rfl, Or.inl ⟨a1, a3, a4, fun i hi => by rw [a5 i hi, e39]⟩⟩
  · rw [cL_eq e_faultF]
    exact wp_rT ⟨rfl, Or.inr ⟨a1, V1, a3, fun i hi => by rw [a4 i hi, e39], rfl⟩⟩
