/-! WHAT A STEP LEAVES BEHIND -/
section PC
variable {b : Int} {V0 V V' : pvM} {d f p h : Nat}
theorem post_push {v : Int} (hC : CI b V0 V (d + 1)) (h400 : V 28 7 < 400) (hm : frm V d f p h) (hh : h + 1 ≤ 12) (hp : ((p + 1 : Nat) : Int) < V 9 f) (hHf : Hf V f (p + 1) = ((h + 1 : Nat) : Int)) (hv : vok (V 39 3) (V 35 3) v) : CI b V0 (pushV (nxV V d ((p + 1 : Nat) : Int)) d h v) (d + 1) := by
  obtain ⟨m1, m2, m3, m4⟩ := hm
  refine CI_fr (f := f) (p' := p + 1) (h' := h + 1) hC (fun c hc => ?_) ?_ h400 ?_ (fun e he => ?_) ?_ (fun i hi => ?_) ⟨m1.1, m2.1⟩ hp (fun j hj => ?_) (fun k hk => ?_) hh hHf
  · simp at hc; rw [pushV_off (by omega) (by omega), nxV_off (by omega) (by omega)]
  · rw [pushV_off (by decide) (by decide), nxV_28]
  · rw [pushV_off (by decide) (by decide), nxV_32]
  · rw [pushV_33, up_app, if_neg he, nxV_off (by decide) (by decide)]
  · rw [pushV_33, up_app, if_pos rfl]
  · rw [pushV_30, up_app, if_neg (by omega), nxV_off (by decide) (by decide)]
  · rw [pushV_30, up_app, nxV_off (by decide) (by decide)]
    by_cases hjh : j = h
    · rw [if_pos (by omega)]; exact hv
    · rw [if_neg (by omega)]; exact m3 j (by omega)
  · rw [pushV_30, up_app, nxV_off (by decide) (by decide), if_neg (by omega)]; exact m4 k hk
theorem post_2 {a : Nat} (hC : CI b V0 V (d + 1)) (h400 : V 28 7 < 400) (hm : frm V d f p (h + 1)) (hh : h ≤ 12) (hp : ((p + 1 : Nat) : Int) < V 9 f) (hHf : Hf V f (p + 1) = (h : Int)) (ha : a < 8) : CI b V0 (pz_u (popV (nxV V d ((p + 1 : Nat) : Int)) d h) 30 (33 * d + a) (V 30 (33 * d + 20 + h))) (d + 1) := by
  obtain ⟨m1, m2, m3, m4⟩ := hm
  refine CI_fr (f := f) (p' := p + 1) (h' := h) hC (fun c hc => ?_) ?_ h400 ?_ (fun e he => ?_) ?_ (fun i hi => ?_) ⟨m1.1, m2.1⟩ hp (fun j hj => ?_) (fun k hk => ?_) hh hHf
  · simp at hc; rw [pu_off (by omega), popV_off (by omega), nxV_off (by omega) (by omega)]
  · rw [pu_off (by decide), popV_off (by decide), nxV_28]
  · rw [pu_off (by decide), popV_off (by decide), nxV_32]
  · rw [pu_off (by decide), popV_33, up_app, if_neg he, nxV_off (by decide) (by decide)]
  · rw [pu_off (by decide), popV_33, up_app, if_pos rfl]
  · rw [pu_row, up_app, if_neg (by omega), popV_off (by decide), nxV_off (by decide) (by decide)]
  · rw [pu_row, up_app, if_neg (by omega), popV_off (by decide), nxV_off (by decide) (by decide)]; exact m3 j (by omega)
  · rw [pu_row, up_app, popV_off (by decide), nxV_off (by decide) (by decide)]
    by_cases hka : k = a
    · rw [if_pos (by omega)]; exact m3 h (by omega)
    · rw [if_neg (by omega)]; exact m4 k hk
theorem post_7 (hC : CI b V0 V (d + 1)) (h400 : V 28 7 < 400) (hm : frm V d f p (h + 1)) (hh : h ≤ 12) (hp : ((p + 1 : Nat) : Int) < V 9 f) (hHf : Hf V f (p + 1) = (h : Int)) : CI b V0 (popV (nxV V d ((p + 1 : Nat) : Int)) d h) (d + 1) := by
  obtain ⟨m1, m2, m3, m4⟩ := hm
  refine CI_fr (f := f) (p' := p + 1) (h' := h) hC (fun c hc => ?_) ?_ h400 ?_ (fun e he => ?_) ?_ (fun i hi => ?_) ⟨m1.1, m2.1⟩ hp (fun j hj => ?_) (fun k hk => ?_) hh hHf
  · simp at hc; rw [popV_off (by omega), nxV_off (by omega) (by omega)]
  · rw [popV_off (by decide), nxV_28]
  · rw [popV_off (by decide), nxV_32]
  · rw [popV_33, up_app, if_neg he, nxV_off (by decide) (by decide)]
  · rw [popV_33, up_app, if_pos rfl]
  · rw [popV_off (by decide), nxV_off (by decide) (by decide)]
  · rw [popV_off (by decide), nxV_off (by decide) (by decide)]; exact m3 j (by omega)
  · rw [popV_off (by decide), nxV_off (by decide) (by decide)]; exact m4 k hk
/-- a jump: the place is a, h values are left -/
theorem post_go {a : Nat} (hC : CI b V0 V (d + 1)) (h400 : V 28 7 < 400) (hm : frm V d f p h) {h' : Nat} (hle : h' ≤ h) (hh : h ≤ 12) (hp : (a : Int) < V 9 f) (hHf : Hf V f a = (h' : Int)) : CI b V0 (pz_u (popV (nxV V d ((p + 1 : Nat) : Int)) d h') 32 d (a : Int)) (d + 1) := by
  obtain ⟨m1, m2, m3, m4⟩ := hm
  refine CI_fr (f := f) (p' := a) (h' := h') hC (fun c hc => ?_) ?_ h400 ?_ (fun e he => ?_) ?_ (fun i hi => ?_) ⟨m1.1, m2.1⟩ hp (fun j hj => ?_) (fun k hk => ?_) (by omega) hHf
  · simp at hc; rw [pu_off (by omega), popV_off (by omega), nxV_off (by omega) (by omega)]
  · rw [pu_off (by decide), popV_off (by decide), nxV_28]
  · rw [pu_row, popV_off (by decide), nxV_32]
    funext j; rw [up_app, up_app, up_app]; split <;> rfl
  · rw [pu_off (by decide), popV_33, up_app, if_neg he, nxV_off (by decide) (by decide)]
  · rw [pu_off (by decide), popV_33, up_app, if_pos rfl]
  · rw [pu_off (by decide), popV_off (by decide), nxV_off (by decide) (by decide)]
  · rw [pu_off (by decide), popV_off (by decide), nxV_off (by decide) (by decide)]; exact m3 j (by omega)
  · rw [pu_off (by decide), popV_off (by decide), nxV_off (by decide) (by decide)]; exact m4 k hk
theorem popV_self (ht : tp V d h) : popV V d h = V := by
  unfold popV
  rw [← ht.2.2.1]
  funext c k
  rw [pu_app]
  split
  · rename_i h9; rw [h9.1, h9.2]
  · rfl
theorem post_tk {n : Nat} {v : Int} (hC : CI b V0 V (d + 1)) (h400 : V 28 7 < 400) (hm : frm V d f p (h + n)) (hh : h + 1 ≤ 12) (hp : ((p + 1 : Nat) : Int) < V 9 f) (hHf : Hf V f (p + 1) = ((h + 1 : Nat) : Int)) (hv : vok (V 39 3) (V 35 3) v) (hn : 0 < n) : CI b V0 (pushV (takeV (nxV V d ((p + 1 : Nat) : Int)) d h n) d h v) (d + 1) := by
  obtain ⟨m1, m2, m3, m4⟩ := hm
  refine CI_fr (f := f) (p' := p + 1) (h' := h + 1) hC (fun c hc => ?_) ?_ h400 ?_ (fun e he => ?_) ?_ (fun i hi => ?_) ⟨m1.1, m2.1⟩ hp (fun j hj => ?_) (fun k hk => ?_) hh hHf
  · simp at hc; rw [pushV_off (by omega) (by omega), takeV_off (by omega) (by omega), nxV_off (by omega) (by omega)]
  · rw [pushV_off (by decide) (by decide), takeV_off (by decide) (by decide), nxV_28]
  · rw [pushV_off (by decide) (by decide), takeV_off (by decide) (by decide), nxV_32]
  · rw [pushV_33, up_app, if_neg he, takeV_33, up_app, if_neg he, nxV_off (by decide) (by decide)]
  · rw [pushV_33, up_app, if_pos rfl]
  · rw [pushV_30, up_app, if_neg (by omega), takeV_off (by decide) (by decide), nxV_off (by decide) (by decide)]
  · rw [pushV_30, up_app, takeV_off (by decide) (by decide), nxV_off (by decide) (by decide)]
    by_cases hjh : j = h
    · rw [if_pos (by omega)]; exact hv
    · rw [if_neg (by omega)]; exact m3 j (by omega)
  · rw [pushV_30, up_app, takeV_off (by decide) (by decide), nxV_off (by decide) (by decide), if_neg (by omega)]; exact m4 k hk
/-- a fault that leaves all but the frames as it was -/
theorem post_flt {e : Int} {W : pvM} (hC : CI b V0 V (d + 1)) (h400 : V 28 7 < 400) (hW : fr [28, 30, 32, 33, 34] V W) (h28 : W 28 = va_up (V 28) 7 (V 28 7 + 1)) (he : e ≠ 0) : FIN b V0 (pz_u W 28 8 e) := by
  have hf : fr [28, 30, 32, 33, 34] V (pz_u W 28 8 e) := hW.trans (fr_u (by simp))
  obtain ⟨q1, q2, q3, q4, q5, q6, q7⟩ := beside hC hf
  refine FIN_flt (e := e) hC (hf.mono (by decide)) (fun i h7 h8 => ?_) (Or.inl ?_) (Or.inl h400) (by rw [pz_u_eq]) he (by rw [hf 39 (by decide)]) q3 q4
  · rw [pu_row, up_app, if_neg h8, h28, up_app, if_neg h7]
  · rw [pu_row, up_app, if_neg (by decide), h28, up_app, if_pos rfl]
theorem tk_fr {n : Nat} {q : Int} : fr [28, 30, 32, 33, 34] V (takeV (nxV V d q) d h n) := fun c hc => by
  simp at hc; rw [takeV_off (by omega) (by omega), nxV_off (by omega) (by omega)]
theorem tk_28 {n : Nat} {q : Int} : takeV (nxV V d q) d h n 28 = va_up (V 28) 7 (V 28 7 + 1) := by rw [takeV_off (by decide) (by decide), nxV_28]
theorem pp_fr {q : Int} : fr [28, 30, 32, 33, 34] V (popV (nxV V d q) d h) := fun c hc => by
  simp at hc; rw [popV_off (by omega), nxV_off (by omega) (by omega)]
theorem pp_28 {q : Int} : popV (nxV V d q) d h 28 = va_up (V 28) 7 (V 28 7 + 1) := by rw [popV_off (by decide), nxV_28]
/-- a frame is opened for function g -/
theorem post_open {W : pvM} {g h' : Nat} (hR : RT V) (hC : CI b V0 V (d + 1)) (h400 : V 28 7 < 400) (hm : frm V d f p h) (hle : h' ≤ h) (hh : h ≤ 12) (hp : ((p + 1 : Nat) : Int) < V 9 f) (hHf : Hf V f (p + 1) = ((h' + 1 : Nat) : Int)) (hd : d + 1 < 30) (hg : (g : Int) < V 1 6) (hg9 : 0 ≤ V 9 g)
    (f1 : fr [28, 29, 30, 31, 32, 33, 34] V W) (e28 : W 28 = va_up (va_up (V 28) 7 (V 28 7 + 1)) 6 ((d + 1 + 1 : Nat) : Int)) (e29 : W 29 5 = ((d + 1 + 1 : Nat) : Int) ∧ W 29 6 = ((d + 1 : Nat) : Int)) (e31 : W 31 = va_up (V 31) (d + 1) g) (e32 : W 32 = va_up (va_up (V 32) d ((p + 1 : Nat) : Int)) (d + 1) 0) (e33 : W 33 = va_up (va_up (V 33) d ((33 * d + 20 + h' : Nat) : Int)) (d + 1) ((33 * (d + 1) + 20 : Nat) : Int)) (e30 : ∀ i, i < 33 * (d + 1) → W 30 i = V 30 i) (hlo : ∀ k, k < 8 → vok (V 39 3) (V 35 3) (W 30 (33 * (d + 1) + k))) : CI b V0 W (d + 1 + 1) := by
  obtain ⟨c1, c2, c3, c4, c5, c6, c7, c8, c9, c10⟩ := hC
  have e39 := f1 39 (by decide)
  have e35 := f1 35 (by decide)
  have hHT := Hf_ok hR hg
  have hwo := wrS_ok (hR g hg)
  have f2 : fr rcs V W := f1.mono (by decide)
  refine ⟨c1.trans f2, ?_, by omega, ?_, ?_, ?_, ?_, bg_u c8 (f1 17 (by decide)) e39 (f1 84 (by decide)), ?_, by rw [e39]; exact c10⟩
  · refine ⟨e29.1, by rw [e29.2]; rfl, ?_, ?_, ?_, ?_⟩
    · rw [e28, up_app, if_pos rfl]
    · rw [e28, up_app, if_neg (by decide), up_app, if_neg (by decide)]; exact c2.2.2.2.1
    · rw [e28, up_app, if_neg (by decide), up_app, if_neg (by decide)]; exact c2.2.2.2.2.1
    · rw [e28, up_app, if_neg (by decide), up_app, if_neg (by decide)]; exact c2.2.2.2.2.2
  · intro e he
    by_cases he1 : e = d + 1
    · subst he1
      refine ⟨g, 0, 0, ⟨⟨?_, ?_, ?_⟩, ?_, fun j hj => by omega, ?_⟩, by omega, ?_⟩
      · rw [e31, up_app, if_pos rfl]
      · rw [e32, up_app, if_pos rfl]; rfl
      · rw [e33, up_app, if_pos rfl]
      · rw [f1 1 (by decide), f1 9 (by decide)]; exact ⟨hg, by omega⟩
      · rw [e39, e35]; exact hlo
      · rw [if_pos rfl, Hf_fr f2 pdr, hHT.1]; rfl
    · by_cases hed : e = d
      · subst hed
        obtain ⟨m1, m2, m3, m4⟩ := hm
        refine ⟨f, p + 1, h', ⟨⟨?_, ?_, ?_⟩, ?_, fun j hj => ?_, fun k hk => ?_⟩, by omega, ?_⟩
        · rw [e31, up_app, if_neg (by omega)]; exact m1.1
        · rw [e32, up_app, if_neg (by omega), up_app, if_pos rfl]
        · rw [e33, up_app, if_neg (by omega), up_app, if_pos rfl]
        · rw [f1 1 (by decide), f1 9 (by decide)]; exact ⟨m2.1, hp⟩
        · rw [e39, e35, e30 _ (by omega)]; exact m3 j (by omega)
        · rw [e39, e35, e30 _ (by omega)]; exact m4 k hk
        · rw [if_neg (by omega), Hf_fr f2 pdr, hHf]; omega
      · obtain ⟨f3, p3, h3, z1, z2, z3⟩ := c4 e (by omega)
        rw [if_neg (by omega)] at z3
        refine ⟨f3, p3, h3, z1.keep (by omega) (f1 1 (by decide)) (f1 9 (by decide)) (by rw [e31, up_app, if_neg he1]) (by rw [e32, up_app, if_neg he1, up_app, if_neg hed]) (by rw [e33, up_app, if_neg he1, up_app, if_neg hed]) (fun i h5 h6 => e30 i (by omega)) (by rw [e39]; omega) (by rw [e35]; omega), z2, ?_⟩
        rw [if_neg (by omega), Hf_fr f2 pdr]; exact z3
  · unfold HOL at c5 ⊢
    rw [e39, e35, f1 36 (by decide), f1 37 (by decide), f1 38 (by decide), f1 1 (by decide)]; exact c5
  · unfold TX at c6 ⊢
    rw [e39, f1 40 (by decide), f1 41 (by decide)]; exact c6
  · unfold KS at c7 ⊢
    rw [e39]; exact c7
  · rw [e39, e35, e28, up_app, if_neg (by decide), up_app, if_pos rfl]; omega
theorem post_10 {n g h' : Nat} (hR : RT V) (hC : CI b V0 V (d + 1)) (h400 : V 28 7 < 400) (hm : frm V d f p (h' + n)) (hh : h' + n ≤ 12) (hp : ((p + 1 : Nat) : Int) < V 9 f) (hHf : Hf V f (p + 1) = ((h' + 1 : Nat) : Int)) (hg : (g : Int) < V 1 6) (hg9 : 0 ≤ V 9 g) (hn : n ≤ 3) : (d + 1 < 30 → CI b V0 (clV (nxV V d ((p + 1 : Nat) : Int)) (d + 1) d h' n g) (d + 1 + 1)) ∧ (d + 1 = 30 → FIN b V0 (clV (nxV V d ((p + 1 : Nat) : Int)) (d + 1) d h' n g)) := by
  have c286 : nxV V d ((p + 1 : Nat) : Int) 28 6 = ((d + 1 : Nat) : Int) := by rw [nxV_28, up_app, if_neg (by decide)]; exact hC.2.1.2.2.1
  refine ⟨fun hd => ?_, fun hd => ?_⟩
  · unfold clV
    rw [if_neg (by rw [c286]; omega)]
    obtain ⟨W, hWd⟩ : ∃ W, W = pz_u (takeV (nxV V d ((p + 1 : Nat) : Int)) d h' n) 28 6 ((d + 1 + 1 : Nat) : Int) := ⟨_, rfl⟩
    have eb : bfV (takeV (nxV V d ((p + 1 : Nat) : Int)) d h' n) (d + 1) g = openV W (d + 1) g := by
      unfold bfV
      rw [hWd, takeV_off (show (28 : Nat) ≠ 33 by decide) (by decide), c286]
      rfl
    rw [eb]
    have w30 : W 30 = V 30 := by rw [hWd, pu_off (by decide), takeV_off (by decide) (by decide), nxV_off (by decide) (by decide)]
    have w34 : ∀ k, k < n → W 34 k = V 30 (33 * d + 20 + h' + k) := fun k hk => by rw [hWd, pu_off (by decide), takeV_34 hk, nxV_off (by decide) (by decide)]
    have soff : ∀ c, c ≠ 30 → slV (openV W (d + 1) g) (d + 1) 0 n c = openV W (d + 1) g c := fun c hc => by unfold slV; rw [up_app, if_neg hc]
    have s30 : slV (openV W (d + 1) g) (d + 1) 0 n 30 = fun k => if 33 * (d + 1) + 0 ≤ k ∧ k < 33 * (d + 1) + 0 + n then W 34 (k - (33 * (d + 1) + 0)) else if 33 * (d + 1) ≤ k ∧ k < 33 * (d + 1) + 20 then zV else V 30 k := by
      unfold slV
      rw [up_app, if_pos rfl, openV_30, openV_off (by decide), w30]
    refine post_open (g := g) (h' := h') hR hC h400 hm (by omega) hh hp hHf hd hg hg9 (fun c hc => ?_) ?_ ⟨?_, ?_⟩ ?_ ?_ ?_ (fun i hi => ?_) (fun k hk => ?_)
    · simp at hc
      rw [soff c (by omega), openV_off (by omega), hWd, pu_off (by omega), takeV_off (by omega) (by omega), nxV_off (by omega) (by omega)]
    · rw [soff 28 (by decide), openV_off (by decide), hWd, pu_row, takeV_off (by decide) (by decide), nxV_28]
    · rw [soff 29 (by decide), openV_29, up_app, if_pos rfl]
    · rw [soff 29 (by decide), openV_29, up_app, if_neg (by decide), up_app, if_pos rfl]
    · rw [soff 31 (by decide), openV_31, hWd, pu_off (by decide), takeV_off (by decide) (by decide), nxV_off (by decide) (by decide)]
    · rw [soff 32 (by decide), openV_32, hWd, pu_off (by decide), takeV_off (by decide) (by decide), nxV_32]
    · rw [soff 33 (by decide), openV_33, hWd, pu_off (by decide), takeV_33, nxV_off (by decide) (by decide)]
    · rw [s30]; dsimp only; rw [if_neg (by omega), if_neg (by omega)]
    · rw [s30]; dsimp only
      by_cases hkn : k < n
      · rw [if_pos (by omega), w34 _ (by omega)]
        have h9 := hm.2.2.1 (h' + k) (by omega)
        rw [show 33 * d + 20 + (h' + k) = 33 * d + 20 + h' + (33 * (d + 1) + k - (33 * (d + 1) + 0)) by omega] at h9
        exact h9
      · rw [if_neg (by omega), if_pos (by omega)]; exact vok_z _ _
  · unfold clV
    rw [if_pos (by rw [c286]; omega)]
    exact post_flt hC h400 tk_fr tk_28 (by decide)
theorem post_14 {n h' : Nat} (hR : RT V) (hP : PI V) (hC : CI b V0 V (d + 1)) (h400 : V 28 7 < 400) (hm : frm V d f p (h' + 1 + n)) (hh : h' + 1 + n ≤ 12) (hp : ((p + 1 : Nat) : Int) < V 9 f) (hHf : Hf V f (p + 1) = ((h' + 1 : Nat) : Int)) (hn : n ≤ 3) : (∃ D', CI b V0 (apV (nxV V d ((p + 1 : Nat) : Int)) (d + 1) d h' n) (D' + 1)) ∨ FIN b V0 (apV (nxV V d ((p + 1 : Nat) : Int)) (d + 1) d h' n) := by
  have c286 : nxV V d ((p + 1 : Nat) : Int) 28 6 = ((d + 1 : Nat) : Int) := by rw [nxV_28, up_app, if_neg (by decide)]; exact hC.2.1.2.2.1
  have n30 : nxV V d ((p + 1 : Nat) : Int) 30 = V 30 := nxV_off (by decide) (by decide)
  have n36 : nxV V d ((p + 1 : Nat) : Int) 36 = V 36 := nxV_off (by decide) (by decide)
  have n37 : nxV V d ((p + 1 : Nat) : Int) 37 = V 37 := nxV_off (by decide) (by decide)
  have n8 : nxV V d ((p + 1 : Nat) : Int) 8 = V 8 := nxV_off (by decide) (by decide)
  have hfl : ∀ e : Int, e ≠ 0 → FIN b V0 (pz_u (popV (takeV (nxV V d ((p + 1 : Nat) : Int)) d (h' + 1) n) d h') 28 8 e) := fun e he => post_flt hC h400 (fun c hc => by simp at hc; rw [popV_off (by omega), takeV_off (by omega) (by omega), nxV_off (by omega) (by omega)]) (by rw [popV_off (by decide), tk_28]) he
  have hC' := hC
  obtain ⟨c1, c2, c3, c4, c5, c6, c7, c8, c9, c10⟩ := hC'
  have hn12 := hP.1
  unfold apV
  rw [n30, n36, n37, n8, c286]
  by_cases h3 : kd (V 30 (33 * d + 20 + h')) = 3
  · rw [if_pos h3]
    rcases vok_cases (hm.2.2.1 h' (by omega)) (by omega) (by omega) with hv | hv | hv
    · omega
    · omega
    · obtain ⟨c, hce⟩ : ∃ c : Nat, ct (V 30 (33 * d + 20 + h')) = c := ⟨(ct (V 30 (33 * d + 20 + h'))).toNat, by omega⟩
      rw [hce, show ((c : Int)).toNat = c by omega]
      obtain ⟨o1, o2, o3⟩ := c5.2 c (by omega)
      by_cases h4 : V 37 c + n = V 8 (V 36 c).toNat
      · rw [if_pos h4]
        by_cases h30 : ((d + 1 : Nat) : Int) = 30
        · rw [if_pos h30]; exact Or.inr (hfl 3 (by decide))
        · rw [if_neg h30]
          refine Or.inl ⟨d + 1, ?_⟩
          obtain ⟨g, hg⟩ : ∃ g : Nat, V 36 c = g := ⟨(V 36 c).toNat, by omega⟩
          obtain ⟨own, ho⟩ : ∃ own : Nat, V 37 c = own := ⟨(V 37 c).toNat, by omega⟩
          rw [hg, ho, show ((own : Int)).toNat = own by omega]
          rw [hg, ho] at h4
          have hpg := (hP.2.1 g (by omega))
          rw [show ((g : Int)).toNat = g by omega] at h4
          obtain ⟨W, hWd⟩ : ∃ W, W = popV (takeV (nxV V d ((p + 1 : Nat) : Int)) d (h' + 1) n) d h' := ⟨_, rfl⟩
          rw [← hWd]
          obtain ⟨W2, hW2⟩ : ∃ W2, W2 = pz_u W 28 6 ((d + 1 + 1 : Nat) : Int) := ⟨_, rfl⟩
          have wof : ∀ e, e ≠ 33 → e ≠ 34 → W e = nxV V d ((p + 1 : Nat) : Int) e := fun e a1 a2 => by rw [hWd, popV_off a1, takeV_off a1 a2]
          have eb : bfV W (d + 1) g = openV W2 (d + 1) g := by
            unfold bfV
            rw [hW2, wof 28 (by decide) (by decide), c286]; rfl
          have w230 : W2 30 = V 30 := by rw [hW2, pu_off (by decide), wof 30 (by decide) (by decide), n30]
          have w38 : W 38 = V 38 := by rw [wof 38 (by decide) (by decide), nxV_off (by decide) (by decide)]
          have w234 : ∀ k, k < n → W2 34 k = V 30 (33 * d + 20 + (h' + 1) + k) := fun k hk => by rw [hW2, pu_off (by decide), hWd, popV_off (by decide), takeV_34 hk, n30]
          unfold apW
          rw [eb]
          obtain ⟨W3, hW3⟩ : ∃ W3, W3 = va_up (openV W2 (d + 1) g) 30 (fun j => if 33 * (d + 1) ≤ j ∧ j < 33 * (d + 1) + own then W 38 (3 * c + (j - 33 * (d + 1))) else openV W2 (d + 1) g 30 j) := ⟨_, rfl⟩
          rw [← hW3]
          have soff : ∀ e, e ≠ 30 → slV W3 (d + 1) own n e = openV W2 (d + 1) g e := fun e he => by unfold slV; rw [up_app, if_neg he, hW3, up_app, if_neg he]
          have s30 : slV W3 (d + 1) own n 30 = fun k => if 33 * (d + 1) + own ≤ k ∧ k < 33 * (d + 1) + own + n then W2 34 (k - (33 * (d + 1) + own)) else if 33 * (d + 1) ≤ k ∧ k < 33 * (d + 1) + own then V 38 (3 * c + (k - 33 * (d + 1))) else if 33 * (d + 1) ≤ k ∧ k < 33 * (d + 1) + 20 then zV else V 30 k := by
            have x34 : W3 34 = W2 34 := by rw [hW3, up_app, if_neg (by decide), openV_off (by decide)]
            have x30 : W3 30 = fun j => if 33 * (d + 1) ≤ j ∧ j < 33 * (d + 1) + own then W 38 (3 * c + (j - 33 * (d + 1))) else openV W2 (d + 1) g 30 j := by rw [hW3, up_app, if_pos rfl]
            unfold slV
            rw [up_app, if_pos rfl, x34, x30, openV_30, w230, w38]
          refine post_open (g := g) (h' := h') hR hC h400 hm (by omega) hh hp hHf (by omega) (by omega) hpg.2.1 (fun e he => ?_) ?_ ⟨?_, ?_⟩ ?_ ?_ ?_ (fun i hi => ?_) (fun k hk => ?_)
          · simp at he
            rw [soff e (by omega), openV_off (by omega), hW2, pu_off (by omega), wof e (by omega) (by omega), nxV_off (by omega) (by omega)]
          · rw [soff 28 (by decide), openV_off (by decide), hW2, pu_row, wof 28 (by decide) (by decide), nxV_28]
          · rw [soff 29 (by decide), openV_29, up_app, if_pos rfl]
          · rw [soff 29 (by decide), openV_29, up_app, if_neg (by decide), up_app, if_pos rfl]
          · rw [soff 31 (by decide), openV_31, hW2, pu_off (by decide), wof 31 (by decide) (by decide), nxV_off (by decide) (by decide)]
          · rw [soff 32 (by decide), openV_32, hW2, pu_off (by decide), wof 32 (by decide) (by decide), nxV_32]
          · rw [soff 33 (by decide), openV_33, hW2, pu_off (by decide), hWd, popV_33, takeV_33, nxV_off (by decide) (by decide)]
            funext j; simp only [up_app]; split
            · rfl
            · split <;> rfl
          · rw [s30]; dsimp only; rw [if_neg (by omega), if_neg (by omega), if_neg (by omega)]
          · rw [s30]; dsimp only
            by_cases hko : k < own
            · rw [if_neg (by omega), if_pos (by omega), show 33 * (d + 1) + k - 33 * (d + 1) = k by omega]
              exact o3 k (by omega)
            · by_cases hkn : k < own + n
              · rw [if_pos (by omega), w234 _ (by omega)]
                have h9 := hm.2.2.1 (h' + 1 + (k - own)) (by omega)
                rw [show 33 * d + 20 + (h' + 1 + (k - own)) = 33 * d + 20 + (h' + 1) + (33 * (d + 1) + k - (33 * (d + 1) + own)) by omega] at h9
                exact h9
              · rw [if_neg (by omega), if_neg (by omega), if_pos (by omega)]; exact vok_z _ _
      · rw [if_neg h4]; exact Or.inr (hfl 2 (by decide))
  · rw [if_neg h3]; exact Or.inr (hfl 1 (by decide))
end PC
