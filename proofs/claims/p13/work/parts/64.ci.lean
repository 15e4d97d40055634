/-! A RUN OF THE FIRST CODE: WHAT HOLDS BETWEEN STEPS -/
def Hf (V : pvM) (f : Nat) : Nat → Int := (wkS (cW V f) (cA V f) (cQ V f) (cP V f) (V 9 f).toNat).2.1
theorem Hf_ok {V : pvM} (hR : RT V) {f : Nat} (hf : (f : Int) < V 1 6) : HT (cW V f) (cA V f) (cQ V f) (cP V f) (V 9 f).toNat (Hf V f) := by
  have h1 := (wrS_ok (hR f hf)).2.2
  have hp : ∀ k, 0 ≤ cP V f k := fun k => pu_nn _
  refine wkS_ok hp (hi' := (wkS (cW V f) (cA V f) (cQ V f) (cP V f) (V 9 f).toNat).2.2) ?_
  unfold Hf
  rw [← h1]
theorem Hf_fr {cs : List Nat} {V V' : pvM} (hf : fr cs V V') (hd : ∀ c, c ∈ prog → c ∉ cs) (f : Nat) : Hf V' f = Hf V f := by
  have h := bd_fr hf hd f 0
  unfold Hf
  rw [h.2.1, h.2.2.1, h.2.2.2.2.1, h.2.2.2.2.2, hf 9 (hd 9 (by decide))]
def rcs : List Nat := [28, 29, 30, 31, 32, 33, 34, 35, 36, 37, 38, 39, 40, 41, 42, 43, 44, 84]
theorem pdr : ∀ c, c ∈ prog → c ∉ rcs := by decide
def frm (V : pvM) (d f p h : Nat) : Prop := (V 31 d = f ∧ V 32 d = p ∧ V 33 d = ((33 * d + 20 + h : Nat) : Int)) ∧ ((f : Int) < V 1 6 ∧ (p : Int) < V 9 f) ∧ (∀ j, j < h → vok (V 39 3) (V 35 3) (V 30 (33 * d + 20 + j))) ∧ ∀ k, k < 8 → vok (V 39 3) (V 35 3) (V 30 (33 * d + k))
def FS (V : pvM) (D : Nat) : Prop := ∀ d, d < D → ∃ f p h, frm V d f p h ∧ h ≤ 12 ∧ Hf V f p = h + (if d + 1 = D then 0 else 1)
def HOL (V : pvM) : Prop := 0 ≤ V 35 3 ∧ ∀ c : Nat, (c : Int) < V 35 3 → (0 ≤ V 36 c ∧ V 36 c < V 1 6) ∧ (0 ≤ V 37 c ∧ V 37 c ≤ 3) ∧ ∀ k : Nat, (k : Int) < V 37 c → vok (V 39 3) (V 35 3) (V 38 (3 * c + k))
def CI (b : Int) (V0 V : pvM) (D : Nat) : Prop := fr rcs V0 V ∧ (V 29 5 = D ∧ V 29 6 = ((D - 1 : Nat) : Int) ∧ V 28 6 = D ∧ V 28 5 = 1 ∧ V 28 8 = 0 ∧ V 28 9 = 0) ∧ (1 ≤ D ∧ D ≤ 30) ∧ FS V D ∧ HOL V ∧ TX V ∧ KS V ∧ BG b V ∧ (0 ≤ V 28 7 ∧ V 28 7 ≤ 400 ∧ V 35 3 ≤ V 28 7 ∧ V 39 3 ≤ V 28 7) ∧ 0 ≤ V 39 7 ∧ V 39 7 ≤ 200
def FIN (b : Int) (V0 V : pvM) : Prop := fr rcs V0 V ∧ KS V ∧ BG b V ∧ (0 ≤ V 39 7 ∧ V 39 7 ≤ 200) ∧ (0 ≤ V 28 7 ∧ V 28 7 ≤ 400) ∧ ((V 28 8 ≠ 0 ∧ V 28 9 = 0) ∨ (V 28 8 = 0 ∧ V 29 5 = 0 ∧ ∃ T H, T ≤ 400 ∧ H ≤ 400 ∧ vok T H (V 28 9)))
theorem frm.keep {V V' : pvM} {d f p h : Nat} (hm : frm V d f p h) (hh : h ≤ 13) (e1 : V' 1 = V 1) (e9 : V' 9 = V 9) (e31 : V' 31 d = V 31 d) (e32 : V' 32 d = V 32 d) (e33 : V' 33 d = V 33 d) (e30 : ∀ i, 33 * d ≤ i → i < 33 * d + 33 → V' 30 i = V 30 i) (hT : V 39 3 ≤ V' 39 3) (hH : V 35 3 ≤ V' 35 3) : frm V' d f p h := by
  obtain ⟨a1, a2, a3, a4⟩ := hm
  refine ⟨by rw [e31, e32, e33]; exact a1, by rw [e1, e9]; exact a2, fun j hj => ?_, fun k hk => ?_⟩
  · rw [e30 _ (by omega) (by omega)]; exact (a3 j hj).mono hT hH
  · rw [e30 _ (by omega) (by omega)]; exact (a4 k hk).mono hT hH
/-- only the top frame and what the run keeps beside the frames have changed -/
theorem CI_top {b : Int} {V0 V V' : pvM} {d f p' h' : Nat} (hC : CI b V0 V (d + 1)) (f1 : fr rcs V V') (e29 : V' 29 = V 29) (e31 : V' 31 = V 31) (e28 : ∀ i, i ≠ 7 → V' 28 i = V 28 i) (e287 : V' 28 7 = V 28 7 + 1) (h400 : V 28 7 < 400)
    (e32 : ∀ e, e ≠ d → V' 32 e = V 32 e) (e33 : ∀ e, e ≠ d → V' 33 e = V 33 e) (e30 : ∀ i, i < 33 * d → V' 30 i = V 30 i) (hT : V 39 3 ≤ V' 39 3 ∧ V' 39 3 ≤ V 39 3 + 1) (hH : V 35 3 ≤ V' 35 3 ∧ V' 35 3 ≤ V 35 3 + 1) (hHO : HOL V') (hX : TX V') (hK : KS V') (hB : BG b V') (h7 : 0 ≤ V' 39 7 ∧ V' 39 7 ≤ 200)
    (hm : frm V' d f p' h') (hh : h' ≤ 12) (hHf : Hf V f p' = h') : CI b V0 V' (d + 1) := by
  obtain ⟨c1, c2, c3, c4, c5, c6, c7, c8, c9, c10⟩ := hC
  refine ⟨c1.trans f1, ?_, c3, ?_, hHO, hX, hK, hB, ?_, h7⟩
  · rw [e29, e28 6 (by decide), e28 5 (by decide), e28 8 (by decide), e28 9 (by decide)]; exact c2
  · intro e he
    by_cases hed : e = d
    · subst hed
      refine ⟨f, p', h', hm, hh, ?_⟩
      rw [if_pos rfl, Hf_fr f1 pdr, hHf]; omega
    · obtain ⟨f2, p2, h2, q1, q2, q3⟩ := c4 e he
      refine ⟨f2, p2, h2, q1.keep (by omega) (f1 1 (by decide)) (f1 9 (by decide)) (by rw [e31]) (e32 e hed) (e33 e hed) (fun i h3 h4 => e30 i (by omega)) hT.1 hH.1, q2, ?_⟩
      rw [Hf_fr f1 pdr]; exact q3
  · rw [e287]; omega
/-! rows of the changes -/
theorem pushV_30 (V : pvM) (d h : Nat) (v : Int) : pushV V d h v 30 = va_up (V 30) (33 * d + 20 + h) v := by unfold pushV; rw [pu_off (by decide), pu_row]
theorem pushV_33 (V : pvM) (d h : Nat) (v : Int) : pushV V d h v 33 = va_up (V 33) d ((33 * d + 20 + (h + 1) : Nat) : Int) := by unfold pushV; rw [pu_row, pu_off (by decide)]
theorem pushV_off {V : pvM} {d h c : Nat} {v : Int} (h0 : c ≠ 30) (h3 : c ≠ 33) : pushV V d h v c = V c := by unfold pushV; rw [pu_off h3, pu_off h0]
theorem popV_33 (V : pvM) (d h : Nat) : popV V d h 33 = va_up (V 33) d ((33 * d + 20 + h : Nat) : Int) := by unfold popV; rw [pu_row]
theorem takeV_33 (V : pvM) (d h n : Nat) : takeV V d h n 33 = va_up (V 33) d ((33 * d + 20 + h : Nat) : Int) := by unfold takeV; rw [up_app, if_neg (by decide), pu_row]
def nxV (V : pvM) (d : Nat) (p : Int) : pvM := pz_u (pz_u V 28 7 (V 28 7 + 1)) 32 d p
theorem nxV_28 (V : pvM) (d : Nat) (p : Int) : nxV V d p 28 = va_up (V 28) 7 (V 28 7 + 1) := by unfold nxV; rw [pu_off (by decide), pu_row]
theorem nxV_32 (V : pvM) (d : Nat) (p : Int) : nxV V d p 32 = va_up (V 32) d p := by unfold nxV; rw [pu_row, pu_off (by decide)]
theorem nxV_off {V : pvM} {d c : Nat} {p : Int} (h0 : c ≠ 28) (h3 : c ≠ 32) : nxV V d p c = V c := by unfold nxV; rw [pu_off h3, pu_off h0]
theorem tp_nx {V : pvM} {d h : Nat} {p : Int} (ht : tp V d h) : tp (nxV V d p) d h := tp_off ht (by rw [nxV_off (by decide) (by decide)]) (by rw [nxV_off (by decide) (by decide)])
/-- only frames changed: what the run keeps beside them stays -/
theorem beside {b : Int} {V0 V V' : pvM} {D : Nat} (hC : CI b V0 V D) (hf : fr [28, 30, 32, 33, 34] V V') : HOL V' ∧ TX V' ∧ KS V' ∧ BG b V' ∧ (0 ≤ V' 39 7 ∧ V' 39 7 ≤ 200) ∧ V' 39 3 = V 39 3 ∧ V' 35 3 = V 35 3 := by
  obtain ⟨c1, c2, c3, c4, c5, c6, c7, c8, c9, c10⟩ := hC
  have e39 := hf 39 (by decide)
  have e35 := hf 35 (by decide)
  refine ⟨?_, ?_, ?_, bg_u c8 (hf 17 (by decide)) e39 (hf 84 (by decide)), by rw [e39]; exact c10, by rw [e39], by rw [e35]⟩
  · unfold HOL at c5 ⊢
    rw [e39, e35, hf 36 (by decide), hf 37 (by decide), hf 38 (by decide), hf 1 (by decide)]; exact c5
  · unfold TX at c6 ⊢
    rw [e39, hf 40 (by decide), hf 41 (by decide)]; exact c6
  · unfold KS at c7 ⊢
    rw [e39]; exact c7
/-- the same where nothing but frames changed -/
theorem CI_fr {b : Int} {V0 V V' : pvM} {d f p' h' : Nat} (hC : CI b V0 V (d + 1)) (f1 : fr [28, 30, 32, 33, 34] V V') (e28 : V' 28 = va_up (V 28) 7 (V 28 7 + 1)) (h400 : V 28 7 < 400)
    (e32 : V' 32 = va_up (V 32) d (p' : Int)) (e33 : ∀ e, e ≠ d → V' 33 e = V 33 e) (e33d : V' 33 d = ((33 * d + 20 + h' : Nat) : Int)) (e30 : ∀ i, i < 33 * d → V' 30 i = V 30 i)
    (hf : V 31 d = f ∧ (f : Int) < V 1 6) (hp : (p' : Int) < V 9 f) (hst : ∀ j, j < h' → vok (V 39 3) (V 35 3) (V' 30 (33 * d + 20 + j))) (hlo : ∀ k, k < 8 → vok (V 39 3) (V 35 3) (V' 30 (33 * d + k))) (hh : h' ≤ 12) (hHf : Hf V f p' = h') : CI b V0 V' (d + 1) := by
  obtain ⟨q1, q2, q3, q4, q5, q6, q7⟩ := beside hC f1
  refine CI_top (f := f) (p' := p') (h' := h') hC (f1.mono (by decide)) (f1 29 (by decide)) (f1 31 (by decide)) (fun i hi => by rw [e28, up_app, if_neg hi]) (by rw [e28, up_app, if_pos rfl]) h400 (fun e he => by rw [e32, up_app, if_neg he]) e33 e30 (by rw [q6]; omega) (by rw [q7]; omega) q1 q2 q3 q4 q5 ⟨⟨?_, ?_, e33d⟩, ?_, ?_, ?_⟩ hh hHf
  · rw [f1 31 (by decide)]; exact hf.1
  · rw [e32, up_app, if_pos rfl]
  · rw [f1 1 (by decide), f1 9 (by decide)]; exact ⟨hf.2, hp⟩
  · rw [q6, q7]; exact hst
  · rw [q6, q7]; exact hlo
theorem FIN_flt {b e : Int} {V0 V V' : pvM} {D : Nat} (hC : CI b V0 V D) (f1 : fr rcs V V') (h28 : ∀ i, i ≠ 7 → i ≠ 8 → V' 28 i = V 28 i) (h287 : V' 28 7 = V 28 7 + 1 ∨ V' 28 7 = V 28 7) (h400 : V 28 7 < 400 ∨ V' 28 7 = V 28 7) (he : V' 28 8 = e) (he0 : e ≠ 0) (h7 : V' 39 7 = V 39 7) (hK : KS V') (hB : BG b V') : FIN b V0 V' := by
  obtain ⟨c1, c2, c3, c4, c5, c6, c7, c8, c9, c10⟩ := hC
  refine ⟨c1.trans f1, hK, hB, by rw [h7]; exact c10, ?_, Or.inl ⟨by rw [he]; exact he0, by rw [h28 9 (by decide) (by decide)]; exact c2.2.2.2.2.2⟩⟩
  omega
/-! the step, word by word -/
def POST (b : Int) (V : pvM) (d f p h : Nat) (V' : pvM) : Prop :=
  (cW V f p = 0 ∧ V' = pushV (nxV V d ((p + 1 : Nat) : Int)) d h (vO 1 (cA V f p))) ∨
  (cW V f p = 1 ∧ V' = pushV (nxV V d ((p + 1 : Nat) : Int)) d h (V 30 (33 * d + (cA V f p).toNat))) ∨
  (cW V f p = 2 ∧ ∃ h', h = h' + 1 ∧ V' = pz_u (popV (nxV V d ((p + 1 : Nat) : Int)) d h') 30 (33 * d + (cA V f p).toNat) (V 30 (33 * d + 20 + h'))) ∨
  ((cW V f p = 3 ∨ cW V f p = 4 ∨ cW V f p = 5) ∧ ∃ h', h = h' + 2 ∧ V' = rkV (cW V f p) (nxV V d ((p + 1 : Nat) : Int)) d h') ∨
  (cW V f p = 6 ∧ ∃ h', h = h' + 1 ∧ V' = pushV (pushV (popV (nxV V d ((p + 1 : Nat) : Int)) d h') d h' (V 30 (33 * d + 20 + h'))) d (h' + 1) (V 30 (33 * d + 20 + h'))) ∨
  (cW V f p = 7 ∧ ∃ h', h = h' + 1 ∧ V' = popV (nxV V d ((p + 1 : Nat) : Int)) d h') ∨
  (cW V f p = 8 ∧ V' = pz_u (nxV V d ((p + 1 : Nat) : Int)) 32 d (cA V f p)) ∨
  (cW V f p = 9 ∧ ∃ h', h = h' + 1 ∧ V' = gzV (nxV V d ((p + 1 : Nat) : Int)) d h' (cA V f p)) ∨
  (cW V f p = 10 ∧ ∃ h' n : Nat, h = h' + n ∧ V 8 (cA V f p).toNat = n ∧ V' = clV (nxV V d ((p + 1 : Nat) : Int)) (d + 1) d h' n (cA V f p)) ∨
  (cW V f p = 11 ∧ ∃ h' h2, h = h' + 1 ∧ (0 < d → V 33 (d - 1) = ((33 * (d - 1) + 20 + h2 : Nat) : Int) ∧ h2 < 13) ∧ V' = if d = 0 then pz_u (gvV (nxV V d ((p + 1 : Nat) : Int)) (d + 1) d h') 28 9 (V 30 (33 * d + 20 + h')) else pushV (gvV (nxV V d ((p + 1 : Nat) : Int)) (d + 1) d h') (d - 1) h2 (V 30 (33 * d + 20 + h'))) ∨
  (cW V f p = 12 ∧ ∃ h', h = h' + 1 ∧ syP (nxV V d ((p + 1 : Nat) : Int)) d h' V') ∨
  (cW V f p = 13 ∧ ∃ h' n : Nat, h = h' + n ∧ cB V f p = n ∧ V' = fnW (nxV V d ((p + 1 : Nat) : Int)) d h' n (V 35 3).toNat (cA V f p)) ∨
  (cW V f p = 14 ∧ ∃ h' n : Nat, h = h' + 1 + n ∧ cA V f p = n ∧ V' = apV (nxV V d ((p + 1 : Nat) : Int)) (d + 1) d h' n) ∨
  (cW V f p = 15 ∧ ∃ h' n : Nat, h = h' + n ∧ V 4 (cA V f p).toNat = n ∧ jnP b (takeV (nxV V d ((p + 1 : Nat) : Int)) d h' n) (V 39 3).toNat d h' (jl V (cA V f p).toNat (fun j => spL V (V 30 (33 * d + 20 + h' + j))) (V 3 (cA V f p).toNat).toNat) V')
theorem nx_sp {V : pvM} {d : Nat} {p v : Int} : spL (nxV V d p) v = spL V v := by unfold spL; rw [nxV_off (by decide) (by decide)]
theorem PI_rcs {V0 V : pvM} (h : PI V0) (hf : fr rcs V0 V) : PI V := h.fr hf pdr
/-- the words' numbers -/
theorem top_of {b : Int} {V0 V : pvM} {d : Nat} (hP : PI V0) (hR : RT V0) (hC : CI b V0 V (d + 1)) : ∃ f p h, frm V d f p h ∧ h ≤ 12 ∧ Hf V f p = h ∧ PI V ∧ RT V ∧ f < 12 ∧ p < 40 ∧ bd V f p ∧ CL (cW V f) (cA V f) (cQ V f) (cP V f) (V 9 f).toNat (Hf V f) p ∧ tp V d h := by
  obtain ⟨c1, c2, c3, c4, c5, c6, c7, c8, c9, c10⟩ := hC
  obtain ⟨f, p, h, q1, q2, q3⟩ := c4 d (by omega)
  rw [if_pos rfl] at q3
  have hP1 := PI_rcs hP c1
  have hR1 := RT_fr c1 pdr hR
  have hn := hP1.1
  have hl := (hP1.2.1 f (by have := q1.2.1; omega)).2
  have hHT := Hf_ok hR1 q1.2.1.1
  have hp := q1.2.1.2
  have hf := q1.2.1.1
  refine ⟨f, p, h, q1, q2, by omega, hP1, hR1, by omega, by omega, hR1.bd hf hp, hHT.2.2 p (by omega) (by omega), ?_, by omega, q1.1.2.2, by omega⟩
  rw [c2.2.1]; rfl
set_option maxHeartbeats 4000000 in
set_option maxRecDepth 100000 in
theorem s_next {N d : Nat} {b : Int} {V0 V : pvM} (hN : 50 ≤ N) (hP : PI V0) (hR : RT V0) (hW : RW V0) (hb : 0 ≤ b ∧ b ≤ 600) (hC : CI b V0 V (d + 1)) (h400 : V 28 7 < 400) : ∃ f p h, frm V d f p h ∧ h ≤ 12 ∧ Hf V f p = h ∧ bd V f p ∧ CL (cW V f) (cA V f) (cQ V f) (cP V f) (V 9 f).toNat (Hf V f) p ∧ wz (q_X4_doNext N V) (fun r V' => r = 0 ∧ POST b V d f p h V') := by
  obtain ⟨f, p, h, q1, q2, q3, hP1, hR1, hf, hp, hbd, hCL, ht⟩ := top_of hP hR hC
  refine ⟨f, p, h, q1, q2, q3, hbd, hCL, ?_⟩
  obtain ⟨c1, c2, c3, c4, c5, c6, c7, c8, c9, c10⟩ := hC
  have hd6 : d < 60 := by omega
  have ht1 : tp (nxV V d ((p + 1 : Nat) : Int)) d h := tp_nx ht
  have hw := hP1.2.2.1 (40 * f + p)
  have eW : cW V f p = V 10 (40 * f + p) := rfl
  obtain ⟨b1, b2, b3, b4, b5, b6⟩ := hbd
  obtain ⟨l1, l2, l3, l4, l5⟩ := hCL
  rw [q3] at l1 l2 l3 l4 l5
  have hpo : cQ V f p = po V (cW V f p) (cA V f p) (cB V f p) := rfl
  have hpp : cP V f p = pu (cW V f p) := rfl
  have hn12 := hP1.1
  unfold q_X4_doNext
  rw [cL_eq (e_unit ht.1 hd6), cL_eq (e_place ht.1 hd6), q1.1.1, q1.1.2.1, if_pos c2.2.2.2.1]
  have es : q_X6_isStepAt N f p V = some (0, 1, V) := rfl
  rw [cL_eq es, if_neg (by decide)]
  refine wp_gR (wp_lI ?_)
  rw [if_pos (by omega)]
  refine wp_gR (wp_lI (wp_lw (by omega) (wp_gW ?_)))
  unfold q_X4_doNext_b56
  refine wp_lI (wp_lw (by omega) ?_)
  rw [cL_eq (e_goTo (d := d) (by rw [pu_off (by decide)]; exact ht.1) hd6)]
  rw [show (p : Int) + 1 = ((p + 1 : Nat) : Int) by omega, show pz_u (pz_u V 28 7 (V 28 7 + 1)) 32 d ((p + 1 : Nat) : Int) = nxV V d ((p + 1 : Nat) : Int) from rfl]
  have e285 : nxV V d ((p + 1 : Nat) : Int) 28 5 = 1 := by rw [nxV_28, up_app, if_neg (by decide)]; exact c2.2.2.2.1
  have ew1 : cW (nxV V d ((p + 1 : Nat) : Int)) f p = cW V f p := by unfold cW; rw [nxV_off (by decide) (by decide)]
  have ea1 : cA (nxV V d ((p + 1 : Nat) : Int)) f p = cA V f p := by unfold cA; rw [nxV_off (by decide) (by decide)]
  have eb1 : cB (nxV V d ((p + 1 : Nat) : Int)) f p = cB V f p := by unfold cB; rw [nxV_off (by decide) (by decide)]
  rw [if_pos e285, cL_eq (e_wordAt hf hp), if_pos e285, cL_eq (e_firstNumberAt hf hp), if_pos e285, cL_eq (e_secondNumberAt hf hp), ew1, ea1, eb1]
  have n30 : nxV V d ((p + 1 : Nat) : Int) 30 = V 30 := nxV_off (by decide) (by decide)
  have n8 : nxV V d ((p + 1 : Nat) : Int) 8 = V 8 := nxV_off (by decide) (by decide)
  have n29 : nxV V d ((p + 1 : Nat) : Int) 29 = V 29 := nxV_off (by decide) (by decide)
  have n33 : nxV V d ((p + 1 : Nat) : Int) 33 = V 33 := nxV_off (by decide) (by decide)
  have n35 : nxV V d ((p + 1 : Nat) : Int) 35 = V 35 := nxV_off (by decide) (by decide)
  have n36 : nxV V d ((p + 1 : Nat) : Int) 36 = V 36 := nxV_off (by decide) (by decide)
  have n37 : nxV V d ((p + 1 : Nat) : Int) 37 = V 37 := nxV_off (by decide) (by decide)
  have n39 : nxV V d ((p + 1 : Nat) : Int) 39 = V 39 := nxV_off (by decide) (by decide)
  have n286 : nxV V d ((p + 1 : Nat) : Int) 28 6 = ((d + 1 : Nat) : Int) := by rw [nxV_28, up_app, if_neg (by decide)]; exact c2.2.2.1
  have hst := q1.2.2.1
  unfold POST
  refine wp_lI ?_
  have wrap : ∀ (o : Option pvO) (X : pvM → Prop), wz o (fun _ V' => X V') → wz (cL o fun _ V => rT V 0) (fun r V' => r = 0 ∧ X V') := fun o X h => wp_cL h (fun _ V' h9 => wp_rT ⟨rfl, rfl, h9⟩)
  have wrapE : ∀ (o : Option pvO) (W : pvM) (X : pvM → Prop), o = some (0, 0, W) → X W → wz (cL o fun _ V => rT V 0) (fun r V' => r = 0 ∧ X V') := fun o W X h hX => by rw [cL_eq h]; exact wp_rT ⟨rfl, rfl, hX⟩
  refine wp_if (fun hw12 => wp_lI ?_) (fun hw12 => ?_)
  · rw [if_neg (by omega)]
    rcases (by omega : cW V f p = 13 ∨ cW V f p = 14 ∨ cW V f p = 15) with h0 | h0 | h0
    · have hb4 := b4 h0
      rw [hpo, h0] at l2
      rw [hpo, hpp, h0] at l3
      simp [po, pu] at l2 l3
      obtain ⟨n, hn⟩ : ∃ n : Nat, cB V f p = n := ⟨(cB V f p).toNat, by omega⟩
      obtain ⟨h', rfl⟩ : ∃ h', h = h' + n := ⟨h - n, by omega⟩
      have hpa := (hP1.2.1 (cA V f p).toNat (by omega)).1
      refine wrapE _ _ _ ?_ (Or.inr (Or.inr (Or.inr (Or.inr (Or.inr (Or.inr (Or.inr (Or.inr (Or.inr (Or.inr (Or.inr (Or.inl ⟨h0, h', n, rfl, hn, rfl⟩))))))))))))
      rw [h0, hn]
      exact e_fi13 hN ht1 (by omega) (by omega) (by omega) (by rw [n35]; have := c5.1; omega)
    · have hb5 := b5 h0
      rw [hpo, h0] at l2
      rw [hpo, hpp, h0] at l3
      simp [po, pu] at l2 l3
      obtain ⟨n, hn⟩ : ∃ n : Nat, cA V f p = n := ⟨(cA V f p).toNat, by omega⟩
      obtain ⟨h', rfl⟩ : ∃ h', h = h' + 1 + n := ⟨h - 1 - n, by omega⟩
      refine wrapE _ _ _ ?_ (Or.inr (Or.inr (Or.inr (Or.inr (Or.inr (Or.inr (Or.inr (Or.inr (Or.inr (Or.inr (Or.inr (Or.inr (Or.inl ⟨h0, h', n, rfl, hn, rfl⟩)))))))))))))
      rw [h0, hn]
      have e14 : q_X4_applyTo N n (nxV V d ((p + 1 : Nat) : Int)) = some (0, 0, apV (nxV V d ((p + 1 : Nat) : Int)) (d + 1) d h' n) := e_fi14 (T := V 39 3) (H := V 35 3) hN ht1 (by omega) (by omega) (by rw [n29]; exact c2.1) (by rw [n286]; omega) (by rw [n30]; exact hst h' (by omega)) (by omega) (by omega) (fun c hc => by rw [n36, n37]; have := c5.2 c hc; omega)
      unfold q_X4_doFirst
      refine wz_to ?_
      refine wp_lI ?_
      rw [if_pos (by decide)]
      refine wp_lI ?_
      rw [if_neg (by decide), cL_eq e14]
      exact wp_rT ⟨rfl, rfl, rfl⟩
    · have hb6 := b6 h0
      rw [hpo, h0] at l2
      rw [hpo, hpp, h0] at l3
      simp [po, pu] at l2 l3
      have hhol := hP1.hol (r := (cA V f p).toNat) (by omega)
      have h25 := hP1.2.2.2.2.1
      obtain ⟨n, hn⟩ : ∃ n : Nat, V 4 (cA V f p).toNat = n := ⟨(V 4 (cA V f p).toNat).toNat, by omega⟩
      obtain ⟨h', rfl⟩ : ∃ h', h = h' + n := ⟨h - n, by omega⟩
      refine wp_mono (wrap _ (fun V' => jnP b (takeV (nxV V d ((p + 1 : Nat) : Int)) d h' n) (V 39 3).toNat d h' (jl V (cA V f p).toNat (fun j => spL V (V 30 (33 * d + 20 + h' + j))) (V 3 (cA V f p).toNat).toNat) V') ?_) (fun _ _ V' h9 => ⟨h9.1, h9.2.1, Or.inr (Or.inr (Or.inr (Or.inr (Or.inr (Or.inr (Or.inr (Or.inr (Or.inr (Or.inr (Or.inr (Or.inr (Or.inr ⟨h0, h', n, rfl, hn, h9.2.2⟩))))))))))))⟩)
      rw [h0]
      unfold q_X4_doFirst
      refine wp_lI ?_
      rw [if_pos (by decide)]
      refine wp_lI ?_
      rw [if_pos (by decide), cL_eq e_recipes]
      have f28 : fr [28, 32] V (nxV V d ((p + 1 : Nat) : Int)) := fun c hc => by simp at hc; exact nxV_off (by omega) (by omega)
      have k9 := s_fi15 (N := N) (r := (cA V f p).toNat) (T := (V 39 3).toNat) (d := d) (h := h') (n := n) (b := b) (H := V 35 3) (V := nxV V d ((p + 1 : Nat) : Int)) hN (hP1.fr f28 (by decide)) (by rw [f28 2 (by decide)]; omega) (by rw [f28 4 (by decide)]; exact hn) (rw_u (rw_u hW (c1 17 (by decide))) (f28 17 (by decide))) hb (by rw [n39]; have := c6.1; omega) (by have := c6.1; omega) (by omega) (by rw [nxV_28, up_app, if_neg (by decide)]; exact c2.2.2.2.2.1) (by unfold TX at c6 ⊢; rw [n39, f28 40 (by decide), f28 41 (by decide)]; exact c6) (by unfold KS at c7 ⊢; rw [n39]; exact c7) (bg_u c8 (f28 17 (by decide)) n39 (f28 84 (by decide))) ht1 (by omega) (fun k hk => by
        rw [n39, n30]
        have := hst (h' + k) (by omega)
        rw [show 33 * d + 20 + (h' + k) = 33 * d + 20 + h' + k by omega] at this
        exact this)
      rw [jl_congr (f28 6 (by decide)), f28 3 (by decide), n30, show (((cA V f p).toNat : Nat) : Int) = cA V f p by omega] at k9
      have esp : (fun j => spL (nxV V d ((p + 1 : Nat) : Int)) (V 30 (33 * d + 20 + h' + j))) = (fun j => spL V (V 30 (33 * d + 20 + h' + j))) := by funext j; exact nx_sp
      rw [esp] at k9
      exact wp_cL k9 (fun _ V' h9 => wp_rT ⟨rfl, h9⟩)
  · rcases (by omega : cW V f p = 0 ∨ cW V f p = 1 ∨ cW V f p = 2 ∨ (cW V f p = 3 ∨ cW V f p = 4 ∨ cW V f p = 5) ∨ cW V f p = 6 ∨ cW V f p = 7 ∨ cW V f p = 8 ∨ cW V f p = 9 ∨ cW V f p = 10 ∨ cW V f p = 11 ∨ cW V f p = 12) with h0 | h0 | h0 | h0 | h0 | h0 | h0 | h0 | h0 | h0 | h0
    · refine wrapE _ _ _ ?_ (Or.inl ⟨h0, rfl⟩)
      rw [h0]; exact e_sh0 ht1 (by omega)
    · have hb1 := b1 (Or.inl h0)
      refine wrapE _ _ _ ?_ (Or.inr (Or.inl ⟨h0, rfl⟩))
      obtain ⟨k, hk⟩ : ∃ k : Nat, cA V f p = k := ⟨(cA V f p).toNat, by omega⟩
      rw [h0, hk, show ((k : Int)).toNat = k by omega, ← n30]
      exact e_sh1 ht1 (by omega) (by omega)
    · have hb1 := b1 (Or.inr h0)
      rw [hpo, h0] at l2
      rw [hpo, hpp, h0] at l3
      simp [po, pu] at l2 l3
      obtain ⟨h', rfl⟩ : ∃ h', h = h' + 1 := ⟨h - 1, by omega⟩
      refine wrapE _ _ _ ?_ (Or.inr (Or.inr (Or.inl ⟨h0, h', rfl, rfl⟩)))
      obtain ⟨k, hk⟩ : ∃ k : Nat, cA V f p = k := ⟨(cA V f p).toNat, by omega⟩
      rw [h0, hk, show ((k : Int)).toNat = k by omega, ← n30]
      exact e_sh2 ht1 (by omega)
    · have hq2 : cQ V f p = 2 := by rw [hpo]; unfold po; rw [if_neg (by omega), if_pos (by omega)]
      obtain ⟨h', rfl⟩ : ∃ h', h = h' + 2 := ⟨h - 2, by omega⟩
      exact wrapE _ _ _ (e_sh345 hN h0 ht1) (Or.inr (Or.inr (Or.inr (Or.inl ⟨h0, h', rfl, rfl⟩))))
    · rw [hpo, h0] at l2
      rw [hpo, hpp, h0] at l3
      simp [po, pu] at l2 l3
      obtain ⟨h', rfl⟩ : ∃ h', h = h' + 1 := ⟨h - 1, by omega⟩
      refine wrapE _ _ _ ?_ (Or.inr (Or.inr (Or.inr (Or.inr (Or.inl ⟨h0, h', rfl, rfl⟩)))))
      rw [h0, ← n30]
      exact e_sh6 ht1 (by omega)
    · rw [hpo, h0] at l2
      rw [hpo, hpp, h0] at l3
      simp [po, pu] at l2 l3
      obtain ⟨h', rfl⟩ : ∃ h', h = h' + 1 := ⟨h - 1, by omega⟩
      refine wrapE _ _ _ ?_ (Or.inr (Or.inr (Or.inr (Or.inr (Or.inr (Or.inl ⟨h0, h', rfl, rfl⟩))))))
      rw [h0]; exact e_sh7 ht1
    · refine wrapE _ _ _ ?_ (Or.inr (Or.inr (Or.inr (Or.inr (Or.inr (Or.inr (Or.inl ⟨h0, rfl⟩)))))))
      rw [h0]; exact e_sh8 ht1
    · rw [hpo, h0] at l2
      rw [hpo, hpp, h0] at l3
      simp [po, pu] at l2 l3
      obtain ⟨h', rfl⟩ : ∃ h', h = h' + 1 := ⟨h - 1, by omega⟩
      refine wrapE _ _ _ ?_ (Or.inr (Or.inr (Or.inr (Or.inr (Or.inr (Or.inr (Or.inr (Or.inl ⟨h0, h', rfl, rfl⟩))))))))
      rw [h0]; exact e_sh9 ht1
    · have hb3 := b3 h0
      have hpa := (hP1.2.1 (cA V f p).toNat (by omega)).1
      rw [hpo, h0] at l2
      rw [hpo, hpp, h0] at l3
      simp [po, pu] at l2 l3
      obtain ⟨n, hn⟩ : ∃ n : Nat, V 8 (cA V f p).toNat = n := ⟨(V 8 (cA V f p).toNat).toNat, by omega⟩
      obtain ⟨h', rfl⟩ : ∃ h', h = h' + n := ⟨h - n, by omega⟩
      refine wrapE _ _ _ ?_ (Or.inr (Or.inr (Or.inr (Or.inr (Or.inr (Or.inr (Or.inr (Or.inr (Or.inl ⟨h0, h', n, rfl, hn, rfl⟩)))))))))
      rw [h0]
      exact e_sh10 hN ht1 (by omega) (by rw [n8]; exact hn) (by omega) (by omega) (by rw [n29]; exact c2.1) (by rw [n286]; omega)
    · rw [hpo, h0] at l2
      rw [hpo, hpp, h0] at l3
      simp [po, pu] at l2 l3
      obtain ⟨h', rfl⟩ : ∃ h', h = h' + 1 := ⟨h - 1, by omega⟩
      have hbel : ∃ h2 : Nat, 0 < d → V 33 (d - 1) = ((33 * (d - 1) + 20 + h2 : Nat) : Int) ∧ h2 < 13 := by
        by_cases hd0 : 0 < d
        · obtain ⟨f2, p2, h2, z1, z2, z3⟩ := c4 (d - 1) (by omega)
          exact ⟨h2, fun _ => ⟨z1.1.2.2, by omega⟩⟩
        · exact ⟨0, fun h => absurd h hd0⟩
      obtain ⟨h2, hbel⟩ := hbel
      refine wrapE _ _ _ ?_ (Or.inr (Or.inr (Or.inr (Or.inr (Or.inr (Or.inr (Or.inr (Or.inr (Or.inr (Or.inl ⟨h0, h', h2, rfl, hbel, rfl⟩))))))))))
      rw [h0, ← n30]
      exact e_sh11 ht1 rfl (by rw [n29]; exact c2.1) (by rw [n286]; omega) (by rw [n33]; exact hbel)
    · rw [hpo, h0] at l2
      rw [hpo, hpp, h0] at l3
      simp [po, pu] at l2 l3
      obtain ⟨h', rfl⟩ : ∃ h', h = h' + 1 := ⟨h - 1, by omega⟩
      refine wp_mono (wrap _ (fun V' => syP (nxV V d ((p + 1 : Nat) : Int)) d h' V') ?_) (fun _ _ V' h9 => ⟨h9.1, h9.2.1, Or.inr (Or.inr (Or.inr (Or.inr (Or.inr (Or.inr (Or.inr (Or.inr (Or.inr (Or.inr (Or.inl ⟨h0, h', rfl, h9.2.2⟩))))))))))⟩)
      rw [h0]
      refine s_sh12 (H := V 35 3) hN ht1 ?_ ?_ (by omega) ?_
      · unfold TX at c6 ⊢; rw [n39, nxV_off (by decide) (by decide), nxV_off (by decide) (by decide)]; exact c6
      · rw [n39, n30]; exact hst h' (by omega)
      · rw [n39]; exact c10
