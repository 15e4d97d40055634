/-! A RUN OF THE PLAINER CODE: ROWS, TURNS, THE RELATION TO THE FIRST CODE'S RUN -/
def row (V : pvM) (u q : Nat) (w a b s : Int) : Prop := u < 493 ∧ (0 ≤ V 22 u ∧ V 22 u + q < V 17 0 ∧ V 17 0 ≤ 100000) ∧ rw4 V ((V 22 u).toNat + q) w a b s
theorem row_fr {V0 V : pvM} {u q : Nat} {w a b s : Int} (hf : fr rcs V0 V) (h : row V0 u q w a b s) : row V u q w a b s := by
  unfold row rw4 at h ⊢
  rw [hf 22 (by decide), hf 17 (by decide), hf 18 (by decide), hf 19 (by decide), hf 20 (by decide), hf 21 (by decide)]; exact h
def stq (s : Int) (V : pvM) : Prop := s = 0 ∨ (s = 1 ∧ 0 ≤ V 28 7 ∧ V 28 7 < 400)
def n28 (s : Int) (V : pvM) : Nat → Int := if s = 1 then va_up (V 28) 7 (V 28 7 + 1) else V 28
def pre (s : Int) (V : pvM) (e : Nat) (q : Int) : pvM := if s = 1 then nxV V e q else pz_u V 32 e q
theorem pre_28 (s : Int) (V : pvM) (e : Nat) (q : Int) : pre s V e q 28 = n28 s V := by
  unfold pre n28; split
  · exact nxV_28 _ _ _
  · exact pu_off (by decide)
theorem pre_32 (s : Int) (V : pvM) (e : Nat) (q : Int) : pre s V e q 32 = va_up (V 32) e q := by
  unfold pre; split
  · exact nxV_32 _ _ _
  · exact pu_row _ _ _ _
theorem pre_off {s : Int} {V : pvM} {e c : Nat} {q : Int} (h0 : c ≠ 28) (h3 : c ≠ 32) : pre s V e q c = V c := by
  unfold pre; split
  · exact nxV_off h0 h3
  · exact pu_off h3
theorem n28_at {s : Int} {V : pvM} {i : Nat} (h : i ≠ 7) : n28 s V i = V 28 i := by
  unfold n28; split
  · rw [up_app, if_neg h]
  · rfl
theorem n28_1 (V : pvM) : n28 1 V = va_up (V 28) 7 (V 28 7 + 1) := by unfold n28; rw [if_pos rfl]
theorem n28_0 (V : pvM) : n28 0 V = V 28 := by unfold n28; rw [if_neg (by decide)]
def pbd (N : Nat) (w a b : Int) (V : pvM) : Option pvO :=
  if 12 < w then if 15 < w then cL (q_X4_doPlain N w a b V) fun _ V => rT V 0 else cL (q_X4_doFirst N w a b V) fun _ V => rT V 0 else cL (q_X4_doShared N w a V) fun _ V => rT V 0
set_option maxHeartbeats 4000000 in
set_option maxRecDepth 100000 in
theorem s_pnext {N e u q : Nat} {w a b s : Int} {V : pvM} {Q : Nat → Int → pvM → Prop} (h5 : V 28 5 ≠ 1) (he : V 29 6 = e) (he6 : e < 60) (hu : V 31 e = u) (hq : V 32 e = q) (hr : row V u q w a b s) (hs : stq s V) (hk : wp (pbd N w a b (pre s V e ((q + 1 : Nat) : Int))) Q) : wp (q_X4_doNext N V) Q := by
  obtain ⟨r1, r2, r3, r4, r5, r6⟩ := hr
  have b56 : ∀ W : pvM, fr [28] V W → W 28 5 ≠ 1 → pz_u W 32 e ((q + 1 : Nat) : Int) = pre s V e ((q + 1 : Nat) : Int) → wp (q_X4_doNext_b56 N u q W) Q := by
    intro W hW w5 hWp
    unfold q_X4_doNext_b56
    refine wp_lI (wp_lw (by omega) ?_)
    rw [cL_eq (e_goTo (d := e) (by rw [hW 29 (by decide)]; exact he) he6), show (q : Int) + 1 = ((q + 1 : Nat) : Int) by omega, hWp]
    have p5 : pre s V e ((q + 1 : Nat) : Int) 28 5 ≠ 1 := by rw [← hWp, pu_off (by decide)]; exact w5
    have x22 : pre s V e ((q + 1 : Nat) : Int) 22 = V 22 := pre_off (by decide) (by decide)
    have x17 : pre s V e ((q + 1 : Nat) : Int) 17 = V 17 := pre_off (by decide) (by decide)
    obtain ⟨e1, e2, e3, e4⟩ := e_pat (f := u) (i := q) (V := pre s V e ((q + 1 : Nat) : Int)) r1 (by rw [x22, x17]; exact r2) N
    rw [x22, pre_off (by decide) (by decide), r3] at e1
    rw [x22, pre_off (by decide) (by decide), r4] at e2
    rw [x22, pre_off (by decide) (by decide), r5] at e3
    rw [if_neg p5, cL_eq e1, if_neg p5, cL_eq e2, if_neg p5, cL_eq e3]
    exact wp_lI hk
  obtain ⟨-, -, -, e4⟩ := e_pat (f := u) (i := q) (V := V) r1 r2 N
  rw [r6] at e4
  unfold q_X4_doNext
  rw [cL_eq (e_unit he he6), cL_eq (e_place he he6), hu, hq, if_neg h5, cL_eq e4]
  rcases hs with h0 | ⟨h1, h2, h3⟩
  · subst h0
    rw [if_neg (show ¬ (0 : Int) = 1 by decide), if_pos rfl]
    exact b56 V (fr.refl _ _) h5 (by unfold pre; rw [if_neg (by decide)])
  · subst h1
    rw [if_pos rfl, if_neg (by decide)]
    refine wp_gR (wp_lI ?_)
    rw [if_pos (by omega)]
    refine wp_gR (wp_lI (wp_lw (by omega) (wp_gW ?_)))
    exact b56 _ (fr_u (by simp)) (by rw [pu_row, up_app, if_neg (by decide)]; exact h5) (by unfold pre nxV; rw [if_pos rfl])
/-! turns -/
def RE (N : Nat) : Nat → pvM → (pvM → Prop) → Prop
  | 0, V, Q => Q V
  | n + 1, V, Q => Q V ∨ (V 28 8 = 0 ∧ 0 < V 29 5 ∧ ∃ r V1, q_X4_doNext N V = some (0, r, V1) ∧ RE N n V1 Q)
theorem RE_done {N n : Nat} {V : pvM} {Q : pvM → Prop} (h : Q V) : RE N n V Q := by
  cases n with
  | zero => exact h
  | succ n => exact Or.inl h
theorem RE_step {N n : Nat} {V : pvM} {Q R : pvM → Prop} (h8 : V 28 8 = 0) (h5 : 0 < V 29 5) (hs : wz (q_X4_doNext N V) (fun _ V' => R V')) (hk : ∀ V', R V' → RE N n V' Q) : RE N (n + 1) V Q := by
  obtain ⟨r, V1, h1, h2⟩ := wz_some hs
  exact Or.inr ⟨h8, h5, r, V1, h1, hk V1 h2⟩
theorem RE_mono {N : Nat} {Q R : pvM → Prop} : ∀ {n m : Nat} {V : pvM}, RE N n V Q → n ≤ m → (∀ W, Q W → R W) → RE N m V R
  | 0, m, V, h, _, hk => RE_done (hk V h)
  | n + 1, 0, V, h, hm, hk => by omega
  | n + 1, m + 1, V, h, hm, hk => by
    rcases h with h | ⟨h8, h5, r, V1, h1, h2⟩
    · exact Or.inl (hk V h)
    · exact Or.inr ⟨h8, h5, r, V1, h1, RE_mono h2 (by omega) hk⟩
theorem RE_then {N m : Nat} {Q R : pvM → Prop} : ∀ {n : Nat} {V : pvM}, RE N n V R → (∀ W, R W → RE N m W Q) → RE N (n + m) V Q
  | 0, V, h, hk => by rw [Nat.zero_add]; exact hk V h
  | n + 1, V, h, hk => by
    rcases h with h | ⟨h8, h5, r, V1, h1, h2⟩
    · exact RE_mono (hk V h) (by omega) (fun _ h => h)
    · rw [show n + 1 + m = (n + m) + 1 by omega]
      exact Or.inr ⟨h8, h5, r, V1, h1, RE_then h2 hk⟩
theorem RE_loop {N : Nat} {Q : pvM → Prop} : ∀ {n : Nat} {V : pvM}, RE N n V Q → ∃ k V', k ≤ n ∧ Q V' ∧ ∀ (fu : Nat) (x : Int), 0 ≤ x → x + n ≤ 1000000 → q_X4_perform_b131 N (fu + k) x V = q_X4_perform_b131 N fu (x + k) V'
  | 0, V, h => ⟨0, V, Nat.le_refl _, h, fun fu x h0 h1 => by rw [Nat.add_zero]; congr 1; omega⟩
  | n + 1, V, h => by
    rcases h with h | ⟨h8, h5, r, V1, h1, h2⟩
    · exact ⟨0, V, by omega, h, fun fu x h0 h1 => by rw [Nat.add_zero]; congr 1; omega⟩
    · obtain ⟨k, V', k1, k2, k3⟩ := RE_loop h2
      refine ⟨k + 1, V', by omega, k2, fun fu x h0 h3 => ?_⟩
      rw [show fu + (k + 1) = (fu + k) + 1 by omega, e_loopS (by omega) h8 h5 h1, k3 fu (x + 1) (by omega) (by omega), show x + 1 + (k : Int) = x + ((k + 1 : Nat) : Int) by omega]
/-! rows out of the made code -/
theorem low_row {V : pvM} (hL : LOW V) (hW : RW V) (hP : PI V) {f p j : Nat} {x : Ins} (hf : (f : Int) < V 1 6) (hp : (p : Int) < V 9 f) (hx : (Gp V f p)[j]? = some x) : row V f (ps V f p + j) x.1 (mvA V f true x) x.2.2 (if j = 0 then 1 else 0) := by
  have hF := hL.2.2.1 f hf
  have h5 := hL.2.2.2.2.2 f hf
  have hn := hP.1
  have hj : j < (Gp V f p).length := by
    rcases Nat.lt_or_ge j (Gp V f p).length with h | h
    · exact h
    · rw [List.getElem?_eq_none h] at hx; cases hx
  rw [Gp_len] at hj
  have h6 := ps_mono (V := V) (f := f) (p := p + 1) (q := (V 9 f).toNat) (by omega)
  simp only [ps] at h6
  simp only [SS] at h5
  refine ⟨by omega, ⟨by rw [hF.1]; omega, ?_, RW_le hW⟩, ?_⟩
  · rw [hF.1]; have := hW.2.2; omega
  · rw [hF.1, show ((SS V f : Nat) : Int).toNat + (ps V f p + j) = SS V f + ps V f p + j by omega]
    exact (hF.2.2 p hp).1 j x hx
theorem low_mrow {V : pvM} (hL : LOW V) (hW : RW V) (hP : PI V) {c j : Nat} {x : Ins} (hc : (c : Int) < V 16 9) (hx : (mL V c)[j]? = some x) : row V ((V 1 6).toNat + c) j x.1 x.2.1 x.2.2 0 := by
  obtain ⟨s, m1, m2, m3, m4⟩ := hL.2.2.2.2.1 c hc
  have hn := hP.1
  have hCC := (SS_le hP hL.1 (V 1 6).toNat (by omega)).2
  have h9 := hL.2.1
  have hj : j < (mL V c).length := by
    rcases Nat.lt_or_ge j (mL V c).length with h | h
    · exact h
    · rw [List.getElem?_eq_none h] at hx; cases hx
  refine ⟨by omega, ⟨by rw [m1]; omega, ?_, RW_le hW⟩, ?_⟩
  · rw [m1]; have := hW.2.2; omega
  · rw [m1, show ((s : Nat) : Int).toNat + j = s + j by omega]
    exact m4 j x hx
/-! the relation -/
def BE (V W : pvM) (e : Nat) : Prop := (∀ i, i < e → W 31 i = V 31 i ∧ W 32 i = V 32 i ∧ W 33 i = V 33 i) ∧ ∀ i, i < 33 * e → W 30 i = V 30 i
theorem BE.refl (V : pvM) (e : Nat) : BE V V e := ⟨fun _ _ => ⟨rfl, rfl, rfl⟩, fun _ _ => rfl⟩
theorem BE.trans {V W X : pvM} {e : Nat} (h : BE V W e) (h' : BE W X e) : BE V X e := ⟨fun i hi => ⟨(h'.1 i hi).1.trans (h.1 i hi).1, (h'.1 i hi).2.1.trans (h.1 i hi).2.1, (h'.1 i hi).2.2.trans (h.1 i hi).2.2⟩, fun i hi => (h'.2 i hi).trans (h.2 i hi)⟩
def pF (V0 V Vp : pvM) (d e : Nat) : Prop := ∃ f p h : Nat, (V 31 d = f ∧ V 32 d = p ∧ V 33 d = ((33 * d + 20 + h : Nat) : Int)) ∧ (Vp 31 e = f ∧ Vp 32 e = ps V0 f p ∧ Vp 33 e = ((33 * e + 20 + h : Nat) : Int)) ∧ h ≤ 13 ∧ (∀ k, k < 8 → Vp 30 (33 * e + k) = V 30 (33 * d + k)) ∧ ∀ j, j < h → Vp 30 (33 * e + 20 + j) = V 30 (33 * d + 20 + j)
/-- a method that waits for its function -/
def mfr (V0 Vp : pvM) (e : Nat) : Prop := ∃ c : Nat, (c : Int) < V0 16 9 ∧ Vp 31 e = (((V0 1 6).toNat + c : Nat) : Int) ∧ Vp 32 e = (((mL V0 c).length - 1 : Nat) : Int) ∧ Vp 33 e = ((33 * e + 20 : Nat) : Int)
def HP (V0 V Vp : pvM) : Prop := Vp 35 3 = V 35 3 ∧ ∀ c : Nat, (c : Int) < V 35 3 → ∃ k : Nat, (k : Int) < V0 16 9 ∧ Vp 36 c = k ∧ V0 23 k = V 36 c ∧ V0 24 k = V 37 c ∧ ∀ i : Nat, (i : Int) < V 37 c → Vp 38 (3 * c + i) = V 38 (3 * c + i)
def TP (V Vp : pvM) : Prop := Vp 39 3 = V 39 3 ∧ Vp 39 7 = V 39 7 ∧ ∀ t : Nat, (t : Int) < V 39 3 → Vp 41 t = V 41 t
def IX (V0 Vp : pvM) (D : Nat) (ix : Nat → Nat) : Prop := ix 0 = 0 ∧ ∀ d, d + 1 < D → ix (d + 1) = ix d + 1 ∨ (ix (d + 1) = ix d + 2 ∧ mfr V0 Vp (ix d + 1))
def SDE (b : Int) (Vp : pvM) : Prop := TX Vp ∧ KS Vp ∧ BG b Vp
def RP (b : Int) (V0 V Vp : pvM) (D : Nat) (ix : Nat → Nat) : Prop := fr rcs V0 Vp ∧ (Vp 28 5 = 16 ∧ Vp 28 6 = V 28 6 ∧ Vp 28 7 = V 28 7 ∧ Vp 28 8 = 0 ∧ Vp 28 9 = 0) ∧ (Vp 29 5 = ((ix (D - 1) + 1 : Nat) : Int) ∧ Vp 29 6 = ix (D - 1)) ∧ IX V0 Vp D ix ∧ (∀ d, d < D → pF V0 V Vp d (ix d)) ∧ HP V0 V Vp ∧ TP V Vp ∧ SDE b Vp
def PFN (b : Int) (V0 V Vp : pvM) : Prop := fr rcs V0 Vp ∧ KS Vp ∧ BG b Vp ∧ Vp 28 7 = V 28 7 ∧ Vp 28 8 = V 28 8 ∧ Vp 39 7 = V 39 7 ∧ Vp 28 9 = V 28 9 ∧ (V 28 8 ≠ 0 ∨ (V 29 5 = 0 ∧ Vp 29 5 = 0))
def RPO (b : Int) (V0 V Vp : pvM) : Prop := (∃ D ix, (V 29 5 = ((D + 1 : Nat) : Int) ∧ V 28 8 = 0) ∧ RP b V0 V Vp (D + 1) ix) ∨ PFN b V0 V Vp
theorem IX_le {V0 Vp : pvM} {D : Nat} {ix : Nat → Nat} (h : IX V0 Vp D ix) : ∀ d, d < D → ix d ≤ 2 * d
  | 0, _ => by rw [h.1]; exact Nat.le_refl _
  | d + 1, hd => by
    have h1 := IX_le h d (by omega)
    rcases h.2 d (by omega) with h2 | h2 <;> omega
theorem IX_lt {V0 Vp : pvM} {D : Nat} {ix : Nat → Nat} (h : IX V0 Vp D ix) {k : Nat} : ∀ d, k < d → d < D → ix k + 1 ≤ ix d
  | 0, h0, _ => by omega
  | d + 1, h0, hd => by
    by_cases hkd : k = d
    · subst hkd
      rcases h.2 k (by omega) with h2 | h2 <;> omega
    · have h1 := IX_lt h (k := k) d (by omega) (by omega)
      rcases h.2 d (by omega) with h2 | h2 <;> omega
theorem mfr_keep {V0 Vp Vp' : pvM} {e : Nat} (h : mfr V0 Vp e) (e31 : Vp' 31 e = Vp 31 e) (e32 : Vp' 32 e = Vp 32 e) (e33 : Vp' 33 e = Vp 33 e) : mfr V0 Vp' e := by
  obtain ⟨c, h1, h2, h3, h4⟩ := h
  exact ⟨c, h1, e31.trans h2, e32.trans h3, e33.trans h4⟩
theorem pF_keep {V0 V V' Vp Vp' : pvM} {d e : Nat} (h : pF V0 V Vp d e) (a31 : V' 31 d = V 31 d) (a32 : V' 32 d = V 32 d) (a33 : V' 33 d = V 33 d) (a30 : ∀ i, 33 * d ≤ i → i < 33 * d + 33 → V' 30 i = V 30 i) (b31 : Vp' 31 e = Vp 31 e) (b32 : Vp' 32 e = Vp 32 e) (b33 : Vp' 33 e = Vp 33 e) (b30 : ∀ i, 33 * e ≤ i → i < 33 * e + 33 → Vp' 30 i = Vp 30 i) : pF V0 V' Vp' d e := by
  obtain ⟨f, p, h, h1, h2, h3, h4, h5⟩ := h
  refine ⟨f, p, h, by rw [a31, a32, a33]; exact h1, by rw [b31, b32, b33]; exact h2, h3, fun k hk => ?_, fun j hj => ?_⟩
  · rw [b30 _ (by omega) (by omega), a30 _ (by omega) (by omega)]; exact h4 k hk
  · rw [b30 _ (by omega) (by omega), a30 _ (by omega) (by omega)]; exact h5 j hj
theorem IX_keep {V0 Vp Vp' : pvM} {d : Nat} {ix : Nat → Nat} (h : IX V0 Vp (d + 1) ix) (hb : BE Vp Vp' (ix d)) : IX V0 Vp' (d + 1) ix := by
  refine ⟨h.1, fun k hk => ?_⟩
  rcases h.2 k hk with h2 | ⟨h2, h3⟩
  · exact Or.inl h2
  · have h4 : ix k + 1 < ix d := by
      by_cases hkd : k + 1 = d
      · rw [← hkd]; omega
      · have := IX_lt h (k := k + 1) d (by omega) (by omega)
        omega
    have h5 := hb.1 _ h4
    exact Or.inr ⟨h2, mfr_keep h3 h5.1 h5.2.1 h5.2.2⟩
/-- both changed their top frames alone, and what they keep beside -/
theorem RP_top {b : Int} {V0 V V' Vp Vp' : pvM} {d : Nat} {ix : Nat → Nat} (hR : RP b V0 V Vp (d + 1) ix) (a31 : V' 31 = V 31) (a32 : ∀ k, k ≠ d → V' 32 k = V 32 k) (a33 : ∀ k, k ≠ d → V' 33 k = V 33 k) (a30 : ∀ i, i < 33 * d → V' 30 i = V 30 i) (a286 : V' 28 6 = V 28 6) (hf : fr rcs Vp Vp') (hb : BE Vp Vp' (ix d)) (b29 : Vp' 29 = Vp 29) (b28 : Vp' 28 5 = Vp 28 5 ∧ Vp' 28 6 = Vp 28 6 ∧ Vp' 28 8 = Vp 28 8 ∧ Vp' 28 9 = Vp 28 9) (b287 : Vp' 28 7 = V' 28 7) (ht : pF V0 V' Vp' d (ix d)) (hH : HP V0 V' Vp') (hT : TP V' Vp') (hS : SDE b Vp') : RP b V0 V' Vp' (d + 1) ix := by
  obtain ⟨r1, r2, r3, r4, r5, r6, r7, r8⟩ := hR
  refine ⟨r1.trans hf, ⟨by rw [b28.1]; exact r2.1, by rw [b28.2.1, a286]; exact r2.2.1, b287, by rw [b28.2.2.1]; exact r2.2.2.2.1, by rw [b28.2.2.2]; exact r2.2.2.2.2⟩, by rw [b29]; exact r3, IX_keep r4 hb, fun k hk => ?_, hH, hT, hS⟩
  by_cases hkd : k = d
  · rw [hkd]; exact ht
  · have h1 := IX_lt r4 (k := k) d (by omega) (by omega)
    have h2 := hb.1 (ix k) (by omega)
    exact pF_keep (r5 k hk) (by rw [a31]) (a32 k hkd) (a33 k hkd) (fun i h3 h4 => a30 i (by omega)) h2.1 h2.2.1 h2.2.2 (fun i h3 h4 => hb.2 i (by omega))
theorem HP_fr {V0 V V' Vp Vp' : pvM} (h : HP V0 V Vp) (a : ∀ c, c ∈ [35, 36, 37, 38] → V' c = V c) (b : ∀ c, c ∈ [35, 36, 37, 38] → Vp' c = Vp c) : HP V0 V' Vp' := by
  unfold HP at h ⊢
  rw [a 35 (by decide), a 36 (by decide), a 37 (by decide), a 38 (by decide), b 35 (by decide), b 36 (by decide), b 38 (by decide)]; exact h
theorem TP_fr {V V' Vp Vp' : pvM} (h : TP V Vp) (a39 : V' 39 = V 39) (a41 : V' 41 = V 41) (b39 : Vp' 39 = Vp 39) (b41 : Vp' 41 = Vp 41) : TP V' Vp' := by
  unfold TP at h ⊢
  rw [a39, a41, b39, b41]; exact h
theorem SDE_fr {b : Int} {V V' : pvM} (h : SDE b V) (hc : ∀ c, c ∈ [17, 39, 40, 41, 84] → V' c = V c) : SDE b V' := by
  obtain ⟨h1, h2, h3⟩ := h
  refine ⟨?_, ?_, bg_u h3 (hc 17 (by decide)) (hc 39 (by decide)) (hc 84 (by decide))⟩
  · unfold TX at h1 ⊢; rw [hc 39 (by decide), hc 40 (by decide), hc 41 (by decide)]; exact h1
  · unfold KS at h2 ⊢; rw [hc 39 (by decide)]; exact h2
/-- nothing but frames has changed -/
theorem RP_same {b : Int} {V0 V V' Vp Vp' : pvM} {d f p' h' : Nat} {ix : Nat → Nat} (hR : RP b V0 V Vp (d + 1) ix) (f1 : fr [28, 30, 32, 33, 34] V V') (f2 : fr [28, 30, 32, 33, 34] Vp Vp') (a28 : V' 28 = va_up (V 28) 7 (V 28 7 + 1)) (b28 : Vp' 28 = va_up (Vp 28) 7 (Vp 28 7 + 1)) (a32 : V' 32 = va_up (V 32) d (p' : Int)) (b32 : Vp' 32 = va_up (Vp 32) (ix d) ((ps V0 f p' : Nat) : Int)) (a33 : ∀ k, k ≠ d → V' 33 k = V 33 k) (b33 : ∀ k, k ≠ ix d → Vp' 33 k = Vp 33 k) (a33d : V' 33 d = ((33 * d + 20 + h' : Nat) : Int)) (b33d : Vp' 33 (ix d) = ((33 * ix d + 20 + h' : Nat) : Int)) (a30 : ∀ i, i < 33 * d → V' 30 i = V 30 i) (b30 : ∀ i, i < 33 * ix d → Vp' 30 i = Vp 30 i) (hfd : V 31 d = f) (hh : h' ≤ 13) (hlo : ∀ k, k < 8 → Vp' 30 (33 * ix d + k) = V' 30 (33 * d + k)) (hst : ∀ j, j < h' → Vp' 30 (33 * ix d + 20 + j) = V' 30 (33 * d + 20 + j)) : RP b V0 V' Vp' (d + 1) ix := by
  have hR' := hR
  obtain ⟨r1, r2, r3, r4, r5, r6, r7, r8⟩ := hR'
  obtain ⟨f9, p9, h9, q1, q2, q3, q4, q5⟩ := r5 d (by omega)
  have hff : f9 = f := by have := q1.1; omega
  subst hff
  refine RP_top hR (f1 31 (by decide)) (fun k hk => by rw [a32, up_app, if_neg hk]) a33 a30 (by rw [a28, up_app, if_neg (by decide)]) (f2.mono (by decide)) ⟨fun i hi => ⟨by rw [f2 31 (by decide)], by rw [b32, up_app, if_neg (by omega)], b33 i (by omega)⟩, b30⟩ (f2 29 (by decide)) (by rw [b28]; simp [up_app]) (by rw [b28, a28, up_app, up_app, if_pos rfl, if_pos rfl, r2.2.2.1]) ⟨f9, p', h', ⟨by rw [f1 31 (by decide)]; exact q1.1, by rw [a32, up_app, if_pos rfl], a33d⟩, ⟨by rw [f2 31 (by decide)]; exact q2.1, by rw [b32, up_app, if_pos rfl], b33d⟩, hh, hlo, hst⟩ (HP_fr r6 (fun c hc => f1 c (by simp at hc; simp; omega)) (fun c hc => f2 c (by simp at hc; simp; omega))) (TP_fr r7 (f1 39 (by decide)) (f1 41 (by decide)) (f2 39 (by decide)) (f2 41 (by decide))) (SDE_fr r8 (fun c hc => f2 c (by simp at hc; simp; omega)))
theorem PFN_flt {b e : Int} {V0 V V' Vp Vp' : pvM} {D : Nat} {ix : Nat → Nat} (hR : RP b V0 V Vp (D + 1) ix) (hf : fr rcs Vp Vp') (h7 : Vp' 28 7 = V' 28 7) (a8 : V' 28 8 = e) (b8 : Vp' 28 8 = e) (he : e ≠ 0) (h39 : Vp' 39 7 = V' 39 7) (a9 : V' 28 9 = 0) (b9 : Vp' 28 9 = 0) (hK : KS Vp') (hB : BG b Vp') : PFN b V0 V' Vp' := by
  exact ⟨hR.1.trans hf, hK, hB, h7, by rw [a8, b8], h39, by rw [a9, b9], Or.inl (by rw [a8]; exact he)⟩
