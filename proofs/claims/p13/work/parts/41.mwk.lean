theorem RI.fr {cs : List Nat} {V V' : pvM} (h : RI V) (hf : fr cs V V') (hd : ∀ c, c ∈ [1, 2, 3, 6, 8, 9, 10, 11, 12, 46, 47, 48, 49, 50, 51, 52] → c ∉ cs) (e1 : V' 45 1 = V 45 1) (e7 : V' 45 7 = V 45 7) : RI V' := by
  unfold RI at h ⊢
  rw [e1, e7, hf 1 (hd 1 (by decide)), hf 2 (hd 2 (by decide)), hf 3 (hd 3 (by decide)), hf 6 (hd 6 (by decide)), hf 8 (hd 8 (by decide)), hf 9 (hd 9 (by decide)), hf 10 (hd 10 (by decide)), hf 11 (hd 11 (by decide)), hf 12 (hd 12 (by decide)), hf 46 (hd 46 (by decide)), hf 47 (hd 47 (by decide)), hf 48 (hd 48 (by decide)), hf 49 (hd 49 (by decide)), hf 50 (hd 50 (by decide)), hf 51 (hd 51 (by decide)), hf 52 (hd 52 (by decide))]
  exact h
def mch : List Nat := [45, 53, 54, 55]
theorem pdm : ∀ c, c ∈ prog → c ∉ mch := by decide
theorem rdm : ∀ c, c ∈ [1, 2, 3, 6, 8, 9, 10, 11, 12, 46, 47, 48, 49, 50, 51, 52] → c ∉ mch := by decide
theorem f13_r {V V' : pvM} (h : f13 V V') : V' 45 1 = V 45 1 ∧ V' 45 7 = V 45 7 := ⟨h 1 (by decide), h 7 (by decide)⟩
theorem e_walk_end {N fu : Nat} {f n k : Int} {V : pvM} (h : 0 ≤ V 45 13) : wz (q_X11_walk_b63 N (fu + 1) f n k V) (fun _ V' => V' = V) := by
  simp only [q_X11_walk_b63]
  refine wp_if (fun _ => wp_rT ⟨rfl, rfl⟩) (fun _ => ?_)
  refine wp_gR ?_
  rw [if_pos h]
  exact wp_rT ⟨rfl, rfl⟩
set_option maxHeartbeats 4000000 in
set_option maxRecDepth 100000 in
theorem s_mwalk_b63 {N n f : Nat} {V0 : pvM} (hN : 50 ≤ N) (hP : PI V0) (hI : RI V0) (hf : f < 12) (hn : n ≤ 40) (hlen : V0 9 f = n) (hb : ∀ k, k < n → bd V0 f k) : ∀ (fu m : Nat) (V : pvM) (h g : Nat → Int) (hi : Int), gc g n + m = n → m + 2 ≤ fu → fr mch V0 V → f13 V0 V → agn n (V 53) h → agn n (V 54) (wtI h g) → V 45 13 = -1 → V 55 f = hi → (∀ j, j < n → -1 ≤ h j ∧ h j ≤ 12) → (∀ j, j < n → h j ≠ -1 ∨ g j = 0) →
    wz (q_X11_walk_b63 N fu f n (lfI (lfind (wt h g) n 0)) V) (fun _ V' => fr mch V0 V' ∧ f13 V0 V' ∧ (∀ j, j ≠ f → V' 55 j = V 55 j) ∧ V' 45 13 = (wk (cW V0 f) (cA V0 f) (cQ V0 f) (cP V0 f) n m h g hi).1 ∧ (V' 45 13 = -1 → agn n (V' 53) (wk (cW V0 f) (cA V0 f) (cQ V0 f) (cP V0 f) n m h g hi).2.1 ∧ V' 55 f = (wk (cW V0 f) (cA V0 f) (cQ V0 f) (cP V0 f) n m h g hi).2.2)) := by
  intro fu
  induction fu with
  | zero => intro m V h g hi h1 h2; omega
  | succ fu ih =>
    intro m V h g hi h1 h2 hfr h13 h53 h54 hw h55 hb12 hm
    cases hl : lfind (wt h g) n 0 with
    | none =>
      simp only [q_X11_walk_b63]
      rw [show lfI none = -1 from rfl, if_pos (by decide)]
      have e : wk (cW V0 f) (cA V0 f) (cQ V0 f) (cP V0 f) n m h g hi = (-1, h, hi) := by
        cases m with
        | zero => rfl
        | succ m => simp only [wk]; rw [hl]
      rw [e]
      exact wp_rT ⟨rfl, hfr, h13, fun _ _ => rfl, hw, fun _ => ⟨h53, h55⟩⟩
    | some k =>
      obtain ⟨k1, k2, k3⟩ := lfind_some hl
      have hkn : k < n := by omega
      have hkm : h k ≠ -1 ∧ g k = 0 := by simpa [wt] using k3
      have hbk := hb12 k hkn
      obtain ⟨m', rfl⟩ : ∃ m', m = m' + 1 := by
        cases m with
        | zero => exact absurd hkm.2 (gc_full (by omega) k hkn)
        | succ m => exact ⟨m, rfl⟩
      simp only [q_X11_walk_b63]
      rw [show lfI (some k) = (k : Int) from rfl, if_neg (by omega)]
      refine wp_gR ?_
      rw [hw, if_neg (by decide)]
      have e9 : ((k : Int)).toNat = k := by omega
      have ef : ((f : Int)).toNat = f := by omega
      refine wp_lI (wp_bT (Or.inl rfl) (wp_aW (by omega) ?_))
      rw [e9]
      have hfr1 : fr mch V0 (pz_u V 54 k 0) := hfr.trans (fr_u (by decide))
      have h131 : f13 V0 (pz_u V 54 k 0) := h13.trans (f13_o (by decide))
      have hP1 : PI (pz_u V 54 k 0) := hP.fr hfr1 pdm
      have hI1 : RI (pz_u V 54 k 0) := hI.fr hfr1 rdm (f13_r h131).1 (f13_r h131).2
      have eb := bd_fr hfr1 pdm f k
      refine wp_lI (wp_lw (by omega) (wp_lw (by omega) (wp_aR (by omega) ?_)))
      rw [e9, pu_off (show (53 : Nat) ≠ 54 by decide), h53 k hkn]
      rw [cL_eq (e_mpops hN hP1 hI1 hf (by omega) (by rw [eb.1]; exact hb k hkn)), eb.2.2.2.2.1]
      have hq := po_bd hP (hb k hkn)
      have hpb : 0 ≤ cP V0 f k ∧ cP V0 f k ≤ 2 := ⟨pu_nn _, pu_le _⟩
      refine wp_lw (by omega) ?_
      rw [cL_eq (e_mpushes hI1 hf (by omega)), eb.2.2.2.2.2]
      refine wp_lw (by omega) ?_
      obtain ⟨x, hx⟩ : ∃ x, x = h k - cQ V0 f k + cP V0 f k := ⟨_, rfl⟩
      rw [← hx]
      obtain ⟨g', hg'⟩ : ∃ g', g' = va_up g k 1 := ⟨_, rfl⟩
      have h54' : agn n (pz_u V 54 k 0 54) (wtI h g') := by
        intro j hj
        rw [pu_row, up_app, hg']
        unfold wtI wt
        by_cases hjk : j = k
        · subst hjk; rw [if_pos rfl, up_app, if_pos rfl]; simp
        · rw [if_neg hjk, up_app, if_neg hjk]; exact h54 j hj
      have hm' : ∀ j, j < n → h j ≠ -1 ∨ g' j = 0 := by
        intro j hj
        by_cases hjk : j = k
        · subst hjk; exact Or.inl hkm.1
        · rw [hg', up_app, if_neg hjk]; exact hm j hj
      have hgc : gc g' n + m' = n := by rw [hg', gc_up hkm.2 hkn]; omega
      -- the words of this place, in any later memory
      have hword : ∀ V2 : pvM, fr mch V0 V2 → V2 48 (40 * (f : Int) + (k : Int)).toNat = cW V0 f k ∧ V2 49 (40 * (f : Int) + (k : Int)).toNat = cA V0 f k := by
        intro V2 hf2
        rw [hf2 48 (by decide), hf2 49 (by decide), hI.2.2.2.1, hI.2.2.2.2.1, show (40 * (f : Int) + (k : Int)).toNat = 40 * f + k by omega]
        exact ⟨rfl, rfl⟩
      -- a wrong place: the end
      have bad : ∀ (V2 : pvM) (h2 : Nat → Int), fr mch V0 V2 → f13 V0 V2 → (∀ j, j ≠ f → V2 55 j = V 55 j) → agn n (V2 54) (wtI h2 g') → V2 45 13 = k → stp (cW V0 f) (cA V0 f) (cQ V0 f) (cP V0 f) n h k = none → wz (q_X11_walk_b280 N (q_X11_walk_b63 N fu) f n V2) (fun _ V' => fr mch V0 V' ∧ f13 V0 V' ∧ (∀ j, j ≠ f → V' 55 j = V 55 j) ∧ V' 45 13 = (wk (cW V0 f) (cA V0 f) (cQ V0 f) (cP V0 f) n (m' + 1) h g hi).1 ∧ (V' 45 13 = -1 → agn n (V' 53) (wk (cW V0 f) (cA V0 f) (cQ V0 f) (cP V0 f) n (m' + 1) h g hi).2.1 ∧ V' 55 f = (wk (cW V0 f) (cA V0 f) (cQ V0 f) (cP V0 f) n (m' + 1) h g hi).2.2)) := by
        intro V2 h2 q1 q2 q3 q4 q5 q6
        unfold q_X11_walk_b280
        refine wp_cL (s_mleast hN hn q4) (fun r V3 hV3 => ?_)
        obtain ⟨rfl, -⟩ := hV3
        obtain ⟨fu', rfl⟩ : ∃ fu', fu = fu' + 1 := ⟨fu - 1, by omega⟩
        refine wp_mono (e_walk_end (by omega)) (fun t r V4 hV4 => ?_)
        obtain ⟨ht4, rfl⟩ := hV4
        refine ⟨ht4, q1, q2, q3, ?_, fun h9 => by omega⟩
        simp only [wk]; rw [hl]; dsimp only; rw [q6]; exact q5
      -- all is well: on
      have good : ∀ (V2 : pvM) (h2 : Nat → Int), fr mch V0 V2 → f13 V0 V2 → (∀ j, j ≠ f → V2 55 j = V 55 j) → agn n (V2 53) h2 → agn n (V2 54) (wtI h2 g') → V2 45 13 = -1 → V2 55 f = imax hi x → stp (cW V0 f) (cA V0 f) (cQ V0 f) (cP V0 f) n h k = some h2 → wz (q_X11_walk_b280 N (q_X11_walk_b63 N fu) f n V2) (fun _ V' => fr mch V0 V' ∧ f13 V0 V' ∧ (∀ j, j ≠ f → V' 55 j = V 55 j) ∧ V' 45 13 = (wk (cW V0 f) (cA V0 f) (cQ V0 f) (cP V0 f) n (m' + 1) h g hi).1 ∧ (V' 45 13 = -1 → agn n (V' 53) (wk (cW V0 f) (cA V0 f) (cQ V0 f) (cP V0 f) n (m' + 1) h g hi).2.1 ∧ V' 55 f = (wk (cW V0 f) (cA V0 f) (cQ V0 f) (cP V0 f) n (m' + 1) h g hi).2.2)) := by
        intro V2 h2 q1 q2 q3 q4 q5 q6 q7 q8
        unfold q_X11_walk_b280
        refine wp_cL (s_mleast hN hn q5) (fun r V3 hV3 => ?_)
        obtain ⟨rfl, hr⟩ := hV3
        rw [hr]
        have hpn : ∀ j, 0 ≤ cP V0 f j := fun j => pu_nn _
        obtain ⟨s1, s2, s3, s4⟩ := stp_ok hpn (by omega) q8
        have k9 := ih m' V3 h2 g' (imax hi x) hgc (by omega) q1 q2 q4 q5 q6 q7 (fun j hj => by
          rcases s3 j with h9 | h9
          · rw [h9]; exact hb12 j hj
          · rw [h9]; omega) (fun j hj => by
          rcases hm' j hj with h9 | h9
          · exact Or.inl (by rw [s2 j h9]; exact h9)
          · exact Or.inr h9)
        refine wp_mono k9 (fun t r V4 hV4 => ?_)
        obtain ⟨t4, p1, p2, p3, p4, p5⟩ := hV4
        have ew : wk (cW V0 f) (cA V0 f) (cQ V0 f) (cP V0 f) n (m' + 1) h g hi = wk (cW V0 f) (cA V0 f) (cQ V0 f) (cP V0 f) n m' h2 g' (imax hi x) := by
          simp only [wk]; rw [hl]; dsimp only; rw [q8, hg', hx]
        rw [ew]
        exact ⟨t4, p1, p2, fun j hj => (p3 j hj).trans (q3 j hj), p4, p5⟩
      -- b235: the far meet
      have k235 : ∀ (V2 : pvM) (h2 : Nat → Int), fr mch V0 V2 → f13 V0 V2 → (∀ j, j ≠ f → V2 55 j = V 55 j) → agn n (V2 53) h2 → agn n (V2 54) (wtI h2 g') → V2 55 f = imax hi x → (∀ j, j < n → -1 ≤ h2 j) → (∀ j, j < n → h2 j ≠ -1 ∨ g' j = 0) → ((V2 45 13 = k ∧ stp (cW V0 f) (cA V0 f) (cQ V0 f) (cP V0 f) n h k = none) ∨ (V2 45 13 = -1 ∧ 0 ≤ x ∧ x ≠ -1 ∧ ((cW V0 f k = 8 ∨ cW V0 f k = 9) → stp (cW V0 f) (cA V0 f) (cQ V0 f) (cP V0 f) n h k = me h2 (cA V0 f k).toNat x) ∧ (¬ (cW V0 f k = 8 ∨ cW V0 f k = 9) → stp (cW V0 f) (cA V0 f) (cQ V0 f) (cP V0 f) n h k = some h2))) → wz (q_X11_walk_b235 N (q_X11_walk_b63 N fu) f n k (40 * (f : Int) + k) x V2) (fun _ V' => fr mch V0 V' ∧ f13 V0 V' ∧ (∀ j, j ≠ f → V' 55 j = V 55 j) ∧ V' 45 13 = (wk (cW V0 f) (cA V0 f) (cQ V0 f) (cP V0 f) n (m' + 1) h g hi).1 ∧ (V' 45 13 = -1 → agn n (V' 53) (wk (cW V0 f) (cA V0 f) (cQ V0 f) (cP V0 f) n (m' + 1) h g hi).2.1 ∧ V' 55 f = (wk (cW V0 f) (cA V0 f) (cQ V0 f) (cP V0 f) n (m' + 1) h g hi).2.2)) := by
        intro V2 h2 q1 q2 q3 q4 q5 q6 q7 q8 q9
        unfold q_X11_walk_b235
        refine wp_gR ?_
        rcases q9 with ⟨c1, c2⟩ | ⟨c1, c2, c3, c4, c5⟩
        · rw [if_pos (by omega)]
          exact bad V2 h2 q1 q2 q3 q5 c1 c2
        · rw [if_neg (by omega)]
          have hwd := hword V2 q1
          have k266 : (cW V0 f k = 8 ∨ cW V0 f k = 9) → wz (q_X11_walk_b266 N (q_X11_walk_b63 N fu) f n k (40 * (f : Int) + k) x V2) (fun _ V' => fr mch V0 V' ∧ f13 V0 V' ∧ (∀ j, j ≠ f → V' 55 j = V 55 j) ∧ V' 45 13 = (wk (cW V0 f) (cA V0 f) (cQ V0 f) (cP V0 f) n (m' + 1) h g hi).1 ∧ (V' 45 13 = -1 → agn n (V' 53) (wk (cW V0 f) (cA V0 f) (cQ V0 f) (cP V0 f) n (m' + 1) h g hi).2.1 ∧ V' 55 f = (wk (cW V0 f) (cA V0 f) (cQ V0 f) (cP V0 f) n (m' + 1) h g hi).2.2)) := by
            intro h89
            have hba := (hb k hkn).2.1 h89
            rw [hlen] at hba
            unfold q_X11_walk_b266
            refine wp_aR (by omega) ?_
            rw [hwd.2]
            have hs := s_mmeet (N := N) (fm := (k : Int)) hn (t := (cA V0 f k).toNat) (by omega) c3 q4 q5 q7 (q8 _ (by omega)) c1
            rw [show (((cA V0 f k).toNat : Nat) : Int) = cA V0 f k by omega] at hs
            refine wp_cL hs (fun r V3 hV3 => ?_)
            obtain ⟨p1, p2, p3, p4, p5⟩ := hV3
            have p1' : fr mch V0 V3 := q1.trans (p1.mono (fun c hc => by simp [mch] at hc ⊢; omega))
            have p55 : V3 55 = V2 55 := p1 55 (by decide)
            have e4 := c4 h89
            unfold me at e4
            by_cases hmt : mt h2 (cA V0 f k).toNat x (cA V0 f k).toNat = x
            · rw [if_pos hmt] at p5 e4
              exact good V3 _ p1' (q2.trans p2) (fun j hj => by rw [p55]; exact q3 j hj) p3 p4 p5 (by rw [p55]; exact q6) e4
            · rw [if_neg hmt] at p5 e4
              exact bad V3 _ p1' (q2.trans p2) (fun j hj => by rw [p55]; exact q3 j hj) p4 p5 e4
          refine wp_aR (by omega) (wp_lI ?_)
          rw [hwd.1]
          refine wp_if (fun h8 => k266 (Or.inl h8)) (fun h8 => ?_)
          refine wp_aR (by omega) (wp_lI ?_)
          rw [hwd.1]
          refine wp_if (fun h9 => ?_) (fun h9 => k266 (Or.inr (Decidable.not_not.mp h9)))
          exact good V2 h2 q1 q2 q3 q4 q5 c1 q6 (c5 (by omega))
      -- behind the height test
      have k136 : ∀ s0 : Int, ((s0 = k ∧ stp (cW V0 f) (cA V0 f) (cQ V0 f) (cP V0 f) n h k = none) ∨ (s0 = -1 ∧ 0 ≤ h k - cQ V0 f k ∧ x ≤ 12)) → wz (q_X11_walk_b136 N (q_X11_walk_b63 N fu) f n k (40 * (f : Int) + k) x s0 (pz_u V 54 k 0)) (fun _ V' => fr mch V0 V' ∧ f13 V0 V' ∧ (∀ j, j ≠ f → V' 55 j = V 55 j) ∧ V' 45 13 = (wk (cW V0 f) (cA V0 f) (cQ V0 f) (cP V0 f) n (m' + 1) h g hi).1 ∧ (V' 45 13 = -1 → agn n (V' 53) (wk (cW V0 f) (cA V0 f) (cQ V0 f) (cP V0 f) n (m' + 1) h g hi).2.1 ∧ V' 55 f = (wk (cW V0 f) (cA V0 f) (cQ V0 f) (cP V0 f) n (m' + 1) h g hi).2.2)) := by
        intro s0 hs0
        have k166 : ∀ y : Int, y = imax hi x → wz (q_X11_walk_b166 N (q_X11_walk_b63 N fu) f n k (40 * (f : Int) + k) x y f (pz_u (pz_u V 54 k 0) 45 13 s0)) (fun _ V' => fr mch V0 V' ∧ f13 V0 V' ∧ (∀ j, j ≠ f → V' 55 j = V 55 j) ∧ V' 45 13 = (wk (cW V0 f) (cA V0 f) (cQ V0 f) (cP V0 f) n (m' + 1) h g hi).1 ∧ (V' 45 13 = -1 → agn n (V' 53) (wk (cW V0 f) (cA V0 f) (cQ V0 f) (cP V0 f) n (m' + 1) h g hi).2.1 ∧ V' 55 f = (wk (cW V0 f) (cA V0 f) (cQ V0 f) (cP V0 f) n (m' + 1) h g hi).2.2)) := by
          intro y hy
          unfold q_X11_walk_b166
          refine wp_aW (by omega) ?_
          rw [ef]
          obtain ⟨V2, hV2⟩ : ∃ V2, V2 = pz_u (pz_u (pz_u V 54 k 0) 45 13 s0) 55 f y := ⟨_, rfl⟩
          rw [← hV2]
          have q1 : fr mch V0 V2 := by rw [hV2]; exact hfr1.trans ((fr_u (by decide)).trans (fr_u (by decide)))
          have q2 : f13 V0 V2 := by rw [hV2]; exact h131.trans (f13_u.trans (f13_o (by decide)))
          have q3 : ∀ j, j ≠ f → V2 55 j = V 55 j := by
            intro j hj
            rw [hV2, pu_row, up_app, if_neg hj, pu_off (by decide), pu_off (by decide)]
          have q4 : agn n (V2 53) h := by rw [hV2, pu_off (by decide), pu_off (by decide), pu_off (by decide)]; exact h53
          have q5 : agn n (V2 54) (wtI h g') := by rw [hV2, pu_off (by decide), pu_off (by decide)]; exact h54'
          have q6 : V2 55 f = imax hi x := by rw [hV2, pz_u_eq]; exact hy
          have q7 : V2 45 13 = s0 := by rw [hV2, pu_off (by decide), pz_u_eq]
          have hwd := hword V2 q1
          have hbl : ∀ j, j < n → -1 ≤ h j := fun j hj => (hb12 j hj).1
          have k196 : ∀ s : Int, ((s = 1 ∧ (cW V0 f k = 8 ∨ cW V0 f k = 11)) ∨ (s = 0 ∧ cW V0 f k ≠ 8 ∧ cW V0 f k ≠ 11)) → wz (q_X11_walk_b196 N (q_X11_walk_b63 N fu) f n k (40 * (f : Int) + k) x s V2) (fun _ V' => fr mch V0 V' ∧ f13 V0 V' ∧ (∀ j, j ≠ f → V' 55 j = V 55 j) ∧ V' 45 13 = (wk (cW V0 f) (cA V0 f) (cQ V0 f) (cP V0 f) n (m' + 1) h g hi).1 ∧ (V' 45 13 = -1 → agn n (V' 53) (wk (cW V0 f) (cA V0 f) (cQ V0 f) (cP V0 f) n (m' + 1) h g hi).2.1 ∧ V' 55 f = (wk (cW V0 f) (cA V0 f) (cQ V0 f) (cP V0 f) n (m' + 1) h g hi).2.2)) := by
            intro s hs
            unfold q_X11_walk_b196
            refine wp_gR ?_
            rw [q7]
            rcases hs0 with ⟨c1, c2⟩ | ⟨c1, c2, c3⟩
            · rw [if_pos (by omega)]
              exact k235 V2 h q1 q2 q3 q4 q5 q6 hbl hm' (Or.inl ⟨by omega, c2⟩)
            · rw [if_neg (by omega)]
              have hst : stp (cW V0 f) (cA V0 f) (cQ V0 f) (cP V0 f) n h k = (if cW V0 f k = 11 then some h else if cW V0 f k = 8 then me h (cA V0 f k).toNat x else if cW V0 f k = 9 then (me h (cA V0 f k).toNat x).bind (fun h1 => men n h1 (k + 1) x) else men n h (k + 1) x) := by
                unfold stp
                rw [← hx, if_neg (by omega)]
              have hx1 : x ≠ -1 := by omega
              rcases hs with ⟨rfl, hs⟩ | ⟨rfl, hs1, hs2⟩
              · rw [if_pos (by decide)]
                refine k235 V2 h q1 q2 q3 q4 q5 q6 hbl hm' (Or.inr ⟨by omega, by omega, hx1, fun h9 => ?_, fun h9 => ?_⟩)
                · rw [hst, if_neg (by omega), if_pos (by omega)]
                · rw [hst, if_pos (by omega)]
              · rw [if_neg (by decide)]
                refine wp_lI (wp_lw (by omega) ?_)
                have nm : ∀ h2, men n h (k + 1) x = some h2 → ((cW V0 f k = 8 ∨ cW V0 f k = 9) → stp (cW V0 f) (cA V0 f) (cQ V0 f) (cP V0 f) n h k = me h2 (cA V0 f k).toNat x) ∧ (¬ (cW V0 f k = 8 ∨ cW V0 f k = 9) → stp (cW V0 f) (cA V0 f) (cQ V0 f) (cP V0 f) n h k = some h2) := by
                  intro h2 he
                  refine ⟨fun h9 => ?_, fun h9 => ?_⟩
                  · rw [hst, if_neg hs2, if_neg hs1, if_pos (by omega), ← me_comm hx1, he]; rfl
                  · rw [hst, if_neg hs2, if_neg hs1, if_neg (by omega), he]
                have nn : men n h (k + 1) x = none → stp (cW V0 f) (cA V0 f) (cQ V0 f) (cP V0 f) n h k = none := by
                  intro he
                  rw [hst, if_neg hs2, if_neg hs1]
                  by_cases h9 : cW V0 f k = 9
                  · rw [if_pos h9, ← me_comm hx1, he]; rfl
                  · rw [if_neg h9, he]
                refine wp_if (fun hne => ?_) (fun hne => ?_)
                · refine wp_lI (wp_lw (by omega) ?_)
                  rw [show (k : Int) + 1 = ((k + 1 : Nat) : Int) by omega]
                  have htn : k + 1 < n := by omega
                  have hs := s_mmeet (N := N) (fm := (k : Int)) hn htn hx1 q4 q5 hbl (hm' _ htn) (by omega)
                  refine wp_cL hs (fun r V3 hV3 => ?_)
                  obtain ⟨p1, p2, p3, p4, p5⟩ := hV3
                  have p1' : fr mch V0 V3 := q1.trans (p1.mono (fun c hc => by simp [mch] at hc ⊢; omega))
                  have p55 : V3 55 = V2 55 := p1 55 (by decide)
                  have emn : men n h (k + 1) x = (if mt h (k + 1) x (k + 1) = x then some (mt h (k + 1) x) else none) := by unfold men me; rw [if_pos htn]
                  have bl2 : ∀ j, j < n → -1 ≤ mt h (k + 1) x j := by
                    intro j hj
                    by_cases hjk : j = k + 1
                    · subst hjk; rw [mt_at]; split
                      · omega
                      · exact hbl _ hj
                    · rw [mt_ne hjk]; exact hbl j hj
                  have hm2 : ∀ j, j < n → mt h (k + 1) x j ≠ -1 ∨ g' j = 0 := by
                    intro j hj
                    rcases hm' j hj with h9 | h9
                    · exact Or.inl (by rw [mt_met h9]; exact h9)
                    · exact Or.inr h9
                  by_cases hmt : mt h (k + 1) x (k + 1) = x
                  · rw [if_pos hmt] at p5 emn
                    have h9 := nm _ emn
                    exact k235 V3 _ p1' (q2.trans p2) (fun j hj => by rw [p55]; exact q3 j hj) p3 p4 (by rw [p55]; exact q6) bl2 hm2 (Or.inr ⟨p5, by omega, hx1, h9.1, h9.2⟩)
                  · rw [if_neg hmt] at p5 emn
                    exact k235 V3 _ p1' (q2.trans p2) (fun j hj => by rw [p55]; exact q3 j hj) p3 p4 (by rw [p55]; exact q6) bl2 hm2 (Or.inl ⟨p5, nn emn⟩)
                · have hkn1 : ¬ k + 1 < n := by omega
                  refine wp_gW ?_
                  have h9 := nn (by unfold men; rw [if_neg hkn1])
                  refine k235 _ h (q1.trans (fr_u (by decide))) (q2.trans f13_u) (fun j hj => by rw [pu_off (by decide)]; exact q3 j hj) (by rw [pu_off (by decide)]; exact q4) (by rw [pu_off (by decide)]; exact q5) (by rw [pu_off (by decide)]; exact q6) hbl hm' (Or.inl ⟨by rw [pz_u_eq], h9⟩)
          refine wp_aR (by omega) (wp_lI ?_)
          rw [hwd.1]
          refine wp_if (fun h8 => wp_lI (k196 1 (Or.inl ⟨rfl, Or.inl h8⟩))) (fun h8 => ?_)
          refine wp_aR (by omega) (wp_lI ?_)
          rw [hwd.1]
          refine wp_if (fun h11 => wp_lI (k196 0 (Or.inr ⟨rfl, h8, h11⟩))) (fun h11 => wp_lI (k196 1 (Or.inl ⟨rfl, Or.inr (Decidable.not_not.mp h11)⟩)))
        unfold q_X11_walk_b136
        refine wp_gW (wp_aR (by omega) ?_)
        have e55 : pz_u (pz_u V 54 k 0) 45 13 s0 55 f = hi := by rw [pu_off (by decide), pu_off (by decide)]; exact h55
        rw [ef, e55]
        refine wp_if (fun hle => ?_) (fun hle => ?_)
        · refine wp_aR (by omega) ?_
          rw [ef, e55]
          exact k166 hi (by unfold imax; rw [if_neg (by omega)])
        · exact k166 x (by unfold imax; rw [if_pos (by omega)])
      have hwr : h k - cQ V0 f k < 0 ∨ 12 < x → stp (cW V0 f) (cA V0 f) (cQ V0 f) (cP V0 f) n h k = none := by
        intro h9
        unfold stp
        rw [← hx, if_pos h9]
      refine wp_if (fun hlo => k136 k (Or.inl ⟨rfl, hwr (Or.inl hlo)⟩)) (fun hlo => ?_)
      refine wp_lI ?_
      refine wp_if (fun h12 => ?_) (fun h12 => k136 k (Or.inl ⟨rfl, hwr (Or.inr (by omega))⟩))
      refine wp_gR ?_
      rw [pu_off (show (45 : Nat) ≠ 54 by decide), hw]
      exact k136 (-1) (Or.inr ⟨rfl, by omega, h12⟩)
