/-! RECIPES -/
/-- how many of n digits from b on are holes -/
def c27 (d : Nat → Int) (b : Nat) : Nat → Int
  | 0 => 0
  | n + 1 => c27 d b n + (if d (b + n) = 27 then 1 else 0)
/-- letters of the first n recipes -/
def ls (L H : Nat → Int) : Nat → Int
  | 0 => 0
  | n + 1 => ls L H n + (L n - H n)
theorem c27_bd (d : Nat → Int) (b : Nat) : ∀ n : Nat, 0 ≤ c27 d b n ∧ c27 d b n ≤ n
  | 0 => by simp [c27]
  | n + 1 => by
    have := c27_bd d b n
    simp only [c27]
    split <;> omega
theorem c27_congr {d d' : Nat → Int} {b : Nat} : ∀ n : Nat, (∀ j, j < n → d (b + j) = d' (b + j)) → c27 d b n = c27 d' b n
  | 0, _ => rfl
  | n + 1, h => by
    simp only [c27]
    rw [c27_congr n (fun j hj => h j (by omega)), h n (by omega)]
/-- letters only grow -/
theorem c27_mono (d : Nat → Int) (b : Nat) {k n : Nat} (h : k ≤ n) : c27 d b k ≤ c27 d b n ∧ (k : Int) - c27 d b k ≤ (n : Int) - c27 d b n := by
  induction h with
  | refl => omega
  | step _ ih =>
    rename_i m
    simp only [c27]
    split <;> omega
theorem ls_congr {L H L' H' : Nat → Int} : ∀ n : Nat, (∀ r, r < n → L r = L' r ∧ H r = H' r) → ls L H n = ls L' H' n
  | 0, _ => rfl
  | n + 1, h => by
    simp only [ls]
    rw [ls_congr n (fun r hr => h r (by omega)), (h n (by omega)).1, (h n (by omega)).2]
theorem ls_mono {L H : Nat → Int} {k n : Nat} (h : k ≤ n) (hp : ∀ r, r < n → H r ≤ L r) : ls L H k ≤ ls L H n := by
  induction h with
  | refl => omega
  | step hm ih =>
    rename_i m
    have := ih (fun r hr => hp r (by omega))
    have := hp m (by omega)
    simp only [ls]
    omega
theorem ls_bd {L H : Nat → Int} : ∀ n : Nat, (∀ r, r < n → 0 ≤ H r ∧ H r ≤ L r ∧ L r ≤ 12) → 0 ≤ ls L H n ∧ ls L H n ≤ 12 * n
  | 0, _ => by simp [ls]
  | n + 1, h => by
    have h1 := ls_bd n (fun r hr => h r (by omega))
    have h2 := h n (by omega)
    simp only [ls]
    omega
/-- the recipes of the class, m of them (the last may be under way) -/
def RC1 (V : pvM) (m : Nat) : Prop := m ≤ 8 ∧ V 2 6 = ls (V 3) (V 4) m ∧ (∀ r, r < 8 → m ≤ r → V 3 r = 0 ∧ V 4 r = 0) ∧
  ∀ r, r < m → (0 ≤ V 3 r ∧ V 3 r ≤ 12) ∧ V 4 r = c27 (V 6) (12 * r) (V 3 r).toNat ∧ V 5 r = ls (V 3) (V 4) r ∧
    ∀ k : Nat, (k : Int) < V 3 r → (1 ≤ V 6 (12 * r + k) ∧ V 6 (12 * r + k) ≤ 27) ∧ (V 6 (12 * r + k) ≠ 27 → V 7 (V 5 r + k - c27 (V 6) (12 * r) k).toNat = V 6 (12 * r + k) - 1)
theorem RC1.hb {V : pvM} {m : Nat} (h : RC1 V m) : ∀ r, r < m → 0 ≤ V 4 r ∧ V 4 r ≤ V 3 r ∧ V 3 r ≤ 12 := by
  intro r hr
  have h1 := h.2.2.2 r hr
  have h2 := c27_bd (V 6) (12 * r) (V 3 r).toNat
  rw [h1.2.1]
  omega
theorem RC1.congr {V V' : pvM} {m : Nat} (h : RC1 V m) (e2 : V' 2 6 = V 2 6) (e3 : V' 3 = V 3) (e4 : V' 4 = V 4) (e5 : V' 5 = V 5) (e6 : V' 6 = V 6) (e7 : V' 7 = V 7) : RC1 V' m := by
  unfold RC1 at h ⊢
  rw [e2, e3, e4, e5, e6, e7]
  exact h
/-- rows that stay -/
def fr (cs : List Nat) (V V' : pvM) : Prop := ∀ c, c ∉ cs → V' c = V c
theorem fr.trans {cs : List Nat} {V V' V'' : pvM} (h1 : fr cs V V') (h2 : fr cs V' V'') : fr cs V V'' := fun c hc => (h2 c hc).trans (h1 c hc)
theorem fr.mono {cs ds : List Nat} {V V' : pvM} (h : fr cs V V') (hs : ∀ c, c ∈ cs → c ∈ ds) : fr ds V V' := fun c hc => h c (fun h9 => hc (hs c h9))
theorem fr.refl (cs : List Nat) (V : pvM) : fr cs V V := fun _ _ => rfl
theorem fr_u {cs : List Nat} {V : pvM} {c k : Nat} {x : Int} (h : c ∈ cs) : fr cs V (pz_u V c k x) := fun a ha => pu_off (fun e => ha (e ▸ h))
set_option maxHeartbeats 4000000 in
set_option maxRecDepth 100000 in
theorem s_addDigit {N nr k : Nat} {d : Int} {V : pvM} (h : RC1 V (nr + 1)) (hk : V 3 nr = k) (hk12 : k < 12) (hd : 1 ≤ d ∧ d ≤ 27) :
    wz (q_X7_addDigit N nr d V) (fun r V' => RC1 V' (nr + 1) ∧ V' 3 = va_up (V 3) nr (k + 1) ∧ V' 6 = va_up (V 6) (12 * nr + k) d ∧ V' 5 = V 5 ∧ V' 2 5 = V 2 5 ∧ fr [2, 3, 4, 6, 7] V V') := by
  obtain ⟨h8, hl, hz, hr⟩ := id h
  have hnr := hr nr (by omega)
  have hbd := ls_bd (nr + 1) (fun r hr9 => h.hb r hr9)
  have hb0 := h.hb nr (by omega)
  have hlt : ls (V 3) (V 4) (nr + 1) < 96 := by
    have h9 := ls_bd nr (fun r hr9 => h.hb r (by omega))
    simp only [ls]
    omega
  have hidx : ∀ r k' : Nat, r < nr + 1 → (k' : Int) < V 3 r → V 6 (12 * r + k') ≠ 27 → 0 ≤ V 5 r + k' - c27 (V 6) (12 * r) k' ∧ V 5 r + k' - c27 (V 6) (12 * r) k' < ls (V 3) (V 4) (nr + 1) := by
    intro r k' hr9 hk9 hne
    have g := hr r hr9
    have c1 := c27_bd (V 6) (12 * r) k'
    have c2 := c27_mono (V 6) (12 * r) (k := k' + 1) (n := (V 3 r).toNat) (by omega)
    have c3 : c27 (V 6) (12 * r) (k' + 1) = c27 (V 6) (12 * r) k' := by simp only [c27]; rw [if_neg hne]; omega
    have l1 := ls_bd r (fun r9 hr99 => h.hb r9 (by omega))
    have l2 := ls_mono (L := V 3) (H := V 4) (k := r + 1) (n := nr + 1) (by omega) (fun r9 hr99 => (h.hb r9 hr99).2.1)
    simp only [ls] at l2
    have g2 := g.2.1
    have g3 := g.2.2.1
    simp only [ls]
    omega
  unfold q_X7_addDigit
  refine wp_lI ?_
  refine wp_lw (by omega) ?_
  refine wp_aR (by omega) ?_
  rw [show ((nr : Int)).toNat = nr by omega, hk]
  refine wp_lw (by omega) ?_
  refine wp_aW (by omega) ?_
  rw [show ((nr : Int) * 12 + (k : Int)).toNat = 12 * nr + k by omega]
  refine wp_aR (by omega) ?_
  rw [show ((nr : Int)).toNat = nr by omega, pu_off (show (3 : Nat) ≠ 6 by decide), hk]
  refine wp_lI ?_
  refine wp_lw (by omega) ?_
  refine wp_aW (by omega) ?_
  rw [show ((nr : Int)).toNat = nr by omega]
  have hrows : ∀ V2 : pvM, V2 3 = va_up (V 3) nr (k + 1) → V2 6 = va_up (V 6) (12 * nr + k) d → V2 5 = V 5 → V2 4 = va_up (V 4) nr (V 4 nr + (if d = 27 then 1 else 0)) → V2 2 6 = V 2 6 + (if d = 27 then 0 else 1) → (d ≠ 27 → V2 7 = va_up (V 7) (V 2 6).toNat (d - 1)) → (d = 27 → V2 7 = V 7) → RC1 V2 (nr + 1) := by
    intro V2 e3 e6 e5 e4 e2 e7 e7'
    have L3 : ∀ r, r < nr → V2 3 r = V 3 r := fun r hr9 => by rw [e3, up_app, if_neg (by omega)]
    have L4 : ∀ r, r < nr → V2 4 r = V 4 r := fun r hr9 => by rw [e4, up_app, if_neg (by omega)]
    have L3n : V2 3 nr = k + 1 := by rw [e3, up_app, if_pos rfl]
    have L4n : V2 4 nr = V 4 nr + (if d = 27 then 1 else 0) := by rw [e4, up_app, if_pos rfl]
    have ls0 : ∀ n, n ≤ nr → ls (V2 3) (V2 4) n = ls (V 3) (V 4) n := fun n hn => ls_congr n (fun r hr9 => ⟨L3 r (by omega), L4 r (by omega)⟩)
    have D6 : ∀ j, j ≠ 12 * nr + k → V2 6 j = V 6 j := fun j hj => by rw [e6, up_app, if_neg hj]
    have D6n : V2 6 (12 * nr + k) = d := by rw [e6, up_app, if_pos rfl]
    have cc : ∀ r n : Nat, 12 * r + n ≤ 12 * nr + k → c27 (V2 6) (12 * r) n = c27 (V 6) (12 * r) n := fun r n hn => c27_congr n (fun j hj => D6 _ (by omega))
    have ccn : c27 (V2 6) (12 * nr) (k + 1) = c27 (V 6) (12 * nr) k + (if d = 27 then 1 else 0) := by
      simp only [c27]; rw [cc nr k (by omega), D6n]
    have hkk : (V 3 nr).toNat = k := by omega
    have t7 : ∀ j : Int, 0 ≤ j → j < ls (V 3) (V 4) (nr + 1) → V2 7 j.toNat = V 7 j.toNat := by
      intro j h0 h1
      by_cases hd27 : d = 27
      · rw [e7' hd27]
      · rw [e7 hd27, up_app, if_neg (by omega)]
    refine ⟨h8, ?_, fun r hr8 hmr => ?_, fun r hr9 => ?_⟩
    · rw [e2, hl]
      simp only [ls]
      rw [ls0 nr (by omega), L3n, L4n, hk]
      split <;> omega
    · rw [e3, e4, up_app, up_app, if_neg (by omega), if_neg (by omega)]
      exact hz r hr8 hmr
    · rw [ls0 r (by omega), e5]
      by_cases hrn : r = nr
      · subst hrn
        rw [L3n, L4n, show ((k : Int) + 1).toNat = k + 1 by omega, ccn]
        refine ⟨by omega, ?_, hnr.2.2.1, fun k' hk' => ?_⟩
        · rw [hnr.2.1, hkk]
        · by_cases hkk' : k' = k
          · subst hkk'
            rw [D6n, cc r k' (by omega)]
            refine ⟨hd, fun hne => ?_⟩
            rw [e7 hne, up_app, if_pos ?_]
            rw [hl]
            simp only [ls]
            rw [hnr.2.2.1, hk, hnr.2.1, hkk]
            have c1 := c27_bd (V 6) (12 * r) k'
            omega
          · have hk9 : (k' : Int) < V 3 r := by omega
            rw [D6 _ (by omega), cc r k' (by omega)]
            refine ⟨(hnr.2.2.2 k' hk9).1, fun hne => ?_⟩
            have hi := hidx r k' hr9 hk9 hne
            rw [t7 _ hi.1 hi.2]
            exact (hnr.2.2.2 k' hk9).2 hne
      · have hrl : r < nr := by omega
        have g := hr r hr9
        rw [L3 r hrl, L4 r hrl, cc r _ (by omega)]
        refine ⟨g.1, g.2.1, g.2.2.1, fun k' hk' => ?_⟩
        rw [D6 _ (by omega), cc r k' (by omega)]
        refine ⟨(g.2.2.2 k' hk').1, fun hne => ?_⟩
        have hi := hidx r k' hr9 hk' hne
        rw [t7 _ hi.1 hi.2]
        exact (g.2.2.2 k' hk').2 hne
  refine wp_lI ?_
  refine wp_if (fun h27 => ?_) (fun h27 => ?_)
  · refine wp_gR ?_
    refine wp_lI ?_
    refine wp_lw (by omega) ?_
    rw [pu_off (show (2 : Nat) ≠ 3 by decide), pu_off (show (2 : Nat) ≠ 6 by decide)]
    refine wp_aW (by omega) ?_
    refine wp_gR ?_
    refine wp_lI ?_
    rw [pu_off (show (2 : Nat) ≠ 7 by decide), pu_off (show (2 : Nat) ≠ 3 by decide), pu_off (show (2 : Nat) ≠ 6 by decide)]
    refine wp_lw (by omega) ?_
    refine wp_gW ?_
    refine wp_rT ⟨rfl, hrows _ ?_ ?_ ?_ ?_ ?_ (fun _ => ?_) (fun h9 => absurd h9 h27), ?_, ?_, ?_, ?_, ?_⟩
    · simp [pu_off, pu_row]
    · simp [pu_off, pu_row]
    · simp [pu_off, pu_row]
    · rw [if_neg h27]
      funext j
      simp [pu_off, up_app]
      intro hj; rw [hj]
    · rw [if_neg h27, pu_row, up_app, if_pos rfl]
    · simp [pu_off, pu_row]
    · simp [pu_off, pu_row]
    · simp [pu_off, pu_row]
    · simp [pu_off, pu_row]
    · rw [pu_row, up_app, if_neg (by decide)]
      simp [pu_off]
    · exact (((fr_u (by simp)).trans (fr_u (by simp))).trans (fr_u (by simp))).trans (fr_u (by simp))
  · have hd27 : d = 27 := by omega
    refine wp_aR (by omega) ?_
    rw [show ((nr : Int)).toNat = nr by omega, pu_off (show (4 : Nat) ≠ 3 by decide), pu_off (show (4 : Nat) ≠ 6 by decide)]
    refine wp_lI ?_
    refine wp_lw (by omega) ?_
    refine wp_aW (by omega) ?_
    refine wp_rT ⟨rfl, hrows _ ?_ ?_ ?_ ?_ ?_ (fun h9 => absurd hd27 h9) (fun _ => ?_), ?_, ?_, ?_, ?_, ?_⟩
    · simp [pu_off, pu_row]
    · simp [pu_off, pu_row]
    · simp [pu_off, pu_row]
    · rw [if_pos hd27]
      simp [pu_off, pu_row]
    · rw [if_pos hd27]
      simp [pu_off]
    · simp [pu_off, pu_row]
    · simp [pu_off, pu_row]
    · simp [pu_off, pu_row]
    · simp [pu_off, pu_row]
    · simp [pu_off]
    · exact ((fr_u (by simp)).trans (fr_u (by simp))).trans (fr_u (by simp))
