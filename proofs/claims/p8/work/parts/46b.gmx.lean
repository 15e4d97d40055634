/-! HEIGHTS INSIDE A GROUP -/
def ris (V : pvM) (x : Ins) : Int := pu x.1 - po V x.1 x.2.1 x.2.2
def gmx (V : pvM) : List Ins → Int → Int → Int
  | [], _, m => m
  | x :: g, h, m => gmx V g (h + ris V x) (imax m (h + ris V x))
theorem ris_2 (V : pvM) (a b : Int) : ris V (2, a, b) = -1 := by unfold ris pu po; simp
theorem ris_1 (V : pvM) (a b : Int) : ris V (1, a, b) = 1 := by unfold ris pu po; simp
theorem ris_20 (V : pvM) (a b : Int) : ris V (20, a, b) = 1 := by unfold ris pu po; simp
theorem ris_21 (V : pvM) (a b : Int) : ris V (21, a, b) = -1 := by unfold ris pu po; simp
theorem ris_22 (V : pvM) (a b : Int) : ris V (22, a, b) = -a := by unfold ris pu po; simp; omega
theorem ris_24 (V : pvM) (a b : Int) : ris V (24, a, b) = 1 := by unfold ris pu po; simp
theorem ris_25 (V : pvM) (a b : Int) : ris V (25, a, b) = 0 := by unfold ris pu po; simp
theorem ris_26 (V : pvM) (a b : Int) : ris V (26, a, b) = -1 := by unfold ris pu po; simp
theorem gmx_sD (V : pvM) (g : List Ins) : ∀ (k : Nat) (h M : Int), h - 1 ≤ M → gmx V (sD k ++ g) h M = gmx V g (h - k) M
  | 0, h, M, _ => by simp [sD]
  | k + 1, h, M, hM => by
    simp only [sD, List.cons_append, gmx, ris_2]
    rw [im_id (by omega), gmx_sD V g k (h + -1) M (by omega)]
    congr 1; omega
theorem gmx_sJ (V : pvM) (g : List Ins) : ∀ (k : Nat) (h M : Int), h - 1 ≤ M → gmx V (sJ k ++ g) h M = gmx V g (h - k) M
  | 0, h, M, _ => by simp [sJ]
  | k + 1, h, M, hM => by
    simp only [sJ, List.cons_append, gmx, ris_2]
    rw [im_id (by omega), gmx_sJ V g k (h + -1) M (by omega)]
    congr 1; omega
theorem gmx_lP (V : pvM) : ∀ (m k : Nat) (h M : Int), h + 1 ≤ M → gmx V (lP m k) h M = M
  | 0, k, h, M, _ => by simp [lP, gmx]
  | m + 1, k, h, M, hM => by
    simp only [lP, gmx, ris_1, ris_21]
    rw [im_id (x := M) (by omega), im_id (by omega)]
    exact gmx_lP V m (k + 1) _ M (by omega)
theorem gmx_jC (V : pvM) (g : List Ins) (l w h M : Int) (hM : h ≤ M) : gmx V (jC l w ++ g) h M = gmx V g h M := by
  unfold jC
  split
  · rfl
  · simp only [List.cons_append, List.nil_append, gmx, ris_25, Int.add_zero]
    rw [im_id hM]
theorem gmx_jT (V : pvM) (D : Nat → Int) (b : Nat) : ∀ (m k : Nat) (hc l w h M : Int), h ≤ M → gmx V (jT (fun k => D (b + k)) m k hc l w) h M = if c27 D b k < c27 D b (k + m) then imax M (h + 1) else M
  | 0, k, hc, l, w, h, M, hM => by
    simp only [jT]
    have := gmx_jC V [] l w h M hM
    rw [List.append_nil] at this
    rw [this, Nat.add_zero, if_neg (by omega)]
    rfl
  | m + 1, k, hc, l, w, h, M, hM => by
    have hmo := c27_mono D b (k := k + 1) (n := k + (m + 1)) (by omega)
    have e1 : c27 D b (k + 1) = c27 D b k + (if D (b + k) = 27 then 1 else 0) := rfl
    simp only [jT]
    by_cases h27 : D (b + k) = 27
    · rw [if_pos h27] at e1
      rw [if_pos h27, gmx_jC V _ l w h M hM]
      simp only [gmx, ris_1, ris_26]
      rw [show h + 1 + -1 = h by omega, im_id (x := imax M (h + 1)) (by have := im_l M (h + 1); omega), gmx_jT V D b m (k + 1) _ _ _ h _ (by have := im_l M (h + 1); omega), show k + 1 + m = k + (m + 1) by omega, im_id (x := imax M (h + 1)) (im_r _ _), if_pos (show c27 D b k < c27 D b (k + (m + 1)) by omega)]
      split <;> rfl
    · rw [if_neg h27, Int.add_zero] at e1
      rw [if_neg h27, gmx_jT V D b m (k + 1) _ _ _ h M hM, e1, show k + 1 + m = k + (m + 1) by omega]
theorem gmx_grp {V : pvM} (hP : PI V) {f p : Nat} (hb : bd V f p) (c h m : Int) : gmx V (grp V c (cW V f p) (cA V f p) (cB V f p)) h m = imax m (wi V f p h) := by
  obtain ⟨b1, b2, b3, b4, b5, b6⟩ := hb
  unfold grp wi
  by_cases h13 : cW V f p = 13
  · rw [if_pos h13, if_pos h13]
    unfold newG
    simp only [gmx, ris_20]
    have hr := im_r m (h + 1)
    by_cases h0 : (cB V f p).toNat = 0
    · rw [if_pos h0]; rfl
    · rw [if_neg h0]
      simp only [gmx, ris_2]
      rw [im_id (x := imax m (h + 1)) (by omega), gmx_sD V _ _ _ _ (by omega)]
      simp only [gmx, ris_1]
      rw [im_id (x := imax m (h + 1)) (by omega)]
      exact gmx_lP V _ _ _ _ (by omega)
  · rw [if_neg h13, if_neg h13]
    by_cases h14 : cW V f p = 14
    · rw [if_pos h14, if_neg (by omega)]
      simp only [gmx, ris_22]
      have eq : cQ V f p = cA V f p + 1 := by unfold cQ; rw [h14]; simp [po]
      have ep : cP V f p = 1 := by unfold cP; rw [h14]; simp [pu]
      rw [eq, ep]
      congr 1; omega
    · rw [if_neg h14]
      by_cases h15 : cW V f p = 15
      · rw [if_pos h15, if_pos h15]
        have h6 := b6 h15
        obtain ⟨r, hr⟩ : ∃ r : Nat, cA V f p = r := ⟨(cA V f p).toNat, by omega⟩
        rw [hr, show ((r : Int)).toNat = r by omega]
        have h25 := hP.2.2.2.2.1
        have hhol := hP.hol (r := r) (by omega)
        have h4 := (hP.2.2.2.2.2.1.2.2.2 r (by omega)).2.1
        have hz : c27 (V 6) (12 * r) 0 = 0 := rfl
        obtain ⟨n, hn⟩ : ∃ n : Nat, V 4 r = n := ⟨(V 4 r).toNat, by omega⟩
        unfold joinG
        rw [hn, show ((n : Int)).toNat = n by omega]
        by_cases hn0 : n = 0
        · subst hn0
          simp only [sJ, List.nil_append, gmx, ris_24]
          rw [gmx_jT V (V 6) (12 * r) _ _ _ _ _ _ _ (im_r _ _), Nat.zero_add, if_neg (by omega), if_pos (show ((0 : Nat) : Int) = 0 from rfl)]
        · obtain ⟨k, rfl⟩ : ∃ k, n = k + 1 := ⟨n - 1, by omega⟩
          have e1 : sJ (k + 1) = (2, 8 + (k : Int), 0) :: sJ k := rfl
          rw [e1]
          simp only [List.cons_append, gmx, ris_2]
          have hm1 := im_r m (h + -1)
          rw [gmx_sJ V _ k _ _ (by omega)]
          simp only [gmx, ris_24]
          rw [gmx_jT V (V 6) (12 * r) _ _ _ _ _ _ _ (im_r _ _), Nat.zero_add, if_pos (by omega), if_neg (by omega)]
          unfold imax
          repeat' split
          all_goals omega
      · rw [if_neg h15, if_neg h15]
        simp only [gmx]
        have e9 : h + ris V (cW V f p, cA V f p, 0) = h - cQ V f p + cP V f p := by
          unfold ris cQ cP po
          dsimp only
          rw [if_neg h13, if_neg h13]
          omega
        rw [e9]
theorem sD_r (V : pvM) : ∀ k x, x ∈ sD k → ris V x = -1
  | 0, x, h => by simp [sD] at h
  | k + 1, x, h => by
    simp only [sD, List.mem_cons] at h
    rcases h with rfl | h
    · exact ris_2 _ _ _
    · exact sD_r V k x h
theorem sJ_r (V : pvM) : ∀ k x, x ∈ sJ k → ris V x = -1
  | 0, x, h => by simp [sJ] at h
  | k + 1, x, h => by
    simp only [sJ, List.mem_cons] at h
    rcases h with rfl | h
    · exact ris_2 _ _ _
    · exact sJ_r V k x h
theorem lP_r (V : pvM) : ∀ m k x, x ∈ lP m k → -1 ≤ ris V x ∧ ris V x ≤ 1
  | 0, k, x, h => by simp [lP] at h
  | m + 1, k, x, h => by
    simp only [lP, List.mem_cons] at h
    rcases h with rfl | rfl | h
    · rw [ris_1]; omega
    · rw [ris_21]; omega
    · exact lP_r V m (k + 1) x h
theorem jC_r (V : pvM) {l w : Int} {x : Ins} (h : x ∈ jC l w) : ris V x = 0 := by
  unfold jC at h
  split at h
  · simp at h
  · simp only [List.mem_singleton] at h
    subst h; exact ris_25 _ _ _
theorem jT_r (V : pvM) (d : Nat → Int) : ∀ (m k : Nat) (hc l w : Int) (x : Ins), x ∈ jT d m k hc l w → -1 ≤ ris V x ∧ ris V x ≤ 1
  | 0, k, hc, l, w, x, h => by rw [jC_r V (by simpa only [jT] using h)]; omega
  | m + 1, k, hc, l, w, x, h => by
    simp only [jT] at h
    split at h
    · simp only [List.mem_append, List.mem_cons] at h
      rcases h with h | rfl | rfl | h
      · rw [jC_r V h]; omega
      · rw [ris_1]; omega
      · rw [ris_26]; omega
      · exact jT_r V d m _ _ _ _ x h
    · exact jT_r V d m _ _ _ _ x h
theorem grp_ris {V : pvM} (hP : PI V) {f p : Nat} (hb : bd V f p) (c : Int) : ∀ x, x ∈ grp V c (cW V f p) (cA V f p) (cB V f p) → -1000 ≤ ris V x ∧ ris V x ≤ 2 := by
  have hqb := po_bd hP hb
  have hpb : 0 ≤ cP V f p ∧ cP V f p ≤ 2 := ⟨pu_nn _, pu_le _⟩
  obtain ⟨b1, b2, b3, b4, b5, b6⟩ := hb
  intro x hx
  unfold grp at hx
  split at hx
  · unfold newG at hx
    simp only [List.mem_cons] at hx
    rcases hx with rfl | hx
    · rw [ris_20]; omega
    · split at hx
      · simp at hx
      · simp only [List.mem_cons, List.mem_append] at hx
        rcases hx with rfl | hx | rfl | hx
        · rw [ris_2]; omega
        · rw [sD_r V _ _ hx]; omega
        · rw [ris_1]; omega
        · have := lP_r V _ _ _ hx; omega
  · rename_i h13
    split at hx
    · rename_i h14
      have := b5 h14
      simp only [List.mem_singleton] at hx
      subst hx
      rw [ris_22]; omega
    · split at hx
      · unfold joinG at hx
        simp only [List.mem_cons, List.mem_append] at hx
        rcases hx with hx | rfl | hx
        · rw [sJ_r V _ _ hx]; omega
        · rw [ris_24]; omega
        · have := jT_r V _ _ _ _ _ _ _ hx; omega
      · simp only [List.mem_singleton] at hx
        subst hx
        have e9 : ris V (cW V f p, cA V f p, 0) = cP V f p - cQ V f p := by
          unfold ris cQ cP po
          dsimp only
          rw [if_neg h13, if_neg h13]
        rw [e9]; omega
