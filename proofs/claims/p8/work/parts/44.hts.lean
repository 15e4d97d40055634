/-! HEIGHTS -/
theorem im_l (x y : Int) : x ≤ imax x y := by unfold imax; split <;> omega
theorem im_r (x y : Int) : y ≤ imax x y := by unfold imax; split <;> omega
theorem im_id {x y : Int} (h : y ≤ x) : imax x y = x := by unfold imax; rw [if_neg (by omega)]
theorem im_sw (x y z : Int) : imax (imax x y) z = imax (imax x z) y := by unfold imax; repeat' split <;> omega
/-- the greatest of v over the places that are met -/
def MXv (v h : Nat → Int) : Nat → Int
  | 0 => 0
  | k + 1 => if h k = -1 then MXv v h k else imax (MXv v h k) (v k)
theorem MXv_nn (v h : Nat → Int) : ∀ k, 0 ≤ MXv v h k
  | 0 => by simp [MXv]
  | k + 1 => by
    have := MXv_nn v h k
    simp only [MXv]
    split
    · exact this
    · have := im_l (MXv v h k) (v k); omega
theorem MXv_congr {v v' h h' : Nat → Int} : ∀ n : Nat, (∀ k, k < n → h' k = h k ∧ v' k = v k) → MXv v' h' n = MXv v h n
  | 0, _ => rfl
  | n + 1, he => by
    simp only [MXv]
    rw [MXv_congr n (fun k hk => he k (by omega)), (he n (by omega)).1, (he n (by omega)).2]
/-- .. over those that are gone through -/
def MXg (v g : Nat → Int) : Nat → Int
  | 0 => 0
  | k + 1 => if g k = 0 then MXg v g k else imax (MXg v g k) (v k)
theorem MXg_congr {v v' g g' : Nat → Int} : ∀ n : Nat, (∀ k, k < n → g' k = g k ∧ (g k ≠ 0 → v' k = v k)) → MXg v' g' n = MXg v g n
  | 0, _ => rfl
  | n + 1, he => by
    simp only [MXg]
    rw [MXg_congr n (fun k hk => he k (by omega)), (he n (by omega)).1]
    by_cases h0 : g n = 0
    · rw [if_pos h0, if_pos h0]
    · rw [if_neg h0, if_neg h0, (he n (by omega)).2 h0]
theorem MXg_up {v g : Nat → Int} {k : Nat} (hg : g k = 0) : ∀ n : Nat, k < n → MXg v (va_up g k 1) n = imax (MXg v g n) (v k)
  | 0, h => by omega
  | n + 1, h => by
    simp only [MXg]
    by_cases hk : k = n
    · subst hk
      rw [up_app, if_pos rfl, if_neg (by decide), if_pos hg, MXg_congr k (fun j hj => ⟨by rw [up_app, if_neg (by omega)], fun _ => rfl⟩)]
    · rw [MXg_up hg n (by omega), up_app, if_neg (show ¬ n = k from fun e => hk e.symm)]
      by_cases h0 : g n = 0
      · rw [if_pos h0, if_pos h0]
      · rw [if_neg h0, if_neg h0, im_sw]
theorem MXg_v {v g h : Nat → Int} : ∀ n : Nat, (∀ k, k < n → (g k = 0 ↔ h k = -1)) → MXg v g n = MXv v h n
  | 0, _ => rfl
  | n + 1, he => by
    simp only [MXg, MXv]
    rw [MXg_v n (fun k hk => he k (by omega))]
    by_cases h0 : g n = 0
    · rw [if_pos h0, if_pos ((he n (by omega)).mp h0)]
    · rw [if_neg h0, if_neg (fun h9 => h0 ((he n (by omega)).mpr h9))]
section HI
variable {w a q p : Nat → Int} {n : Nat}
theorem wk_hi (hp : ∀ k, 0 ≤ p k) : ∀ (m : Nat) (h g : Nat → Int) (hi : Int) (h' : Nat → Int) (hi' : Int), gc g n + m = n → (∀ j, j < n → -1 ≤ h j ∧ h j ≤ 12) → (∀ j, j < n → h j ≠ -1 ∨ g j = 0) → hi = MXg (fun k => h k - q k + p k) g n → wk w a q p n m h g hi = (-1, h', hi') → hi' = MXv (fun k => h' k - q k + p k) h' n := by
  intro m
  induction m with
  | zero =>
    intro h g hi h' hi' hg hb hm he hw
    simp only [wk] at hw
    cases hw
    rw [he]
    refine MXg_v n (fun k hk => ?_)
    have h1 := gc_full (by omega) k hk
    have h2 := hm k hk
    constructor
    · intro h0; exact absurd h0 h1
    · intro h0; rcases h2 with h2 | h2; exact absurd h0 h2; exact h2
  | succ m ih =>
    intro h g hi h' hi' hg hb hm he hw
    simp only [wk] at hw
    cases hf : lfind (wt h g) n 0 with
    | none =>
      rw [hf] at hw
      cases hw
      rw [he]
      refine MXg_v n (fun k hk => ?_)
      have h1 := lfind_none hf k (by omega) (by omega)
      have h2 := hm k hk
      constructor
      · intro h0
        refine Decidable.byContradiction (fun h9 => ?_)
        simp [wt, h9, h0] at h1
      · intro h0; rcases h2 with h2 | h2; exact absurd h0 h2; exact h2
    | some k =>
      rw [hf] at hw
      dsimp only at hw
      obtain ⟨k1, k2, k3⟩ := lfind_some hf
      have hkm : h k ≠ -1 ∧ g k = 0 := by simpa [wt] using k3
      have hbk := hb k (by omega)
      cases hs : stp w a q p n h k with
      | none =>
        rw [hs] at hw
        have : (k : Int) = -1 := congrArg Prod.fst hw
        omega
      | some h1 =>
        rw [hs] at hw
        have hw : wk w a q p n m h1 (va_up g k 1) (imax hi (h k - q k + p k)) = (-1, h', hi') := hw
        obtain ⟨s1, s2, s3, s4⟩ := stp_ok hp (by omega) hs
        have hpk := hp k
        refine ih h1 (va_up g k 1) _ h' hi' (by rw [gc_up hkm.2 (by omega)]; omega) ?_ ?_ ?_ hw
        · intro j hj
          rcases s3 j with h9 | h9
          · rw [h9]; exact hb j hj
          · rw [h9]; omega
        · intro j hj
          by_cases hjk : j = k
          · subst hjk; exact Or.inl (by rw [s2 j hkm.1]; exact hkm.1)
          · rw [up_app, if_neg hjk]
            rcases hm j hj with h9 | h9
            · exact Or.inl (by rw [s2 j h9]; exact h9)
            · exact Or.inr h9
        · rw [he, ← MXg_up (v := fun k => h k - q k + p k) hkm.2 n (by omega)]
          refine (MXg_congr n (fun j hj => ⟨rfl, fun h0 => ?_⟩)).symm
          by_cases hjk : j = k
          · subst hjk; rw [s2 j hkm.1]
          · rw [up_app, if_neg hjk] at h0
            rcases hm j hj with h9 | h9
            · rw [s2 j h9]
            · exact absurd h9 h0
end HI
def HH (V : pvM) (f : Nat) : Nat → Int := (wkS (cW V f) (cA V f) (cQ V f) (cP V f) (V 9 f).toNat).2.1
/-- what a group comes to from height h -/
def wi (V : pvM) (f p : Nat) (h : Int) : Int := if cW V f p = 13 then h + 1 else if cW V f p = 15 then (if V 4 (cA V f p).toNat = 0 then h + 1 else if h - V 4 (cA V f p).toNat + 2 < h - 1 then h - 1 else h - V 4 (cA V f p).toNat + 2) else h - cQ V f p + cP V f p
def hS (V : pvM) (f n : Nat) : Int := MXv (fun k => HH V f k - cQ V f k + cP V f k) (HH V f) n
def hP8 (V : pvM) (f n : Nat) : Int := MXv (fun k => wi V f k (HH V f k)) (HH V f) n
theorem HH_fr {cs : List Nat} {V V' : pvM} (hf : fr cs V V') (hd : ∀ c, c ∈ prog → c ∉ cs) (f : Nat) : HH V' f = HH V f := by
  have h := bd_fr hf hd f 0
  unfold HH
  rw [h.2.1, h.2.2.1, h.2.2.2.2.1, h.2.2.2.2.2, hf 9 (hd 9 (by decide))]
theorem hS_fr {cs : List Nat} {V V' : pvM} (hf : fr cs V V') (hd : ∀ c, c ∈ prog → c ∉ cs) (f n : Nat) : hS V' f n = hS V f n := by
  have h := bd_fr hf hd f 0
  unfold hS
  rw [HH_fr hf hd, h.2.2.2.2.1, h.2.2.2.2.2]
theorem hP8_fr {cs : List Nat} {V V' : pvM} (hf : fr cs V V') (hd : ∀ c, c ∈ prog → c ∉ cs) (f n : Nat) : hP8 V' f n = hP8 V f n := by
  have h := bd_fr hf hd f 0
  have e : ∀ k x, wi V' f k x = wi V f k x := fun k x => by
    unfold wi
    rw [h.2.1, h.2.2.1, h.2.2.2.2.1, h.2.2.2.2.2, hf 4 (hd 4 (by decide))]
  unfold hP8
  rw [HH_fr hf hd]
  exact MXv_congr n (fun k _ => ⟨rfl, e k _⟩)
theorem hi_hS {V : pvM} {f : Nat} (h : wrS V f (-1)) : (wkS (cW V f) (cA V f) (cQ V f) (cP V f) (V 9 f).toNat).2.2 = hS V f (V 9 f).toNat := by
  have h1 := (wrS_ok h).2.2
  have hp : ∀ k, 0 ≤ cP V f k := fun k => pu_nn _
  unfold hS HH
  refine wk_hi (w := cW V f) (a := cA V f) hp (V 9 f).toNat h0f g0f 0 _ _ (by rw [gc_g0]; omega) (fun j _ => by unfold h0f; split <;> omega) (fun j _ => Or.inr rfl) ?_ ?_
  · have : ∀ k : Nat, MXg (fun k => h0f k - cQ V f k + cP V f k) g0f k = 0 := by
      intro k
      induction k with
      | zero => rfl
      | succ k ih => simp only [MXg]; rw [if_pos (show g0f k = 0 from rfl), ih]
    exact (this _).symm
  · show wkS (cW V f) (cA V f) (cQ V f) (cP V f) (V 9 f).toNat = _
    rw [← h1]
theorem HH_ok {V : pvM} {f : Nat} (h : wrS V f (-1)) : HT (cW V f) (cA V f) (cQ V f) (cP V f) (V 9 f).toNat (HH V f) := by
  have h1 := (wrS_ok h).2.2
  have hp : ∀ k, 0 ≤ cP V f k := fun k => pu_nn _
  refine wkS_ok hp (hi' := (wkS (cW V f) (cA V f) (cQ V f) (cP V f) (V 9 f).toNat).2.2) ?_
  unfold HH
  rw [← h1]
