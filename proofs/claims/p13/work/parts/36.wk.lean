/-! THE WAYS THROUGH ONE FUNCTION, as a pure search -/
def lfind (P : Nat → Bool) : Nat → Nat → Option Nat
  | 0, _ => none
  | m + 1, k => if P k then some k else lfind P m (k + 1)
theorem lfind_some {P : Nat → Bool} : ∀ {m k j : Nat}, lfind P m k = some j → k ≤ j ∧ j < k + m ∧ P j = true
  | 0, _, _, h => by cases h
  | m + 1, k, j, h => by
    simp only [lfind] at h
    split at h
    · rename_i hp
      cases h
      exact ⟨Nat.le_refl _, by omega, hp⟩
    · have := lfind_some h
      exact ⟨by omega, by omega, this.2.2⟩
theorem lfind_none {P : Nat → Bool} : ∀ {m k : Nat}, lfind P m k = none → ∀ j, k ≤ j → j < k + m → P j = false
  | 0, _, _ => fun j h1 h2 => by omega
  | m + 1, k, h => by
    simp only [lfind] at h
    split at h
    · cases h
    · rename_i hp
      intro j h1 h2
      rcases Nat.lt_or_eq_of_le h1 with h3 | rfl
      · exact lfind_none h j (by omega) (by omega)
      · exact Bool.eq_false_iff.mpr hp
/-- a way comes to place t with height x -/
def mt (h : Nat → Int) (t : Nat) (x : Int) : Nat → Int := if h t = -1 then va_up h t x else h
theorem mt_at (h : Nat → Int) (t : Nat) (x : Int) : mt h t x t = if h t = -1 then x else h t := by
  unfold mt
  split
  · rw [up_app, if_pos rfl]
  · rfl
theorem mt_ne {h : Nat → Int} {t j : Nat} {x : Int} (hj : j ≠ t) : mt h t x j = h j := by
  unfold mt
  split
  · rw [up_app, if_neg hj]
  · rfl
/-- what is met stays as it is -/
theorem mt_met {h : Nat → Int} {t j : Nat} {x : Int} (hj : h j ≠ -1) : mt h t x j = h j := by
  by_cases e : j = t
  · subst e; rw [mt_at, if_neg hj]
  · exact mt_ne e
def me (h : Nat → Int) (t : Nat) (x : Int) : Option (Nat → Int) := if mt h t x t = x then some (mt h t x) else none
def men (n : Nat) (h : Nat → Int) (t : Nat) (x : Int) : Option (Nat → Int) := if t < n then me h t x else none
def stp (w a q p : Nat → Int) (n : Nat) (h : Nat → Int) (k : Nat) : Option (Nat → Int) :=
  if h k - q k < 0 ∨ 12 < h k - q k + p k then none
  else if w k = 11 then some h
  else if w k = 8 then me h (a k).toNat (h k - q k + p k)
  else if w k = 9 then (me h (a k).toNat (h k - q k + p k)).bind (fun h1 => men n h1 (k + 1) (h k - q k + p k))
  else men n h (k + 1) (h k - q k + p k)
def wt (h g : Nat → Int) : Nat → Bool := fun j => !(h j == -1) && g j == 0
def imax (x y : Int) : Int := if x < y then y else x
def wk (w a q p : Nat → Int) (n : Nat) : Nat → (Nat → Int) → (Nat → Int) → Int → Int × (Nat → Int) × Int
  | 0, h, _, hi => (-1, h, hi)
  | m + 1, h, g, hi => match lfind (wt h g) n 0 with
    | none => (-1, h, hi)
    | some k => match stp w a q p n h k with
      | none => ((k : Int), h, imax hi (h k - q k + p k))
      | some h' => wk w a q p n m h' (va_up g k 1) (imax hi (h k - q k + p k))
def h0f : Nat → Int := fun k => if k = 0 then 0 else -1
def g0f : Nat → Int := fun _ => 0
/-- the ways of a function: the wrong place or -1, the heights, the highest -/
def wkS (w a q p : Nat → Int) (n : Nat) : Int × (Nat → Int) × Int := wk w a q p n n h0f g0f 0
/-- a place whose ways are closed -/
def CL (w a q p : Nat → Int) (n : Nat) (h : Nat → Int) (k : Nat) : Prop := 0 ≤ h k ∧ 0 ≤ h k - q k ∧ h k - q k + p k ≤ 12 ∧ (w k ≠ 11 → w k ≠ 8 → k + 1 < n ∧ h (k + 1) = h k - q k + p k) ∧ ((w k = 8 ∨ w k = 9) → h (a k).toNat = h k - q k + p k)
/-- heights as the document asks for them -/
def HT (w a q p : Nat → Int) (n : Nat) (h : Nat → Int) : Prop := h 0 = 0 ∧ (∀ k, k < n → -1 ≤ h k ∧ h k ≤ 12) ∧ ∀ k, k < n → h k ≠ -1 → CL w a q p n h k
section WK
variable {w a q p : Nat → Int} {n : Nat}
theorem me_ok {h h' : Nat → Int} {t : Nat} {x : Int} (he : me h t x = some h') : h' = mt h t x ∧ h' t = x ∧ (∀ j, h j ≠ -1 → h' j = h j) ∧ (∀ j, j ≠ t → h' j = h j) := by
  unfold me at he
  split at he
  · rename_i hx
    cases he
    exact ⟨rfl, hx, fun j hj => mt_met hj, fun j hj => mt_ne hj⟩
  · cases he
theorem men_ok {h h' : Nat → Int} {t : Nat} {x : Int} (he : men n h t x = some h') : t < n ∧ h' = mt h t x ∧ h' t = x ∧ (∀ j, h j ≠ -1 → h' j = h j) ∧ (∀ j, j ≠ t → h' j = h j) := by
  unfold men at he
  split at he
  · rename_i ht
    exact ⟨ht, me_ok he⟩
  · cases he
/-- behind a step: it is closed, what was met stays, what is new has the height behind it -/
theorem stp_ok {h h' : Nat → Int} {k : Nat} (hp : ∀ k, 0 ≤ p k) (hk : 0 ≤ h k) (he : stp w a q p n h k = some h') : (0 ≤ h k - q k ∧ h k - q k + p k ≤ 12) ∧ (∀ j, h j ≠ -1 → h' j = h j) ∧ (∀ j, h' j = h j ∨ h' j = h k - q k + p k) ∧ CL w a q p n h' k := by
  have hpk := hp k
  unfold stp at he
  split at he
  · cases he
  · rename_i h0
    have hb : 0 ≤ h k - q k ∧ h k - q k + p k ≤ 12 := by omega
    refine ⟨hb, ?_⟩
    split at he
    · rename_i h11
      cases he
      exact ⟨fun _ _ => rfl, fun _ => Or.inl rfl, hk, hb.1, hb.2, fun h9 => absurd h11 h9, fun h9 => by omega⟩
    · rename_i h11
      split at he
      · rename_i h8
        obtain ⟨e1, e2, e3, e4⟩ := me_ok he
        have ek : h' k = h k := e3 k (by omega)
        refine ⟨e3, fun j => ?_, ?_⟩
        · by_cases hj : j = (a k).toNat
          · subst hj; exact Or.inr e2
          · exact Or.inl (e4 j hj)
        · unfold CL
          rw [ek]
          exact ⟨hk, hb.1, hb.2, fun _ h9 => absurd h8 h9, fun _ => e2⟩
      · rename_i h8
        split at he
        · rename_i h9
          cases hm : me h (a k).toNat (h k - q k + p k) with
          | none => rw [hm] at he; cases he
          | some h1 =>
            rw [hm] at he
            have he : men n h1 (k + 1) (h k - q k + p k) = some h' := he
            obtain ⟨e1, e2, e3, e4⟩ := me_ok hm
            obtain ⟨f0, f1, f2, f3, f4⟩ := men_ok he
            have es : ∀ j, h j ≠ -1 → h' j = h j := fun j hj => by rw [f3 j (by rw [e3 j hj]; exact hj), e3 j hj]
            have ek : h' k = h k := es k (by omega)
            refine ⟨es, fun j => ?_, ?_⟩
            · by_cases hj : j = k + 1
              · subst hj; exact Or.inr f2
              · rw [f4 j hj]
                by_cases hj2 : j = (a k).toNat
                · subst hj2; exact Or.inr e2
                · exact Or.inl (e4 j hj2)
            · unfold CL
              rw [ek]
              refine ⟨hk, hb.1, hb.2, fun _ _ => ⟨f0, f2⟩, fun _ => ?_⟩
              rw [f3 _ (by rw [e2]; omega), e2]
        · rename_i h9
          obtain ⟨f0, f1, f2, f3, f4⟩ := men_ok he
          have ek : h' k = h k := f3 k (by omega)
          refine ⟨f3, fun j => ?_, ?_⟩
          · by_cases hj : j = k + 1
            · subst hj; exact Or.inr f2
            · exact Or.inl (f4 j hj)
          · unfold CL
            rw [ek]
            exact ⟨hk, hb.1, hb.2, fun _ _ => ⟨f0, f2⟩, fun h10 => by omega⟩
theorem CL.mono {h h' : Nat → Int} {k : Nat} (hp : ∀ k, 0 ≤ p k) (hc : CL w a q p n h k) (hs : ∀ j, h j ≠ -1 → h' j = h j) : CL w a q p n h' k := by
  have hpk := hp k
  obtain ⟨c1, c2, c3, c4, c5⟩ := hc
  have ek : h' k = h k := hs k (by omega)
  unfold CL
  rw [ek]
  refine ⟨c1, c2, c3, fun h1 h2 => ?_, fun h1 => ?_⟩
  · have := c4 h1 h2
    exact ⟨this.1, by rw [hs _ (by omega)]; exact this.2⟩
  · have := c5 h1
    rw [hs _ (by omega)]; exact this
/-- how many of the first n are gone -/
def gc (g : Nat → Int) : Nat → Nat
  | 0 => 0
  | n + 1 => gc g n + (if g n = 0 then 0 else 1)
theorem gc_le (g : Nat → Int) : ∀ n, gc g n ≤ n
  | 0 => Nat.le_refl _
  | n + 1 => by have := gc_le g n; simp only [gc]; split <;> omega
theorem gc_full {g : Nat → Int} : ∀ {n : Nat}, gc g n = n → ∀ j, j < n → g j ≠ 0
  | 0, _, j, hj => by omega
  | n + 1, h, j, hj => by
    simp only [gc] at h
    have := gc_le g n
    split at h
    · omega
    · rename_i hn
      rcases Nat.lt_or_eq_of_le (Nat.le_of_lt_succ hj) with h9 | rfl
      · exact gc_full (by omega) j h9
      · exact hn
theorem gc_up {g : Nat → Int} {k : Nat} (hk : g k = 0) : ∀ {n : Nat}, k < n → gc (va_up g k 1) n = gc g n + 1
  | 0, h => by omega
  | n + 1, h => by
    simp only [gc]
    rcases Nat.lt_or_eq_of_le (Nat.le_of_lt_succ h) with h9 | rfl
    · have e1 : va_up g k 1 n = g n := by rw [up_app, if_neg (by omega)]
      rw [gc_up hk h9, e1]
      omega
    · have e : ∀ m, m ≤ k → gc (va_up g k 1) m = gc g m := by
        intro m
        induction m with
        | zero => intro _; rfl
        | succ m ih =>
          intro hm
          have e1 : va_up g k 1 m = g m := by rw [up_app, if_neg (by omega)]
          simp only [gc]
          rw [ih (by omega), e1]
      have e2 : va_up g k 1 k = 1 := by rw [up_app, if_pos rfl]
      rw [e k (Nat.le_refl _), e2, hk, if_neg (by decide), if_pos rfl]
theorem gc_g0 : ∀ n, gc g0f n = 0
  | 0 => rfl
  | n + 1 => by simp only [gc]; rw [gc_g0 n]; rfl
theorem wk_ok (hp : ∀ k, 0 ≤ p k) (h : Nat → Int) : ∀ (m : Nat) (h g : Nat → Int) (hi : Int) (h' : Nat → Int) (hi' : Int), gc g n + m = n → (∀ j, j < n → -1 ≤ h j ∧ h j ≤ 12) → (∀ j, j < n → g j ≠ 0 → CL w a q p n h j) → (∀ j, j < n → h j ≠ -1 ∨ g j = 0) → wk w a q p n m h g hi = (-1, h', hi') → (∀ j, h j ≠ -1 → h' j = h j) ∧ (∀ j, j < n → -1 ≤ h' j ∧ h' j ≤ 12) ∧ ∀ j, j < n → h' j ≠ -1 → CL w a q p n h' j := by
  intro m
  induction m with
  | zero =>
    intro h g hi h' hi' hg hb hc _ he
    simp only [wk] at he
    cases he
    exact ⟨fun _ _ => rfl, hb, fun j hj _ => hc j hj (gc_full (by omega) j hj)⟩
  | succ m ih =>
    intro h g hi h' hi' hg hb hc hm he
    simp only [wk] at he
    cases hf : lfind (wt h g) n 0 with
    | none =>
      rw [hf] at he
      cases he
      refine ⟨fun _ _ => rfl, hb, fun j hj hjm => hc j hj (fun h9 => ?_)⟩
      have := lfind_none hf j (by omega) (by omega)
      simp [wt, hjm, h9] at this
    | some k =>
      rw [hf] at he
      dsimp only at he
      obtain ⟨k1, k2, k3⟩ := lfind_some hf
      have hkm : h k ≠ -1 ∧ g k = 0 := by simpa [wt] using k3
      have hbk := hb k (by omega)
      cases hs : stp w a q p n h k with
      | none =>
        rw [hs] at he
        have : (k : Int) = -1 := congrArg Prod.fst he
        omega
      | some h1 =>
        rw [hs] at he
        have he : wk w a q p n m h1 (va_up g k 1) (imax hi (h k - q k + p k)) = (-1, h', hi') := he
        obtain ⟨s1, s2, s3, s4⟩ := stp_ok hp (by omega) hs
        have hpk := hp k
        have b1 : ∀ j, j < n → -1 ≤ h1 j ∧ h1 j ≤ 12 := by
          intro j hj
          rcases s3 j with h9 | h9
          · rw [h9]; exact hb j hj
          · rw [h9]; omega
        have b2 : ∀ j, j < n → va_up g k 1 j ≠ 0 → CL w a q p n h1 j := by
          intro j hj hgj
          by_cases hjk : j = k
          · subst hjk; exact s4
          · rw [up_app, if_neg hjk] at hgj
            exact (hc j hj hgj).mono hp s2
        have b3 : ∀ j, j < n → h1 j ≠ -1 ∨ va_up g k 1 j = 0 := by
          intro j hj
          by_cases hjk : j = k
          · subst hjk; exact Or.inl (by rw [s2 j hkm.1]; exact hkm.1)
          · rw [up_app, if_neg hjk]
            rcases hm j hj with h9 | h9
            · exact Or.inl (by rw [s2 j h9]; exact h9)
            · exact Or.inr h9
        obtain ⟨r1, r2, r3⟩ := ih h1 (va_up g k 1) _ h' hi' (by rw [gc_up hkm.2 (by omega)]; omega) b1 b2 b3 he
        exact ⟨fun j hj => by rw [r1 j (by rw [s2 j hj]; exact hj), s2 j hj], r2, r3⟩
/-- a function that is right has heights -/
theorem wkS_ok (hp : ∀ k, 0 ≤ p k) {h' : Nat → Int} {hi' : Int} (he : wkS w a q p n = (-1, h', hi')) : HT w a q p n h' := by
  unfold wkS at he
  obtain ⟨r1, r2, r3⟩ := wk_ok hp h0f n h0f g0f 0 h' hi' (by rw [gc_g0]; omega) (fun j _ => by unfold h0f; split <;> omega) (fun j _ h9 => absurd rfl h9) (fun j _ => Or.inr rfl) he
  refine ⟨?_, r2, r3⟩
  rw [r1 0 (by unfold h0f; rw [if_pos rfl]; decide)]
  rfl
end WK
