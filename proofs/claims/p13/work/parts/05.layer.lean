/-! PURE WORLDS: cells have numbers 0, 1, ..; ad says where each lies. A shape: how many cells, the kind and length of each, the references in objects' fields. A memory: ints by cell and place, longs by cell and place. Kinds: 0 byte[], 1 int[], 2 long[], 3 boolean[], 4 + c an object of class c. -/
def lw_good : List Cond := lw_tbl.filter goodWord
theorem lw_good_in {w : Cond} (h : w ∈ lw_tbl) (hg : goodWord w = true) : w ∈ lw_good := List.mem_filter.mpr ⟨h, hg⟩
theorem lw_good_sub {w : Cond} (h : w ∈ lw_good) : w ∈ lw_tbl := (List.mem_filter.mp h).1
theorem lw_good_ok {w : Cond} (h : w ∈ lw_good) : goodWord w = true := (List.mem_filter.mp h).2
abbrev pz_cl : List vw_C := [(RX1, TX1, 7), (RX2, TX2, 4), (RX3, TX3, 5), (RX4, TX4, 10), (RX5, TX5, 11), (RX6, TX6, 7), (RX7, TX7, 7), (RX8, TX8, 8), (RX9, TX9, 3), (RX10, TX10, 4), (RX11, TX11, 54)]
abbrev pzM : Type := (Nat → Nat → Int32) × (Nat → Nat → Int64)
abbrev pzS : Type := Nat × (Nat → Nat × Nat) × (Nat → Nat → Option Nat)
def pz_t (ad : Nat → Nat) (v : Value) : Value := match v with
  | .ref i => .ref (ad i)
  | w => w
abbrev pz_p (ad : Nat → Nat) (q : Nat × Value) : Nat × Value := (q.1, pz_t ad q.2)
theorem pz_t_cat (ad : Nat → Nat) (v : Value) : (pz_t ad v).category = v.category := by cases v <;> rfl
/-- a value of type t of field k of object i -/
def pz_v (ad : Nat → Nat) (σ : pzS) (M : pzM) (i k t : Nat) : Value := if t = 0 then .int (M.1 i k) else if t = 1 then .long (M.2 i k) else va_rf ((σ.2.2 i k).map ad)
def pz_fs (ad : Nat → Nat) (σ : pzS) (M : pzM) (i : Nat) : Nat → List Nat → List Value
  | _, [] => []
  | k, t :: ts => pz_v ad σ M i k t :: pz_fs ad σ M i (k + 1) ts
theorem pz_fs_get (ad : Nat → Nat) (σ : pzS) (M : pzM) (i : Nat) : ∀ (ts : List Nat) (k0 k : Nat), (pz_fs ad σ M i k0 ts)[k]? = (ts[k]?).map (pz_v ad σ M i (k0 + k))
  | [], k0, k => by simp [pz_fs]
  | t :: ts, k0, 0 => by simp [pz_fs]
  | t :: ts, k0, k + 1 => by
    simp only [pz_fs, List.getElem?_cons_succ]
    rw [pz_fs_get ad σ M i ts (k0 + 1) k, show k0 + 1 + k = k0 + (k + 1) from by omega]
theorem pz_fs_len (ad : Nat → Nat) (σ : pzS) (M : pzM) (i : Nat) : ∀ (ts : List Nat) (k0 : Nat), (pz_fs ad σ M i k0 ts).length = ts.length
  | [], k0 => rfl
  | t :: ts, k0 => by simp [pz_fs, pz_fs_len ad σ M i ts (k0 + 1)]
/-- two tables of fields that agree -/
theorem pz_fs_congr {ad ad' : Nat → Nat} {σ σ' : pzS} {M M' : pzM} {i : Nat} : ∀ (ts : List Nat) (k0 : Nat), (∀ k t, ts[k]? = some t → pz_v ad σ M i (k0 + k) t = pz_v ad' σ' M' i (k0 + k) t) → pz_fs ad σ M i k0 ts = pz_fs ad' σ' M' i k0 ts
  | [], k0, _ => rfl
  | t :: ts, k0, h => by
    simp only [pz_fs]
    rw [show pz_v ad σ M i k0 t = pz_v ad' σ' M' i k0 t from h 0 t rfl, pz_fs_congr (ad := ad) (ad' := ad') (σ := σ) (σ' := σ') (M := M) (M' := M') ts (k0 + 1) (fun k t hk => by rw [show k0 + 1 + k = k0 + (k + 1) from by omega]; exact h (k + 1) t (by simpa using hk))]
theorem pz_fs_set {ad : Nat → Nat} {σ σ' : pzS} {M M' : pzM} {i : Nat} {v : Value} : ∀ (ts : List Nat) (k0 k t : Nat), ts[k]? = some t → pz_v ad σ' M' i (k0 + k) t = v → (∀ j u, j ≠ k → ts[j]? = some u → pz_v ad σ M i (k0 + j) u = pz_v ad σ' M' i (k0 + j) u) → (pz_fs ad σ M i k0 ts).set k v = pz_fs ad σ' M' i k0 ts
  | [], k0, k, t, h, _, _ => by simp at h
  | u :: ts, k0, 0, t, h, hv, hj => by
    simp only [List.getElem?_cons_zero, Option.some.injEq] at h
    subst h
    simp only [pz_fs, List.set_cons_zero]
    rw [show pz_v ad σ' M' i k0 u = v from hv, pz_fs_congr (ad := ad) (ad' := ad) (σ := σ) (σ' := σ') (M := M) (M' := M') ts (k0 + 1) (fun k t hk => by rw [show k0 + 1 + k = k0 + (k + 1) from by omega]; exact hj (k + 1) t (by omega) (by simpa using hk))]
  | u :: ts, k0, k + 1, t, h, hv, hj => by
    simp only [pz_fs, List.set_cons_succ]
    rw [show pz_v ad σ M i k0 u = pz_v ad σ' M' i k0 u from hj 0 u (by omega) rfl,
      pz_fs_set (σ' := σ') (M' := M') ts (k0 + 1) k t (by simpa using h) (by rw [show k0 + 1 + k = k0 + (k + 1) from by omega]; exact hv) (fun j u hjk hu => by rw [show k0 + 1 + j = k0 + (j + 1) from by omega]; exact hj (j + 1) u (by omega) (by simpa using hu))]
def pz_ft (c : Nat) : List Nat := ([[2, 2, 2, 2, 2, 0, 0], [2, 2, 2, 0], [2, 2, 2, 2, 0], [2, 2, 2, 2, 2, 2, 0, 0, 0, 1], [2, 2, 2, 2, 2, 2, 2, 2, 2, 0, 0], [2, 2, 2, 2, 2, 2, 0], [2, 2, 2, 2, 2, 0, 0], [2, 2, 2, 0, 2, 0, 2, 0], [2, 2, 2], [2, 2, 2, 2], [0, 0, 2, 2, 2, 2, 2, 0, 2, 2, 0, 2, 2, 0, 2, 2, 2, 2, 2, 2, 2, 0, 2, 2, 0, 2, 2, 0, 0, 0, 0, 0, 2, 0, 2, 2, 0, 2, 2, 2, 2, 2, 2, 2, 0, 2, 2, 0, 2, 2, 2, 2, 0, 2]] : List (List Nat)).getD c []

/-- what cell i is -/
def pz_e (cy : Nat → ClassId) (ad : Nat → Nat) (σ : pzS) (M : pzM) (i : Nat) : va_E :=
  match (σ.2.1 i).1 with
  | 0 => .inl (cy 0, (σ.2.1 i).2, .inl (M.1 i))
  | 1 => .inl (cy 1, (σ.2.1 i).2, .inl (M.1 i))
  | 2 => .inl (cy 2, (σ.2.1 i).2, .inr (.inl (M.2 i)))
  | 3 => .inl (cy 3, (σ.2.1 i).2, .inl (M.1 i))
  | c + 4 => .inr (c, pz_fs ad σ M i 0 (pz_ft c))
def pz_w (cy : Nat → ClassId) (ad : Nat → Nat) (σ : pzS) (M : pzM) : va_W := (List.range σ.1).map (fun i => (ad i, pz_e cy ad σ M i))
abbrev pz_tys (cy : Nat → ClassId) : List (ClassId × FieldType) := [(cy 0, .byte), (cy 1, .int), (cy 2, .long), (cy 3, .boolean)]
theorem pz_w_get {cy : Nat → ClassId} {ad : Nat → Nat} {σ : pzS} {M : pzM} {i : Nat} (h : i < σ.1) : (pz_w cy ad σ M)[i]? = some (ad i, pz_e cy ad σ M i) := by
  simp [pz_w, List.getElem?_range h]
theorem pz_w_len {cy : Nat → ClassId} {ad : Nat → Nat} {σ : pzS} {M : pzM} : (pz_w cy ad σ M).length = σ.1 := by simp [pz_w]
theorem pz_w_congr {cy : Nat → ClassId} {ad ad' : Nat → Nat} {σ σ' : pzS} {M M' : pzM} (hn : σ.1 = σ'.1) (ha : ∀ i, i < σ.1 → ad i = ad' i) (he : ∀ i, i < σ.1 → pz_e cy ad σ M i = pz_e cy ad' σ' M' i) : pz_w cy ad σ M = pz_w cy ad' σ' M' := by
  unfold pz_w
  rw [← hn]
  refine List.map_congr_left (fun i hi => ?_)
  have h := List.mem_range.mp hi
  rw [ha i h, he i h]
theorem pz_w_set {cy : Nat → ClassId} {ad : Nat → Nat} {σ σ' : pzS} {M M' : pzM} {i : Nat} {e : va_E} (hn : σ.1 = σ'.1) (hi : i < σ.1) (he : pz_e cy ad σ' M' i = e) (ho : ∀ j, j < σ.1 → j ≠ i → pz_e cy ad σ M j = pz_e cy ad σ' M' j) : (pz_w cy ad σ M).set i (ad i, e) = pz_w cy ad σ' M' := by
  apply List.ext_getElem?
  intro j
  by_cases hj : j < σ.1
  · by_cases hji : j = i
    · subst hji
      rw [List.getElem?_set_self (by rw [pz_w_len]; exact hj), pz_w_get (by rw [← hn]; exact hj), he]
    · rw [List.getElem?_set_ne (Ne.symm hji), pz_w_get hj, pz_w_get (by rw [← hn]; exact hj), ho j hj hji]
  · rw [List.getElem?_eq_none (by rw [List.length_set, pz_w_len]; omega), List.getElem?_eq_none (by rw [pz_w_len, ← hn]; omega)]
/-- a store into row i at place k -/
def pz_u {α : Type} (f : Nat → Nat → α) (i k : Nat) (x : α) : Nat → Nat → α := va_up f i (va_up (f i) k x)
theorem pz_u_row {α : Type} (f : Nat → Nat → α) (i k : Nat) (x : α) : pz_u f i k x i = va_up (f i) k x := by simp [pz_u, va_up]
theorem pz_u_off {α : Type} (f : Nat → Nat → α) {i j : Nat} (k : Nat) (x : α) (h : j ≠ i) : pz_u f i k x j = f j := by simp [pz_u, va_up, h]
theorem pz_u_eq {α : Type} (f : Nat → Nat → α) (i k : Nat) (x : α) : pz_u f i k x i k = x := by simp [pz_u, va_up]
theorem pz_u_ne {α : Type} (f : Nat → Nat → α) {i k a b : Nat} (x : α) (h : a ≠ i ∨ b ≠ k) : pz_u f i k x a b = f a b := by
  rcases h with h | h
  · rw [pz_u_off f k x h]
  · by_cases ha : a = i
    · subst ha; rw [pz_u_row]; simp [va_up, h]
    · rw [pz_u_off f k x ha]
theorem pz_updI (f : Nat → Int32) (k : Nat) (x : Int32) : upd f k x = va_up f k x := rfl
theorem pz_updL (f : Nat → Int64) (k : Nat) (x : Int64) : vp_updL f k x = va_up f k x := rfl
/-- cells other than i don't see what is written into i -/
theorem pz_e_off {cy : Nat → ClassId} {ad : Nat → Nat} {σ σ' : pzS} {M M' : pzM} {j : Nat} (hK : σ.2.1 j = σ'.2.1 j) (h1 : M.1 j = M'.1 j) (h2 : M.2 j = M'.2 j) (h3 : σ.2.2 j = σ'.2.2 j) : pz_e cy ad σ M j = pz_e cy ad σ' M' j := by
  unfold pz_e
  rw [← hK, ← h1, ← h2]
  have hf : ∀ c, pz_fs ad σ M j 0 (pz_ft c) = pz_fs ad σ' M' j 0 (pz_ft c) := fun c => pz_fs_congr _ _ (fun k t _ => by unfold pz_v; rw [h1, h2, h3])
  split <;> first | rfl | (rw [hf])
