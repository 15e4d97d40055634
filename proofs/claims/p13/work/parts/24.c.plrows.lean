/-! THE LAW'S LEVEL: its world, and the script beside it (cell 999 stands for the script) -/
abbrev pl_a (ad : Nat → Nat) (b : Nat) (i : Nat) : Nat := if i = 999 then b else ad i
def pl_W (p : Program) (l : Launch) (e : Env) (s : State) (m : MethodId) (b : Nat) (below : List Frame) (meth : Method) (c : Code) (D : va_G) (cy : Nat → ClassId) (σ : pzS) (V : pvM) (pc : Nat) (loc : List (Nat × Value)) (st : List Value) : Prop :=
  ∀ (ad : Nat → Nat) (M : pzM) (H : Heap) (locs : List Loc) (ls : Array Slot), pv_R V σ M → pv_c V ≤ pv_LC → pv_s V ≤ pv_LS → va_P D pz_cl (pz_w cy ad σ M) H → va_D (fun q : Nat => s.heap.size ≤ q) (pz_w cy ad σ M) → va_S (fun q : Nat => s.heap.size ≤ q) s.heap H locs → lv_has ls 7 (loc.map (pz_p (pl_a ad b))) →
    W p l e room_1 s m #[Value.ref b] below meth c H locs (84 + pv_c V) (154143 + pv_s V) (lw_Z below #[Value.ref b] s) (F0 m pc ls (st.map (pz_t (pl_a ad b))))
def pv_andi (x y : Int) : Int := (Int32.ofInt x &&& Int32.ofInt y).toInt
def sR (xs : Nat → Int32) (L : Nat) (i : Int) (k : Int → Option pvO) : Option pvO := if 0 ≤ i ∧ i < (L : Int) then k (xs i.toNat).toInt else none
def rL (V : pvM) (x : Int) : Option pvO := if x = 1 then some (0, 1, V) else none
def pl_al (st : List Value) : Bool := st.all (fun v => match v with | .ref i => Nat.blt i 84 || i == 999 | _ => true)
def pl_all (loc : List (Nat × Value)) : Bool := loc.all (fun v => match v.2 with | .ref i => Nat.blt i 84 || i == 999 | _ => true)
theorem pl_ok {i : Nat} (h : (Nat.blt i 84 || i == 999) = true) : i < 84 ∨ i = 999 := by
  rcases Bool.or_eq_true _ _ ▸ h with h | h
  · exact Or.inl (Nat.blt_eq.mp h)
  · exact Or.inr (beq_iff_eq.mp h)
theorem pl_a_eq {ad ad' : Nat → Nat} {n b i : Nat} (hn : 84 ≤ n) (hag : ∀ i, i < n → ad' i = ad i) (h : (Nat.blt i 84 || i == 999) = true) : pl_a ad' b i = pl_a ad b i := by
  have h8 := pl_ok h
  unfold pl_a
  by_cases h9 : i = 999
  · rw [if_pos h9, if_pos h9]
  · rw [if_neg h9, if_neg h9]; exact hag i (by omega)
theorem pl_a_lt {ad : Nat → Nat} {b i : Nat} (h : Nat.blt i 84 = true) : pl_a ad b i = ad i := by
  have h8 := Nat.blt_eq.mp h
  unfold pl_a
  rw [if_neg (by omega)]
theorem pl_ext {ad ad' : Nat → Nat} {n b : Nat} (hn : 84 ≤ n) (hag : ∀ i, i < n → ad' i = ad i) {v : Value} (h : (match v with | .ref i => Nat.blt i 84 || i == 999 | _ => true) = true) : pz_t (pl_a ad' b) v = pz_t (pl_a ad b) v := by
  cases v <;> first | rfl | exact congrArg Value.ref (pl_a_eq hn hag h)
theorem pl_al_map {ad ad' : Nat → Nat} {n b : Nat} (hn : 84 ≤ n) (hag : ∀ i, i < n → ad' i = ad i) : ∀ {st : List Value}, pl_al st = true → st.map (pz_t (pl_a ad' b)) = st.map (pz_t (pl_a ad b))
  | [], _ => rfl
  | v :: t, h => by
    unfold pl_al at h
    rw [List.all_cons, Bool.and_eq_true] at h
    simp only [List.map_cons]
    rw [pl_ext hn hag h.1, pl_al_map hn hag h.2]
theorem pl_all_map {ad ad' : Nat → Nat} {n b : Nat} (hn : 84 ≤ n) (hag : ∀ i, i < n → ad' i = ad i) : ∀ {st : List (Nat × Value)}, pl_all st = true → st.map (pz_p (pl_a ad' b)) = st.map (pz_p (pl_a ad b))
  | [], _ => rfl
  | v :: t, h => by
    unfold pl_all at h
    rw [List.all_cons, Bool.and_eq_true] at h
    simp only [List.map_cons, pz_p]
    rw [pl_ext hn hag h.1]
    exact congrArg _ (pl_all_map hn hag h.2)
theorem pl_args {ad : Nat → Nat} {b : Nat} : ∀ {As : List Value}, pv_al As = true → As.map (pz_t (pl_a ad b)) = As.map (pz_t ad)
  | [], _ => rfl
  | v :: t, h => by
    unfold pv_al at h
    rw [List.all_cons, Bool.and_eq_true] at h
    simp only [List.map_cons]
    rw [pl_args h.2]
    refine congrArg (· :: _) ?_
    cases v <;> first | rfl | exact congrArg Value.ref (pl_a_lt h.1)
theorem pl_pick {ad : Nat → Nat} {loc : List (Nat × Value)} : ∀ (ks : List Nat), (lv_pick loc ks).map (pz_p ad) = lv_pick (loc.map (pz_p ad)) ks := by
  intro ks
  unfold lv_pick
  rw [List.map_filterMap]
  simp only [List.getElem?_map]
section PLR
variable {p : Program} {l : Launch} {e : Env} {s : State} {m : MethodId} {b : Nat} {below : List Frame} {meth : Method} {c : Code} {D : va_G} {cy : Nat → ClassId} {V : pvM} {σ : pzS} {pc : Nat} {loc loc' : List (Nat × Value)} {st : List Value} {q : pvO} {kd L : Nat} {xs : Nat → Int32}
theorem pl_iconst (C : pz_C p s m #[Value.ref b] meth c cL_law 7 RL D cy (fun q : Nat => s.heap.size ≤ q)) {n : Int} {k : Int → Option pvO} (hp : lI n k = some q) (hd : decode cL_law pc = .ok (.iconst n, 1)) (hv : (Int32.ofInt n).toInt = n) (kk : ∀ x : Int32, k x.toInt = some q → pl_W p l e s m b below meth c D cy σ V (pc + 1) loc (.int x :: st)) : pl_W p l e s m b below meth c D cy σ V pc loc st :=
  fun ad M H locs ls h1 h2 h3 hP hD hS hl => lv_iconst C.1.1 C.1.2.1 hd rfl (kk _ (by rw [hv]; exact hp) ad M H locs ls h1 h2 h3 hP hD hS hl)
theorem pl_bipush (C : pz_C p s m #[Value.ref b] meth c cL_law 7 RL D cy (fun q : Nat => s.heap.size ≤ q)) {n : Int} {k : Int → Option pvO} (hp : lI n k = some q) (hd : decode cL_law pc = .ok (.bipush n, 2)) (hv : ((Int8.ofInt n).toInt32).toInt = n) (kk : ∀ x : Int32, k x.toInt = some q → pl_W p l e s m b below meth c D cy σ V (pc + 2) loc (.int x :: st)) : pl_W p l e s m b below meth c D cy σ V pc loc st :=
  fun ad M H locs ls h1 h2 h3 hP hD hS hl => lv_bipush C.1.1 C.1.2.1 hd rfl (kk _ (by rw [hv]; exact hp) ad M H locs ls h1 h2 h3 hP hD hS hl)
theorem pl_ldc2 (C : pz_C p s m #[Value.ref b] meth c cL_law 7 RL D cy (fun q : Nat => s.heap.size ≤ q)) {index : Nat} {v : Int64} {z : Int} {k : Int → Option pvO} (hp : lI z k = some q) (hd : decode cL_law pc = .ok (.ldc2_w index, 3)) (hw : Cond.constantLong RL index v ∈ lw_good) (hv : v.toInt = z) (kk : ∀ x : Int64, k x.toInt = some q → pl_W p l e s m b below meth c D cy σ V (pc + 3) loc (.long x :: st)) : pl_W p l e s m b below meth c D cy σ V pc loc st :=
  fun ad M H locs ls h1 h2 h3 hP hD hS hl => lv_ldc2 C.1.1 C.1.2.1 C.1.2.2.2.1 (C.1.2.2.2.2 _ hw) hd (kk _ (by rw [hv]; exact hp) ad M H locs ls h1 h2 h3 hP hD hS hl)
theorem pl_aload_n (C : pz_C p s m #[Value.ref b] meth c cL_law 7 RL D cy (fun q : Nat => s.heap.size ≤ q)) {j : Fin 4} {x : Nat} (i : Nat) (hd : decode cL_law pc = .ok (.aload_n j, 1)) (hq : loc[i]? = some ((j : Nat), .ref x)) (kk : pl_W p l e s m b below meth c D cy σ V (pc + 1) loc (.ref x :: st)) : pl_W p l e s m b below meth c D cy σ V pc loc st :=
  fun ad M H locs ls h1 h2 h3 hP hD hS hl => lv_aload_n C.1.1 C.1.2.1 hd rfl (pz_loc hl hq) (kk ad M H locs ls h1 h2 h3 hP hD hS hl)
theorem pl_iload (C : pz_C p s m #[Value.ref b] meth c cL_law 7 RL D cy (fun q : Nat => s.heap.size ≤ q)) {j : Nat} {x : Int32} (i : Nat) (hd : decode cL_law pc = .ok (.iload j, 2)) (hq : loc[i]? = some (j, .int x)) (kk : pl_W p l e s m b below meth c D cy σ V (pc + 2) loc (.int x :: st)) : pl_W p l e s m b below meth c D cy σ V pc loc st :=
  fun ad M H locs ls h1 h2 h3 hP hD hS hl => lv_iload C.1.1 C.1.2.1 hd (pz_loc hl hq) (kk ad M H locs ls h1 h2 h3 hP hD hS hl)
theorem pl_istore (C : pz_C p s m #[Value.ref b] meth c cL_law 7 RL D cy (fun q : Nat => s.heap.size ≤ q)) {j : Nat} {x : Int32} (hd : decode cL_law pc = .ok (.istore j, 2)) (hn : j < 7) (hq : (j, Value.int x) :: pz_f1 j loc = loc') (kk : pl_W p l e s m b below meth c D cy σ V (pc + 2) loc' st) : pl_W p l e s m b below meth c D cy σ V pc loc (.int x :: st) :=
  fun ad M H locs ls h1 h2 h3 hP hD hS hl => lv_istore C.1.1 C.1.2.1 hd hl hn (by rw [← hq, pz_f1_map]; rfl) (fun ls1 hl1 => kk ad M H locs ls1 h1 h2 h3 hP hD hS hl1)
theorem pl_iinc (C : pz_C p s m #[Value.ref b] meth c cL_law 7 RL D cy (fun q : Nat => s.heap.size ≤ q)) {j : Nat} {n : Int} {x : Int32} {Lf : Int32 → List (Nat × Value)} (i : Nat) {k : Int → Option pvO} (hp : lI (pv_w (x.toInt + n)) k = some q) (hd : decode cL_law pc = .ok (.iinc j n, 3)) (hv : (Int32.ofInt n).toInt = n) (hk : loc[i]? = some (j, .int x)) (hn : j < 7) (hq : ∀ v : Int32, (j, Value.int v) :: pz_f1 j loc = Lf v) (kk : ∀ v : Int32, k v.toInt = some q → pl_W p l e s m b below meth c D cy σ V (pc + 3) (Lf v) st) : pl_W p l e s m b below meth c D cy σ V pc loc st :=
  fun ad M H locs ls h1 h2 h3 hP hD hS hl => lv_iinc C.1.1 C.1.2.1 hd hl (k := i) (by rw [List.getElem?_map, hk]; rfl) rfl hn (by rw [← hq, pz_f1_map]; rfl) (fun ls1 hl1 => kk _ (by rw [Int32.toInt_add, hv]; exact hp) ad M H locs ls1 h1 h2 h3 hP hD hS hl1)
theorem pl_iadd (C : pz_C p s m #[Value.ref b] meth c cL_law 7 RL D cy (fun q : Nat => s.heap.size ≤ q)) {x y : Int32} {k : Int → Option pvO} (hp : lI (pv_w (x.toInt + y.toInt)) k = some q) (hd : decode cL_law pc = .ok (.iadd, 1))  (kk : ∀ z : Int32, k z.toInt = some q → pl_W p l e s m b below meth c D cy σ V (pc + 1) loc (.int z :: st)) : pl_W p l e s m b below meth c D cy σ V pc loc (.int y :: .int x :: st) :=
  fun ad M H locs ls h1 h2 h3 hP hD hS hl => lv_iadd C.1.1 C.1.2.1 hd (kk _ (by rw [Int32.toInt_add]; exact hp) ad M H locs ls h1 h2 h3 hP hD hS hl)
theorem pl_isub (C : pz_C p s m #[Value.ref b] meth c cL_law 7 RL D cy (fun q : Nat => s.heap.size ≤ q)) {x y : Int32} {k : Int → Option pvO} (hp : lI (pv_w (x.toInt - y.toInt)) k = some q) (hd : decode cL_law pc = .ok (.isub, 1))  (kk : ∀ z : Int32, k z.toInt = some q → pl_W p l e s m b below meth c D cy σ V (pc + 1) loc (.int z :: st)) : pl_W p l e s m b below meth c D cy σ V pc loc (.int y :: .int x :: st) :=
  fun ad M H locs ls h1 h2 h3 hP hD hS hl => lv_isub C.1.1 C.1.2.1 hd (kk _ (by rw [Int32.toInt_sub]; exact hp) ad M H locs ls h1 h2 h3 hP hD hS hl)
theorem pl_iand (C : pz_C p s m #[Value.ref b] meth c cL_law 7 RL D cy (fun q : Nat => s.heap.size ≤ q)) {x y : Int32} {k : Int → Option pvO} (hp : lI (pv_andi x.toInt y.toInt) k = some q) (hd : decode cL_law pc = .ok (.iand, 1))  (kk : ∀ z : Int32, k z.toInt = some q → pl_W p l e s m b below meth c D cy σ V (pc + 1) loc (.int z :: st)) : pl_W p l e s m b below meth c D cy σ V pc loc (.int y :: .int x :: st) :=
  fun ad M H locs ls h1 h2 h3 hP hD hS hl => lv_iand C.1.1 C.1.2.1 hd (kk _ (by unfold pv_andi lI at hp; rw [Int32.ofInt_toInt, Int32.ofInt_toInt] at hp; exact hp) ad M H locs ls h1 h2 h3 hP hD hS hl)
theorem pl_land (C : pz_C p s m #[Value.ref b] meth c cL_law 7 RL D cy (fun q : Nat => s.heap.size ≤ q)) {x y : Int64} {k : Int → Option pvO} (hp : lI (pv_andl x.toInt y.toInt) k = some q) (hd : decode cL_law pc = .ok (.land, 1))  (kk : ∀ z : Int64, k z.toInt = some q → pl_W p l e s m b below meth c D cy σ V (pc + 1) loc (.long z :: st)) : pl_W p l e s m b below meth c D cy σ V pc loc (.long y :: .long x :: st) :=
  fun ad M H locs ls h1 h2 h3 hP hD hS hl => lv_land C.1.1 C.1.2.1 hd (kk _ (by unfold pv_andl lI at hp; rw [Int64.ofInt_toInt, Int64.ofInt_toInt] at hp; exact hp) ad M H locs ls h1 h2 h3 hP hD hS hl)
theorem pl_lor (C : pz_C p s m #[Value.ref b] meth c cL_law 7 RL D cy (fun q : Nat => s.heap.size ≤ q)) {x y : Int64} {k : Int → Option pvO} (hp : lI (pv_orl x.toInt y.toInt) k = some q) (hd : decode cL_law pc = .ok (.lor, 1))  (kk : ∀ z : Int64, k z.toInt = some q → pl_W p l e s m b below meth c D cy σ V (pc + 1) loc (.long z :: st)) : pl_W p l e s m b below meth c D cy σ V pc loc (.long y :: .long x :: st) :=
  fun ad M H locs ls h1 h2 h3 hP hD hS hl => lv_lor C.1.1 C.1.2.1 hd (kk _ (by unfold pv_orl lI at hp; rw [Int64.ofInt_toInt, Int64.ofInt_toInt] at hp; exact hp) ad M H locs ls h1 h2 h3 hP hD hS hl)
theorem pl_lshl (C : pz_C p s m #[Value.ref b] meth c cL_law 7 RL D cy (fun q : Nat => s.heap.size ≤ q)) {x : Int64} {y : Int32} {k : Int → Option pvO} (hp : lI (pv_shl x.toInt y.toInt) k = some q) (hd : decode cL_law pc = .ok (.lshl, 1))  (kk : ∀ z : Int64, k z.toInt = some q → pl_W p l e s m b below meth c D cy σ V (pc + 1) loc (.long z :: st)) : pl_W p l e s m b below meth c D cy σ V pc loc (.int y :: .long x :: st) :=
  fun ad M H locs ls h1 h2 h3 hP hD hS hl => lv_lshl C.1.1 C.1.2.1 hd rfl (kk _ (by unfold pv_shl lI at hp; rw [Int64.ofInt_toInt, Int32.ofInt_toInt] at hp; exact hp) ad M H locs ls h1 h2 h3 hP hD hS hl)
theorem pl_lcmp (C : pz_C p s m #[Value.ref b] meth c cL_law 7 RL D cy (fun q : Nat => s.heap.size ≤ q)) {x y : Int64} {k : Int → Option pvO} (hp : lI (pv_cmp x.toInt y.toInt) k = some q) (hd : decode cL_law pc = .ok (.lcmp, 1))  (kk : ∀ z : Int32, k z.toInt = some q → pl_W p l e s m b below meth c D cy σ V (pc + 1) loc (.int z :: st)) : pl_W p l e s m b below meth c D cy σ V pc loc (.long y :: .long x :: st) :=
  fun ad M H locs ls h1 h2 h3 hP hD hS hl => W.lcmp C.1.1 C.1.2.1 hd (kk _ (by rw [pv_cmp_e]; exact hp) ad M H locs ls h1 h2 h3 hP hD hS hl)
theorem pl_i2l (C : pz_C p s m #[Value.ref b] meth c cL_law 7 RL D cy (fun q : Nat => s.heap.size ≤ q)) {x : Int32} {k : Int → Option pvO} (hp : lI x.toInt k = some q) (hd : decode cL_law pc = .ok (.i2l, 1))  (kk : ∀ z : Int64, k z.toInt = some q → pl_W p l e s m b below meth c D cy σ V (pc + 1) loc (.long z :: st)) : pl_W p l e s m b below meth c D cy σ V pc loc (.int x :: st) :=
  fun ad M H locs ls h1 h2 h3 hP hD hS hl => lv_i2l C.1.1 C.1.2.1 hd rfl (kk _ (by rw [Int32.toInt_toInt64]; exact hp) ad M H locs ls h1 h2 h3 hP hD hS hl)
theorem pl_pop (C : pz_C p s m #[Value.ref b] meth c cL_law 7 RL D cy (fun q : Nat => s.heap.size ≤ q)) {va : Value} (hd : decode cL_law pc = .ok (.pop, 1)) (hv : va.category = 1) (kk : pl_W p l e s m b below meth c D cy σ V (pc + 1) loc st) : pl_W p l e s m b below meth c D cy σ V pc loc (va :: st) :=
  fun ad M H locs ls h1 h2 h3 hP hD hS hl => lv_pop C.1.1 C.1.2.1 hd ((pz_t_cat (pl_a ad b) va).trans hv) (kk ad M H locs ls h1 h2 h3 hP hD hS hl)
theorem pl_goto (C : pz_C p s m #[Value.ref b] meth c cL_law 7 RL D cy (fun q : Nat => s.heap.size ≤ q)) {off : Int} {tgt : Nat} (hd : decode cL_law pc = .ok (.goto off, 3)) (ht : (pc : Int) + off = (tgt : Int)) (kk : pl_W p l e s m b below meth c D cy σ V tgt loc st) : pl_W p l e s m b below meth c D cy σ V pc loc st :=
  fun ad M H locs ls h1 h2 h3 hP hD hS hl => lv_goto C.1.1 C.1.2.1 hd ht (kk ad M H locs ls h1 h2 h3 hP hD hS hl)
theorem pl_icmp_eq (C : pz_C p s m #[Value.ref b] meth c cL_law 7 RL D cy (fun q : Nat => s.heap.size ≤ q)) {x y : Int32} {off : Int} {tgt : Nat} {a9 b9 : Option pvO} (hp : (if x.toInt = y.toInt then a9 else b9) = some q) (hd : decode cL_law pc = .ok (.if_icmp .eq off, 3)) (ht : (pc : Int) + off = (tgt : Int)) (kt : a9 = some q → pl_W p l e s m b below meth c D cy σ V tgt loc st) (kf : b9 = some q → pl_W p l e s m b below meth c D cy σ V (pc + 3) loc st) : pl_W p l e s m b below meth c D cy σ V pc loc (.int y :: .int x :: st) := by
  intro ad M H locs ls h1 h2 h3 hP hD hS hl
  refine lv_icmp_eq (tgt := tgt) C.1.1 C.1.2.1 hd ht (fun h => ?_) (fun h => ?_)
  · rw [if_pos (Int32.toInt_inj.mpr h)] at hp; exact kt hp ad M H locs ls h1 h2 h3 hP hD hS hl
  · rw [if_neg (fun g => h (Int32.toInt_inj.mp g))] at hp; exact kf hp ad M H locs ls h1 h2 h3 hP hD hS hl
theorem pl_if_eq (C : pz_C p s m #[Value.ref b] meth c cL_law 7 RL D cy (fun q : Nat => s.heap.size ≤ q)) {x : Int32} {off : Int} {tgt : Nat} {a9 b9 : Option pvO} (hp : (if x.toInt = 0 then a9 else b9) = some q) (hd : decode cL_law pc = .ok (.ifCond .eq off, 3)) (ht : (pc : Int) + off = (tgt : Int)) (kt : a9 = some q → pl_W p l e s m b below meth c D cy σ V tgt loc st) (kf : b9 = some q → pl_W p l e s m b below meth c D cy σ V (pc + 3) loc st) : pl_W p l e s m b below meth c D cy σ V pc loc (.int x :: st) := by
  intro ad M H locs ls h1 h2 h3 hP hD hS hl
  have e0 : (0 : Int32).toInt = 0 := rfl
  refine lv_if_eq (tgt := tgt) C.1.1 C.1.2.1 hd ht (fun h => ?_) (fun h => ?_)
  · rw [if_pos ((Int32.toInt_inj.mpr h).trans e0)] at hp; exact kt hp ad M H locs ls h1 h2 h3 hP hD hS hl
  · rw [if_neg (fun g => h (Int32.toInt_inj.mp (g.trans e0.symm)))] at hp; exact kf hp ad M H locs ls h1 h2 h3 hP hD hS hl
theorem pl_icmp_ne (C : pz_C p s m #[Value.ref b] meth c cL_law 7 RL D cy (fun q : Nat => s.heap.size ≤ q)) {x y : Int32} {off : Int} {tgt : Nat} {a9 b9 : Option pvO} (hp : (if x.toInt ≠ y.toInt then a9 else b9) = some q) (hd : decode cL_law pc = .ok (.if_icmp .ne off, 3)) (ht : (pc : Int) + off = (tgt : Int)) (kt : a9 = some q → pl_W p l e s m b below meth c D cy σ V tgt loc st) (kf : b9 = some q → pl_W p l e s m b below meth c D cy σ V (pc + 3) loc st) : pl_W p l e s m b below meth c D cy σ V pc loc (.int y :: .int x :: st) := by
  intro ad M H locs ls h1 h2 h3 hP hD hS hl
  refine lv_icmp_ne (tgt := tgt) C.1.1 C.1.2.1 hd ht (fun h => ?_) (fun h => ?_)
  · rw [if_pos (fun g => h (Int32.toInt_inj.mp g))] at hp; exact kt hp ad M H locs ls h1 h2 h3 hP hD hS hl
  · rw [if_neg (fun g => g (Int32.toInt_inj.mpr h))] at hp; exact kf hp ad M H locs ls h1 h2 h3 hP hD hS hl
theorem pl_if_ne (C : pz_C p s m #[Value.ref b] meth c cL_law 7 RL D cy (fun q : Nat => s.heap.size ≤ q)) {x : Int32} {off : Int} {tgt : Nat} {a9 b9 : Option pvO} (hp : (if x.toInt ≠ 0 then a9 else b9) = some q) (hd : decode cL_law pc = .ok (.ifCond .ne off, 3)) (ht : (pc : Int) + off = (tgt : Int)) (kt : a9 = some q → pl_W p l e s m b below meth c D cy σ V tgt loc st) (kf : b9 = some q → pl_W p l e s m b below meth c D cy σ V (pc + 3) loc st) : pl_W p l e s m b below meth c D cy σ V pc loc (.int x :: st) := by
  intro ad M H locs ls h1 h2 h3 hP hD hS hl
  have e0 : (0 : Int32).toInt = 0 := rfl
  refine lv_if_ne (tgt := tgt) C.1.1 C.1.2.1 hd ht (fun h => ?_) (fun h => ?_)
  · rw [if_pos (fun g => h (Int32.toInt_inj.mp (g.trans e0.symm)))] at hp; exact kt hp ad M H locs ls h1 h2 h3 hP hD hS hl
  · rw [if_neg (fun g => g ((Int32.toInt_inj.mpr h).trans e0))] at hp; exact kf hp ad M H locs ls h1 h2 h3 hP hD hS hl
theorem pl_icmp_gt (C : pz_C p s m #[Value.ref b] meth c cL_law 7 RL D cy (fun q : Nat => s.heap.size ≤ q)) {x y : Int32} {off : Int} {tgt : Nat} {a9 b9 : Option pvO} (hp : (if y.toInt < x.toInt then a9 else b9) = some q) (hd : decode cL_law pc = .ok (.if_icmp .gt off, 3)) (ht : (pc : Int) + off = (tgt : Int)) (kt : a9 = some q → pl_W p l e s m b below meth c D cy σ V tgt loc st) (kf : b9 = some q → pl_W p l e s m b below meth c D cy σ V (pc + 3) loc st) : pl_W p l e s m b below meth c D cy σ V pc loc (.int y :: .int x :: st) := by
  intro ad M H locs ls h1 h2 h3 hP hD hS hl
  refine lv_icmp_gt (tgt := tgt) C.1.1 C.1.2.1 hd ht (fun h => ?_) (fun h => ?_)
  · rw [if_pos (Int32.lt_iff_toInt_lt.mp h)] at hp; exact kt hp ad M H locs ls h1 h2 h3 hP hD hS hl
  · rw [if_neg (fun g => h (Int32.lt_iff_toInt_lt.mpr g))] at hp; exact kf hp ad M H locs ls h1 h2 h3 hP hD hS hl
theorem pl_sub (ks : List Nat) (hk : lv_pick loc ks = loc') (kk : pl_W p l e s m b below meth c D cy σ V pc loc' st) : pl_W p l e s m b below meth c D cy σ V pc loc st := by
  intro ad M H locs ls h1 h2 h3 hP hD hS hl
  refine kk ad M H locs ls h1 h2 h3 hP hD hS ?_
  subst hk
  rw [pl_pick]
  exact lv_sub hl ks rfl
theorem pl_tableIn (C : pz_C p s m #[Value.ref b] meth c cL_law 7 RL D cy (fun q : Nat => s.heap.size ≤ q)) {dflt lo1 hi : Int} {offs : Array Int} {len : Nat} {x : Int32} {v off : Int} {tgt : Nat} (hx : x.toInt = v) (hd : decode cL_law pc = .ok (.tableswitch dflt lo1 hi offs, len)) (g1 : ¬ v < lo1) (g2 : ¬ hi < v) (ho : offs[(v - lo1).toNat]? = some off) (ht : (pc : Int) + off = (tgt : Int)) (kk : pl_W p l e s m b below meth c D cy σ V tgt loc st) : pl_W p l e s m b below meth c D cy σ V pc loc (.int x :: st) :=
  fun ad M H locs ls h1 h2 h3 hP hD hS hl => lv_tableIn C.1.1 C.1.2.1 hd (by rw [hx]; exact g1) (by rw [hx]; exact g2) (by rw [hx]; exact ho) ht (kk ad M H locs ls h1 h2 h3 hP hD hS hl)
theorem pl_tableOut (C : pz_C p s m #[Value.ref b] meth c cL_law 7 RL D cy (fun q : Nat => s.heap.size ≤ q)) {dflt lo1 hi : Int} {offs : Array Int} {len : Nat} {x : Int32} {tgt : Nat} (hx : x.toInt < lo1 ∨ hi < x.toInt) (hd : decode cL_law pc = .ok (.tableswitch dflt lo1 hi offs, len)) (ht : (pc : Int) + dflt = (tgt : Int)) (kk : pl_W p l e s m b below meth c D cy σ V tgt loc st) : pl_W p l e s m b below meth c D cy σ V pc loc (.int x :: st) :=
  fun ad M H locs ls h1 h2 h3 hP hD hS hl => lv_tableOut C.1.1 C.1.2.1 hd hx ht (kk ad M H locs ls h1 h2 h3 hP hD hS hl)
theorem pl_slen (C : pz_C p s m #[Value.ref b] meth c cL_law 7 RL D cy (fun q : Nat => s.heap.size ≤ q)) {k : Int → Option pvO} (hX : va_X b L xs s s.heap) (hbl : b < s.heap.size) (hL : L ≤ 3072) (hp : lI (L : Int) k = some q) (hd : decode cL_law pc = .ok (.arraylength, 1)) (kk : ∀ z : Int32, k z.toInt = some q → pl_W p l e s m b below meth c D cy σ V (pc + 1) loc (.int z :: st)) : pl_W p l e s m b below meth c D cy σ V pc loc (.ref 999 :: st) := by
  intro ad M H locs ls h1 h2 h3 hP hD hS hl
  refine va_slen C.1.1 C.1.2.1 hX hbl (Nat.not_le.mpr hbl) hS hd (kk _ ?_ ad M H locs ls h1 h2 h3 hP hD hS hl)
  have e9 : (Int32.size : Nat) = 4294967296 := rfl
  have e8 : (Int32.ofNat L).toInt = (L : Int) := by
    rw [Int32.toInt_ofNat', e9, Int.bmod_def]
    omega
  rw [e8]
  exact hp
theorem pl_sld (C : pz_C p s m #[Value.ref b] meth c cL_law 7 RL D cy (fun q : Nat => s.heap.size ≤ q)) {k : Int → Option pvO} {x : Int32} (hX : va_X b L xs s s.heap) (hbl : b < s.heap.size) (hp : sR xs L x.toInt k = some q) (hd : decode cL_law pc = .ok (.iaload, 1)) (kk : ∀ z : Int32, k z.toInt = some q → pl_W p l e s m b below meth c D cy σ V (pc + 1) loc (.int z :: st)) : pl_W p l e s m b below meth c D cy σ V pc loc (.int x :: .ref 999 :: st) := by
  intro ad M H locs ls h1 h2 h3 hP hD hS hl
  unfold sR at hp
  by_cases hz : 0 ≤ x.toInt ∧ x.toInt < (L : Int)
  · rw [if_pos hz] at hp
    exact va_sld C.1.1 C.1.2.1 hX hbl (Nat.not_le.mpr hbl) hS (pv_in hz) hd (kk _ hp ad M H locs ls h1 h2 h3 hP hD hS hl)
  · rw [if_neg hz] at hp; cases hp
theorem pl_lald (C : pz_C p s m #[Value.ref b] meth c cL_law 7 RL D cy (fun q : Nat => s.heap.size ≤ q)) {k : Int → Option pvO} {x : Int32} (hp : aR V 83 1 x.toInt k = some q) (hd : decode cL_law pc = .ok (.laload, 1)) (kk : ∀ z : Int64, k z.toInt = some q → pl_W p l e s m b below meth c D cy σ V (pc + 1) loc (.long z :: st)) : pl_W p l e s m b below meth c D cy σ V pc loc (.int x :: .ref 83 :: st) := by
  intro ad M H locs ls h1 h2 h3 hP hD hS hl
  unfold aR at hp
  by_cases hz : 0 ≤ x.toInt ∧ x.toInt < ((1 : Nat) : Int)
  · rw [if_pos hz, h1.2.2.1 83 _ rfl] at hp
    exact va_lald C.1.1 C.1.2.1 C.2.1 hP 83 2 (pz_ar2 (shL h1.1 83 rfl) (shK h1.1 83 rfl rfl)) rfl (shB h1.1 83 rfl rfl (pv_in hz)) hd (kk _ hp ad M H locs ls h1 h2 h3 hP hD hS hl)
  · rw [if_neg hz] at hp; cases hp
theorem pl_ret (C : pz_C p s m #[Value.ref b] meth c cL_law 7 RL D cy (fun q : Nat => s.heap.size ≤ q)) {x : Int32} (hr : meth.sig.returnType = ret) (hp : rL V x.toInt = some q) (hd : decode cL_law pc = .ok (.ireturn, 1)) : pl_W p l e s m b below meth c D cy σ V pc loc ([.int x]) := by
  intro ad M H locs ls h1 h2 h3 hP hD hS hl
  unfold rL at hp
  by_cases hx : x.toInt = 1
  · have hx1 : x = 1 := Int32.toInt_inj.mp (hx.trans rfl)
    subst hx1
    refine va_forget (fun q hq => hS.2.2 q hq) ?_
    have e1 : pv_LC = 8000 := rfl
    have e2 : pv_LS = 1000000 := rfl
    refine W.widen (k := 601024) (n := 7293034) (by omega) (by omega) ?_
    exact lw_ret C.1.1 C.1.2.1 hr C.2.2.2.1 hd
  · rw [if_neg hx] at hp; cases hp
def pl_K (p : Program) (l : Launch) (e : Env) (s : State) (m : MethodId) (b : Nat) (below : List Frame) (meth : Method) (c : Code) (D : va_G) (cy : Nat → ClassId) (pc : Nat) (loc : List (Nat × Value)) (rest : List Value) (q : pvO) (kt : Int → pvM → Option pvO) : Nat → Prop
  | 0 => ∀ (x : Int) (σ' : pzS) (V' : pvM), kt x V' = some q → pl_W p l e s m b below meth c D cy σ' V' pc loc rest
  | 1 => ∀ (x : Int32) (σ' : pzS) (V' : pvM), kt x.toInt V' = some q → pl_W p l e s m b below meth c D cy σ' V' pc loc (.int x :: rest)
  | 2 => ∀ (x : Int64) (σ' : pzS) (V' : pvM), kt x.toInt V' = some q → pl_W p l e s m b below meth c D cy σ' V' pc loc (.long x :: rest)
  | _ + 3 => False
theorem pl_run (C : pz_C p s m #[Value.ref b] meth c cL_law 7 RL D cy (fun q : Nat => s.heap.size ≤ q)) {kd1 : Nat} {q1 : pvO} {kt : Int → pvM → Option pvO} {rest st0 : List Value} {ad : Nat → Nat} {M : pzM} {H : Heap} {locs : List Loc} {ls : Array Slot} {a : Array Value}
    (hr : va_Run p l e room_1 s m #[Value.ref b] below meth c H locs (84 + pv_c V) (154143 + pv_s V) (pv_c q1.2.2 - pv_c V) (pv_s q1.2.2 - pv_s V) (F0 m pc ls st0) (rest.map (pz_t (pl_a ad b))) (pz_Q D cy σ.1 ad (pv_post kd1 V q1 σ.1) (va_A (pz_w cy ad σ M) H.size) a) (va_A (pz_w cy ad σ M) H.size))
    (hk : kt q1.2.1 q1.2.2 = some q) (h84 : 84 ≤ σ.1) (g1 : pl_al rest = true) (g2 : pl_all loc = true) (hD : va_D (fun q : Nat => s.heap.size ≤ q) (pz_w cy ad σ M)) (hS : va_S (fun q : Nat => s.heap.size ≤ q) s.heap H locs) (hl : lv_has ls 7 (loc.map (pz_p (pl_a ad b))))
    (kk : pl_K p l e s m b below meth c D cy (pc + 3) loc rest q kt kd1) : W p l e room_1 s m #[Value.ref b] below meth c H locs (84 + pv_c V) (154143 + pv_s V) (lw_Z below #[Value.ref b] s) (F0 m pc ls st0) := by
  intro T hT X
  obtain ⟨v, st₀, t, T', L9, h0, X', hL9, e1, e2, ⟨⟨r, σ', M', ad', hag, hv, hp, hP', hK', hD'⟩, hz, hk9⟩, st9⟩ := hr T hT X
  have hv : v = r.map (pz_t ad') := by cases hv; rfl
  subst hv
  rw [h0] at hz hk9
  have hfree := pz_freeA C hD hS
  have hS1 : va_S (fun q : Nat => s.heap.size ≤ q) s.heap T'.heap (locs ++ L9) := ⟨Nat.le_trans hS.1 (by rw [e1]; exact hz), fun q g1 g2 => by rw [e1, hk9 q (Nat.lt_of_lt_of_le g1 hS.1) (fun z => g2 (hfree q z))]; exact hS.2.1 q g1 g2, fun q hq => by
      rcases List.mem_append.mp hq with h | h
      · exact hS.2.2 q h
      · exact hfree _ (hL9 q h)⟩
  obtain ⟨-, hrv, hR, hn, hB⟩ := hp
  unfold pv_B at hB
  rw [show 84 + pv_c V + (pv_c q1.2.2 - pv_c V) = 84 + pv_c q1.2.2 by omega, show 154143 + pv_s V + (pv_s q1.2.2 - pv_s V) = 154143 + pv_s q1.2.2 by omega] at X'
  have hl1 : lv_has ls 7 (loc.map (pz_p (pl_a ad' b))) := by rw [pl_all_map h84 hag g2]; exact hl
  have hrest : rest.map (pz_t (pl_a ad' b)) = rest.map (pz_t (pl_a ad b)) := pl_al_map h84 hag g1
  have fin : ∀ (st1 : List Value), pl_W p l e s m b below meth c D cy σ' q1.2.2 (pc + 3) loc st1 → st1.map (pz_t (pl_a ad' b)) = (r.map (pz_t ad')).toList ++ rest.map (pz_t (pl_a ad b)) → ∃ t2, Steps p.tables e below (T.setTop (F0 m pc ls st0)) t2 ∧ lw_Z below #[Value.ref b] s t2 := by
    intro st1 hk1 hst1
    obtain ⟨t2, a1, b1⟩ := hk1 ad' M' T'.heap (locs ++ L9) ls hR hB.2.1 hB.2.2.2 (by rw [e1]; exact hP') (hD'.weaken (fun _ q _ h => hfree q.1 h)) hS1 hl1 T' rfl X'
    rw [hst1] at a1
    exact ⟨t2, st9 t2 a1, b1⟩
  match kd1, kk, hrv with
  | 0, kk, hrv => cases hrv; exact fin _ (kk _ σ' _ hk) hrest
  | 1, kk, hrv => obtain ⟨x, rfl, hx⟩ := hrv; exact fin _ (kk x σ' _ (by rw [hx]; exact hk)) (by simp only [List.map_cons]; rw [hrest]; rfl)
  | 2, kk, hrv => obtain ⟨x, rfl, hx⟩ := hrv; exact fin _ (kk x σ' _ (by rw [hx]; exact hk)) (by simp only [List.map_cons]; rw [hrest]; rfl)
  | _ + 3, kk, _ => exact kk.elim
theorem pl_room {V : pvM} (h2 : pv_c V ≤ pv_LC) (h3 : pv_s V ≤ pv_LS) : 84 + pv_c V + (pv_LC - pv_c V) ≤ room_1.cells ∧ 154143 + pv_s V + (pv_LS - pv_s V) ≤ room_1.slots := by
  have e1 : pv_LC = 8000 := rfl
  have e2 : pv_LS = 1000000 := rfl
  have e3 : room_1.cells = 601024 := rfl
  have e4 : room_1.slots = 7293034 := rfl
  omega
theorem pl_callV (C : pz_C p s m #[Value.ref b] meth c cL_law 7 RL D cy (fun q : Nat => s.heap.size ≤ q)) {y : MethodName} {bytes : ByteArray} {maxL fr1 lo1 n index kd1 ci b1 N : Nat} {ret1 : Option FieldType} {T : u_T} {As rest : List Value} {o9 : Option pvO} {kt : Int → pvM → Option pvO} (hp : cL o9 kt = some q) (hM : ∀ q1, o9 = some q1 → pv_Met l y bytes maxL ret1 fr1 lo1 D cy V (.ref b1 :: As) kd1 q1) (hw : pz_wB y bytes maxL ret1 n) (hw1 : Cond.methodLink RL index y ∈ lw_good) (hw2 : Cond.instanceMethod y ∈ lw_good) (hw3 : Cond.selects y.cls y y ∈ lw_good) (hci : pz_cl[ci]? = some (y.cls, T, N)) (hb : Nat.blt b1 84 = true) (hK : (pz_k0 b1).1 = ci + 4)
    (hn : As.length = n) (hst : st = As.reverse ++ .ref b1 :: rest) (hcat : (rest.map fun v => v.category).sum ≤ 8) (hR : fr1 + 1 ≤ room_1.frames ∧ 8 + (maxL + 11) + lo1 ≤ room_1.locals) (hd : decode cL_law pc = .ok (.invokevirtual index, 3)) (gA : pv_al (.ref b1 :: As) = true) (g1 : pl_al rest = true) (g2 : pl_all loc = true) (kk : pl_K p l e s m b below meth c D cy (pc + 3) loc rest q kt kd1) : pl_W p l e s m b below meth c D cy σ V pc loc st := by
  intro ad M H locs ls h1 h2 h3 hP hD hS hl
  obtain ⟨q1, ho, hk⟩ := pv_cL hp
  have hMet := hM q1 ho σ M h1 h2 h3
  subst hst
  have hcw : CallW room_1 s #[Value.ref b] RL y.cls index y bytes maxL ret1 (Cond.code y bytes maxL ret1 :: lw_good) (pv_rm fr1 lo1 V) (pv_LC - pv_c V) (pv_LS - pv_s V) n :=
    ⟨callB_of n C.1.2.2.2.2 (pz_goodIn hw) rfl rfl rfl (C.1.2.2.2.2 _ hw.1) (C.1.2.2.2.2 _ hw1) hw.2.2 hR, C.1.2.2.2.2 _ hw2, C.1.2.2.2.2 _ hw3⟩
  have hpre : PreV s H y.cls (ad b1) (va_Pc ((.ref b1 :: As).map (pz_t ad)) (pz_Pre D cy ad H.size σ M)) (As.map (pz_t ad)) :=
    ⟨pz_blind, va_recv C.2.1 hP hci (pz_at (shL h1.1 b1 hb) (shK h1.1 b1 hb hK)), (pz_pre (av := .ref b1 :: As) C hP hD).2⟩
  have e9 := pl_args (ad := ad) (b := b) gA
  simp only [List.map_cons, List.cons.injEq] at e9
  have hst9 : (As.reverse ++ .ref b1 :: rest).map (pz_t (pl_a ad b)) = (As.map (pz_t ad)).reverse ++ .ref (ad b1) :: rest.map (pz_t (pl_a ad b)) := by
    rw [List.map_append, List.map_reverse, List.map_cons, e9.1, e9.2]; rfl
  exact pl_run C (pv_runV (As := As.map (pz_t ad)) (rest := rest.map (pz_t (pl_a ad b))) (b := ad b1) C.1 (hMet ad H.size) hcw hpre rfl (by rw [List.length_map]; exact hn) hl.1 hst9 (pz_room hcat) hd (pl_room h2 h3)) hk h1.1.1 g1 g2 hD hS hl kk
theorem pl_callSH (C : pz_C p s m #[Value.ref b] meth c cL_law 7 RL D cy (fun q : Nat => s.heap.size ≤ q)) {y : MethodName} {bytes : ByteArray} {maxL fr1 lo1 n index : Nat} {ret1 : Option FieldType} {hh : List (Nat × Nat × Nat × Nat)} {As rest : List Value} {o9 : Option pvO} {kt : Int → pvM → Option pvO} (hZ : pz_Z (fun q : Nat => s.heap.size ≤ q) s s.heap) (hp : cL o9 kt = some q) (hM : ∀ q1, o9 = some q1 → pv_MetH l y bytes maxL ret1 hh fr1 lo1 D cy V As q1)
    (hw0 : Cond.initialized y.cls ∈ lw_good) (hw : Cond.codeWith y bytes maxL ret1 hh ∈ lw_good) (hwd : y.cls ≠ "java/lang/invoke/MethodHandle" ∧ y.cls ≠ "java/lang/invoke/VarHandle" ∧ (parseMethodDescriptor y.desc).map (fun d => d.parameters.length) = some n) (hw1 : Cond.methodLink RL index y ∈ lw_good) (hw2 : Cond.static y ∈ lw_good)
    (hn : As.length = n) (hst : st = As.reverse ++ rest) (hcat : (rest.map fun v => v.category).sum ≤ 8) (hR : fr1 + 1 ≤ room_1.frames ∧ 8 + (maxL + 11) + lo1 ≤ room_1.locals) (hd : decode cL_law pc = .ok (.invokestatic index, 3)) (gA : pv_al As = true) (g1 : pl_al rest = true) (g2 : pl_all loc = true) (kk : pl_K p l e s m b below meth c D cy (pc + 3) loc rest q kt 1) : pl_W p l e s m b below meth c D cy σ V pc loc st := by
  intro ad M H locs ls h1 h2 h3 hP hD hS hl
  obtain ⟨q1, ho, hk⟩ := pv_cL hp
  have hMet := hM q1 ho σ M h1 h2 h3
  subst hst
  have hfree := pz_freeA C hD hS
  have hZH : pz_Z (va_A (pz_w cy ad σ M) H.size) s H := (hZ.kept (fun a g1 g2 => hS.2.1 a g1 g2)).narrow hfree
  have hG : GoodIn lw_good (va_wsS RL index y (Cond.codeWith y bytes maxL ret1 hh :: lw_good)) := by
    intro w h9
    have hm : w ∈ lw_good := by
      simp only [va_wsS, List.mem_append, List.mem_cons, List.not_mem_nil, or_false] at h9
      rcases h9 with (rfl | rfl | rfl) | rfl | h
      · exact hw1
      · exact hw2
      · exact hw0
      · exact hw
      · exact h
    exact ⟨hm, good_of_word (lw_good_ok hm)⟩
  have hpre : PreS s H (va_Pc (As.map (pz_t ad)) (pz_PreX D cy ad H.size σ M)) (As.map (pz_t ad)) :=
    ⟨pz_blindX, fun U hU hW => ⟨rfl, ((pz_pre (av := As) C hP hD).2 U hU hW).2, by rw [hU]; exact hZH.moved hW.alike⟩⟩
  have hst9 : (As.reverse ++ rest).map (pz_t (pl_a ad b)) = (As.map (pz_t ad)).reverse ++ rest.map (pz_t (pl_a ad b)) := by
    rw [List.map_append, List.map_reverse, pl_args gA]
  exact pl_run C (pv_runSW (As := As.map (pz_t ad)) (rest := rest.map (pz_t (pl_a ad b))) C.1 (hMet ad H.size) (vx_cwSW n C.1.2.2.2.2 hG rfl rfl rfl hwd hR) hpre rfl (by rw [List.length_map]; exact hn) hl.1 hst9 (pz_room hcat) hd (pl_room h2 h3)) hk h1.1.1 g1 g2 hD hS hl kk
end PLR
