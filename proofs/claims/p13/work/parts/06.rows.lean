/-! THE WALK OVER PURE WORLDS -/
def pz_nests : List (String × Nat × MethodName × String) := [("FeatureDesugarer", 11, ⟨"FeatureDesugarer$Program", "<init>", "()V"⟩, "FeatureDesugarer"), ("FeatureDesugarer$Program", 11, ⟨"FeatureDesugarer$Recipes", "<init>", "()V"⟩, "FeatureDesugarer"), ("FeatureDesugarer$PlainCode", 11, ⟨"FeatureDesugarer$Instructions", "<init>", "()V"⟩, "FeatureDesugarer"), ("FeatureDesugarer$Machine", 11, ⟨"FeatureDesugarer$Frames", "<init>", "()V"⟩, "FeatureDesugarer"), ("FeatureDesugarer$Machine", 20, ⟨"FeatureDesugarer$Holders", "<init>", "()V"⟩, "FeatureDesugarer"), ("FeatureDesugarer$Machine", 27, ⟨"FeatureDesugarer$Texts", "<init>", "()V"⟩, "FeatureDesugarer"), ("FeatureDesugarer$Machine", 90, ⟨"FeatureDesugarer", "valueOf", "(II)J"⟩, "FeatureDesugarer"), ("FeatureDesugarer$Machine", 60, ⟨"FeatureDesugarer", "kindOf", "(J)I"⟩, "FeatureDesugarer"), ("FeatureDesugarer$Machine", 67, ⟨"FeatureDesugarer", "contentOf", "(J)I"⟩, "FeatureDesugarer"), ("FeatureDesugarer$Texts", 71, ⟨"FeatureDesugarer", "kindOf", "(J)I"⟩, "FeatureDesugarer"), ("FeatureDesugarer$Texts", 75, ⟨"FeatureDesugarer", "contentOf", "(J)I"⟩, "FeatureDesugarer"), ("FeatureDesugarer$Holders", 28, ⟨"FeatureDesugarer", "valueOf", "(II)J"⟩, "FeatureDesugarer"), ("FeatureDesugarer$Texts", 37, ⟨"FeatureDesugarer", "valueOf", "(II)J"⟩, "FeatureDesugarer")]
def lw_face : List Cond := lw_tbl.filter (fun w => w.onTables && w.keepsFace)
theorem lw_face_in {w : Cond} (h : w ∈ lw_tbl) (hg : (w.onTables && w.keepsFace) = true) : w ∈ lw_face := List.mem_filter.mpr ⟨h, hg⟩
def pz_N (U : State) : Prop := (∀ q ∈ pz_nests, va_Nw (.methodLinkNest q.1 q.2.1 q.2.2.1 q.2.2.2) U) ∧ ∀ w ∈ lw_face, va_Nw w U
theorem pz_N.warm {s U : State} (hW : s.WarmedH U.vm) (h : pz_N s) : pz_N U := ⟨fun q hq => va_Nw.warmM hW (h.1 q hq), fun w hw => by
  have hk := (List.mem_filter.mp hw).2
  simp only [Bool.and_eq_true] at hk
  have h1 : w.before #[] (s.setVm U.vm) = true := Cond.before_shiftedFace (State.Shifted.of_warmed hW) w hk.2 (h.2 w hw)
  exact va_tabs hk.1 (rfl : (s.setVm U.vm).vm = U.vm) h1⟩
theorem pz_N.same {u U : State} (he : u.vm = U.vm) (h : pz_N u) : pz_N U := ⟨fun q hq => va_Nw.same rfl he (h.1 q hq), fun w hw => by
  have hk := (List.mem_filter.mp hw).2
  simp only [Bool.and_eq_true] at hk
  exact va_Nw.same hk.1 he (h.2 w hw)⟩
theorem pz_N.use {w : Cond} {args : Array Value} {U : State} (h : pz_N U) (hw : w ∈ lw_face) : w.before args U = true := by
  have hk := (List.mem_filter.mp hw).2
  simp only [Bool.and_eq_true] at hk
  exact va_Nw.use hk.1 (h.2 w hw)
def pz_C (p : Program) (s : State) (m : MethodId) (args : Array Value) (meth : Method) (c : Code) (cc : ByteArray) (nL : Nat) (own : String) (D : va_G) (cy : Nat → ClassId) (A : Nat → Prop) : Prop :=
  (p.tables.exec = Jvm.exec ∧ c.code = cc ∧ c.maxLocals = nL ∧ s.vm.findClass own = some m.cls ∧ ∀ w ∈ lw_good, w.before args s = true) ∧ va_K D pz_cl (pz_tys cy) s ∧ (∀ q, s.heap.size ≤ q → A q) ∧ meth.locks = false ∧ pz_N s
def pz_W (p : Program) (l : Launch) (e : Env) (R : Room) (s : State) (m : MethodId) (args : Array Value) (below : List Frame) (meth : Method) (c : Code) (nL : Nat) (D : va_G) (cy : Nat → ClassId) (A : Nat → Prop) (n0 : Nat) (ad0 : Nat → Nat) (Q : State → Prop)
    (σ : pzS) (M : pzM) (cells slots pc : Nat) (loc : List (Nat × Value)) (st : List Value) : Prop :=
  ∀ (ad : Nat → Nat) (H : Heap) (locs : List Loc) (ls : Array Slot), (∀ i, i < n0 → ad i = ad0 i) → va_P D pz_cl (pz_w cy ad σ M) H → va_D A (pz_w cy ad σ M) → va_S A s.heap H locs → lv_has ls nL (loc.map (pz_p ad)) →
    W p l e R s m args below meth c H locs cells slots Q (F0 m pc ls (st.map (pz_t ad)))
theorem pz_loc {ls : Array Slot} {nL : Nat} {loc : List (Nat × Value)} {ad : Nat → Nat} (h : lv_has ls nL (loc.map (pz_p ad))) {k i : Nat} {v : Value} (hk : loc[k]? = some (i, v)) : ls[i]? = some (.val (pz_t ad v)) :=
  lv_at h k (by rw [List.getElem?_map, hk]; rfl)
def pz_f1 (i : Nat) (loc : List (Nat × Value)) : List (Nat × Value) := loc.filter (fun q => !(q.1 == i) && !(q.1 + 1 == i && q.2.category == 2))
def pz_f2 (i : Nat) (loc : List (Nat × Value)) : List (Nat × Value) := loc.filter (fun q => !(q.1 == i) && (!(q.1 == i + 1) && !(q.1 + 1 == i && q.2.category == 2)))
theorem pz_f1_map (ad : Nat → Nat) (i : Nat) (loc : List (Nat × Value)) : (loc.map (pz_p ad)).filter (fun q => !(q.1 == i) && !(q.1 + 1 == i && q.2.category == 2)) = (pz_f1 i loc).map (pz_p ad) := by
  induction loc with
  | nil => rfl
  | cons a t ih =>
    have hc := pz_t_cat ad a.2
    unfold pz_f1 at ih ⊢
    simp only [List.map_cons, List.filter_cons, pz_p, hc]
    split <;> simp only [List.map_cons, ih]
theorem pz_f2_map (ad : Nat → Nat) (i : Nat) (loc : List (Nat × Value)) : (loc.map (pz_p ad)).filter (fun q => !(q.1 == i) && (!(q.1 == i + 1) && !(q.1 + 1 == i && q.2.category == 2))) = (pz_f2 i loc).map (pz_p ad) := by
  induction loc with
  | nil => rfl
  | cons a t ih =>
    have hc := pz_t_cat ad a.2
    unfold pz_f2 at ih ⊢
    simp only [List.map_cons, List.filter_cons, pz_p, hc]
    split <;> simp only [List.map_cons, ih]
section PZH
variable {cy : Nat → ClassId} {ad : Nat → Nat} {σ : pzS} {M : pzM} {i ci k : Nat}
theorem pz_at (hi : i < σ.1) (hK : (σ.2.1 i).1 = ci + 4) : (pz_w cy ad σ M)[i]? = some (ad i, .inr (ci, pz_fs ad σ M i 0 (pz_ft ci))) := by
  rw [pz_w_get hi]; unfold pz_e; rw [hK]
theorem pz_ar0 (hi : i < σ.1) (hK : (σ.2.1 i).1 = 0) : (pz_w cy ad σ M)[i]? = some (ad i, .inl (cy 0, (σ.2.1 i).2, .inl (M.1 i))) := by
  rw [pz_w_get hi]; unfold pz_e; rw [hK]
theorem pz_ar1 (hi : i < σ.1) (hK : (σ.2.1 i).1 = 1) : (pz_w cy ad σ M)[i]? = some (ad i, .inl (cy 1, (σ.2.1 i).2, .inl (M.1 i))) := by
  rw [pz_w_get hi]; unfold pz_e; rw [hK]
theorem pz_ar2 (hi : i < σ.1) (hK : (σ.2.1 i).1 = 2) : (pz_w cy ad σ M)[i]? = some (ad i, .inl (cy 2, (σ.2.1 i).2, .inr (.inl (M.2 i)))) := by
  rw [pz_w_get hi]; unfold pz_e; rw [hK]
theorem pz_ar3 (hi : i < σ.1) (hK : (σ.2.1 i).1 = 3) : (pz_w cy ad σ M)[i]? = some (ad i, .inl (cy 3, (σ.2.1 i).2, .inl (M.1 i))) := by
  rw [pz_w_get hi]; unfold pz_e; rw [hK]
theorem pz_setI {x : Int32} (hi : i < σ.1) (hK : (σ.2.1 i).1 = ci + 4) (hft : (pz_ft ci)[k]? = some 0) : (pz_w cy ad σ M).set i (ad i, .inr (ci, (pz_fs ad σ M i 0 (pz_ft ci)).set k (.int x))) = pz_w cy ad σ (pz_u M.1 i k x, M.2) := by
  refine pz_w_set rfl hi ?_ (fun j _ hj => pz_e_off rfl (pz_u_off _ _ _ hj).symm rfl rfl)
  unfold pz_e; rw [hK]
  refine congrArg (fun z => Sum.inr (ci, z)) (pz_fs_set _ 0 k 0 hft ?_ ?_).symm
  · simp [pz_v, pz_u_eq]
  · intro j u hj hu
    unfold pz_v
    rw [Nat.zero_add, show (pz_u M.1 i k x, M.2).1 i j = M.1 i j from pz_u_ne _ _ (Or.inr hj)]
theorem pz_setJ {x : Int64} (hi : i < σ.1) (hK : (σ.2.1 i).1 = ci + 4) (hft : (pz_ft ci)[k]? = some 1) : (pz_w cy ad σ M).set i (ad i, .inr (ci, (pz_fs ad σ M i 0 (pz_ft ci)).set k (.long x))) = pz_w cy ad σ (M.1, pz_u M.2 i k x) := by
  refine pz_w_set rfl hi ?_ (fun j _ hj => pz_e_off rfl rfl (pz_u_off _ _ _ hj).symm rfl)
  unfold pz_e; rw [hK]
  refine congrArg (fun z => Sum.inr (ci, z)) (pz_fs_set _ 0 k 1 hft ?_ ?_).symm
  · simp [pz_v, pz_u_eq]
  · intro j u hj hu
    unfold pz_v
    rw [Nat.zero_add, show (M.1, pz_u M.2 i k x).2 i j = M.2 i j from pz_u_ne _ _ (Or.inr hj)]
theorem pz_setR {b : Nat} (hi : i < σ.1) (hK : (σ.2.1 i).1 = ci + 4) (hft : (pz_ft ci)[k]? = some 2) : (pz_w cy ad σ M).set i (ad i, .inr (ci, (pz_fs ad σ M i 0 (pz_ft ci)).set k (.ref (ad b)))) = pz_w cy ad (σ.1, σ.2.1, pz_u σ.2.2 i k (some b)) M := by
  refine pz_w_set rfl hi ?_ (fun j _ hj => pz_e_off rfl rfl rfl (pz_u_off _ _ _ hj).symm)
  unfold pz_e; rw [hK]
  refine congrArg (fun z => Sum.inr (ci, z)) (pz_fs_set _ 0 k 2 hft ?_ ?_).symm
  · simp [pz_v, pz_u_eq, va_rf]
  · intro j u hj hu
    unfold pz_v
    rw [Nat.zero_add, show ((σ.1, σ.2.1, pz_u σ.2.2 i k (some b)) : pzS).2.2 i j = σ.2.2 i j from pz_u_ne _ _ (Or.inr hj)]
theorem pz_as0 {j : Nat} {y : Int32} (hi : i < σ.1) (hK : (σ.2.1 i).1 = 0) : (pz_w cy ad σ M).set i (ad i, .inl (cy 0, (σ.2.1 i).2, .inl (upd (M.1 i) j (vp_nar .byte y)))) = pz_w cy ad σ (pz_u M.1 i j (vp_nar .byte y), M.2) := by
  refine pz_w_set rfl hi ?_ (fun j _ hj => pz_e_off rfl (pz_u_off _ _ _ hj).symm rfl rfl)
  unfold pz_e; rw [hK]
  show Sum.inl (cy 0, (σ.2.1 i).2, Sum.inl (pz_u M.1 i j _ i)) = _
  rw [pz_u_row]; rfl
theorem pz_as1 {j : Nat} {y : Int32} (hi : i < σ.1) (hK : (σ.2.1 i).1 = 1) : (pz_w cy ad σ M).set i (ad i, .inl (cy 1, (σ.2.1 i).2, .inl (upd (M.1 i) j y))) = pz_w cy ad σ (pz_u M.1 i j y, M.2) := by
  refine pz_w_set rfl hi ?_ (fun j _ hj => pz_e_off rfl (pz_u_off _ _ _ hj).symm rfl rfl)
  unfold pz_e; rw [hK]
  show Sum.inl (cy 1, (σ.2.1 i).2, Sum.inl (pz_u M.1 i j _ i)) = _
  rw [pz_u_row]; rfl
theorem pz_as3 {j : Nat} {y : Int32} (hi : i < σ.1) (hK : (σ.2.1 i).1 = 3) : (pz_w cy ad σ M).set i (ad i, .inl (cy 3, (σ.2.1 i).2, .inl (upd (M.1 i) j (vp_nar .boolean y)))) = pz_w cy ad σ (pz_u M.1 i j (vp_nar .boolean y), M.2) := by
  refine pz_w_set rfl hi ?_ (fun j _ hj => pz_e_off rfl (pz_u_off _ _ _ hj).symm rfl rfl)
  unfold pz_e; rw [hK]
  show Sum.inl (cy 3, (σ.2.1 i).2, Sum.inl (pz_u M.1 i j _ i)) = _
  rw [pz_u_row]; rfl
theorem pz_as2 {j : Nat} {y : Int64} (hi : i < σ.1) (hK : (σ.2.1 i).1 = 2) : (pz_w cy ad σ M).set i (ad i, .inl (cy 2, (σ.2.1 i).2, .inr (.inl (vp_updL (M.2 i) j y)))) = pz_w cy ad σ (M.1, pz_u M.2 i j y) := by
  refine pz_w_set rfl hi ?_ (fun j _ hj => pz_e_off rfl rfl (pz_u_off _ _ _ hj).symm rfl)
  unfold pz_e; rw [hK]
  show Sum.inl (cy 2, (σ.2.1 i).2, Sum.inr (Sum.inl (pz_u M.2 i j _ i))) = _
  rw [pz_u_row]; rfl
end PZH
section PZR
variable {p : Program} {l : Launch} {e : Env} {R : Room} {s : State} {m : MethodId} {args : Array Value} {below : List Frame} {meth : Method} {c : Code} {cc : ByteArray} {nL : Nat} {own : String} {D : va_G} {cy : Nat → ClassId} {A : Nat → Prop} {n0 : Nat} {ad0 : Nat → Nat} {Q : State → Prop} {σ : pzS} {M : pzM} {cells slots pc : Nat} {loc loc' : List (Nat × Value)} {st : List Value}
theorem pz_iconst (C : pz_C p s m args meth c cc nL own D cy A) {n : Int} {v : Int32} (hd : decode cc pc = .ok (.iconst n, 1)) (hv : Int32.ofInt n = v) (k : pz_W p l e R s m args below meth c nL D cy A n0 ad0 Q σ M cells slots (pc + 1) loc (.int v :: st)) : pz_W p l e R s m args below meth c nL D cy A n0 ad0 Q σ M cells slots pc loc st :=
  fun ad H locs ls ha hP hD hS hl => lv_iconst C.1.1 C.1.2.1 hd hv (k ad H locs ls ha hP hD hS hl)
theorem pz_bipush (C : pz_C p s m args meth c cc nL own D cy A) {n : Int} {v : Int32} (hd : decode cc pc = .ok (.bipush n, 2)) (hv : (Int8.ofInt n).toInt32 = v) (k : pz_W p l e R s m args below meth c nL D cy A n0 ad0 Q σ M cells slots (pc + 2) loc (.int v :: st)) : pz_W p l e R s m args below meth c nL D cy A n0 ad0 Q σ M cells slots pc loc st :=
  fun ad H locs ls ha hP hD hS hl => lv_bipush C.1.1 C.1.2.1 hd hv (k ad H locs ls ha hP hD hS hl)
theorem pz_sipush (C : pz_C p s m args meth c cc nL own D cy A) {n : Int} {v : Int32} (hd : decode cc pc = .ok (.sipush n, 3)) (hv : (Int16.ofInt n).toInt32 = v) (k : pz_W p l e R s m args below meth c nL D cy A n0 ad0 Q σ M cells slots (pc + 3) loc (.int v :: st)) : pz_W p l e R s m args below meth c nL D cy A n0 ad0 Q σ M cells slots pc loc st :=
  fun ad H locs ls ha hP hD hS hl => lv_sipush C.1.1 C.1.2.1 hd hv (k ad H locs ls ha hP hD hS hl)
theorem pz_lconst (C : pz_C p s m args meth c cc nL own D cy A) {n : Fin 2} {v : Int64} (hd : decode cc pc = .ok (.lconst n, 1)) (hv : Int64.ofNat (n : Nat) = v) (k : pz_W p l e R s m args below meth c nL D cy A n0 ad0 Q σ M cells slots (pc + 1) loc (.long v :: st)) : pz_W p l e R s m args below meth c nL D cy A n0 ad0 Q σ M cells slots pc loc st :=
  fun ad H locs ls ha hP hD hS hl => lv_lconst C.1.1 C.1.2.1 hd hv (k ad H locs ls ha hP hD hS hl)
theorem pz_iload_n (C : pz_C p s m args meth c cc nL own D cy A) {j : Fin 4} {x : Int32} (q : Nat) (hd : decode cc pc = .ok (.iload_n j, 1)) (hq : loc[q]? = some ((j : Nat), .int x)) (k : pz_W p l e R s m args below meth c nL D cy A n0 ad0 Q σ M cells slots (pc + 1) loc (.int x :: st)) : pz_W p l e R s m args below meth c nL D cy A n0 ad0 Q σ M cells slots pc loc st :=
  fun ad H locs ls ha hP hD hS hl => lv_iload_n C.1.1 C.1.2.1 hd rfl (pz_loc hl hq) (k ad H locs ls ha hP hD hS hl)
theorem pz_iload (C : pz_C p s m args meth c cc nL own D cy A) {j : Nat} {x : Int32} (q : Nat) (hd : decode cc pc = .ok (.iload j, 2)) (hq : loc[q]? = some (j, .int x)) (k : pz_W p l e R s m args below meth c nL D cy A n0 ad0 Q σ M cells slots (pc + 2) loc (.int x :: st)) : pz_W p l e R s m args below meth c nL D cy A n0 ad0 Q σ M cells slots pc loc st :=
  fun ad H locs ls ha hP hD hS hl => lv_iload C.1.1 C.1.2.1 hd (pz_loc hl hq) (k ad H locs ls ha hP hD hS hl)
theorem pz_istore_n (C : pz_C p s m args meth c cc nL own D cy A) {j : Fin 4} {x : Int32} (hd : decode cc pc = .ok (.istore_n j, 1)) (hn : (j : Nat) < nL) (hq : ((j : Nat), Value.int x) :: pz_f1 j loc = loc') (k : pz_W p l e R s m args below meth c nL D cy A n0 ad0 Q σ M cells slots (pc + 1) loc' st) : pz_W p l e R s m args below meth c nL D cy A n0 ad0 Q σ M cells slots pc loc (.int x :: st) :=
  fun ad H locs ls ha hP hD hS hl => lv_istore_n C.1.1 C.1.2.1 hd rfl hl hn (by rw [← hq, pz_f1_map]; rfl) (fun ls1 hl1 => k ad H locs ls1 ha hP hD hS hl1)
theorem pz_istore (C : pz_C p s m args meth c cc nL own D cy A) {j : Nat} {x : Int32} (hd : decode cc pc = .ok (.istore j, 2)) (hn : j < nL) (hq : (j, Value.int x) :: pz_f1 j loc = loc') (k : pz_W p l e R s m args below meth c nL D cy A n0 ad0 Q σ M cells slots (pc + 2) loc' st) : pz_W p l e R s m args below meth c nL D cy A n0 ad0 Q σ M cells slots pc loc (.int x :: st) :=
  fun ad H locs ls ha hP hD hS hl => lv_istore C.1.1 C.1.2.1 hd hl hn (by rw [← hq, pz_f1_map]; rfl) (fun ls1 hl1 => k ad H locs ls1 ha hP hD hS hl1)
theorem pz_lload_n (C : pz_C p s m args meth c cc nL own D cy A) {j : Fin 4} {x : Int64} (q : Nat) (hd : decode cc pc = .ok (.lload_n j, 1)) (hq : loc[q]? = some ((j : Nat), .long x)) (k : pz_W p l e R s m args below meth c nL D cy A n0 ad0 Q σ M cells slots (pc + 1) loc (.long x :: st)) : pz_W p l e R s m args below meth c nL D cy A n0 ad0 Q σ M cells slots pc loc st :=
  fun ad H locs ls ha hP hD hS hl => lv_lload_n C.1.1 C.1.2.1 hd rfl (pz_loc hl hq) (k ad H locs ls ha hP hD hS hl)
theorem pz_lload (C : pz_C p s m args meth c cc nL own D cy A) {j : Nat} {x : Int64} (q : Nat) (hd : decode cc pc = .ok (.lload j, 2)) (hq : loc[q]? = some (j, .long x)) (k : pz_W p l e R s m args below meth c nL D cy A n0 ad0 Q σ M cells slots (pc + 2) loc (.long x :: st)) : pz_W p l e R s m args below meth c nL D cy A n0 ad0 Q σ M cells slots pc loc st :=
  fun ad H locs ls ha hP hD hS hl => lv_lload C.1.1 C.1.2.1 hd (pz_loc hl hq) (k ad H locs ls ha hP hD hS hl)
theorem pz_lstore_n (C : pz_C p s m args meth c cc nL own D cy A) {j : Fin 4} {x : Int64} (hd : decode cc pc = .ok (.lstore_n j, 1)) (hn : (j : Nat) + 1 < nL) (hq : ((j : Nat), Value.long x) :: pz_f2 j loc = loc') (k : pz_W p l e R s m args below meth c nL D cy A n0 ad0 Q σ M cells slots (pc + 1) loc' st) : pz_W p l e R s m args below meth c nL D cy A n0 ad0 Q σ M cells slots pc loc (.long x :: st) :=
  fun ad H locs ls ha hP hD hS hl => lv_lstore_n C.1.1 C.1.2.1 hd rfl hl hn (by rw [← hq, pz_f2_map]; rfl) (fun ls1 hl1 => k ad H locs ls1 ha hP hD hS hl1)
theorem pz_lstore (C : pz_C p s m args meth c cc nL own D cy A) {j : Nat} {x : Int64} (hd : decode cc pc = .ok (.lstore j, 2)) (hn : j + 1 < nL) (hq : (j, Value.long x) :: pz_f2 j loc = loc') (k : pz_W p l e R s m args below meth c nL D cy A n0 ad0 Q σ M cells slots (pc + 2) loc' st) : pz_W p l e R s m args below meth c nL D cy A n0 ad0 Q σ M cells slots pc loc (.long x :: st) :=
  fun ad H locs ls ha hP hD hS hl => lv_lstore C.1.1 C.1.2.1 hd hl hn (by rw [← hq, pz_f2_map]; rfl) (fun ls1 hl1 => k ad H locs ls1 ha hP hD hS hl1)
theorem pz_aload_n (C : pz_C p s m args meth c cc nL own D cy A) {j : Fin 4} {x : Nat} (q : Nat) (hd : decode cc pc = .ok (.aload_n j, 1)) (hq : loc[q]? = some ((j : Nat), .ref x)) (k : pz_W p l e R s m args below meth c nL D cy A n0 ad0 Q σ M cells slots (pc + 1) loc (.ref x :: st)) : pz_W p l e R s m args below meth c nL D cy A n0 ad0 Q σ M cells slots pc loc st :=
  fun ad H locs ls ha hP hD hS hl => lv_aload_n C.1.1 C.1.2.1 hd rfl (pz_loc hl hq) (k ad H locs ls ha hP hD hS hl)
theorem pz_aload (C : pz_C p s m args meth c cc nL own D cy A) {j : Nat} {x : Nat} (q : Nat) (hd : decode cc pc = .ok (.aload j, 2)) (hq : loc[q]? = some (j, .ref x)) (k : pz_W p l e R s m args below meth c nL D cy A n0 ad0 Q σ M cells slots (pc + 2) loc (.ref x :: st)) : pz_W p l e R s m args below meth c nL D cy A n0 ad0 Q σ M cells slots pc loc st :=
  fun ad H locs ls ha hP hD hS hl => lv_aload C.1.1 C.1.2.1 hd (pz_loc hl hq) (k ad H locs ls ha hP hD hS hl)
theorem pz_astore_n (C : pz_C p s m args meth c cc nL own D cy A) {j : Fin 4} {x : Nat} (hd : decode cc pc = .ok (.astore_n j, 1)) (hn : (j : Nat) < nL) (hq : ((j : Nat), Value.ref x) :: pz_f1 j loc = loc') (k : pz_W p l e R s m args below meth c nL D cy A n0 ad0 Q σ M cells slots (pc + 1) loc' st) : pz_W p l e R s m args below meth c nL D cy A n0 ad0 Q σ M cells slots pc loc (.ref x :: st) :=
  fun ad H locs ls ha hP hD hS hl => lv_astore_n C.1.1 C.1.2.1 hd rfl hl hn (by rw [← hq, pz_f1_map]; rfl) (fun ls1 hl1 => k ad H locs ls1 ha hP hD hS hl1)
theorem pz_astore (C : pz_C p s m args meth c cc nL own D cy A) {j : Nat} {x : Nat} (hd : decode cc pc = .ok (.astore j, 2)) (hn : j < nL) (hq : (j, Value.ref x) :: pz_f1 j loc = loc') (k : pz_W p l e R s m args below meth c nL D cy A n0 ad0 Q σ M cells slots (pc + 2) loc' st) : pz_W p l e R s m args below meth c nL D cy A n0 ad0 Q σ M cells slots pc loc (.ref x :: st) :=
  fun ad H locs ls ha hP hD hS hl => lv_astore C.1.1 C.1.2.1 hd hl hn (by rw [← hq, pz_f1_map]; rfl) (fun ls1 hl1 => k ad H locs ls1 ha hP hD hS hl1)
theorem pz_iinc (C : pz_C p s m args meth c cc nL own D cy A) {j : Nat} {n : Int} {x v : Int32} (q : Nat) (hd : decode cc pc = .ok (.iinc j n, 3)) (hk : loc[q]? = some (j, .int x)) (hv : x + Int32.ofInt n = v) (hn : j < nL) (hq : (j, Value.int v) :: pz_f1 j loc = loc') (k : pz_W p l e R s m args below meth c nL D cy A n0 ad0 Q σ M cells slots (pc + 3) loc' st) : pz_W p l e R s m args below meth c nL D cy A n0 ad0 Q σ M cells slots pc loc st :=
  fun ad H locs ls ha hP hD hS hl => lv_iinc C.1.1 C.1.2.1 hd hl (k := q) (by rw [List.getElem?_map, hk]; rfl) hv hn (by rw [← hq, pz_f1_map]; rfl) (fun ls1 hl1 => k ad H locs ls1 ha hP hD hS hl1)
theorem pz_iadd (C : pz_C p s m args meth c cc nL own D cy A) {x y : Int32} (hd : decode cc pc = .ok (.iadd, 1))  (k : pz_W p l e R s m args below meth c nL D cy A n0 ad0 Q σ M cells slots (pc + 1) loc (.int (x + y) :: st)) : pz_W p l e R s m args below meth c nL D cy A n0 ad0 Q σ M cells slots pc loc (.int y :: .int x :: st) :=
  fun ad H locs ls ha hP hD hS hl => lv_iadd C.1.1 C.1.2.1 hd  (k ad H locs ls ha hP hD hS hl)
theorem pz_isub (C : pz_C p s m args meth c cc nL own D cy A) {x y : Int32} (hd : decode cc pc = .ok (.isub, 1))  (k : pz_W p l e R s m args below meth c nL D cy A n0 ad0 Q σ M cells slots (pc + 1) loc (.int (x - y) :: st)) : pz_W p l e R s m args below meth c nL D cy A n0 ad0 Q σ M cells slots pc loc (.int y :: .int x :: st) :=
  fun ad H locs ls ha hP hD hS hl => lv_isub C.1.1 C.1.2.1 hd  (k ad H locs ls ha hP hD hS hl)
theorem pz_imul (C : pz_C p s m args meth c cc nL own D cy A) {x y : Int32} (hd : decode cc pc = .ok (.imul, 1))  (k : pz_W p l e R s m args below meth c nL D cy A n0 ad0 Q σ M cells slots (pc + 1) loc (.int (x * y) :: st)) : pz_W p l e R s m args below meth c nL D cy A n0 ad0 Q σ M cells slots pc loc (.int y :: .int x :: st) :=
  fun ad H locs ls ha hP hD hS hl => lv_imul C.1.1 C.1.2.1 hd  (k ad H locs ls ha hP hD hS hl)
theorem pz_iand (C : pz_C p s m args meth c cc nL own D cy A) {x y : Int32} (hd : decode cc pc = .ok (.iand, 1))  (k : pz_W p l e R s m args below meth c nL D cy A n0 ad0 Q σ M cells slots (pc + 1) loc (.int (x &&& y) :: st)) : pz_W p l e R s m args below meth c nL D cy A n0 ad0 Q σ M cells slots pc loc (.int y :: .int x :: st) :=
  fun ad H locs ls ha hP hD hS hl => lv_iand C.1.1 C.1.2.1 hd  (k ad H locs ls ha hP hD hS hl)
theorem pz_ladd (C : pz_C p s m args meth c cc nL own D cy A) {x y : Int64} (hd : decode cc pc = .ok (.ladd, 1))  (k : pz_W p l e R s m args below meth c nL D cy A n0 ad0 Q σ M cells slots (pc + 1) loc (.long (x + y) :: st)) : pz_W p l e R s m args below meth c nL D cy A n0 ad0 Q σ M cells slots pc loc (.long y :: .long x :: st) :=
  fun ad H locs ls ha hP hD hS hl => lv_ladd C.1.1 C.1.2.1 hd  (k ad H locs ls ha hP hD hS hl)
theorem pz_lsub (C : pz_C p s m args meth c cc nL own D cy A) {x y : Int64} (hd : decode cc pc = .ok (.lsub, 1))  (k : pz_W p l e R s m args below meth c nL D cy A n0 ad0 Q σ M cells slots (pc + 1) loc (.long (x - y) :: st)) : pz_W p l e R s m args below meth c nL D cy A n0 ad0 Q σ M cells slots pc loc (.long y :: .long x :: st) :=
  fun ad H locs ls ha hP hD hS hl => lv_lsub C.1.1 C.1.2.1 hd  (k ad H locs ls ha hP hD hS hl)
theorem pz_lmul (C : pz_C p s m args meth c cc nL own D cy A) {x y : Int64} (hd : decode cc pc = .ok (.lmul, 1))  (k : pz_W p l e R s m args below meth c nL D cy A n0 ad0 Q σ M cells slots (pc + 1) loc (.long (x * y) :: st)) : pz_W p l e R s m args below meth c nL D cy A n0 ad0 Q σ M cells slots pc loc (.long y :: .long x :: st) :=
  fun ad H locs ls ha hP hD hS hl => lv_lmul C.1.1 C.1.2.1 hd  (k ad H locs ls ha hP hD hS hl)
theorem pz_land (C : pz_C p s m args meth c cc nL own D cy A) {x y : Int64} (hd : decode cc pc = .ok (.land, 1))  (k : pz_W p l e R s m args below meth c nL D cy A n0 ad0 Q σ M cells slots (pc + 1) loc (.long (x &&& y) :: st)) : pz_W p l e R s m args below meth c nL D cy A n0 ad0 Q σ M cells slots pc loc (.long y :: .long x :: st) :=
  fun ad H locs ls ha hP hD hS hl => lv_land C.1.1 C.1.2.1 hd  (k ad H locs ls ha hP hD hS hl)
theorem pz_lor (C : pz_C p s m args meth c cc nL own D cy A) {x y : Int64} (hd : decode cc pc = .ok (.lor, 1))  (k : pz_W p l e R s m args below meth c nL D cy A n0 ad0 Q σ M cells slots (pc + 1) loc (.long (x ||| y) :: st)) : pz_W p l e R s m args below meth c nL D cy A n0 ad0 Q σ M cells slots pc loc (.long y :: .long x :: st) :=
  fun ad H locs ls ha hP hD hS hl => lv_lor C.1.1 C.1.2.1 hd  (k ad H locs ls ha hP hD hS hl)
theorem pz_lcmp (C : pz_C p s m args meth c cc nL own D cy A) {x y : Int64} (hd : decode cc pc = .ok (.lcmp, 1))  (k : pz_W p l e R s m args below meth c nL D cy A n0 ad0 Q σ M cells slots (pc + 1) loc (.int (lg_cmp x y) :: st)) : pz_W p l e R s m args below meth c nL D cy A n0 ad0 Q σ M cells slots pc loc (.long y :: .long x :: st) :=
  fun ad H locs ls ha hP hD hS hl => W.lcmp C.1.1 C.1.2.1 hd  (k ad H locs ls ha hP hD hS hl)
theorem pz_i2l (C : pz_C p s m args meth c cc nL own D cy A) {x : Int32} (hd : decode cc pc = .ok (.i2l, 1))  (k : pz_W p l e R s m args below meth c nL D cy A n0 ad0 Q σ M cells slots (pc + 1) loc (.long x.toInt64 :: st)) : pz_W p l e R s m args below meth c nL D cy A n0 ad0 Q σ M cells slots pc loc (.int x :: st) :=
  fun ad H locs ls ha hP hD hS hl => lv_i2l C.1.1 C.1.2.1 hd rfl (k ad H locs ls ha hP hD hS hl)
theorem pz_l2i (C : pz_C p s m args meth c cc nL own D cy A) {x : Int64} (hd : decode cc pc = .ok (.l2i, 1))  (k : pz_W p l e R s m args below meth c nL D cy A n0 ad0 Q σ M cells slots (pc + 1) loc (.int x.toInt32 :: st)) : pz_W p l e R s m args below meth c nL D cy A n0 ad0 Q σ M cells slots pc loc (.long x :: st) :=
  fun ad H locs ls ha hP hD hS hl => lv_l2i C.1.1 C.1.2.1 hd rfl (k ad H locs ls ha hP hD hS hl)
theorem pz_i2b (C : pz_C p s m args meth c cc nL own D cy A) {x : Int32} (hd : decode cc pc = .ok (.i2b, 1))  (k : pz_W p l e R s m args below meth c nL D cy A n0 ad0 Q σ M cells slots (pc + 1) loc (.int x.toInt8.toInt32 :: st)) : pz_W p l e R s m args below meth c nL D cy A n0 ad0 Q σ M cells slots pc loc (.int x :: st) :=
  fun ad H locs ls ha hP hD hS hl => lv_i2b C.1.1 C.1.2.1 hd rfl (k ad H locs ls ha hP hD hS hl)
theorem pz_lshr (C : pz_C p s m args meth c cc nL own D cy A) {x : Int64} {y : Int32} (hd : decode cc pc = .ok (.lshr, 1))  (k : pz_W p l e R s m args below meth c nL D cy A n0 ad0 Q σ M cells slots (pc + 1) loc (.long (x >>> (y.toInt64 &&& 63)) :: st)) : pz_W p l e R s m args below meth c nL D cy A n0 ad0 Q σ M cells slots pc loc (.int y :: .long x :: st) :=
  fun ad H locs ls ha hP hD hS hl => lv_lshr C.1.1 C.1.2.1 hd rfl (k ad H locs ls ha hP hD hS hl)
theorem pz_lshl (C : pz_C p s m args meth c cc nL own D cy A) {x : Int64} {y : Int32} (hd : decode cc pc = .ok (.lshl, 1))  (k : pz_W p l e R s m args below meth c nL D cy A n0 ad0 Q σ M cells slots (pc + 1) loc (.long (x <<< (y.toInt64 &&& 63)) :: st)) : pz_W p l e R s m args below meth c nL D cy A n0 ad0 Q σ M cells slots pc loc (.int y :: .long x :: st) :=
  fun ad H locs ls ha hP hD hS hl => lv_lshl C.1.1 C.1.2.1 hd rfl (k ad H locs ls ha hP hD hS hl)
theorem pz_dup (C : pz_C p s m args meth c cc nL own D cy A) {va : Value} (hd : decode cc pc = .ok (.dup, 1)) (hv : va.category = 1) (k : pz_W p l e R s m args below meth c nL D cy A n0 ad0 Q σ M cells slots (pc + 1) loc (va :: va :: st)) : pz_W p l e R s m args below meth c nL D cy A n0 ad0 Q σ M cells slots pc loc (va :: st) :=
  fun ad H locs ls ha hP hD hS hl => lv_dup C.1.1 C.1.2.1 hd ((pz_t_cat ad va).trans hv) (k ad H locs ls ha hP hD hS hl)
theorem pz_pop (C : pz_C p s m args meth c cc nL own D cy A) {va : Value} (hd : decode cc pc = .ok (.pop, 1)) (hv : va.category = 1) (k : pz_W p l e R s m args below meth c nL D cy A n0 ad0 Q σ M cells slots (pc + 1) loc st) : pz_W p l e R s m args below meth c nL D cy A n0 ad0 Q σ M cells slots pc loc (va :: st) :=
  fun ad H locs ls ha hP hD hS hl => lv_pop C.1.1 C.1.2.1 hd ((pz_t_cat ad va).trans hv) (k ad H locs ls ha hP hD hS hl)
theorem pz_dup2 (C : pz_C p s m args meth c cc nL own D cy A) {va vb : Value} (hd : decode cc pc = .ok (.dup2, 1)) (hv : va.category = 1) (hv2 : vb.category = 1) (k : pz_W p l e R s m args below meth c nL D cy A n0 ad0 Q σ M cells slots (pc + 1) loc (va :: vb :: va :: vb :: st)) : pz_W p l e R s m args below meth c nL D cy A n0 ad0 Q σ M cells slots pc loc (va :: vb :: st) :=
  fun ad H locs ls ha hP hD hS hl => lv_dup2_11 C.1.1 C.1.2.1 hd ((pz_t_cat ad va).trans hv) ((pz_t_cat ad vb).trans hv2) (k ad H locs ls ha hP hD hS hl)
theorem pz_icmp_eq (C : pz_C p s m args meth c cc nL own D cy A) {x y : Int32} {off : Int} {tgt : Nat} (hd : decode cc pc = .ok (.if_icmp .eq off, 3)) (ht : (pc : Int) + off = (tgt : Int)) (kt : x = y → pz_W p l e R s m args below meth c nL D cy A n0 ad0 Q σ M cells slots tgt loc st) (kf : ¬ x = y → pz_W p l e R s m args below meth c nL D cy A n0 ad0 Q σ M cells slots (pc + 3) loc st) : pz_W p l e R s m args below meth c nL D cy A n0 ad0 Q σ M cells slots pc loc (.int y :: .int x :: st) :=
  fun ad H locs ls ha hP hD hS hl => lv_icmp_eq C.1.1 C.1.2.1 hd ht (fun h => kt h ad H locs ls ha hP hD hS hl) (fun h => kf h ad H locs ls ha hP hD hS hl)
theorem pz_icmp_ne (C : pz_C p s m args meth c cc nL own D cy A) {x y : Int32} {off : Int} {tgt : Nat} (hd : decode cc pc = .ok (.if_icmp .ne off, 3)) (ht : (pc : Int) + off = (tgt : Int)) (kt : x ≠ y → pz_W p l e R s m args below meth c nL D cy A n0 ad0 Q σ M cells slots tgt loc st) (kf : x = y → pz_W p l e R s m args below meth c nL D cy A n0 ad0 Q σ M cells slots (pc + 3) loc st) : pz_W p l e R s m args below meth c nL D cy A n0 ad0 Q σ M cells slots pc loc (.int y :: .int x :: st) :=
  fun ad H locs ls ha hP hD hS hl => lv_icmp_ne C.1.1 C.1.2.1 hd ht (fun h => kt h ad H locs ls ha hP hD hS hl) (fun h => kf h ad H locs ls ha hP hD hS hl)
theorem pz_icmp_lt (C : pz_C p s m args meth c cc nL own D cy A) {x y : Int32} {off : Int} {tgt : Nat} (hd : decode cc pc = .ok (.if_icmp .lt off, 3)) (ht : (pc : Int) + off = (tgt : Int)) (kt : x < y → pz_W p l e R s m args below meth c nL D cy A n0 ad0 Q σ M cells slots tgt loc st) (kf : ¬ x < y → pz_W p l e R s m args below meth c nL D cy A n0 ad0 Q σ M cells slots (pc + 3) loc st) : pz_W p l e R s m args below meth c nL D cy A n0 ad0 Q σ M cells slots pc loc (.int y :: .int x :: st) :=
  fun ad H locs ls ha hP hD hS hl => lv_icmp_lt C.1.1 C.1.2.1 hd ht (fun h => kt h ad H locs ls ha hP hD hS hl) (fun h => kf h ad H locs ls ha hP hD hS hl)
theorem pz_icmp_ge (C : pz_C p s m args meth c cc nL own D cy A) {x y : Int32} {off : Int} {tgt : Nat} (hd : decode cc pc = .ok (.if_icmp .ge off, 3)) (ht : (pc : Int) + off = (tgt : Int)) (kt : y ≤ x → pz_W p l e R s m args below meth c nL D cy A n0 ad0 Q σ M cells slots tgt loc st) (kf : ¬ y ≤ x → pz_W p l e R s m args below meth c nL D cy A n0 ad0 Q σ M cells slots (pc + 3) loc st) : pz_W p l e R s m args below meth c nL D cy A n0 ad0 Q σ M cells slots pc loc (.int y :: .int x :: st) :=
  fun ad H locs ls ha hP hD hS hl => lv_icmp_ge C.1.1 C.1.2.1 hd ht (fun h => kt h ad H locs ls ha hP hD hS hl) (fun h => kf h ad H locs ls ha hP hD hS hl)
theorem pz_icmp_gt (C : pz_C p s m args meth c cc nL own D cy A) {x y : Int32} {off : Int} {tgt : Nat} (hd : decode cc pc = .ok (.if_icmp .gt off, 3)) (ht : (pc : Int) + off = (tgt : Int)) (kt : y < x → pz_W p l e R s m args below meth c nL D cy A n0 ad0 Q σ M cells slots tgt loc st) (kf : ¬ y < x → pz_W p l e R s m args below meth c nL D cy A n0 ad0 Q σ M cells slots (pc + 3) loc st) : pz_W p l e R s m args below meth c nL D cy A n0 ad0 Q σ M cells slots pc loc (.int y :: .int x :: st) :=
  fun ad H locs ls ha hP hD hS hl => lv_icmp_gt C.1.1 C.1.2.1 hd ht (fun h => kt h ad H locs ls ha hP hD hS hl) (fun h => kf h ad H locs ls ha hP hD hS hl)
theorem pz_icmp_le (C : pz_C p s m args meth c cc nL own D cy A) {x y : Int32} {off : Int} {tgt : Nat} (hd : decode cc pc = .ok (.if_icmp .le off, 3)) (ht : (pc : Int) + off = (tgt : Int)) (kt : x ≤ y → pz_W p l e R s m args below meth c nL D cy A n0 ad0 Q σ M cells slots tgt loc st) (kf : ¬ x ≤ y → pz_W p l e R s m args below meth c nL D cy A n0 ad0 Q σ M cells slots (pc + 3) loc st) : pz_W p l e R s m args below meth c nL D cy A n0 ad0 Q σ M cells slots pc loc (.int y :: .int x :: st) :=
  fun ad H locs ls ha hP hD hS hl => lv_icmp_le C.1.1 C.1.2.1 hd ht (fun h => kt h ad H locs ls ha hP hD hS hl) (fun h => kf h ad H locs ls ha hP hD hS hl)
theorem pz_if_eq (C : pz_C p s m args meth c cc nL own D cy A) {x : Int32} {off : Int} {tgt : Nat} (hd : decode cc pc = .ok (.ifCond .eq off, 3)) (ht : (pc : Int) + off = (tgt : Int)) (kt : x = 0 → pz_W p l e R s m args below meth c nL D cy A n0 ad0 Q σ M cells slots tgt loc st) (kf : ¬ x = 0 → pz_W p l e R s m args below meth c nL D cy A n0 ad0 Q σ M cells slots (pc + 3) loc st) : pz_W p l e R s m args below meth c nL D cy A n0 ad0 Q σ M cells slots pc loc (.int x :: st) :=
  fun ad H locs ls ha hP hD hS hl => lv_if_eq C.1.1 C.1.2.1 hd ht (fun h => kt h ad H locs ls ha hP hD hS hl) (fun h => kf h ad H locs ls ha hP hD hS hl)
theorem pz_if_ne (C : pz_C p s m args meth c cc nL own D cy A) {x : Int32} {off : Int} {tgt : Nat} (hd : decode cc pc = .ok (.ifCond .ne off, 3)) (ht : (pc : Int) + off = (tgt : Int)) (kt : x ≠ 0 → pz_W p l e R s m args below meth c nL D cy A n0 ad0 Q σ M cells slots tgt loc st) (kf : x = 0 → pz_W p l e R s m args below meth c nL D cy A n0 ad0 Q σ M cells slots (pc + 3) loc st) : pz_W p l e R s m args below meth c nL D cy A n0 ad0 Q σ M cells slots pc loc (.int x :: st) :=
  fun ad H locs ls ha hP hD hS hl => lv_if_ne C.1.1 C.1.2.1 hd ht (fun h => kt h ad H locs ls ha hP hD hS hl) (fun h => kf h ad H locs ls ha hP hD hS hl)
theorem pz_if_lt (C : pz_C p s m args meth c cc nL own D cy A) {x : Int32} {off : Int} {tgt : Nat} (hd : decode cc pc = .ok (.ifCond .lt off, 3)) (ht : (pc : Int) + off = (tgt : Int)) (kt : x < 0 → pz_W p l e R s m args below meth c nL D cy A n0 ad0 Q σ M cells slots tgt loc st) (kf : ¬ x < 0 → pz_W p l e R s m args below meth c nL D cy A n0 ad0 Q σ M cells slots (pc + 3) loc st) : pz_W p l e R s m args below meth c nL D cy A n0 ad0 Q σ M cells slots pc loc (.int x :: st) :=
  fun ad H locs ls ha hP hD hS hl => lv_if_lt C.1.1 C.1.2.1 hd ht (fun h => kt h ad H locs ls ha hP hD hS hl) (fun h => kf h ad H locs ls ha hP hD hS hl)
theorem pz_if_ge (C : pz_C p s m args meth c cc nL own D cy A) {x : Int32} {off : Int} {tgt : Nat} (hd : decode cc pc = .ok (.ifCond .ge off, 3)) (ht : (pc : Int) + off = (tgt : Int)) (kt : 0 ≤ x → pz_W p l e R s m args below meth c nL D cy A n0 ad0 Q σ M cells slots tgt loc st) (kf : ¬ 0 ≤ x → pz_W p l e R s m args below meth c nL D cy A n0 ad0 Q σ M cells slots (pc + 3) loc st) : pz_W p l e R s m args below meth c nL D cy A n0 ad0 Q σ M cells slots pc loc (.int x :: st) :=
  fun ad H locs ls ha hP hD hS hl => lv_if_ge C.1.1 C.1.2.1 hd ht (fun h => kt h ad H locs ls ha hP hD hS hl) (fun h => kf h ad H locs ls ha hP hD hS hl)
theorem pz_if_gt (C : pz_C p s m args meth c cc nL own D cy A) {x : Int32} {off : Int} {tgt : Nat} (hd : decode cc pc = .ok (.ifCond .gt off, 3)) (ht : (pc : Int) + off = (tgt : Int)) (kt : 0 < x → pz_W p l e R s m args below meth c nL D cy A n0 ad0 Q σ M cells slots tgt loc st) (kf : ¬ 0 < x → pz_W p l e R s m args below meth c nL D cy A n0 ad0 Q σ M cells slots (pc + 3) loc st) : pz_W p l e R s m args below meth c nL D cy A n0 ad0 Q σ M cells slots pc loc (.int x :: st) :=
  fun ad H locs ls ha hP hD hS hl => lv_if_gt C.1.1 C.1.2.1 hd ht (fun h => kt h ad H locs ls ha hP hD hS hl) (fun h => kf h ad H locs ls ha hP hD hS hl)
theorem pz_if_le (C : pz_C p s m args meth c cc nL own D cy A) {x : Int32} {off : Int} {tgt : Nat} (hd : decode cc pc = .ok (.ifCond .le off, 3)) (ht : (pc : Int) + off = (tgt : Int)) (kt : x ≤ 0 → pz_W p l e R s m args below meth c nL D cy A n0 ad0 Q σ M cells slots tgt loc st) (kf : ¬ x ≤ 0 → pz_W p l e R s m args below meth c nL D cy A n0 ad0 Q σ M cells slots (pc + 3) loc st) : pz_W p l e R s m args below meth c nL D cy A n0 ad0 Q σ M cells slots pc loc (.int x :: st) :=
  fun ad H locs ls ha hP hD hS hl => lv_if_le C.1.1 C.1.2.1 hd ht (fun h => kt h ad H locs ls ha hP hD hS hl) (fun h => kf h ad H locs ls ha hP hD hS hl)
theorem pz_goto (C : pz_C p s m args meth c cc nL own D cy A) {off : Int} {tgt : Nat} (hd : decode cc pc = .ok (.goto off, 3)) (ht : (pc : Int) + off = (tgt : Int)) (k : pz_W p l e R s m args below meth c nL D cy A n0 ad0 Q σ M cells slots tgt loc st) : pz_W p l e R s m args below meth c nL D cy A n0 ad0 Q σ M cells slots pc loc st :=
  fun ad H locs ls ha hP hD hS hl => lv_goto C.1.1 C.1.2.1 hd ht (k ad H locs ls ha hP hD hS hl)
theorem pz_getI (C : pz_C p s m args meth c cc nL own D cy A) {C1 : String} {T : u_T} {N ci index k i : Nat} (hin : ∀ w ∈ u_ws C1 T N, w ∈ lw_good) (hc : pz_cl[ci]? = some (C1, T, N)) (hk : k < N) (hlink : Cond.fieldLink own index (T k).1 (T k).2.1 (T k).2.2.1 ∈ lw_good) (hi : i < σ.1) (hK : (σ.2.1 i).1 = ci + 4) (hft : (pz_ft ci)[k]? = some 0) (hd : decode cc pc = .ok (.getfield index, 3)) (kk : pz_W p l e R s m args below meth c nL D cy A n0 ad0 Q σ M cells slots (pc + 3) loc (.int (M.1 i k) :: st)) : pz_W p l e R s m args below meth c nL D cy A n0 ad0 Q σ M cells slots pc loc (.ref i :: st) := by
  intro ad H locs ls ha hP hD hS hl
  refine va_get (D := D) (ci := ci) (v := .int (M.1 i k)) (C := C1) (T := T) (N := N) C.1.1 C.1.2.1 C.1.2.2.2.2 hin C.1.2.2.2.1 C.2.1 hP i (fs := pz_fs ad σ M i 0 (pz_ft ci)) (pz_at hi hK) hc k hk (C.1.2.2.2.2 _ hlink) (fun _ h => h) ?_ hd (kk ad H locs ls ha hP hD hS hl)
  rw [pz_fs_get, hft]; simp [pz_v]
theorem pz_getJ (C : pz_C p s m args meth c cc nL own D cy A) {C1 : String} {T : u_T} {N ci index k i : Nat} (hin : ∀ w ∈ u_ws C1 T N, w ∈ lw_good) (hc : pz_cl[ci]? = some (C1, T, N)) (hk : k < N) (hlink : Cond.fieldLink own index (T k).1 (T k).2.1 (T k).2.2.1 ∈ lw_good) (hi : i < σ.1) (hK : (σ.2.1 i).1 = ci + 4) (hft : (pz_ft ci)[k]? = some 1) (hd : decode cc pc = .ok (.getfield index, 3)) (kk : pz_W p l e R s m args below meth c nL D cy A n0 ad0 Q σ M cells slots (pc + 3) loc (.long (M.2 i k) :: st)) : pz_W p l e R s m args below meth c nL D cy A n0 ad0 Q σ M cells slots pc loc (.ref i :: st) := by
  intro ad H locs ls ha hP hD hS hl
  refine va_get (D := D) (ci := ci) (v := .long (M.2 i k)) (C := C1) (T := T) (N := N) C.1.1 C.1.2.1 C.1.2.2.2.2 hin C.1.2.2.2.1 C.2.1 hP i (fs := pz_fs ad σ M i 0 (pz_ft ci)) (pz_at hi hK) hc k hk (C.1.2.2.2.2 _ hlink) (fun _ h => h) ?_ hd (kk ad H locs ls ha hP hD hS hl)
  rw [pz_fs_get, hft]; simp [pz_v]
theorem pz_getR (C : pz_C p s m args meth c cc nL own D cy A) {C1 : String} {T : u_T} {N ci index k i : Nat} (hin : ∀ w ∈ u_ws C1 T N, w ∈ lw_good) (hc : pz_cl[ci]? = some (C1, T, N)) (hk : k < N) (hlink : Cond.fieldLink own index (T k).1 (T k).2.1 (T k).2.2.1 ∈ lw_good) (hi : i < σ.1) (hK : (σ.2.1 i).1 = ci + 4) {j : Nat} (hft : (pz_ft ci)[k]? = some 2) (hj : σ.2.2 i k = some j) (hd : decode cc pc = .ok (.getfield index, 3)) (kk : pz_W p l e R s m args below meth c nL D cy A n0 ad0 Q σ M cells slots (pc + 3) loc (.ref j :: st)) : pz_W p l e R s m args below meth c nL D cy A n0 ad0 Q σ M cells slots pc loc (.ref i :: st) := by
  intro ad H locs ls ha hP hD hS hl
  refine va_get (D := D) (ci := ci) (v := .ref (ad j)) (C := C1) (T := T) (N := N) C.1.1 C.1.2.1 C.1.2.2.2.2 hin C.1.2.2.2.1 C.2.1 hP i (fs := pz_fs ad σ M i 0 (pz_ft ci)) (pz_at hi hK) hc k hk (C.1.2.2.2.2 _ hlink) (fun _ h => h) ?_ hd (kk ad H locs ls ha hP hD hS hl)
  rw [pz_fs_get, hft]; simp [pz_v, hj, va_rf]
theorem pz_putI (C : pz_C p s m args meth c cc nL own D cy A) {x : Int32} {C1 : String} {T : u_T} {N ci index k i : Nat} (hin : ∀ w ∈ u_ws C1 T N, w ∈ lw_good) (hc : pz_cl[ci]? = some (C1, T, N)) (hk : k < N) (hlink : Cond.fieldLink own index (T k).1 (T k).2.1 (T k).2.2.1 ∈ lw_good) (hi : i < σ.1) (hK : (σ.2.1 i).1 = ci + 4) {ty0 : Nat → FieldType} (hty : ∀ k, k < N → parseFieldDescriptor (T k).2.2.1 = some (ty0 k)) (hnm : ∀ a, a < N → ∀ b, b < N → a ≠ b → (T a).2.1 ≠ (T b).2.1) (hft : (pz_ft ci)[k]? = some 0) (hfin : (T k).2.2.2 = false) (hp : parseFieldDescriptor (T k).2.2.1 = some .int) (hd : decode cc pc = .ok (.putfield index, 3)) (kk : pz_W p l e R s m args below meth c nL D cy A n0 ad0 Q σ (pz_u M.1 i k x, M.2) cells slots (pc + 3) loc st) : pz_W p l e R s m args below meth c nL D cy A n0 ad0 Q σ M cells slots pc loc (.int x :: .ref i :: st) := by
  intro ad H locs ls ha hP hD hS hl
  have hl9 : k < (pz_ft ci).length := (List.getElem?_eq_some_iff.mp hft).1
  refine va_put (D := D) (ci := ci) (v := .int x) (C := C1) (T := T) (N := N) C.1.1 C.1.2.1 C.1.2.2.2.2 hin ty0 hty hnm C.1.2.2.2.1 C.2.1 hP hD hS i (fs := pz_fs ad σ M i 0 (pz_ft ci)) (pz_at hi hK) hc k hk (C.1.2.2.2.2 _ hlink) (fun _ h => h) hfin (ty := .int) hp rfl rfl (by rw [pz_fs_len]; exact hl9) hd (fun H1 locs1 hP1 hD1 hS1 => ?_)
  have e1 : (pz_w cy ad σ M).set i (ad i, .inr (ci, (pz_fs ad σ M i 0 (pz_ft ci)).set k (.int x))) = pz_w cy ad (σ) ((pz_u M.1 i k x, M.2)) := pz_setI hi hK hft
  rw [e1] at hP1 hD1
  exact kk ad H1 locs1 ls ha hP1 hD1 hS1 hl
theorem pz_putIZ (C : pz_C p s m args meth c cc nL own D cy A) {x : Int32} {C1 : String} {T : u_T} {N ci index k i : Nat} (hin : ∀ w ∈ u_ws C1 T N, w ∈ lw_good) (hc : pz_cl[ci]? = some (C1, T, N)) (hk : k < N) (hlink : Cond.fieldLink own index (T k).1 (T k).2.1 (T k).2.2.1 ∈ lw_good) (hi : i < σ.1) (hK : (σ.2.1 i).1 = ci + 4) {ty0 : Nat → FieldType} (hty : ∀ k, k < N → parseFieldDescriptor (T k).2.2.1 = some (ty0 k)) (hnm : ∀ a, a < N → ∀ b, b < N → a ≠ b → (T a).2.1 ≠ (T b).2.1) (hft : (pz_ft ci)[k]? = some 0) (hfin : (T k).2.2.2 = false) (hp : parseFieldDescriptor (T k).2.2.1 = some .boolean) (hx : narrow .boolean (.int x) = .int x) (hx2 : fits .boolean (.int x) = true) (hd : decode cc pc = .ok (.putfield index, 3)) (kk : pz_W p l e R s m args below meth c nL D cy A n0 ad0 Q σ (pz_u M.1 i k x, M.2) cells slots (pc + 3) loc st) : pz_W p l e R s m args below meth c nL D cy A n0 ad0 Q σ M cells slots pc loc (.int x :: .ref i :: st) := by
  intro ad H locs ls ha hP hD hS hl
  have hl9 : k < (pz_ft ci).length := (List.getElem?_eq_some_iff.mp hft).1
  refine va_put (D := D) (ci := ci) (v := .int x) (C := C1) (T := T) (N := N) C.1.1 C.1.2.1 C.1.2.2.2.2 hin ty0 hty hnm C.1.2.2.2.1 C.2.1 hP hD hS i (fs := pz_fs ad σ M i 0 (pz_ft ci)) (pz_at hi hK) hc k hk (C.1.2.2.2.2 _ hlink) (fun _ h => h) hfin (ty := .boolean) hp hx hx2 (by rw [pz_fs_len]; exact hl9) hd (fun H1 locs1 hP1 hD1 hS1 => ?_)
  have e1 : (pz_w cy ad σ M).set i (ad i, .inr (ci, (pz_fs ad σ M i 0 (pz_ft ci)).set k (.int x))) = pz_w cy ad (σ) ((pz_u M.1 i k x, M.2)) := pz_setI hi hK hft
  rw [e1] at hP1 hD1
  exact kk ad H1 locs1 ls ha hP1 hD1 hS1 hl
theorem pz_putJ (C : pz_C p s m args meth c cc nL own D cy A) {x : Int64} {C1 : String} {T : u_T} {N ci index k i : Nat} (hin : ∀ w ∈ u_ws C1 T N, w ∈ lw_good) (hc : pz_cl[ci]? = some (C1, T, N)) (hk : k < N) (hlink : Cond.fieldLink own index (T k).1 (T k).2.1 (T k).2.2.1 ∈ lw_good) (hi : i < σ.1) (hK : (σ.2.1 i).1 = ci + 4) {ty0 : Nat → FieldType} (hty : ∀ k, k < N → parseFieldDescriptor (T k).2.2.1 = some (ty0 k)) (hnm : ∀ a, a < N → ∀ b, b < N → a ≠ b → (T a).2.1 ≠ (T b).2.1) (hft : (pz_ft ci)[k]? = some 1) (hfin : (T k).2.2.2 = false) (hp : parseFieldDescriptor (T k).2.2.1 = some .long) (hd : decode cc pc = .ok (.putfield index, 3)) (kk : pz_W p l e R s m args below meth c nL D cy A n0 ad0 Q σ (M.1, pz_u M.2 i k x) cells slots (pc + 3) loc st) : pz_W p l e R s m args below meth c nL D cy A n0 ad0 Q σ M cells slots pc loc (.long x :: .ref i :: st) := by
  intro ad H locs ls ha hP hD hS hl
  have hl9 : k < (pz_ft ci).length := (List.getElem?_eq_some_iff.mp hft).1
  refine va_put (D := D) (ci := ci) (v := .long x) (C := C1) (T := T) (N := N) C.1.1 C.1.2.1 C.1.2.2.2.2 hin ty0 hty hnm C.1.2.2.2.1 C.2.1 hP hD hS i (fs := pz_fs ad σ M i 0 (pz_ft ci)) (pz_at hi hK) hc k hk (C.1.2.2.2.2 _ hlink) (fun _ h => h) hfin (ty := .long) hp rfl rfl (by rw [pz_fs_len]; exact hl9) hd (fun H1 locs1 hP1 hD1 hS1 => ?_)
  have e1 : (pz_w cy ad σ M).set i (ad i, .inr (ci, (pz_fs ad σ M i 0 (pz_ft ci)).set k (.long x))) = pz_w cy ad (σ) ((M.1, pz_u M.2 i k x)) := pz_setJ hi hK hft
  rw [e1] at hP1 hD1
  exact kk ad H1 locs1 ls ha hP1 hD1 hS1 hl
theorem pz_putR (C : pz_C p s m args meth c cc nL own D cy A) {j : Nat} {ty : FieldType} {C1 : String} {T : u_T} {N ci index k i : Nat} (hin : ∀ w ∈ u_ws C1 T N, w ∈ lw_good) (hc : pz_cl[ci]? = some (C1, T, N)) (hk : k < N) (hlink : Cond.fieldLink own index (T k).1 (T k).2.1 (T k).2.2.1 ∈ lw_good) (hi : i < σ.1) (hK : (σ.2.1 i).1 = ci + 4) {ty0 : Nat → FieldType} (hty : ∀ k, k < N → parseFieldDescriptor (T k).2.2.1 = some (ty0 k)) (hnm : ∀ a, a < N → ∀ b, b < N → a ≠ b → (T a).2.1 ≠ (T b).2.1) (hft : (pz_ft ci)[k]? = some 2) (hfin : (T k).2.2.2 = false) (hp : parseFieldDescriptor (T k).2.2.1 = some ty) (hx : ∀ a : Nat, narrow ty (.ref a) = .ref a) (hx2 : ∀ a : Nat, fits ty (.ref a) = true) (hd : decode cc pc = .ok (.putfield index, 3)) (kk : pz_W p l e R s m args below meth c nL D cy A n0 ad0 Q (σ.1, σ.2.1, pz_u σ.2.2 i k (some j)) M cells slots (pc + 3) loc st) : pz_W p l e R s m args below meth c nL D cy A n0 ad0 Q σ M cells slots pc loc (.ref j :: .ref i :: st) := by
  intro ad H locs ls ha hP hD hS hl
  have hl9 : k < (pz_ft ci).length := (List.getElem?_eq_some_iff.mp hft).1
  refine va_put (D := D) (ci := ci) (v := .ref (ad j)) (C := C1) (T := T) (N := N) C.1.1 C.1.2.1 C.1.2.2.2.2 hin ty0 hty hnm C.1.2.2.2.1 C.2.1 hP hD hS i (fs := pz_fs ad σ M i 0 (pz_ft ci)) (pz_at hi hK) hc k hk (C.1.2.2.2.2 _ hlink) (fun _ h => h) hfin (ty := ty) hp (hx _) (hx2 _) (by rw [pz_fs_len]; exact hl9) hd (fun H1 locs1 hP1 hD1 hS1 => ?_)
  have e1 : (pz_w cy ad σ M).set i (ad i, .inr (ci, (pz_fs ad σ M i 0 (pz_ft ci)).set k (.ref (ad j)))) = pz_w cy ad ((σ.1, σ.2.1, pz_u σ.2.2 i k (some j))) (M) := pz_setR hi hK hft
  rw [e1] at hP1 hD1
  exact kk ad H1 locs1 ls ha hP1 hD1 hS1 hl
theorem pz_putRF (C : pz_C p s m args meth c cc nL own D cy A) {j : Nat} {ty : FieldType} {C1 : String} {T : u_T} {N ci index k i : Nat} (hin : ∀ w ∈ u_ws C1 T N, w ∈ lw_good) (hc : pz_cl[ci]? = some (C1, T, N)) (hk : k < N) (hlink : Cond.fieldLink own index (T k).1 (T k).2.1 (T k).2.2.1 ∈ lw_good) (hi : i < σ.1) (hK : (σ.2.1 i).1 = ci + 4) {ty0 : Nat → FieldType} (hty : ∀ k, k < N → parseFieldDescriptor (T k).2.2.1 = some (ty0 k)) (hnm : ∀ a, a < N → ∀ b, b < N → a ≠ b → (T a).2.1 ≠ (T b).2.1) (hft : (pz_ft ci)[k]? = some 2) (hfin : (T k).2.2.2 = true) (hin2 : meth.name = "<init>") (hdecl : (T k).1 = own) (hp : parseFieldDescriptor (T k).2.2.1 = some ty) (hx : ∀ a : Nat, narrow ty (.ref a) = .ref a) (hx2 : ∀ a : Nat, fits ty (.ref a) = true) (hd : decode cc pc = .ok (.putfield index, 3)) (kk : pz_W p l e R s m args below meth c nL D cy A n0 ad0 Q (σ.1, σ.2.1, pz_u σ.2.2 i k (some j)) M cells slots (pc + 3) loc st) : pz_W p l e R s m args below meth c nL D cy A n0 ad0 Q σ M cells slots pc loc (.ref j :: .ref i :: st) := by
  intro ad H locs ls ha hP hD hS hl
  have hl9 : k < (pz_ft ci).length := (List.getElem?_eq_some_iff.mp hft).1
  refine va_putF (D := D) (ci := ci) (v := .ref (ad j)) (C := C1) (T := T) (N := N) C.1.1 C.1.2.1 C.1.2.2.2.2 hin ty0 hty hnm C.1.2.2.2.1 C.2.1 hP hD hS i (fs := pz_fs ad σ M i 0 (pz_ft ci)) (pz_at hi hK) hc k hk (C.1.2.2.2.2 _ hlink) (fun _ h => h) hfin hin2 hdecl (ty := ty) hp (hx _) (hx2 _) (by rw [pz_fs_len]; exact hl9) hd (fun H1 locs1 hP1 hD1 hS1 => ?_)
  have e1 : (pz_w cy ad σ M).set i (ad i, .inr (ci, (pz_fs ad σ M i 0 (pz_ft ci)).set k (.ref (ad j)))) = pz_w cy ad ((σ.1, σ.2.1, pz_u σ.2.2 i k (some j))) (M) := pz_setR hi hK hft
  rw [e1] at hP1 hD1
  exact kk ad H1 locs1 ls ha hP1 hD1 hS1 hl
theorem pz_iald (C : pz_C p s m args meth c cc nL own D cy A) {i : Nat} {x : Int32} (hi : i < σ.1) (hK : (σ.2.1 i).1 = 1) (hin : vp_in x (σ.2.1 i).2) (hd : decode cc pc = .ok (.iaload, 1)) (kk : pz_W p l e R s m args below meth c nL D cy A n0 ad0 Q σ M cells slots (pc + 1) loc (.int (M.1 i x.toNatClampNeg) :: st)) : pz_W p l e R s m args below meth c nL D cy A n0 ad0 Q σ M cells slots pc loc (.int x :: .ref i :: st) := by
  intro ad H locs ls ha hP hD hS hl
  exact va_iald C.1.1 C.1.2.1 C.2.1 hP i 1 (pz_ar1 hi hK) rfl hin hd (kk ad H locs ls ha hP hD hS hl)
theorem pz_bald (C : pz_C p s m args meth c cc nL own D cy A) {i : Nat} {x : Int32} (hi : i < σ.1) (hK : (σ.2.1 i).1 = 0) (hin : vp_in x (σ.2.1 i).2) (hd : decode cc pc = .ok (.baload, 1)) (kk : pz_W p l e R s m args below meth c nL D cy A n0 ad0 Q σ M cells slots (pc + 1) loc (.int (M.1 i x.toNatClampNeg) :: st)) : pz_W p l e R s m args below meth c nL D cy A n0 ad0 Q σ M cells slots pc loc (.int x :: .ref i :: st) := by
  intro ad H locs ls ha hP hD hS hl
  exact va_bald C.1.1 C.1.2.1 C.2.1 hP i 0 (pz_ar0 hi hK) rfl hin hd (kk ad H locs ls ha hP hD hS hl)
theorem pz_zald (C : pz_C p s m args meth c cc nL own D cy A) {i : Nat} {x : Int32} (hi : i < σ.1) (hK : (σ.2.1 i).1 = 3) (hin : vp_in x (σ.2.1 i).2) (hd : decode cc pc = .ok (.baload, 1)) (kk : pz_W p l e R s m args below meth c nL D cy A n0 ad0 Q σ M cells slots (pc + 1) loc (.int (M.1 i x.toNatClampNeg) :: st)) : pz_W p l e R s m args below meth c nL D cy A n0 ad0 Q σ M cells slots pc loc (.int x :: .ref i :: st) := by
  intro ad H locs ls ha hP hD hS hl
  exact va_zald C.1.1 C.1.2.1 C.2.1 hP i 3 (pz_ar3 hi hK) rfl hin hd (kk ad H locs ls ha hP hD hS hl)
theorem pz_lald (C : pz_C p s m args meth c cc nL own D cy A) {i : Nat} {x : Int32} (hi : i < σ.1) (hK : (σ.2.1 i).1 = 2) (hin : vp_in x (σ.2.1 i).2) (hd : decode cc pc = .ok (.laload, 1)) (kk : pz_W p l e R s m args below meth c nL D cy A n0 ad0 Q σ M cells slots (pc + 1) loc (.long (M.2 i x.toNatClampNeg) :: st)) : pz_W p l e R s m args below meth c nL D cy A n0 ad0 Q σ M cells slots pc loc (.int x :: .ref i :: st) := by
  intro ad H locs ls ha hP hD hS hl
  exact va_lald C.1.1 C.1.2.1 C.2.1 hP i 2 (pz_ar2 hi hK) rfl hin hd (kk ad H locs ls ha hP hD hS hl)
theorem pz_iast (C : pz_C p s m args meth c cc nL own D cy A) {i : Nat} {x : Int32} {y : Int32} (hi : i < σ.1) (hK : (σ.2.1 i).1 = 1) (hin : vp_in x (σ.2.1 i).2) (hd : decode cc pc = .ok (.iastore, 1)) (kk : pz_W p l e R s m args below meth c nL D cy A n0 ad0 Q σ (pz_u M.1 i x.toNatClampNeg y, M.2) cells slots (pc + 1) loc st) : pz_W p l e R s m args below meth c nL D cy A n0 ad0 Q σ M cells slots pc loc (.int y :: .int x :: .ref i :: st) := by
  intro ad H locs ls ha hP hD hS hl
  refine va_iast C.1.1 C.1.2.1 C.2.1 hP hD hS i 1 (pz_ar1 hi hK) rfl hin hd (fun H1 locs1 hP1 hD1 hS1 => ?_)
  rw [pz_as1 hi hK] at hP1 hD1
  exact kk ad H1 locs1 ls ha hP1 hD1 hS1 hl
theorem pz_bast (C : pz_C p s m args meth c cc nL own D cy A) {i : Nat} {x : Int32} {y : Int32} (hi : i < σ.1) (hK : (σ.2.1 i).1 = 0) (hin : vp_in x (σ.2.1 i).2) (hd : decode cc pc = .ok (.bastore, 1)) (kk : pz_W p l e R s m args below meth c nL D cy A n0 ad0 Q σ (pz_u M.1 i x.toNatClampNeg (vp_nar .byte y), M.2) cells slots (pc + 1) loc st) : pz_W p l e R s m args below meth c nL D cy A n0 ad0 Q σ M cells slots pc loc (.int y :: .int x :: .ref i :: st) := by
  intro ad H locs ls ha hP hD hS hl
  refine va_bast C.1.1 C.1.2.1 C.2.1 hP hD hS i 0 (pz_ar0 hi hK) rfl hin hd (fun H1 locs1 hP1 hD1 hS1 => ?_)
  rw [pz_as0 hi hK] at hP1 hD1
  exact kk ad H1 locs1 ls ha hP1 hD1 hS1 hl
theorem pz_zast (C : pz_C p s m args meth c cc nL own D cy A) {i : Nat} {x : Int32} {y : Int32} (hi : i < σ.1) (hK : (σ.2.1 i).1 = 3) (hin : vp_in x (σ.2.1 i).2) (hd : decode cc pc = .ok (.bastore, 1)) (kk : pz_W p l e R s m args below meth c nL D cy A n0 ad0 Q σ (pz_u M.1 i x.toNatClampNeg (vp_nar .boolean y), M.2) cells slots (pc + 1) loc st) : pz_W p l e R s m args below meth c nL D cy A n0 ad0 Q σ M cells slots pc loc (.int y :: .int x :: .ref i :: st) := by
  intro ad H locs ls ha hP hD hS hl
  refine va_zast C.1.1 C.1.2.1 C.2.1 hP hD hS i 3 (pz_ar3 hi hK) rfl hin hd (fun H1 locs1 hP1 hD1 hS1 => ?_)
  rw [pz_as3 hi hK] at hP1 hD1
  exact kk ad H1 locs1 ls ha hP1 hD1 hS1 hl
theorem pz_last (C : pz_C p s m args meth c cc nL own D cy A) {i : Nat} {x : Int32} {y : Int64} (hi : i < σ.1) (hK : (σ.2.1 i).1 = 2) (hin : vp_in x (σ.2.1 i).2) (hd : decode cc pc = .ok (.lastore, 1)) (kk : pz_W p l e R s m args below meth c nL D cy A n0 ad0 Q σ (M.1, pz_u M.2 i x.toNatClampNeg y) cells slots (pc + 1) loc st) : pz_W p l e R s m args below meth c nL D cy A n0 ad0 Q σ M cells slots pc loc (.long y :: .int x :: .ref i :: st) := by
  intro ad H locs ls ha hP hD hS hl
  refine va_last C.1.1 C.1.2.1 C.2.1 hP hD hS i 2 (pz_ar2 hi hK) rfl hin hd (fun H1 locs1 hP1 hD1 hS1 => ?_)
  rw [pz_as2 hi hK] at hP1 hD1
  exact kk ad H1 locs1 ls ha hP1 hD1 hS1 hl
theorem pz_alen (C : pz_C p s m args meth c cc nL own D cy A) {i t : Nat} {v : Int32} (hi : i < σ.1) (hK : (σ.2.1 i).1 = t) (ht : t < 4) (hv : Int32.ofNat (σ.2.1 i).2 = v) (hd : decode cc pc = .ok (.arraylength, 1)) (kk : pz_W p l e R s m args below meth c nL D cy A n0 ad0 Q σ M cells slots (pc + 1) loc (.int v :: st)) : pz_W p l e R s m args below meth c nL D cy A n0 ad0 Q σ M cells slots pc loc (.ref i :: st) := by
  intro ad H locs ls ha hP hD hS hl
  have k9 := kk ad H locs ls ha hP hD hS hl
  match t, ht, hK with
  | 0, _, hK => exact va_alen C.1.1 C.1.2.1 C.2.1 hP i 0 (pz_ar0 hi hK) (ty := .byte) rfl hv hd k9
  | 1, _, hK => exact va_alen C.1.1 C.1.2.1 C.2.1 hP i 1 (pz_ar1 hi hK) (ty := .int) rfl hv hd k9
  | 2, _, hK => exact va_alen C.1.1 C.1.2.1 C.2.1 hP i 2 (pz_ar2 hi hK) (ty := .long) rfl hv hd k9
  | 3, _, hK => exact va_alen C.1.1 C.1.2.1 C.2.1 hP i 3 (pz_ar3 hi hK) (ty := .boolean) rfl hv hd k9
end PZR
