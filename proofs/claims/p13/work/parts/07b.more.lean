/-! MORE ROWS: names for computed values, new objects, switches; methods that throw -/
def pz_dv (t : Nat) : Value := if t = 0 then .int 0 else if t = 1 then .long 0 else .null
theorem pz_fs_zero {ad : Nat → Nat} {σ : pzS} {M : pzM} {i : Nat} (h1 : ∀ k, M.1 i k = 0) (h2 : ∀ k, M.2 i k = 0) (h3 : ∀ k, σ.2.2 i k = none) : ∀ (ts : List Nat) (k0 : Nat), pz_fs ad σ M i k0 ts = ts.map pz_dv
  | [], k0 => rfl
  | t :: ts, k0 => by
    simp only [pz_fs, List.map_cons]
    rw [pz_fs_zero h1 h2 h3 ts (k0 + 1)]
    refine congrArg (· :: _) ?_
    unfold pz_v pz_dv
    rw [h1, h2, h3]
    rfl
section PZF
variable {p : Program} {l : Launch} {e : Env} {R : Room} {s : State} {m : MethodId} {args : Array Value} {below : List Frame} {meth : Method} {c : Code} {cc : ByteArray} {nL : Nat} {own : String} {D : va_G} {cy : Nat → ClassId} {A : Nat → Prop} {n0 : Nat} {ad0 : Nat → Nat} {Q : State → Prop} {σ : pzS} {M : pzM} {cells slots pc mc ms : Nat} {loc loc' : List (Nat × Value)} {st : List Value} {post : Option Value → pzS → pzM → Prop} {postX : String → pzS → pzM → Prop}
theorem pz_topi {x : Int32} (k : ∀ y : Int32, y = x → pz_W p l e R s m args below meth c nL D cy A n0 ad0 Q σ M cells slots pc loc (.int y :: st)) : pz_W p l e R s m args below meth c nL D cy A n0 ad0 Q σ M cells slots pc loc (.int x :: st) := k x rfl
theorem pz_topl {x : Int64} (k : ∀ y : Int64, y = x → pz_W p l e R s m args below meth c nL D cy A n0 ad0 Q σ M cells slots pc loc (.long y :: st)) : pz_W p l e R s m args below meth c nL D cy A n0 ad0 Q σ M cells slots pc loc (.long x :: st) := k x rfl
theorem pz_nmM (k : ∀ M1 : pzM, M1 = M → pz_W p l e R s m args below meth c nL D cy A n0 ad0 Q σ M1 cells slots pc loc st) : pz_W p l e R s m args below meth c nL D cy A n0 ad0 Q σ M cells slots pc loc st := k M rfl
theorem pz_nmS (k : ∀ S1 : pzS, S1 = σ → pz_W p l e R s m args below meth c nL D cy A n0 ad0 Q S1 M cells slots pc loc st) : pz_W p l e R s m args below meth c nL D cy A n0 ad0 Q σ M cells slots pc loc st := k σ rfl
theorem pz_widen {k n : Nat} (h1 : cells ≤ k) (h2 : slots ≤ n) (kk : pz_W p l e R s m args below meth c nL D cy A n0 ad0 Q σ M k n pc loc st) : pz_W p l e R s m args below meth c nL D cy A n0 ad0 Q σ M cells slots pc loc st :=
  fun ad H locs ls ha hP hD hS hl => W.widen h1 h2 (kk ad H locs ls ha hP hD hS hl)
theorem pz_newobj (C : pz_C p s m args meth c cc nL own D cy A) {C1 : String} {T : u_T} {N ci index : Nat} {ty : Nat → FieldType} (hd : decode cc pc = .ok (.new index, 3)) (hin : ∀ w ∈ u_ws C1 T N, w ∈ lw_good) (hty : ∀ k, k < N → parseFieldDescriptor (T k).2.2.1 = some (ty k)) (hw1 : Cond.classLink own index C1 ∈ lw_good) (hw2 : Cond.instantiable C1 N ∈ lw_good) (hw3 : Cond.initialized C1 ∈ lw_good) (hc : pz_cl[ci]? = some (C1, T, N)) (hfs : ∀ j, j < N → defaultValue (ty j) = vp_V ((pz_ft ci).map pz_dv) j)
    (hwf : pz_wf σ) (hn0 : n0 ≤ σ.1) (h1 : pz_all σ.1 st) (h2 : pz_alll σ.1 loc) (hcells : cells + 1 ≤ R.cells) (hslots : slots + N ≤ R.slots)
    (kk : pz_W p l e R s m args below meth c nL D cy A n0 ad0 Q (pz_new σ (ci + 4, 0)) (pz_nM σ M) (cells + 1) (slots + N) (pc + 3) loc (.ref σ.1 :: st)) : pz_W p l e R s m args below meth c nL D cy A n0 ad0 Q σ M cells slots pc loc st := by
  intro ad H locs ls ha hP hD hS hl
  refine va_new (ci := ci) (fs := (pz_ft ci).map pz_dv) (C := C1) (T := T) (N := N) C.1.1 C.1.2.1 C.1.2.2.2.2 hin ty hty C.1.2.2.2.1 (C.1.2.2.2.2 _ hw1) (C.1.2.2.2.2 _ hw2) (C.1.2.2.2.2 _ hw3) C.2.1 hP hD hS C.2.2.1 hc hfs hcells hslots hd (fun q H1 hP1 hD1 hS1 => ?_)
  have he9 : pz_e cy (va_up ad σ.1 q) (pz_new σ (ci + 4, 0)) (pz_nM σ M) σ.1 = .inr (ci, (pz_ft ci).map pz_dv) := by
    unfold pz_e
    have hk : ((pz_new σ (ci + 4, 0)).2.1 σ.1).1 = ci + 4 := by simp [pz_new, va_up]
    rw [hk]
    exact congrArg (fun z => Sum.inr (ci, z)) (pz_fs_zero (fun k => by simp [pz_nM, va_up]) (fun k => by simp [pz_nM, va_up]) (fun k => by simp [pz_new, va_up]) _ _)
  have e1 := pz_w_push (M := M) hwf he9
  rw [e1] at hP1 hD1
  have k9 := kk (va_up ad σ.1 q) H1 locs ls (fun i hi => (pz_up_ad i (Nat.lt_of_lt_of_le hi hn0)).trans (ha i hi)) hP1 hD1 hS1 (by rw [pz_alll_map (fun i hi => pz_up_ad i hi) h2]; exact hl)
  simp only [List.map_cons] at k9
  rw [pz_all_map (fun i hi => pz_up_ad i hi) h1] at k9
  have e2 : pz_t (va_up ad σ.1 q) (.ref σ.1) = .ref q := by simp [pz_t, va_up]
  rw [e2] at k9
  exact k9
theorem pz_tableIn (C : pz_C p s m args meth c cc nL own D cy A) {dflt lo hi : Int} {offs : Array Int} {len : Nat} {x : Int32} {off : Int} {tgt : Nat} (hd : decode cc pc = .ok (.tableswitch dflt lo hi offs, len)) (h1 : ¬ x.toInt < lo) (h2 : ¬ hi < x.toInt) (ho : offs[(x.toInt - lo).toNat]? = some off) (ht : (pc : Int) + off = (tgt : Int)) (k : pz_W p l e R s m args below meth c nL D cy A n0 ad0 Q σ M cells slots tgt loc st) : pz_W p l e R s m args below meth c nL D cy A n0 ad0 Q σ M cells slots pc loc (.int x :: st) :=
  fun ad H locs ls ha hP hD hS hl => lv_tableIn C.1.1 C.1.2.1 hd h1 h2 ho ht (k ad H locs ls ha hP hD hS hl)
theorem pz_tableOut (C : pz_C p s m args meth c cc nL own D cy A) {dflt lo hi : Int} {offs : Array Int} {len : Nat} {x : Int32} {tgt : Nat} (hd : decode cc pc = .ok (.tableswitch dflt lo hi offs, len)) (h : x.toInt < lo ∨ hi < x.toInt) (ht : (pc : Int) + dflt = (tgt : Int)) (k : pz_W p l e R s m args below meth c nL D cy A n0 ad0 Q σ M cells slots tgt loc st) : pz_W p l e R s m args below meth c nL D cy A n0 ad0 Q σ M cells slots pc loc (.int x :: st) :=
  fun ad H locs ls ha hP hD hS hl => lv_tableOut C.1.1 C.1.2.1 hd h ht (k ad H locs ls ha hP hD hS hl)
/-! methods that may throw -/
def pz_Z (A : Nat → Prop) (U : State) (H : Heap) : Prop := vx_Zq Bundle.tN "UNASSIGNED_STACK" Bundle.steD A U H ∧ vx_Zq Bundle.tN "SUPPRESSED_SENTINEL" Bundle.listD A U H ∧ va_Nc "java/lang/IllegalStateException" "java/lang/IllegalArgumentException" U
theorem pz_Z.moved {A : Nat → Prop} {u U : State} {H : Heap} (hvm : u.vm.Alike U.vm) (h : pz_Z A u H) : pz_Z A U H := ⟨vx_Zq.moved hvm h.1, vx_Zq.moved hvm h.2.1, va_Nc.moved hvm h.2.2⟩
theorem pz_Z.kept {A : Nat → Prop} {U : State} {H H1 : Heap} (h : pz_Z A U H) (hq : ∀ a : Nat, a < H.size → ¬ A a → H1[a]? = H[a]?) : pz_Z A U H1 := ⟨vx_Zq.kept h.1 hq, vx_Zq.kept h.2.1 hq, h.2.2⟩
theorem pz_Z.narrow {A B : Nat → Prop} {U : State} {H : Heap} (h : pz_Z A U H) (hAB : ∀ q, B q → A q) : pz_Z B U H := ⟨vx_Zq.narrow h.1 hAB, vx_Zq.narrow h.2.1 hAB, h.2.2⟩
def pz_XQ (D : va_G) (cy : Nat → ClassId) (n0 : Nat) (ad0 : Nat → Nat) (postX : String → pzS → pzM → Prop) (A : Nat → Prop) : String → State → State → Prop := fun E st t =>
  (∃ (σ' : pzS) (M' : pzM) (ad' : Nat → Nat), (∀ i, i < n0 → ad' i = ad0 i) ∧ postX E σ' M' ∧ va_P D pz_cl (pz_w cy ad' σ' M') t.heap ∧ va_K D pz_cl (pz_tys cy) t ∧ va_D A (pz_w cy ad' σ' M')) ∧ va_F A st t
def pz_PreX (D : va_G) (cy : Nat → ClassId) (ad : Nat → Nat) (sz : Nat) (σ : pzS) (M : pzM) (U : State) : Prop := pz_Pre D cy ad sz σ M U ∧ pz_Z (va_A (pz_w cy ad σ M) sz) U U.heap
def pz_MetX (l : Launch) (y : MethodName) (cc : ByteArray) (maxL : Nat) (ret : Option FieldType) (fr lo mc ms : Nat) (D : va_G) (cy : Nat → ClassId) (σ : pzS) (M : pzM) (av : List Value) (post : Option Value → pzS → pzM → Prop) (postX : String → pzS → pzM → Prop) : Prop :=
  ∀ (ad : Nat → Nat) (sz : Nat), vx_Met l y (Cond.code y cc maxL ret :: lw_good) ({ frames := fr, cells := mc, slots := ms, locals := lo }) (va_Pc (av.map (pz_t ad)) (pz_PreX D cy ad sz σ M)) (pz_Q D cy σ.1 ad post (va_A (pz_w cy ad σ M) sz)) (pz_XQ D cy σ.1 ad postX (va_A (pz_w cy ad σ M) sz)) mc ms (va_A (pz_w cy ad σ M) sz)
theorem pz_blindX {ad : Nat → Nat} {sz : Nat} {av : List Value} : FrameBlind (va_Pc av (pz_PreX D cy ad sz σ M)) := by
  intro a U g mk q
  have h1 := pz_blind (D := D) (cy := cy) (ad := ad) (sz := sz) (σ := σ) (M := M) (av := av) a U g mk ⟨q.1, q.2.1⟩
  exact ⟨q.1, h1.2, pz_Z.moved (u := U) (U := U.calling g mk a) (Vm.Alike.refl U.vm) q.2.2⟩
theorem pz_ofWX {y : MethodName} {maxL : Nat} {ret : Option FieldType} {fr lo : Nat} {av : List Value} (hy : plainName y.cls = true) (hlen : (lg_sl av).length ≤ maxL)
    (body : ∀ (p : Program) (e : Env) (s : State) (m : MethodId) (args : Array Value) (below : List Frame) (meth : Method) (c : Code) (ad : Nat → Nat) (A : Nat → Prop), pz_C p s m args meth c cc maxL y.cls D cy A → meth.sig.returnType = ret → pz_Z A s s.heap → (∀ x ∈ c.exceptionTable.toList, False) →
      pz_W p l e ({ frames := fr, cells := mc, slots := ms, locals := lo }) s m args below meth c maxL D cy A σ.1 ad (vx_MQ below (pz_Q D cy σ.1 ad post A) (pz_XQ D cy σ.1 ad postX A) args s mc ms A) σ M 0 0 0 (lv_args 0 av) []) : pz_MetX l y cc maxL ret fr lo mc ms D cy σ M av post postX := by
  intro ad sz
  refine vx_ofW (cc := cc) (maxL := maxL) (ret := ret) hy rfl ?_
  intro p e s m args below meth c s₁ B hml hno hv
  obtain ⟨rfl, ⟨hsz, hP, hK, hD0, hN⟩, hZ⟩ := hv
  have hts := atoms_spec (ws := Cond.code y cc maxL ret :: lw_good) B.pre
  have hown : s.vm.findClass y.cls = some m.cls := findClass_of_methodNamed B.named
  subst hsz
  have hD := hD0.self (sz := s.heap.size)
  have hl := lv_entry (av.map (pz_t ad)) (n := maxL) (by rw [pz_sl_len]; exact hlen)
  rw [lg_entry_eq]
  rw [pz_args_map] at hl
  exact body p e s m _ below meth c ad _ ⟨⟨B.exec, B.bytes, hml, hown, fun w hw => hts w (List.mem_cons_of_mem _ hw)⟩, hK, fun q h => Or.inr h, B.notSynchronized, hN⟩ B.returns hZ hno ad s.heap [] _ (fun _ _ => rfl) hP hD va_S.rf hl
theorem pz_retX {Qc : Array Value → State → Outcome → State → Prop} {XC : String → State → State → Prop} (k : pz_W p l e R s m args below meth c nL D cy A n0 ad0 (MQ below Qc args s mc ms A) σ M cells slots pc loc st) : pz_W p l e R s m args below meth c nL D cy A n0 ad0 (vx_MQ below Qc XC args s mc ms A) σ M cells slots pc loc st :=
  fun ad H locs ls ha hP hD hS hl => vx_ret (k ad H locs ls ha hP hD hS hl)
theorem pz_throw0 (C : pz_C p s m args meth c cc nL own D cy A) {Qc : Array Value → State → Outcome → State → Prop} (hl0 : l.stackTraces = false) (hZ : pz_Z A s s.heap) (hno : ∀ x ∈ c.exceptionTable.toList, False) {cls : String} {names : List String} {ik ic : Nat}
    (d0 : decode cc pc = .ok (.new ik, 3)) (d3 : decode cc (pc + 3) = .ok (.dup, 1)) (d4 : decode cc (pc + 4) = .ok (.invokespecial ic, 3)) (d7 : decode cc (pc + 7) = .ok (.athrow, 1))
    (hcls : Bundle.fit cls = true) (hnames : ∀ n ∈ names, Bundle.fit n = true) (hat : ∀ w ∈ Cond.classLink own ik cls :: Cond.initialized cls :: vx_at0 own ic cls names, w ∈ lw_face)
    (hfr : names.length + 3 < R.frames) (hlo : (st.map fun v => v.category).sum + (13 * (names.length + 1) + 42) ≤ R.locals) (hRc : cells + 1 ≤ R.cells) (hRs : slots + 6 ≤ R.slots) (hc : cells + 1 ≤ mc) (hs : slots + 6 ≤ ms) (hx : postX cls σ M) :
    pz_W p l e R s m args below meth c nL D cy A n0 ad0 (vx_MQ below Qc (pz_XQ D cy n0 ad0 postX A) args s mc ms A) σ M cells slots pc loc st := by
  intro ad H locs ls ha hP hD hS hl
  have hw : ∀ w ∈ Cond.classLink own ik cls :: Cond.initialized cls :: vx_at0 own ic cls names, w.before args s = true := fun w h => pz_N.use C.2.2.2.2 (hat w h)
  refine vx_throw0 C.1.1 C.1.2.1 hl0 C.1.2.2.2.1 hcls hnames (hw _ List.mem_cons_self) (hw _ (List.mem_cons_of_mem _ List.mem_cons_self)) (fun w h => hw w (List.mem_cons_of_mem _ (List.mem_cons_of_mem _ h))) ?_ hZ.1 hZ.2.1 hS (by rw [C.1.2.2.1]; exact hl.1) d0 d3 d4 d7 (fun x h => (hno x h).elim) hfr (by rw [pz_catsum]; exact hlo) hRc hRs C.2.2.2.1 ?_ hS.2.2 hc hs
  · intro w h
    have h9 := (List.mem_filter.mp (hat w h)).2
    simp only [Bool.and_eq_true] at h9
    simp [vx_ot, h9.1]
  · intro t hvm hz hk
    have hlt : ∀ (k : Nat) (q : Nat × va_E), (pz_w cy ad σ M)[k]? = some q → t.heap[q.1]? = H[q.1]? := fun k q hq => hk _ (hP k q hq).lt
    exact ⟨⟨σ, M, ad, ha, hx, hP.kept hlt, va_K.moved hvm C.2.1, hD⟩, Nat.le_trans hS.1 hz, fun q g1 g2 => by rw [hk q (Nat.lt_of_lt_of_le g1 hS.1)]; exact hS.2.1 q g1 g2⟩
end PZF
