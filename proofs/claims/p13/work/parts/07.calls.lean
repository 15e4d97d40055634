/-! CONTRACTS OVER PURE WORLDS: entry, ends, calls -/
def pz_bd (n : Nat) (v : Value) : Prop := match v with
  | .ref i => i < n
  | _ => True
def pz_all (n : Nat) : List Value → Prop
  | [] => True
  | v :: t => pz_bd n v ∧ pz_all n t
def pz_alll (n : Nat) : List (Nat × Value) → Prop
  | [] => True
  | q :: t => pz_bd n q.2 ∧ pz_alll n t
theorem pz_t_ext {ad ad' : Nat → Nat} {n : Nat} (h : ∀ i, i < n → ad' i = ad i) {v : Value} (hv : pz_bd n v) : pz_t ad' v = pz_t ad v := by
  cases v <;> first | rfl | exact congrArg Value.ref (h _ hv)
theorem pz_all_map {ad ad' : Nat → Nat} {n : Nat} (h : ∀ i, i < n → ad' i = ad i) : ∀ {st : List Value}, pz_all n st → st.map (pz_t ad') = st.map (pz_t ad)
  | [], _ => rfl
  | v :: t, hv => by simp only [List.map_cons]; rw [pz_t_ext h hv.1, pz_all_map h hv.2]
theorem pz_alll_map {ad ad' : Nat → Nat} {n : Nat} (h : ∀ i, i < n → ad' i = ad i) : ∀ {loc : List (Nat × Value)}, pz_alll n loc → loc.map (pz_p ad') = loc.map (pz_p ad)
  | [], _ => rfl
  | q :: t, hv => by simp only [List.map_cons, pz_p]; rw [pz_t_ext h hv.1, pz_alll_map h hv.2]
theorem pz_args_map (ad : Nat → Nat) : ∀ (av : List Value) (i : Nat), lv_args i (av.map (pz_t ad)) = (lv_args i av).map (pz_p ad)
  | [], i => rfl
  | v :: t, i => by simp only [List.map_cons, lv_args, pz_t_cat, pz_p]; rw [pz_args_map ad t]
theorem pz_sl_len (ad : Nat → Nat) : ∀ (av : List Value), (lg_sl (av.map (pz_t ad))).length = (lg_sl av).length
  | [] => rfl
  | v :: t => by
    have ih := pz_sl_len ad t
    unfold lg_sl at ih ⊢
    simp only [List.map_cons, List.flatMap_cons, List.length_append, pz_t_cat, ih]
    split <;> rfl
def pz_Q (D : va_G) (cy : Nat → ClassId) (n0 : Nat) (ad0 : Nat → Nat) (post : Option Value → pzS → pzM → Prop) (A : Nat → Prop) : Array Value → State → Outcome → State → Prop := fun _ st oc t =>
  (∃ (r : Option Value) (σ' : pzS) (M' : pzM) (ad' : Nat → Nat), (∀ i, i < n0 → ad' i = ad0 i) ∧ oc = .returned (r.map (pz_t ad')) ∧ post r σ' M' ∧ va_P D pz_cl (pz_w cy ad' σ' M') t.heap ∧ va_K D pz_cl (pz_tys cy) t ∧ va_D A (pz_w cy ad' σ' M')) ∧ va_F A st t
def pz_Pre (D : va_G) (cy : Nat → ClassId) (ad : Nat → Nat) (sz : Nat) (σ : pzS) (M : pzM) (U : State) : Prop :=
  U.heap.size = sz ∧ va_P D pz_cl (pz_w cy ad σ M) U.heap ∧ va_K D pz_cl (pz_tys cy) U ∧ va_D (fun _ => True) (pz_w cy ad σ M) ∧ pz_N U
def pz_Met (l : Launch) (y : MethodName) (cc : ByteArray) (maxL : Nat) (ret : Option FieldType) (fr lo mc ms : Nat) (D : va_G) (cy : Nat → ClassId) (σ : pzS) (M : pzM) (av : List Value) (post : Option Value → pzS → pzM → Prop) : Prop :=
  ∀ (ad : Nat → Nat) (sz : Nat), Met l y (Cond.code y cc maxL ret :: lw_good) ({ frames := fr, cells := mc, slots := ms, locals := lo }) (va_Pc (av.map (pz_t ad)) (pz_Pre D cy ad sz σ M)) (pz_Q D cy σ.1 ad post (va_A (pz_w cy ad σ M) sz)) mc ms (va_A (pz_w cy ad σ M) sz)
theorem pz_blind {D : va_G} {cy : Nat → ClassId} {ad : Nat → Nat} {sz : Nat} {σ : pzS} {M : pzM} {av : List Value} : FrameBlind (va_Pc av (pz_Pre D cy ad sz σ M)) := by
  intro a U g mk q
  obtain ⟨q0, q1, qP, qK, qD, qN⟩ := q
  exact ⟨q0, q1, qP, va_K.moved (u := U) (U := U.calling g mk a) (Vm.Alike.refl U.vm) qK, qD, pz_N.same (u := U) (U := U.calling g mk a) rfl qN⟩
theorem pz_ofW {l : Launch} {y : MethodName} {cc : ByteArray} {maxL : Nat} {ret : Option FieldType} {fr lo mc ms : Nat} {D : va_G} {cy : Nat → ClassId} {σ : pzS} {M : pzM} {av : List Value} {post : Option Value → pzS → pzM → Prop} (hy : plainName y.cls = true) (hlen : (lg_sl av).length ≤ maxL)
    (body : ∀ (p : Program) (e : Env) (s : State) (m : MethodId) (args : Array Value) (below : List Frame) (meth : Method) (c : Code) (ad : Nat → Nat) (A : Nat → Prop), pz_C p s m args meth c cc maxL y.cls D cy A → meth.sig.returnType = ret → meth.name = y.name →
      pz_W p l e ({ frames := fr, cells := mc, slots := ms, locals := lo }) s m args below meth c maxL D cy A σ.1 ad (MQ below (pz_Q D cy σ.1 ad post A) args s mc ms A) σ M 0 0 0 (lv_args 0 av) []) : pz_Met l y cc maxL ret fr lo mc ms D cy σ M av post := by
  intro ad sz
  refine Met.ofW (cc := cc) (maxL := maxL) (ret := ret) hy rfl ?_
  intro p e s m args below meth c s₁ B hml hv
  obtain ⟨rfl, hsz, hP, hK, hD0, hN⟩ := hv
  have hts := atoms_spec (ws := Cond.code y cc maxL ret :: lw_good) B.pre
  have hown : s.vm.findClass y.cls = some m.cls := findClass_of_methodNamed B.named
  subst hsz
  have hD := hD0.self (sz := s.heap.size)
  have hl := lv_entry (av.map (pz_t ad)) (n := maxL) (by rw [pz_sl_len]; exact hlen)
  rw [lg_entry_eq]
  rw [pz_args_map] at hl
  exact body p e s m _ below meth c ad _ ⟨⟨B.exec, B.bytes, hml, hown, fun w hw => hts w (List.mem_cons_of_mem _ hw)⟩, hK, fun q h => Or.inr h, B.notSynchronized, hN⟩ B.returns (name_of_methodNamed B.named B.method).1 ad s.heap [] _ (fun _ _ => rfl) hP hD va_S.rf hl
section PZE
variable {p : Program} {l : Launch} {e : Env} {R : Room} {s : State} {m : MethodId} {args : Array Value} {below : List Frame} {meth : Method} {c : Code} {cc : ByteArray} {nL : Nat} {own : String} {D : va_G} {cy : Nat → ClassId} {A : Nat → Prop} {n0 : Nat} {ad0 : Nat → Nat} {Q : State → Prop} {σ : pzS} {M : pzM} {cells slots pc mc ms : Nat} {loc loc' : List (Nat × Value)} {st : List Value} {post : Option Value → pzS → pzM → Prop}
theorem pz_iret (C : pz_C p s m args meth c cc nL own D cy A) {v : Int32} (hr : meth.sig.returnType = some .int) (hc : cells ≤ mc) (hs : slots ≤ ms) (hd : decode cc pc = .ok (.ireturn, 1)) (hp : post (some (.int v)) σ M) : pz_W p l e R s m args below meth c nL D cy A n0 ad0 (MQ below (pz_Q D cy n0 ad0 post A) args s mc ms A) σ M cells slots pc loc [.int v] :=
  fun ad H locs ls ha hP hD hS hl => W.widen hc hs (W.iret C.1.1 C.1.2.1 hr (fun t ht hW => ⟨⟨some (.int v), σ, M, ad, ha, rfl, hp, by rw [ht]; exact hP, va_K.moved hW.alike C.2.1, hD⟩, hS.F ht⟩) hS.2.2 hd C.2.2.2.1)
theorem pz_zret (C : pz_C p s m args meth c cc nL own D cy A) {v : Int32} (hr : meth.sig.returnType = some .boolean) (hn : narrow .boolean (.int v) = .int v) (hc : cells ≤ mc) (hs : slots ≤ ms) (hd : decode cc pc = .ok (.ireturn, 1)) (hp : post (some (.int v)) σ M) : pz_W p l e R s m args below meth c nL D cy A n0 ad0 (MQ below (pz_Q D cy n0 ad0 post A) args s mc ms A) σ M cells slots pc loc [.int v] :=
  fun ad H locs ls ha hP hD hS hl => W.widen hc hs (W.zret C.1.1 C.1.2.1 hr hn (fun t ht hW => ⟨⟨some (.int v), σ, M, ad, ha, rfl, hp, by rw [ht]; exact hP, va_K.moved hW.alike C.2.1, hD⟩, hS.F ht⟩) hS.2.2 hd C.2.2.2.1)
theorem pz_lret (C : pz_C p s m args meth c cc nL own D cy A) {v : Int64} (hr : meth.sig.returnType = some .long) (hc : cells ≤ mc) (hs : slots ≤ ms) (hd : decode cc pc = .ok (.lreturn, 1)) (hp : post (some (.long v)) σ M) : pz_W p l e R s m args below meth c nL D cy A n0 ad0 (MQ below (pz_Q D cy n0 ad0 post A) args s mc ms A) σ M cells slots pc loc [.long v] :=
  fun ad H locs ls ha hP hD hS hl => W.widen hc hs (W.lret C.1.1 C.1.2.1 hr (fun t ht hW => ⟨⟨some (.long v), σ, M, ad, ha, rfl, hp, by rw [ht]; exact hP, va_K.moved hW.alike C.2.1, hD⟩, hS.F ht⟩) hS.2.2 hd C.2.2.2.1)
theorem pz_vret (C : pz_C p s m args meth c cc nL own D cy A) (hr : meth.sig.returnType = none) (hc : cells ≤ mc) (hs : slots ≤ ms) (hd : decode cc pc = .ok (.return_, 1)) (hp : post none σ M) : pz_W p l e R s m args below meth c nL D cy A n0 ad0 (MQ below (pz_Q D cy n0 ad0 post A) args s mc ms A) σ M cells slots pc loc [] :=
  fun ad H locs ls ha hP hD hS hl => W.widen hc hs (W.vret C.1.1 C.1.2.1 hr (fun t ht hW => ⟨⟨none, σ, M, ad, ha, rfl, hp, by rw [ht]; exact hP, va_K.moved hW.alike C.2.1, hD⟩, hS.F ht⟩) hS.2.2 hd C.2.2.2.1)
theorem pz_aret (C : pz_C p s m args meth c cc nL own D cy A) {v : Nat} {rt : FieldType} (hr : meth.sig.returnType = some rt) (hrt : (∃ n, rt = .object n) ∨ ∃ t, rt = .array t) (hc : cells ≤ mc) (hs : slots ≤ ms) (hd : decode cc pc = .ok (.areturn, 1)) (hp : post (some (.ref v)) σ M) : pz_W p l e R s m args below meth c nL D cy A n0 ad0 (MQ below (pz_Q D cy n0 ad0 post A) args s mc ms A) σ M cells slots pc loc [.ref v] :=
  fun ad H locs ls ha hP hD hS hl => W.widen hc hs (W.aret C.1.1 C.1.2.1 hr hrt (Or.inr ⟨_, rfl⟩) (fun t ht hW => ⟨⟨some (.ref v), σ, M, ad, ha, rfl, hp, by rw [ht]; exact hP, va_K.moved hW.alike C.2.1, hD⟩, hS.F ht⟩) hS.2.2 hd C.2.2.2.1)
/-- which cells the callee may change are ours -/
theorem pz_freeA {H : Heap} {locs : List Loc} {ad : Nat → Nat} (C : pz_C p s m args meth c cc nL own D cy A) (hD : va_D A (pz_w cy ad σ M)) (hS : va_S A s.heap H locs) : ∀ q, va_A (pz_w cy ad σ M) H.size q → A q := by
  intro q h
  rcases h with ⟨k, e9, h⟩ | h
  · exact hD.2 k (q, e9) h
  · exact C.2.2.1 q (Nat.le_trans hS.1 h)
/-- behind a call -/
theorem pz_run {mc ms : Nat} {rest : List Value} {ad : Nat → Nat} {H : Heap} {locs : List Loc} {ls : Array Slot} {st0 : List Value} {a : Array Value} (C : pz_C p s m args meth c cc nL own D cy A)
    (hr : va_Run p l e R s m args below meth c H locs cells slots mc ms (F0 m pc ls st0) (rest.map (pz_t ad)) (pz_Q D cy σ.1 ad post (va_A (pz_w cy ad σ M) H.size) a) (va_A (pz_w cy ad σ M) H.size))
    (hn0 : n0 ≤ σ.1) (h1 : pz_all σ.1 rest) (h2 : pz_alll σ.1 loc) (ha : ∀ i, i < n0 → ad i = ad0 i) (hD : va_D A (pz_w cy ad σ M)) (hS : va_S A s.heap H locs) (hl : lv_has ls nL (loc.map (pz_p ad)))
    (kk : ∀ (r : Option Value) (σ' : pzS) (M' : pzM), post r σ' M' → pz_W p l e R s m args below meth c nL D cy A n0 ad0 Q σ' M' (cells + mc) (slots + ms) (pc + 3) loc (r.toList ++ rest)) : W p l e R s m args below meth c H locs cells slots Q (F0 m pc ls st0) := by
  intro T hT X
  obtain ⟨v, st₀, t, T', L, h0, X', hL, e1, e2, ⟨⟨r, σ', M', ad', hag, hv, hp, hP', hK', hD'⟩, hz, hk⟩, st9⟩ := hr T hT X
  have hv : v = r.map (pz_t ad') := by cases hv; rfl
  subst hv
  rw [h0] at hz hk
  have hfree := pz_freeA C hD hS
  have hS1 : va_S A s.heap T'.heap (locs ++ L) := ⟨Nat.le_trans hS.1 (by rw [e1]; exact hz), fun q g1 g2 => by rw [e1, hk q (Nat.lt_of_lt_of_le g1 hS.1) (fun z => g2 (hfree q z))]; exact hS.2.1 q g1 g2, fun q hq => by
      rcases List.mem_append.mp hq with h | h
      · exact hS.2.2 q h
      · exact hfree _ (hL q h)⟩
  obtain ⟨t2, a1, b1⟩ := kk r σ' M' hp ad' T'.heap (locs ++ L) ls (fun i hi => (hag i (Nat.lt_of_lt_of_le hi hn0)).trans (ha i hi)) (by rw [e1]; exact hP') (hD'.weaken (fun _ q _ h => hfree q.1 h)) hS1 (by rw [pz_alll_map hag h2]; exact hl) T' rfl X'
  refine ⟨t2, st9 t2 ?_, b1⟩
  have hst : (r.map (pz_t ad')).toList ++ rest.map (pz_t ad) = (r.toList ++ rest).map (pz_t ad') := by
    rw [List.map_append, pz_all_map hag h1]
    cases r <;> rfl
  have hst2 : ({ (F0 m pc ls st0) with pc := (F0 m pc ls st0).pc + 3, stack := (r.map (pz_t ad')).toList ++ rest.map (pz_t ad) } : JFrame) = F0 m (pc + 3) ls ((r.toList ++ rest).map (pz_t ad')) := by rw [hst]
  rw [hst2]
  exact a1
def pz_wB (y : MethodName) (bytes : ByteArray) (maxL : Nat) (ret : Option FieldType) (n : Nat) : Prop := Cond.initialized y.cls ∈ lw_good ∧ Cond.code y bytes maxL ret ∈ lw_good ∧ (y.cls ≠ "java/lang/invoke/MethodHandle" ∧ y.cls ≠ "java/lang/invoke/VarHandle" ∧ (parseMethodDescriptor y.desc).map (fun d => d.parameters.length) = some n)
theorem pz_goodIn {y : MethodName} {bytes : ByteArray} {maxL n : Nat} {ret : Option FieldType} (h : pz_wB y bytes maxL ret n) : GoodIn lw_good (Cond.code y bytes maxL ret :: lw_good) := by
  intro w hw
  rcases List.mem_cons.mp hw with rfl | hw
  · exact ⟨h.2.1, good_of_word (lw_good_ok h.2.1)⟩
  · exact ⟨hw, good_of_word (lw_good_ok hw)⟩
theorem pz_catsum {ad : Nat → Nat} : ∀ (rest : List Value), ((rest.map (pz_t ad)).map fun v => v.category).sum = (rest.map fun v => v.category).sum
  | [] => rfl
  | v :: t => by simp only [List.map_cons, List.sum_cons, pz_t_cat, pz_catsum t]
theorem pz_room {m : MethodId} {pc : Nat} {ls : Array Slot} {rest0 rest : List Value} {ad : Nat → Nat} (h : (rest.map fun v => v.category).sum ≤ 8) : 2 * (F0 m pc ls rest0).monitorRoom + ((rest.map (pz_t ad)).map fun v => v.category).sum ≤ 8 := lv_room (by rw [pz_catsum]; exact h)
theorem pz_pre {H : Heap} {ad : Nat → Nat} {av : List Value} (C : pz_C p s m args meth c cc nL own D cy A) (hP : va_P D pz_cl (pz_w cy ad σ M) H) (hD : va_D A (pz_w cy ad σ M)) : PreS s H (va_Pc (av.map (pz_t ad)) (pz_Pre D cy ad H.size σ M)) (av.map (pz_t ad)) :=
  ⟨pz_blind, fun U hU hW => ⟨rfl, by rw [hU], by rw [hU]; exact hP, va_K.moved hW.alike C.2.1, hD.weaken (fun _ _ _ _ => trivial), pz_N.warm hW C.2.2.2.2⟩⟩
theorem pz_callV (C : pz_C p s m args meth c cc nL own D cy A) {y : MethodName} {bytes : ByteArray} {maxL fr lo mc ms n index ci b N : Nat} {ret : Option FieldType} {T : u_T} {As rest : List Value} (hM : pz_Met l y bytes maxL ret fr lo mc ms D cy σ M (.ref b :: As) post)
    (hw : pz_wB y bytes maxL ret n) (hw1 : Cond.methodLink own index y ∈ lw_good) (hw2 : Cond.instanceMethod y ∈ lw_good) (hw3 : Cond.selects y.cls y y ∈ lw_good) (hci : pz_cl[ci]? = some (y.cls, T, N)) (hb : b < σ.1) (hK : (σ.2.1 b).1 = ci + 4)
    (hn : As.length = n) (hst : st = As.reverse ++ .ref b :: rest) (hcat : (rest.map fun v => v.category).sum ≤ 8) (hR : fr + 1 ≤ R.frames ∧ 8 + (maxL + 11) + lo ≤ R.locals) (hf : cells + mc ≤ R.cells ∧ slots + ms ≤ R.slots) (hd : decode cc pc = .ok (.invokevirtual index, 3))
    (hn0 : n0 ≤ σ.1) (h1 : pz_all σ.1 rest) (h2 : pz_alll σ.1 loc)
    (kk : ∀ (r : Option Value) (σ' : pzS) (M' : pzM), post r σ' M' → pz_W p l e R s m args below meth c nL D cy A n0 ad0 Q σ' M' (cells + mc) (slots + ms) (pc + 3) loc (r.toList ++ rest)) : pz_W p l e R s m args below meth c nL D cy A n0 ad0 Q σ M cells slots pc loc st := by
  intro ad H locs ls ha hP hD hS hl
  subst hst
  have hcw : CallW R s args own y.cls index y bytes maxL ret (Cond.code y bytes maxL ret :: lw_good) ({ frames := fr, cells := mc, slots := ms, locals := lo }) mc ms n :=
    ⟨callB_of n C.1.2.2.2.2 (pz_goodIn hw) rfl rfl rfl (C.1.2.2.2.2 _ hw.1) (C.1.2.2.2.2 _ hw1) hw.2.2 hR, C.1.2.2.2.2 _ hw2, C.1.2.2.2.2 _ hw3⟩
  have hpre : PreV s H y.cls (ad b) (va_Pc ((.ref b :: As).map (pz_t ad)) (pz_Pre D cy ad H.size σ M)) (As.map (pz_t ad)) :=
    ⟨pz_blind, va_recv C.2.1 hP hci (pz_at hb hK), (pz_pre (av := .ref b :: As) C hP hD).2⟩
  exact pz_run C (va_runV (As := As.map (pz_t ad)) (rest := rest.map (pz_t ad)) (b := ad b) C.1 (hM ad H.size) hcw hpre rfl (by rw [List.length_map]; exact hn) hl.1 (by simp [pz_t, List.map_reverse]) (pz_room hcat) hd hf) hn0 h1 h2 ha hD hS hl kk
theorem pz_callS (C : pz_C p s m args meth c cc nL own D cy A) {y : MethodName} {bytes : ByteArray} {maxL fr lo mc ms n index : Nat} {ret : Option FieldType} {As rest : List Value} (hM : pz_Met l y bytes maxL ret fr lo mc ms D cy σ M As post)
    (hw : pz_wB y bytes maxL ret n) (hw1 : Cond.methodLink own index y ∈ lw_good) (hw2 : Cond.static y ∈ lw_good) (hn : As.length = n) (hst : st = As.reverse ++ rest) (hcat : (rest.map fun v => v.category).sum ≤ 8) (hR : fr + 1 ≤ R.frames ∧ 8 + (maxL + 11) + lo ≤ R.locals) (hf : cells + mc ≤ R.cells ∧ slots + ms ≤ R.slots) (hd : decode cc pc = .ok (.invokestatic index, 3)) (hn0 : n0 ≤ σ.1) (h1 : pz_all σ.1 rest) (h2 : pz_alll σ.1 loc)
    (kk : ∀ (r : Option Value) (σ' : pzS) (M' : pzM), post r σ' M' → pz_W p l e R s m args below meth c nL D cy A n0 ad0 Q σ' M' (cells + mc) (slots + ms) (pc + 3) loc (r.toList ++ rest)) : pz_W p l e R s m args below meth c nL D cy A n0 ad0 Q σ M cells slots pc loc st := by
  intro ad H locs ls ha hP hD hS hl
  subst hst
  exact pz_run C (va_runS (As := As.map (pz_t ad)) (rest := rest.map (pz_t ad)) C.1 (hM ad H.size) ⟨callB_of n C.1.2.2.2.2 (pz_goodIn hw) rfl rfl rfl (C.1.2.2.2.2 _ hw.1) (C.1.2.2.2.2 _ hw1) hw.2.2 hR, C.1.2.2.2.2 _ hw2⟩ (pz_pre C hP hD) rfl (by rw [List.length_map]; exact hn) hl.1 (by simp [List.map_reverse]) (pz_room hcat) hd hf) hn0 h1 h2 ha hD hS hl kk
theorem pz_callSN (C : pz_C p s m args meth c cc nL own D cy A) {y : MethodName} {bytes : ByteArray} {maxL fr lo mc ms n index : Nat} {ret : Option FieldType} {As rest : List Value} {host : String} (hM : pz_Met l y bytes maxL ret fr lo mc ms D cy σ M As post)
    (hw : pz_wB y bytes maxL ret n) (hw1 : (own, index, y, host) ∈ pz_nests) (hw2 : Cond.static y ∈ lw_good) (hn : As.length = n) (hst : st = As.reverse ++ rest) (hcat : (rest.map fun v => v.category).sum ≤ 8) (hR : fr + 1 ≤ R.frames ∧ 8 + (maxL + 11) + lo ≤ R.locals) (hf : cells + mc ≤ R.cells ∧ slots + ms ≤ R.slots) (hd : decode cc pc = .ok (.invokestatic index, 3)) (hn0 : n0 ≤ σ.1) (h1 : pz_all σ.1 rest) (h2 : pz_alll σ.1 loc)
    (kk : ∀ (r : Option Value) (σ' : pzS) (M' : pzM), post r σ' M' → pz_W p l e R s m args below meth c nL D cy A n0 ad0 Q σ' M' (cells + mc) (slots + ms) (pc + 3) loc (r.toList ++ rest)) : pz_W p l e R s m args below meth c nL D cy A n0 ad0 Q σ M cells slots pc loc st := by
  intro ad H locs ls ha hP hD hS hl
  subst hst
  exact pz_run C (va_runSN (As := As.map (pz_t ad)) (rest := rest.map (pz_t ad)) C.1 (hM ad H.size) ⟨va_cnB n C.1.2.2.2.2 (pz_goodIn hw) rfl rfl rfl (C.2.2.2.2.1 _ hw1) (C.1.2.2.2.2 _ hw.1) hw.2.2 hR, C.1.2.2.2.2 _ hw2, trivial⟩ (pz_pre C hP hD) rfl (by rw [List.length_map]; exact hn) hl.1 (by simp [List.map_reverse]) (pz_room hcat) hd hf) hn0 h1 h2 ha hD hS hl kk
theorem pz_callI (C : pz_C p s m args meth c cc nL own D cy A) {y : MethodName} {bytes : ByteArray} {maxL fr lo mc ms n index : Nat} {As rest : List Value} {b : Nat} (hM : pz_Met l y bytes maxL none fr lo mc ms D cy σ M (.ref b :: As) post)
    (hw : pz_wB y bytes maxL none n) (hw1 : Cond.methodLink own index y ∈ lw_good) (hw2 : Cond.instanceMethod y ∈ lw_good) (hy : y.name = "<init>") (hn : As.length = n) (hst : st = As.reverse ++ .ref b :: rest) (hcat : (rest.map fun v => v.category).sum ≤ 8) (hR : fr + 1 ≤ R.frames ∧ 8 + (maxL + 11) + lo ≤ R.locals) (hf : cells + mc ≤ R.cells ∧ slots + ms ≤ R.slots) (hd : decode cc pc = .ok (.invokespecial index, 3)) (hn0 : n0 ≤ σ.1) (h1 : pz_all σ.1 rest) (h2 : pz_alll σ.1 loc)
    (kk : ∀ (r : Option Value) (σ' : pzS) (M' : pzM), post r σ' M' → pz_W p l e R s m args below meth c nL D cy A n0 ad0 Q σ' M' (cells + mc) (slots + ms) (pc + 3) loc (r.toList ++ rest)) : pz_W p l e R s m args below meth c nL D cy A n0 ad0 Q σ M cells slots pc loc st := by
  intro ad H locs ls ha hP hD hS hl
  subst hst
  exact pz_run C (va_runI (As := As.map (pz_t ad)) (rest := rest.map (pz_t ad)) (b := ad b) C.1 (hM ad H.size) ⟨callB_of n C.1.2.2.2.2 (pz_goodIn hw) rfl rfl rfl (C.1.2.2.2.2 _ hw.1) (C.1.2.2.2.2 _ hw1) hw.2.2 hR, hy, C.1.2.2.2.2 _ hw2⟩ (pz_pre (av := .ref b :: As) C hP hD) rfl (by rw [List.length_map]; exact hn) hl.1 (by simp [pz_t, List.map_reverse]) (pz_room hcat) hd hf) hn0 h1 h2 ha hD hS hl kk
theorem pz_callIN (C : pz_C p s m args meth c cc nL own D cy A) {y : MethodName} {bytes : ByteArray} {maxL fr lo mc ms n index : Nat} {As rest : List Value} {b : Nat} {host : String} (hM : pz_Met l y bytes maxL none fr lo mc ms D cy σ M (.ref b :: As) post)
    (hw : pz_wB y bytes maxL none n) (hw1 : (own, index, y, host) ∈ pz_nests) (hw2 : Cond.instanceMethod y ∈ lw_good) (hy : y.name = "<init>") (hn : As.length = n) (hst : st = As.reverse ++ .ref b :: rest) (hcat : (rest.map fun v => v.category).sum ≤ 8) (hR : fr + 1 ≤ R.frames ∧ 8 + (maxL + 11) + lo ≤ R.locals) (hf : cells + mc ≤ R.cells ∧ slots + ms ≤ R.slots) (hd : decode cc pc = .ok (.invokespecial index, 3)) (hn0 : n0 ≤ σ.1) (h1 : pz_all σ.1 rest) (h2 : pz_alll σ.1 loc)
    (kk : ∀ (r : Option Value) (σ' : pzS) (M' : pzM), post r σ' M' → pz_W p l e R s m args below meth c nL D cy A n0 ad0 Q σ' M' (cells + mc) (slots + ms) (pc + 3) loc (r.toList ++ rest)) : pz_W p l e R s m args below meth c nL D cy A n0 ad0 Q σ M cells slots pc loc st := by
  intro ad H locs ls ha hP hD hS hl
  subst hst
  exact pz_run C (va_runIN (As := As.map (pz_t ad)) (rest := rest.map (pz_t ad)) (b := ad b) C.1 (hM ad H.size) ⟨va_cnB n C.1.2.2.2.2 (pz_goodIn hw) rfl rfl rfl (C.2.2.2.2.1 _ hw1) (C.1.2.2.2.2 _ hw.1) hw.2.2 hR, hy, C.1.2.2.2.2 _ hw2⟩ (pz_pre (av := .ref b :: As) C hP hD) rfl (by rw [List.length_map]; exact hn) hl.1 (by simp [pz_t, List.map_reverse]) (pz_room hcat) hd hf) hn0 h1 h2 ha hD hS hl kk
theorem pz_objInit (C : pz_C p s m args meth c cc nL own D cy A) {idx b : Nat} (hw1 : Cond.methodLink own idx objectInit ∈ lw_good) (hw2 : Cond.instanceMethod objectInit ∈ lw_good) (hw3 : Cond.code objectInit ⟨#[0xb1]⟩ 1 none ∈ lw_good) (hd : decode cc pc = .ok (.invokespecial idx, 3)) (hfr : 1 ≤ R.frames) (hlo : (st.map fun v => v.category).sum + 12 ≤ R.locals)
    (k : pz_W p l e R s m args below meth c nL D cy A n0 ad0 Q σ M cells slots (pc + 3) loc st) : pz_W p l e R s m args below meth c nL D cy A n0 ad0 Q σ M cells slots pc loc (.ref b :: st) :=
  fun ad H locs ls ha hP hD hS hl => W.objInit C.1.1 C.1.2.1 C.1.2.2.2.1 (C.1.2.2.2.2 _ hw1) (C.1.2.2.2.2 _ hw2) (C.1.2.2.2.2 _ hw3) rfl (by rw [C.1.2.2.1]; exact hl.1) rfl hd hfr (by show 2 * 0 + ((st.map (pz_t ad)).map fun v => v.category).sum + 12 ≤ _; rw [pz_catsum]; omega) (k ad H locs ls ha hP hD hS hl)
theorem pz_ldc2 (C : pz_C p s m args meth c cc nL own D cy A) {index : Nat} {v : Int64} (hw : Cond.constantLong own index v ∈ lw_good) (hd : decode cc pc = .ok (.ldc2_w index, 3)) (k : pz_W p l e R s m args below meth c nL D cy A n0 ad0 Q σ M cells slots (pc + 3) loc (.long v :: st)) : pz_W p l e R s m args below meth c nL D cy A n0 ad0 Q σ M cells slots pc loc st :=
  fun ad H locs ls ha hP hD hS hl => lv_ldc2 C.1.1 C.1.2.1 C.1.2.2.2.1 (C.1.2.2.2.2 _ hw) hd (k ad H locs ls ha hP hD hS hl)
theorem pz_ldc (C : pz_C p s m args meth c cc nL own D cy A) {index : Nat} {v : Int32} (hw : Cond.constant own index v ∈ lw_good) (hd : decode cc pc = .ok (.ldc index, 2)) (k : pz_W p l e R s m args below meth c nL D cy A n0 ad0 Q σ M cells slots (pc + 2) loc (.int v :: st)) : pz_W p l e R s m args below meth c nL D cy A n0 ad0 Q σ M cells slots pc loc st :=
  fun ad H locs ls ha hP hD hS hl => lv_ldc C.1.1 C.1.2.1 C.1.2.2.2.1 (C.1.2.2.2.2 _ hw) hd (k ad H locs ls ha hP hD hS hl)
/-! new cells -/
def pz_wf (σ : pzS) : Prop := ∀ i k r, σ.2.2 i k = some r → r < σ.1
theorem pz_wf_put {σ : pzS} {i k j : Nat} (h : pz_wf σ) (hj : j < σ.1) : pz_wf (σ.1, σ.2.1, pz_u σ.2.2 i k (some j)) := by
  intro a b r hr
  by_cases hab : a = i ∧ b = k
  · obtain ⟨rfl, rfl⟩ := hab
    have : pz_u σ.2.2 a b (some j) a b = some r := hr
    rw [pz_u_eq] at this
    cases this; exact hj
  · have : pz_u σ.2.2 i k (some j) a b = some r := hr
    rw [pz_u_ne _ _ (by by_cases ha : a = i <;> simp_all)] at this
    exact h a b r this
/-- one cell more: kind q, no references, zeros -/
def pz_new (σ : pzS) (q : Nat × Nat) : pzS := (σ.1 + 1, va_up σ.2.1 σ.1 q, va_up σ.2.2 σ.1 (fun _ => none))
def pz_nM (σ : pzS) (M : pzM) : pzM := (va_up M.1 σ.1 (fun _ => 0), va_up M.2 σ.1 (fun _ => 0))
theorem pz_wf_new {σ : pzS} {q : Nat × Nat} (h : pz_wf σ) : pz_wf (pz_new σ q) := by
  intro a b r hr
  have hr : va_up σ.2.2 σ.1 (fun _ => none) a b = some r := hr
  by_cases ha : a = σ.1
  · subst ha; simp [va_up] at hr
  · simp only [va_up, if_neg ha] at hr
    exact Nat.lt_succ_of_lt (h a b r hr)
theorem pz_w_push {cy : Nat → ClassId} {ad : Nat → Nat} {σ : pzS} {M : pzM} {q : Nat} {kd : Nat × Nat} {e9 : va_E} (hwf : pz_wf σ) (he : pz_e cy (va_up ad σ.1 q) (pz_new σ kd) (pz_nM σ M) σ.1 = e9) : pz_w cy ad σ M ++ [(q, e9)] = pz_w cy (va_up ad σ.1 q) (pz_new σ kd) (pz_nM σ M) := by
  show _ = (List.range (σ.1 + 1)).map _
  rw [List.range_succ, List.map_append]
  refine congr (congrArg _ ?_) ?_
  · refine List.map_congr_left (fun i hi => ?_)
    have hi : i < σ.1 := List.mem_range.mp hi
    have hne : i ≠ σ.1 := by omega
    have e1 : va_up ad σ.1 q i = ad i := by simp [va_up, hne]
    rw [e1]
    refine congrArg (fun z => (ad i, z)) ?_
    unfold pz_e
    have hk : (pz_new σ kd).2.1 i = σ.2.1 i := by simp [pz_new, va_up, hne]
    have h1 : (pz_nM σ M).1 i = M.1 i := by simp [pz_nM, va_up, hne]
    have h2 : (pz_nM σ M).2 i = M.2 i := by simp [pz_nM, va_up, hne]
    have h3 : (pz_new σ kd).2.2 i = σ.2.2 i := by simp [pz_new, va_up, hne]
    rw [hk, h1, h2]
    have hf : ∀ c, pz_fs (va_up ad σ.1 q) (pz_new σ kd) (pz_nM σ M) i 0 (pz_ft c) = pz_fs ad σ M i 0 (pz_ft c) := fun c => pz_fs_congr _ _ (fun k t _ => by
      unfold pz_v
      rw [h1, h2, h3]
      cases hr : σ.2.2 i (0 + k) with
      | none => rfl
      | some r =>
        have hlt := hwf i _ r hr
        have : va_up ad σ.1 q r = ad r := by simp [va_up, Nat.ne_of_lt hlt]
        simp [this])
    split <;> first | rfl | (rw [hf])
  · simp [va_up, he]
theorem pz_up_ad {ad : Nat → Nat} {n q : Nat} : ∀ i, i < n → va_up ad n q i = ad i := fun i h => by simp [va_up, Nat.ne_of_lt h]
theorem pz_newarr (C : pz_C p s m args meth c cc nL own D cy A) {atype : ArrayType} {ty : FieldType} {t N' : Nat} {x : Int32} (hd : decode cc pc = .ok (.newarray atype, 2)) (hty : newarray.typeOf atype = ty) (hw : Cond.arrayClass (newarray.typeOf atype) ∈ lw_good) (ht : (t, ty) = (0, .byte) ∨ (t, ty) = (1, .int) ∨ (t, ty) = (2, .long) ∨ (t, ty) = (3, .boolean)) (hx : ¬ x < 0) (hN : x.toNatClampNeg = N') (hb : N' ≤ 1000000)
    (hwf : pz_wf σ) (hn0 : n0 ≤ σ.1) (h1 : pz_all σ.1 st) (h2 : pz_alll σ.1 loc) (hcells : cells + 1 ≤ R.cells) (hslots : slots + N' ≤ R.slots)
    (kk : pz_W p l e R s m args below meth c nL D cy A n0 ad0 Q (pz_new σ (t, N')) (pz_nM σ M) (cells + 1) (slots + N') (pc + 2) loc (.ref σ.1 :: st)) : pz_W p l e R s m args below meth c nL D cy A n0 ad0 Q σ M cells slots pc loc (.int x :: st) := by
  intro ad H locs ls ha hP hD hS hl
  have hby : N' * componentBytes ty ≤ 536870912 := by rcases ht with h | h | h | h <;> cases h <;> simp [componentBytes] <;> omega
  obtain ⟨a0, ha0, he9⟩ : ∃ a0 : vp_A, (∀ cA : ClassId, vp_cell cA a0 = arrV cA N' (fun _ => defaultValue ty)) ∧ ∀ q, pz_e cy (va_up ad σ.1 q) (pz_new σ (t, N')) (pz_nM σ M) σ.1 = .inl (cy t, a0) := by
    rcases ht with h | h | h | h <;> cases h
    · exact ⟨(N', .inl (fun _ => 0)), fun _ => rfl, fun q => by simp [pz_e, pz_new, pz_nM, va_up]⟩
    · exact ⟨(N', .inl (fun _ => 0)), fun _ => rfl, fun q => by simp [pz_e, pz_new, pz_nM, va_up]⟩
    · exact ⟨(N', .inr (.inl (fun _ => 0))), fun _ => rfl, fun q => by simp [pz_e, pz_new, pz_nM, va_up]⟩
    · exact ⟨(N', .inl (fun _ => 0)), fun _ => rfl, fun q => by simp [pz_e, pz_new, pz_nM, va_up]⟩
  refine va_newa C.1.1 C.1.2.1 (C.1.2.2.2.2 _ hw) hty C.2.1 hP hD hS C.2.2.1 ha0 hx hN hby hcells hslots hd (fun q cA H1 hK1 hP1 hD1 hS1 => ?_)
  have hcA : cA = cy t := by
    have g1 := (hK1.2 4 (cA, ty) rfl).2
    rcases ht with h | h | h | h <;> cases h
    · exact Option.some.inj (g1.symm.trans (C.2.1.2 0 (cy 0, .byte) rfl).2)
    · exact Option.some.inj (g1.symm.trans (C.2.1.2 1 (cy 1, .int) rfl).2)
    · exact Option.some.inj (g1.symm.trans (C.2.1.2 2 (cy 2, .long) rfl).2)
    · exact Option.some.inj (g1.symm.trans (C.2.1.2 3 (cy 3, .boolean) rfl).2)
  subst hcA
  have e1 := pz_w_push (M := M) hwf (he9 q)
  rw [e1] at hP1 hD1
  have k9 := kk (va_up ad σ.1 q) H1 locs ls (fun i hi => (pz_up_ad i (Nat.lt_of_lt_of_le hi hn0)).trans (ha i hi)) hP1 hD1 hS1 (by rw [pz_alll_map (fun i hi => pz_up_ad i hi) h2]; exact hl)
  simp only [List.map_cons] at k9
  rw [pz_all_map (fun i hi => pz_up_ad i hi) h1] at k9
  have e2 : pz_t (va_up ad σ.1 q) (.ref σ.1) = .ref q := by simp [pz_t, va_up]
  rw [e2] at k9
  exact k9
end PZE
