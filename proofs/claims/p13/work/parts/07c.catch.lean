/-! METHODS WITH HANDLERS: the law's own small methods; calls of methods that throw -/
theorem pz_w_ad {cy : Nat → ClassId} {ad : Nat → Nat} {σ : pzS} {M : pzM} {q : Nat} (hwf : pz_wf σ) : pz_w cy (va_up ad σ.1 q) σ M = pz_w cy ad σ M := by
  refine pz_w_congr rfl (fun i hi => pz_up_ad i hi) (fun i hi => ?_)
  unfold pz_e
  have hf : ∀ c, pz_fs (va_up ad σ.1 q) σ M i 0 (pz_ft c) = pz_fs ad σ M i 0 (pz_ft c) := fun c => pz_fs_congr _ _ (fun k t _ => by
    unfold pz_v
    cases hr : σ.2.2 i (0 + k) with
    | none => rfl
    | some r =>
      have hlt := hwf i _ r hr
      have : va_up ad σ.1 q r = ad r := by simp [va_up, Nat.ne_of_lt hlt]
      simp [this])
  split <;> first | rfl | (rw [hf])
def pz_MetH (l : Launch) (y : MethodName) (cc : ByteArray) (maxL : Nat) (ret : Option FieldType) (hh : List (Nat × Nat × Nat × Nat)) (fr lo mc ms : Nat) (D : va_G) (cy : Nat → ClassId) (σ : pzS) (M : pzM) (av : List Value) (post : Option Value → pzS → pzM → Prop) : Prop :=
  ∀ (ad : Nat → Nat) (sz : Nat), Met l y (Cond.codeWith y cc maxL ret hh :: lw_good) ({ frames := fr, cells := mc, slots := ms, locals := lo }) (va_Pc (av.map (pz_t ad)) (pz_PreX D cy ad sz σ M)) (pz_Q D cy σ.1 ad post (va_A (pz_w cy ad σ M) sz)) mc ms (va_A (pz_w cy ad σ M) sz)
section PZG
variable {p : Program} {l : Launch} {e : Env} {R : Room} {s : State} {m : MethodId} {args : Array Value} {below : List Frame} {meth : Method} {c : Code} {cc : ByteArray} {nL : Nat} {own : String} {D : va_G} {cy : Nat → ClassId} {A : Nat → Prop} {n0 : Nat} {ad0 : Nat → Nat} {Q : State → Prop} {σ : pzS} {M : pzM} {cells slots pc mc ms : Nat} {loc loc' : List (Nat × Value)} {st : List Value} {post : Option Value → pzS → pzM → Prop} {postX : String → pzS → pzM → Prop}
theorem pz_ofWH {y : MethodName} {maxL : Nat} {ret : Option FieldType} {hh : List (Nat × Nat × Nat × Nat)} {fr lo : Nat} {av : List Value} (hy : plainName y.cls = true) (hlen : (lg_sl av).length ≤ maxL)
    (body : ∀ (p : Program) (e : Env) (s : State) (m : MethodId) (args : Array Value) (below : List Frame) (meth : Method) (c : Code) (ad : Nat → Nat) (A : Nat → Prop), pz_C p s m args meth c cc maxL y.cls D cy A → meth.sig.returnType = ret → pz_Z A s s.heap → c.exceptionTable.toList = tableOf hh →
      pz_W p l e ({ frames := fr, cells := mc, slots := ms, locals := lo }) s m args below meth c maxL D cy A σ.1 ad (MQ below (pz_Q D cy σ.1 ad post A) args s mc ms A) σ M 0 0 0 (lv_args 0 av) []) : pz_MetH l y cc maxL ret hh fr lo mc ms D cy σ M av post := by
  intro ad sz
  refine MetFree.of_bodyS (code := cc) (maxLocals := maxL) (ret := ret) hy ?_ ?_
  · intro args s m h hn
    obtain ⟨m9, meth, c, hn9, h1, h2, h3, h4, -, h5, h6, -⟩ := Cond.codeWith_spec (atoms_spec (ws := Cond.codeWith y cc maxL ret hh :: lw_good) h _ List.mem_cons_self)
    cases hn.symm.trans hn9
    exact ⟨meth, c, h1, h2, h3, h4, h5, h6⟩
  · intro p e s m args below meth c s₁ B hml hv _
    obtain ⟨rfl, ⟨hsz, hP, hK, hD0, hN⟩, hZ⟩ := hv
    have hts := atoms_spec (ws := Cond.codeWith y cc maxL ret hh :: lw_good) B.pre
    have hown : s.vm.findClass y.cls = some m.cls := findClass_of_methodNamed B.named
    have htab : c.exceptionTable.toList = tableOf hh := vx_table (x := y) (hh := hh) B (hts _ List.mem_cons_self)
    have hh0 : s₁.heap = s.heap := by rw [B.state]; rfl
    subst hsz
    have hD := hD0.self (sz := s.heap.size)
    have hl := lv_entry (av.map (pz_t ad)) (n := maxL) (by rw [pz_sl_len]; exact hlen)
    rw [pz_args_map] at hl
    have K := body p e s m _ below meth c ad _ ⟨⟨B.exec, B.bytes, hml, hown, fun w hw => hts w (List.mem_cons_of_mem _ hw)⟩, hK, fun q h => Or.inr h, B.notSynchronized, hN⟩ B.returns hZ htab ad s.heap [] _ (fun _ _ => rfl) hP hD va_S.rf hl
    have K2 : W p l e ({ frames := fr, cells := mc, slots := ms, locals := lo }) s m (av.map (pz_t ad)).toArray below meth c s.heap [] 0 0 (MQ below (pz_Q D cy σ.1 ad post (va_A (pz_w cy ad σ M) s.heap.size)) (av.map (pz_t ad)).toArray s mc ms (va_A (pz_w cy ad σ M) s.heap.size)) (entryFrame m (av.map (pz_t ad)).toArray maxL) := by
      rw [lg_entry_eq]; exact K
    obtain ⟨t, a1, o, b1, b2, b3⟩ := K2 s₁ hh0 (Stand.of_body B)
    exact ⟨t, o, a1, b1, b2, ⟨b3.1, b3.2⟩⟩
/-- what takes an exception of class E that comes at pc -/
def pz_takes (c : Code) (own : String) (s : State) (pc : Nat) (E : String) (hpc : Nat) : Prop :=
  ∃ (pre : List ExceptionTableEntry) (x : ExceptionTableEntry) (suf : List ExceptionTableEntry) (name : String), c.exceptionTable.toList = pre ++ x :: suf ∧ (∀ z ∈ pre, covers z pc = false ∨ (z.catchType ≠ 0 ∧ ∃ nm : String, Cond.classLink own z.catchType nm ∈ lw_good ∧ va_Nc E nm s)) ∧ covers x pc = true ∧ x.catchType ≠ 0 ∧ Cond.classLink own x.catchType name ∈ lw_good ∧ Cond.castable E name ∈ lw_face ∧ x.handlerPc = hpc
theorem pz_callVX (C : pz_C p s m args meth c cc nL own D cy A) {y : MethodName} {bytes : ByteArray} {maxL fr lo mc ms n index ci b N : Nat} {ret : Option FieldType} {T : u_T} {As rest : List Value} (hZ : pz_Z A s s.heap) (hM : pz_MetX l y bytes maxL ret fr lo mc ms D cy σ M (.ref b :: As) post postX)
    (hw : pz_wB y bytes maxL ret n) (hw1 : Cond.methodLink own index y ∈ lw_good) (hw2 : Cond.instanceMethod y ∈ lw_good) (hw3 : Cond.selects y.cls y y ∈ lw_good) (hci : pz_cl[ci]? = some (y.cls, T, N)) (hb : b < σ.1) (hK : (σ.2.1 b).1 = ci + 4)
    (hn : As.length = n) (hst : st = As.reverse ++ .ref b :: rest) (hcat : (rest.map fun v => v.category).sum ≤ 8) (hR : fr + 1 ≤ R.frames ∧ 8 + (maxL + 11) + lo ≤ R.locals) (hf : cells + mc ≤ R.cells ∧ slots + ms ≤ R.slots) (hd : decode cc pc = .ok (.invokevirtual index, 3))
    (hn0 : n0 ≤ σ.1) (h1 : pz_all σ.1 rest) (h2 : pz_alll σ.1 loc)
    (kx : ∀ (E : String) (σ' : pzS) (M' : pzM), postX E σ' M' → σ.1 ≤ σ'.1 ∧ pz_wf σ' ∧ ∃ hpc, pz_takes c own s pc E hpc ∧ pz_W p l e R s m args below meth c nL D cy A n0 ad0 Q σ' M' (cells + mc) (slots + ms) hpc loc [.ref σ'.1])
    (kk : ∀ (r : Option Value) (σ' : pzS) (M' : pzM), post r σ' M' → pz_W p l e R s m args below meth c nL D cy A n0 ad0 Q σ' M' (cells + mc) (slots + ms) (pc + 3) loc (r.toList ++ rest)) : pz_W p l e R s m args below meth c nL D cy A n0 ad0 Q σ M cells slots pc loc st := by
  intro ad H locs ls ha hP hD hS hl
  subst hst
  have hfree := pz_freeA C hD hS
  have hcw : CallW R s args own y.cls index y bytes maxL ret (Cond.code y bytes maxL ret :: lw_good) ({ frames := fr, cells := mc, slots := ms, locals := lo }) mc ms n :=
    ⟨callB_of n C.1.2.2.2.2 (pz_goodIn hw) rfl rfl rfl (C.1.2.2.2.2 _ hw.1) (C.1.2.2.2.2 _ hw1) hw.2.2 hR, C.1.2.2.2.2 _ hw2, C.1.2.2.2.2 _ hw3⟩
  have hZH : pz_Z (va_A (pz_w cy ad σ M) H.size) s H := (hZ.kept (fun a g1 g2 => hS.2.1 a g1 g2)).narrow hfree
  have hpre : PreV s H y.cls (ad b) (va_Pc ((.ref b :: As).map (pz_t ad)) (pz_PreX D cy ad H.size σ M)) (As.map (pz_t ad)) :=
    ⟨pz_blindX, va_recv C.2.1 hP hci (pz_at hb hK), fun U hU hW => ⟨rfl, ((pz_pre (av := .ref b :: As) C hP hD).2 U hU hW).2, by rw [hU]; exact hZH.moved hW.alike⟩⟩
  have hr : vx_Run p l e R s m args below meth c H locs cells slots mc ms (F0 m pc ls ((As.reverse ++ .ref b :: rest).map (pz_t ad))) (rest.map (pz_t ad)) (pz_Q D cy σ.1 ad post (va_A (pz_w cy ad σ M) H.size) (Value.ref (ad b) :: As.map (pz_t ad)).toArray) (pz_XQ D cy σ.1 ad postX (va_A (pz_w cy ad σ M) H.size)) (va_A (pz_w cy ad σ M) H.size) := vx_runV (As := As.map (pz_t ad)) (rest := rest.map (pz_t ad)) (b := ad b) C.1 (hM ad H.size) hcw hpre rfl (by rw [List.length_map]; exact hn) hl.1 (by simp [pz_t, List.map_reverse]) (pz_room hcat) hd hf
  intro T9 hT X
  rcases hr T9 hT X with ⟨v, st₀, t, T', L, h0, X', hL, e1, e2, hq, st9⟩ | ⟨q, st₀, t, T', L, E, ce, h0, X', hL, e1, e2, ⟨⟨σ', M', ad', hag, hp, hP', hK', hD'⟩, hF⟩, hce, hcv, hcl, st9⟩
  · have hr2 : va_Run p l e R s m args below meth c H locs cells slots mc ms (F0 m pc ls ((As.reverse ++ .ref b :: rest).map (pz_t ad))) (rest.map (pz_t ad)) (fun _ _ _ => True) (fun _ => True) → True := fun _ => trivial
    obtain ⟨⟨r, σ', M', ad', hag, hv, hp, hP', hK', hD'⟩, hF⟩ := hq
    have hv : v = r.map (pz_t ad') := by cases hv; rfl
    subst hv
    obtain ⟨k1, k2, k3⟩ := vx_keep h0 e1 hS (fun q _ h => hfree q h) hfree hL hF
    obtain ⟨t2, a1, b1⟩ := kk r σ' M' hp ad' T'.heap (locs ++ L) ls (fun i hi => (hag i (Nat.lt_of_lt_of_le hi hn0)).trans (ha i hi)) (by rw [e1]; exact hP') (hD'.weaken (fun _ q _ h => hfree q.1 h)) k3 (by rw [pz_alll_map hag h2]; exact hl) T' rfl X'
    refine ⟨t2, st9 t2 ?_, b1⟩
    have hst : (r.map (pz_t ad')).toList ++ rest.map (pz_t ad) = (r.toList ++ rest).map (pz_t ad') := by
      rw [List.map_append, pz_all_map hag h1]
      cases r <;> rfl
    rw [hst]
    exact a1
  · obtain ⟨hle, hwf, hpc, ⟨pre, x, suf, name, hsp, hpass, hcov, h0t, hlk, hcs, hpce⟩, hk9⟩ := kx E σ' M' hp
    obtain ⟨k1, k2, k3⟩ := vx_keep h0 e1 hS (fun q _ h => hfree q h) hfree hL hF
    have hwq := pz_w_ad (cy := cy) (ad := ad') (M := M') (q := q) hwf
    have hk := hk9 (va_up ad' σ'.1 q) T'.heap (locs ++ L) ls (fun i hi => (pz_up_ad i (Nat.lt_of_lt_of_le hi (Nat.le_trans hn0 hle))).trans ((hag i (Nat.lt_of_lt_of_le hi hn0)).trans (ha i hi))) (by rw [e1, hwq]; exact hP') (by rw [hwq]; exact hD'.weaken (fun _ q _ h => hfree q.1 h)) k3 (by rw [pz_alll_map (ad := ad) (fun i hi => (pz_up_ad i (Nat.lt_of_lt_of_le hi hle)).trans (hag i hi)) h2]; exact hl)
    have e3 : ([Value.ref σ'.1] : List Value).map (pz_t (va_up ad' σ'.1 q)) = [.ref q] := by simp [pz_t, va_up]
    rw [e3, ← hpce] at hk
    have hcatch := vx_catch (pc := pc) (ls := ls) (rest := rest.map (pz_t ad)) (E := E) (ce := ce) (q := q) C.1.2.2.2.1 pre x suf hsp (fun z hz => (hpass z hz).imp id (fun h => ⟨h.1, h.2.imp (fun nm hn => ⟨C.1.2.2.2.2 _ hn.1, hn.2⟩)⟩)) hcov h0t (C.1.2.2.2.2 _ hlk) (pz_N.use C.2.2.2.2 hcs) (by rw [e1]; exact hce) hcv hcl hk
    obtain ⟨t2, a1, b1⟩ := hcatch T' rfl X'
    exact ⟨t2, st9.trans a1, b1⟩
/-- the law's call of one of its own methods with handlers -/
theorem pz_callSH (C : pz_C p s m args meth c cc nL own D cy A) {y : MethodName} {bytes : ByteArray} {maxL fr lo mc ms n index : Nat} {ret : Option FieldType} {hh : List (Nat × Nat × Nat × Nat)} {As rest : List Value} (hZ : pz_Z A s s.heap) (hM : pz_MetH l y bytes maxL ret hh fr lo mc ms D cy σ M As post)
    (hw0 : Cond.initialized y.cls ∈ lw_good) (hw : Cond.codeWith y bytes maxL ret hh ∈ lw_good) (hwd : y.cls ≠ "java/lang/invoke/MethodHandle" ∧ y.cls ≠ "java/lang/invoke/VarHandle" ∧ (parseMethodDescriptor y.desc).map (fun d => d.parameters.length) = some n) (hw1 : Cond.methodLink own index y ∈ lw_good) (hw2 : Cond.static y ∈ lw_good)
    (hn : As.length = n) (hst : st = As.reverse ++ rest) (hcat : (rest.map fun v => v.category).sum ≤ 8) (hR : fr + 1 ≤ R.frames ∧ 8 + (maxL + 11) + lo ≤ R.locals) (hf : cells + mc ≤ R.cells ∧ slots + ms ≤ R.slots) (hd : decode cc pc = .ok (.invokestatic index, 3))
    (hn0 : n0 ≤ σ.1) (h1 : pz_all σ.1 rest) (h2 : pz_alll σ.1 loc)
    (kk : ∀ (r : Option Value) (σ' : pzS) (M' : pzM), post r σ' M' → pz_W p l e R s m args below meth c nL D cy A n0 ad0 Q σ' M' (cells + mc) (slots + ms) (pc + 3) loc (r.toList ++ rest)) : pz_W p l e R s m args below meth c nL D cy A n0 ad0 Q σ M cells slots pc loc st := by
  intro ad H locs ls ha hP hD hS hl
  subst hst
  have hfree := pz_freeA C hD hS
  have hZH : pz_Z (va_A (pz_w cy ad σ M) H.size) s H := (hZ.kept (fun a g1 g2 => hS.2.1 a g1 g2)).narrow hfree
  have hG : GoodIn lw_good (va_wsS own index y (Cond.codeWith y bytes maxL ret hh :: lw_good)) := by
    intro w h9
    have hm : w ∈ lw_good := by
      simp only [va_wsS, List.mem_append, List.mem_cons, List.not_mem_nil, or_false] at h9
      rcases h9 with (rfl | rfl | rfl) | rfl | h
      · exact hw1
      · exact hw2
      · exact hw0
      · exact hw
      · exact h
    exact ⟨hm, good_of_word (lw_good_ok hm)⟩
  have hpre : PreS s H (va_Pc (As.map (pz_t ad)) (pz_PreX D cy ad H.size σ M)) (As.map (pz_t ad)) :=
    ⟨pz_blindX, fun U hU hW => ⟨rfl, ((pz_pre (av := As) C hP hD).2 U hU hW).2, by rw [hU]; exact hZH.moved hW.alike⟩⟩
  exact pz_run C (vx_runSW (As := As.map (pz_t ad)) (rest := rest.map (pz_t ad)) C.1 (hM ad H.size) (vx_cwSW n C.1.2.2.2.2 hG rfl rfl rfl hwd hR) hpre rfl (by rw [List.length_map]; exact hn) hl.1 (by simp [List.map_reverse]) (pz_room hcat) hd hf) hn0 h1 h2 ha hD hS hl kk
end PZG
