section PLX
variable {l : Launch} {R : Room} {p : Program} {e : Env} {below : List Frame} {s : State} {sargs : Array Value} {y : MethodName} {len W9 : Nat}
theorem pv_backX {RC RS : Nat} {ws : List Cond} {rm : Room} {Pc : Array Value → State → Prop} {Qc : Array Value → State → Outcome → State → Prop} {XC : String → State → State → Prop} {mc ms : Nat} {free : Addr → Prop} {bytes : ByteArray} {maxL : Nat} {ret : Option FieldType}
    (hM : vx_Met l y ws rm Pc Qc XC mc ms free) (hblind : FrameBlind Pc) (hrc : rm.cells = RC) (hrs : rm.slots = RS)
    (hframes : rm.frames + 1 ≤ R.frames) (hlocals : W9 + (maxL + 11) + rm.locals ≤ R.locals)
    (hws : ∀ w ∈ ws, ∀ a' U, s.WarmedH U.vm → w.before a' U = true) (hcode : Cond.code y bytes maxL ret ∈ ws) (hinit : ∀ a' U, s.WarmedH U.vm → (Cond.initialized y.cls).before a' U = true) :
    vx_Back l R p e below s sargs y len W9 (PreOf R RC RS Pc) (PostOf Qc mc ms free) (vx_Post XC mc ms free) := by
  intro m meth c A g ig mk a X hg hsize hdg hW hn hp
  have h1 : (headSpec ws rm).pre.before a A.U = true := atoms_intro fun w hw => hws w hw _ _ X.warmed
  have h2 : (Cond.code y bytes maxL ret).before a A.U = true := hws _ hcode _ _ X.warmed
  have h3 : (Cond.initialized y.cls).before a A.U = true := hinit _ _ X.warmed
  have h4 : A.cells + (headSpec ws rm).room.cells ≤ R.cells := by rw [show (headSpec ws rm).room.cells = RC from hrc]; exact hp.1
  have h5 : A.slots + (headSpec ws rm).room.slots ≤ R.slots := by rw [show (headSpec ws rm).room.slots = RS from hrs]; exact hp.2.1
  have hPc : Pc a (A.U.calling g mk a) := hblind _ _ _ _ hp.2.2
  obtain ⟨U, Ls, c0, s0⟩ := A
  dsimp only [Pt.U, Pt.locs, Pt.cells, Pt.slots] at h1 h2 h3 h4 h5 X hn hPc ⊢
  obtain ⟨methY, cY, hmY, hcY, -, hlY, -, -, -, -⟩ := Cond.code_spec hn h2
  obtain ⟨kY, hkY, -⟩ := className_of_methodNamed hn
  have hinitY : kY.init = .initialized := Cond.initialized_spec (findClass_of_methodNamed hn) hkY h3
  have h : At U g.method c below := by rw [hg]; exact X.here
  have hlocals9 : W9 + (maxL + 11) + (headSpec ws rm).room.locals ≤ R.locals := hlocals
  have happ : (headSpec ws rm).appliesLoose y e.platform (U.calling g mk a) = true :=
    Spec.appliesLoose_calling (g := g) h hdg hn hkY hinitY
      (X.room_calling (g := g) (R' := (headSpec ws rm).room) hsize hmY hcY hframes (by rw [hlY]; omega) h4 h5) h1
  obtain ⟨mid, hmid⟩ := h.above
  have hfr : (U.setTop g).frames = (.java g :: mid) ++ below := by rw [State.frames_setTop' g h.top, hmid]; rfl
  obtain ⟨o, s₂, hsteps, -, hend, hq⟩ := Steps.callFree hM p X.admits X.cas X.clock (acts := []) hfr happ hPc trivial
  have hq' : vx_Q Qc XC mc ms free a (U.calling g mk a) o s₂ := hq
  rw [State.frames_setTop' g h.top] at hend
  obtain ⟨g₀, hg0⟩ := Option.isSome_iff_exists.mp h.top
  obtain ⟨r, hr⟩ := State.topJava?_eq_some.mp hg0
  have hr' : (({ U with heap := s₂.heap, slotsUsed := s₂.slotsUsed } : State).setVm s₂.vm).frames = .java g₀ :: r := hr
  rcases hq' with ⟨hqc, L, hfe, hL⟩ | ⟨q, rfl, E, ce, L, hx, hce, hcv, hcl, hW₂, hsm, hL⟩
  · obtain ⟨⟨v, rfl⟩, hW₂, e2, q2, q3, q4, q5, q6⟩ := id hfe
    have e3 : s₂ = ({ (U.calling g mk a).setFrames s₂.frames with heap := s₂.heap, slotsUsed := s₂.slotsUsed } : State).setVm s₂.vm := by
      have : s₂ = ({ s₂ with vm := (U.calling g mk a).vm } : State).setVm s₂.vm := rfl
      rw [e2] at this
      exact this
    obtain ⟨c₂, i₂, len₂, hc₂, hd₂, hf₂⟩ := hend
    have hW' : U.WarmedH s₂.vm := hW₂
    have hcc : c₂ = c := by
      have h1 : s₂.code? g.method = U.code? g.method := by
        rw [State.code?_eq, State.code?_eq, hW'.alike.method?]
      exact Option.some.inj (hc₂.symm.trans (h1.trans h.code))
    subst hcc
    have hlen : len₂ = len := by rw [hdg] at hd₂; cases hd₂; rfl
    subst hlen
    have hs₂ : s₂ = (({ U with heap := s₂.heap, slotsUsed := s₂.slotsUsed } : State).setVm s₂.vm).setTop { g with pc := g.pc + len₂, stack := v.toList ++ g.stack } := by
      refine e3.trans ?_
      rw [hf₂, State.calling_eq h.top, State.setFrames_setFrames, State.setTop_of_frames _ hr', hr]
      rfl
    have hsame : U.sameButNew ({ U with heap := s₂.heap, slotsUsed := s₂.slotsUsed } : State) L mc ms := by
      refine ⟨?_, q2, q3, q4, q5, q6⟩
      obtain ⟨t, ht, -⟩ := State.frames_cons hr
      show ({ U with heap := s₂.heap, slotsUsed := s₂.slotsUsed } : State) = { U.setFrames U.frames with heap := s₂.heap, slotsUsed := s₂.slotsUsed }
      rw [State.setFrames_self ht]
    subst hg
    refine Or.inl ⟨v, ⟨(({ U with heap := s₂.heap, slotsUsed := s₂.slotsUsed } : State).setVm s₂.vm), Ls ++ L, c0 + mc, s0 + ms⟩,
      ⟨X.admits, X.cas, X.clock, X.frames, X.room, X.hears, X.method, X.code, (X.here.setHeapUsed s₂.heap s₂.slotsUsed).setVm hW'.alike, X.tail, State.WarmedH.trans X.warmed hW', X.limits, X.bytes, X.same.trans (hsame.setVm s.vm)⟩,
      ⟨g, mk, s₂, L, rfl, rfl, hqc, rfl, hL, rfl, rfl⟩, ?_⟩
    show Steps p.tables e below _ ((({ U with heap := s₂.heap, slotsUsed := s₂.slotsUsed } : State).setVm s₂.vm).setTop { g with pc := g.pc + len₂, stack := v.toList ++ g.stack })
    rw [← hs₂]
    exact hsteps
  · obtain ⟨e2, q2, q3, q4, q5, q6⟩ := id hsm
    have e3 : s₂ = ({ (U.calling g mk a).setFrames s₂.frames with heap := s₂.heap, slotsUsed := s₂.slotsUsed } : State).setVm s₂.vm := by
      have : s₂ = ({ s₂ with vm := (U.calling g mk a).vm } : State).setVm s₂.vm := rfl
      rw [e2] at this
      exact this
    have hf₂ : s₂.frames = .throwing q :: .java g :: U.frames.tail := hend
    have hW' : U.WarmedH s₂.vm := hW₂
    have hs₂ : s₂ = ((({ U with heap := s₂.heap, slotsUsed := s₂.slotsUsed } : State).setVm s₂.vm).setTop g).pushFrame (.throwing q) := by
      refine e3.trans ?_
      rw [hf₂, State.calling_eq h.top, State.setFrames_setFrames, State.pushFrame, State.frames_setTop _ hr', State.setTop_of_frames _ hr', State.setFrames_setFrames, hr]
      rfl
    have hsame : U.sameButNew ({ U with heap := s₂.heap, slotsUsed := s₂.slotsUsed } : State) L mc ms := by
      refine ⟨?_, q2, q3, q4, q5, q6⟩
      obtain ⟨t, ht, -⟩ := State.frames_cons hr
      show ({ U with heap := s₂.heap, slotsUsed := s₂.slotsUsed } : State) = { U.setFrames U.frames with heap := s₂.heap, slotsUsed := s₂.slotsUsed }
      rw [State.setFrames_self ht]
    subst hg
    refine Or.inr ⟨q, ⟨(({ U with heap := s₂.heap, slotsUsed := s₂.slotsUsed } : State).setVm s₂.vm), Ls ++ L, c0 + mc, s0 + ms⟩,
      ⟨X.admits, X.cas, X.clock, X.frames, X.room, X.hears, X.method, X.code, (X.here.setHeapUsed s₂.heap s₂.slotsUsed).setVm hW'.alike, X.tail, State.WarmedH.trans X.warmed hW', X.limits, X.bytes, X.same.trans (hsame.setVm s.vm)⟩,
      ⟨g, mk, s₂, L, E, ce, rfl, rfl, hx, hce, hcv, hcl, rfl, hL, rfl, rfl⟩, ?_⟩
    show Steps p.tables e below _ (((({ U with heap := s₂.heap, slotsUsed := s₂.slotsUsed } : State).setVm s₂.vm).setTop g).pushFrame (.throwing q))
    rw [← hs₂]
    exact hsteps
end PLX
section PLY
variable {p : Program} {l : Launch} {e : Env} {R : Room} {s : State} {m : MethodId} {args : Array Value} {below : List Frame} {meth : Method} {c : Code} {H : Heap} {locs : List Loc} {cells slots : Nat}
variable {y : MethodName} {bytes cc : ByteArray} {maxL nL mc ms RC RS n index : Nat} {ret : Option FieldType} {ws : List Cond} {rm : Room} {Pc : Array Value → State → Prop} {Qc : Array Value → State → Outcome → State → Prop} {XC : String → State → State → Prop} {free : Addr → Prop} {Ts : List Cond} {own C : String} {b : Addr} {As rest : List Value} {g : JFrame} {hh : List (Nat × Nat × Nat × Nat)}
theorem pv_runVX (S : CallFix p m c cc nL s args Ts own) (hM : vx_Met l y ws rm Pc Qc XC mc ms free) (cw : CallW R s args own C index y bytes maxL ret ws rm RC RS n) (hp : PreV s H C b Pc As)
    (hg : g.method = m) (hn : As.length = n) (hsize : g.locals.size = nL) (hstack : g.stack = As.reverse ++ .ref b :: rest) (hW : 2 * g.monitorRoom + (rest.map fun v => v.category).sum ≤ 8) (hdg : decode cc g.pc = .ok (.invokevirtual index, 3)) (hf : cells + RC ≤ R.cells ∧ slots + RS ≤ R.slots) :
    vx_Run p l e R s m args below meth c H locs cells slots mc ms g rest (Qc (Value.ref b :: As).toArray) XC free := by
  obtain ⟨⟨hrc, hrs, hfr, hlo, hws, hcw, hcode, hini, hy, hlen, hl⟩, hin, hse⟩ := cw
  have hK : vx_Back l R p e below s args y 3 8 (PreOf R RC RS Pc) (PostOf Qc mc ms free) (vx_Post XC mc ms free) := pv_backX (bytes := bytes) (maxL := maxL) (ret := ret) hM hp.1 hrc hrs hfr hlo hws hcw (fun a' U hW => word_at hW (Or.inl (by first | rfl | simp [Cond.onTables, Cond.keeps, Cond.steady])) hini)
  obtain ⟨hx, hb, hml, ho, -⟩ := S
  obtain ⟨-, ⟨cellB, hcB, hoB, hclB⟩, hPc⟩ := hp
  intro T hT X
  rcases vx_callV X hx (C := C) (bytes := bytes) (maxL := maxL) (ret := ret) ho hl hin hse hcode hy hK (by rw [hT]; exact hcB) hoB hclB hg (hsize.trans hml.symm) (argsL := As) (rest := rest) (fun sig h => hn.trans (hlen sig h)) hstack hW (by rw [hb]; exact hdg)
    (fun vm₁ hW₁ => ⟨hf.1, hf.2, hPc (T.setVm vm₁) hT hW₁⟩) with ⟨v, vm₁, ⟨U', l2, c2, s2⟩, hW₁, X', ⟨g', mk, t, L, e1, e2, hq, h1, hL, h2, h3⟩, st⟩ | ⟨q, vm₁, ⟨U', l2, c2, s2⟩, hW₁, X', ⟨g', mk, t, L, E, ce, e1, e2, hq, hce, hcv, hcl, h1, hL, h2, h3⟩, st⟩
  · dsimp only [Pt.U, Pt.locs, Pt.cells, Pt.slots] at X' e1 e2 h1 h2 h3 st
    subst h1; subst h2; subst h3
    exact Or.inl ⟨v, (T.setVm vm₁).calling g' mk (Value.ref b :: As).toArray, t, U', L, hT, X', hL, e1, e2, hq, st⟩
  · dsimp only [Pt.U, Pt.locs, Pt.cells, Pt.slots] at X' e1 e2 h1 h2 h3 st hcl
    subst h1; subst h2; subst h3
    exact Or.inr ⟨q, (T.setVm vm₁).calling g' mk (Value.ref b :: As).toArray, t, U', L, E, ce, hT, X', hL, e1, e2, hq, hce, hcv, vx_cls hW₁ hcl, st⟩
theorem pv_backW {len : Nat} (hM : Met l y ws rm Pc Qc mc ms free) (hblind : FrameBlind Pc) (hrc : rm.cells = RC) (hrs : rm.slots = RS)
    (hframes : rm.frames + 1 ≤ R.frames) (hlocals : 8 + (maxL + 11) + rm.locals ≤ R.locals)
    (hws : ∀ w ∈ ws, ∀ a' U, s.WarmedH U.vm → w.before a' U = true) (hcode : Cond.codeWith y bytes maxL ret hh ∈ ws) (hini : (Cond.initialized y.cls).before args s = true) :
    Back l R p e below s args y len 8 (PreOf R RC RS Pc) (PostOf Qc mc ms free) := by
  have hinit : ∀ a' U, s.WarmedH U.vm → (Cond.initialized y.cls).before a' U = true := fun a' U hW => word_at hW (Or.inl (by first | rfl | simp [Cond.onTables, Cond.keeps, Cond.steady])) hini
  refine va_ofFreeW (hh := hh) (S := headSpec ws rm) (P := Pc) (K := fun _ _ _ _ _ => True) (Q := fun a st o t => Qc a st o t ∧ ∃ L, FrameEnd st o t L mc ms ∧ ∀ q ∈ L, free q.base) (bytes := bytes) (maxL := maxL) (ret := ret)
    (E := fun a st o t L k n => k = mc ∧ n = ms ∧ ∀ q ∈ L, free q.base) hM hframes hlocals ?_ ?_ (fun _ _ _ _ _ _ _ _ _ => trivial) ?_ ?_
  · intro m meth c A a X hp
    exact ⟨atoms_intro fun w hw => hws w hw _ _ X.warmed, hws _ hcode _ _ X.warmed, hinit _ _ X.warmed, by rw [show (headSpec ws rm).room.cells = RC from hrc]; exact hp.1, by rw [show (headSpec ws rm).room.slots = RS from hrs]; exact hp.2.1⟩
  · intro m meth c A a g mk X hp
    exact hblind _ _ _ _ hp.2.2
  · intro a st o t ⟨hq, L, hF, hL⟩
    exact ⟨L, mc, ms, hF, rfl, rfl, hL⟩
  · intro m meth c A a g mk v t L k n X hp hq hF ⟨e1, e2, hL⟩
    subst e1; subst e2
    exact ⟨g, mk, t, L, rfl, rfl, hq.1, rfl, hL, rfl, rfl⟩
theorem pv_runSW (S : CallFix p m c cc nL s args Ts own) (hM : Met l y ws rm Pc Qc mc ms free) (cw : vx_CSW R s args own index y bytes maxL ret hh ws rm RC RS n) (hp : PreS s H Pc As)
    (hg : g.method = m) (hn : As.length = n) (hsize : g.locals.size = nL) (hstack : g.stack = As.reverse ++ rest) (hW : 2 * g.monitorRoom + (rest.map fun v => v.category).sum ≤ 8) (hdg : decode cc g.pc = .ok (.invokestatic index, 3)) (hf : cells + RC ≤ R.cells ∧ slots + RS ≤ R.slots) :
    va_Run p l e R s m args below meth c H locs cells slots mc ms g rest (Qc As.toArray) (free) := by
  obtain ⟨⟨hrc, hrs, hfr, hlo, hws, hcw⟩, hcode, hini, hy, hlen, hl, hstt⟩ := cw
  have hK : Back l R p e below s args y 3 8 (PreOf R RC RS Pc) (PostOf Qc mc ms free) := pv_backW (hh := hh) (bytes := bytes) (maxL := maxL) (ret := ret) hM hp.1 hrc hrs hfr hlo hws hcw hini
  obtain ⟨hx, hb, hml, ho, -⟩ := S
  intro T hT X
  obtain ⟨v, vm₁, ⟨U', l2, c2, s2⟩, hW₁, X', ⟨g', mk, t, L, e1, e2, hq, h1, hL, h2, h3⟩, st⟩ := vx_callSW X hx (hh := hh) (bytes := bytes) (maxL := maxL) (ret := ret) ho hl hstt hini hcode hy hK hg (hsize.trans hml.symm) (argsL := As) (rest := rest) (fun sig h => hn.trans (hlen sig h)) hstack hW (by rw [hb]; exact hdg)
    (fun vm₁ hW₁ => ⟨hf.1, hf.2, hp.2 (T.setVm vm₁) hT hW₁⟩)
  dsimp only [Pt.U, Pt.locs, Pt.cells, Pt.slots] at X' e1 e2 h1 h2 h3 st
  subst h1; subst h2; subst h3
  exact ⟨v, (T.setVm vm₁).calling g' mk As.toArray, t, U', L, hT, X', hL, e1, e2, hq, st⟩
end PLY
/-! the law's small methods -/
def wL (o : Option pvO) : Option pvO := match o with
  | some (0, r, V) => some (0, 0, pz_u V 83 0 r)
  | some (1, _, V) => some (0, 1, V)
  | some (2, _, V) => some (0, 2, V)
  | _ => none
def wL1 (o : Option pvO) : Option pvO := match o with
  | some (0, r, V) => some (0, 0, pz_u V 83 0 r)
  | some (1, _, V) => some (0, 1, V)
  | _ => none
def pv_MetH (l : Launch) (y : MethodName) (cc : ByteArray) (maxL : Nat) (ret : Option FieldType) (hh : List (Nat × Nat × Nat × Nat)) (fr lo : Nat) (D : va_G) (cy : Nat → ClassId) (V : pvM) (av : List Value) (q : pvO) : Prop :=
  ∀ (σ : pzS) (M : pzM), pv_R V σ M → pv_c V ≤ pv_LC → pv_s V ≤ pv_LS → ∀ (ad : Nat → Nat) (sz : Nat), Met l y (Cond.codeWith y cc maxL ret hh :: lw_good) (pv_rm fr lo V) (va_Pc (av.map (pz_t ad)) (pz_PreX D cy ad sz σ M)) (pz_Q D cy σ.1 ad (pv_post 1 V q σ.1) (va_A (pz_w cy ad σ M) sz)) (pv_c q.2.2 - pv_c V) (pv_s q.2.2 - pv_s V) (va_A (pz_w cy ad σ M) sz)
theorem pv_ofWH {l : Launch} {y : MethodName} {cc : ByteArray} {maxL : Nat} {ret : Option FieldType} {hh : List (Nat × Nat × Nat × Nat)} {fr lo : Nat} {D : va_G} {cy : Nat → ClassId} {V : pvM} {av : List Value} {q : pvO} (hy : plainName y.cls = true) (hlen : (lg_sl av).length ≤ maxL)
    (body : ∀ (p : Program) (e : Env) (s : State) (m : MethodId) (args : Array Value) (below : List Frame) (meth : Method) (c : Code) (ad : Nat → Nat) (A : Nat → Prop) (σ : pzS) (M : pzM), pz_C p s m args meth c cc maxL y.cls D cy A → meth.sig.returnType = ret → pz_Z A s s.heap → c.exceptionTable.toList = tableOf hh → pv_R V σ M → pv_c V ≤ pv_LC → pv_s V ≤ pv_LS →
      pz_W p l e (pv_rm fr lo V) s m args below meth c maxL D cy A σ.1 ad (pv_Q below D cy σ.1 ad 1 V q A args s) σ M 0 0 0 (lv_args 0 av) []) : pv_MetH l y cc maxL ret hh fr lo D cy V av q := by
  intro σ M hR hcL hsL ad sz
  refine MetFree.of_bodyS (code := cc) (maxLocals := maxL) (ret := ret) hy ?_ ?_
  · intro args s m h hn
    obtain ⟨m9, meth, c, hn9, h1, h2, h3, h4, -, h5, h6, -⟩ := Cond.codeWith_spec (atoms_spec (ws := Cond.codeWith y cc maxL ret hh :: lw_good) h _ List.mem_cons_self)
    cases hn.symm.trans hn9
    exact ⟨meth, c, h1, h2, h3, h4, h5, h6⟩
  · intro p e s m args below meth c s₁ B hml hv _
    obtain ⟨rfl, ⟨hsz, hP, hK, hD0, hN⟩, hZ⟩ := hv
    have hts := atoms_spec (ws := Cond.codeWith y cc maxL ret hh :: lw_good) B.pre
    have hown : s.vm.findClass y.cls = some m.cls := findClass_of_methodNamed B.named
    have htab : c.exceptionTable.toList = tableOf hh := vx_table (x := y) (hh := hh) B (hts _ List.mem_cons_self)
    have hh0 : s₁.heap = s.heap := by rw [B.state]; rfl
    subst hsz
    have hD := hD0.self (sz := s.heap.size)
    have hl := lv_entry (av.map (pz_t ad)) (n := maxL) (by rw [pz_sl_len]; exact hlen)
    rw [pz_args_map] at hl
    have K := body p e s m _ below meth c ad _ σ M ⟨⟨B.exec, B.bytes, hml, hown, fun w hw => hts w (List.mem_cons_of_mem _ hw)⟩, hK, fun q h => Or.inr h, B.notSynchronized, hN⟩ B.returns hZ htab hR hcL hsL ad s.heap [] _ (fun _ _ => rfl) hP hD va_S.rf hl
    have K2 : W p l e (pv_rm fr lo V) s m (av.map (pz_t ad)).toArray below meth c s.heap [] 0 0 (pv_Q below D cy σ.1 ad 1 V q (va_A (pz_w cy ad σ M) s.heap.size) (av.map (pz_t ad)).toArray s) (entryFrame m (av.map (pz_t ad)).toArray maxL) := by
      rw [lg_entry_eq]; exact K
    obtain ⟨t, a1, o, b1, b2, b3⟩ := K2 s₁ hh0 (Stand.of_body B)
    exact ⟨t, o, a1, b1, b2, ⟨b3.1, b3.2⟩⟩
section PLZ
variable {p : Program} {l : Launch} {e : Env} {fr lo : Nat} {s : State} {m : MethodId} {args : Array Value} {below : List Frame} {meth : Method} {c : Code} {cc : ByteArray} {nL : Nat} {own : String} {D : va_G} {cy : Nat → ClassId} {A : Nat → Prop} {n0 : Nat} {ad0 : Nat → Nat} {Q : State → Prop} {σ : pzS} {M : pzM} {pc : Nat} {loc : List (Nat × Value)} {st : List Value}
theorem pv_callVX (C : pz_C p s m args meth c cc nL own D cy A) {y : MethodName} {bytes : ByteArray} {maxL fr1 lo1 n index ci b N : Nat} {ret : Option FieldType} {T : u_T} {As rest : List Value} {V : pvM} {q1 : pvO} (hZ : pz_Z A s s.heap) (hM : pv_MetX l y bytes maxL ret fr1 lo1 D cy V (.ref b :: As) q1) (h1 : pv_R V σ M) (hcL : pv_c V ≤ pv_LC) (hsL : pv_s V ≤ pv_LS)
    (hw : pz_wB y bytes maxL ret n) (hw1 : Cond.methodLink own index y ∈ lw_good) (hw2 : Cond.instanceMethod y ∈ lw_good) (hw3 : Cond.selects y.cls y y ∈ lw_good) (hci : pz_cl[ci]? = some (y.cls, T, N)) (hb : Nat.blt b 84 = true) (hK : (pz_k0 b).1 = ci + 4)
    (hn : As.length = n) (hst : st = As.reverse ++ .ref b :: rest) (hcat : (rest.map fun v => v.category).sum ≤ 8) (hR : fr1 + 1 ≤ fr ∧ 8 + (maxL + 11) + lo1 ≤ lo) (hd : decode cc pc = .ok (.invokevirtual index, 3))
    (hn0 : n0 ≤ σ.1) (g1 : pv_al rest = true) (g2 : pv_all loc = true)
    (kx : ∀ (E : String) (σ' : pzS) (M' : pzM), pv_postX V q1 σ.1 E σ' M' → ∃ hpc, pz_takes c own s pc E hpc ∧ pz_W p l e (pv_rm fr lo V) s m args below meth c nL D cy A n0 ad0 Q σ' M' (pv_c q1.2.2 - pv_c V) (pv_s q1.2.2 - pv_s V) hpc loc [.ref σ'.1])
    (kk : ∀ (r : Option Value) (σ' : pzS) (M' : pzM), pv_post 1 V q1 σ.1 r σ' M' → pz_W p l e (pv_rm fr lo V) s m args below meth c nL D cy A n0 ad0 Q σ' M' (pv_c q1.2.2 - pv_c V) (pv_s q1.2.2 - pv_s V) (pc + 3) loc (r.toList ++ rest)) : pz_W p l e (pv_rm fr lo V) s m args below meth c nL D cy A n0 ad0 Q σ M 0 0 pc loc st := by
  have h84 := h1.1.1
  have g1 := pv_al_p h84 g1
  have h2 := pv_all_p h84 g2
  have hMet := hM σ M h1 hcL hsL
  intro ad H locs ls ha hP hD hS hl
  subst hst
  have hfree := pz_freeA C hD hS
  have hcw : CallW (pv_rm fr lo V) s args own y.cls index y bytes maxL ret (Cond.code y bytes maxL ret :: lw_good) (pv_rm fr1 lo1 V) (pv_LC - pv_c V) (pv_LS - pv_s V) n :=
    ⟨callB_of n C.1.2.2.2.2 (pz_goodIn hw) rfl rfl rfl (C.1.2.2.2.2 _ hw.1) (C.1.2.2.2.2 _ hw1) hw.2.2 hR, C.1.2.2.2.2 _ hw2, C.1.2.2.2.2 _ hw3⟩
  have hZH : pz_Z (va_A (pz_w cy ad σ M) H.size) s H := (hZ.kept (fun a g1 g2 => hS.2.1 a g1 g2)).narrow hfree
  have hpre : PreV s H y.cls (ad b) (va_Pc ((.ref b :: As).map (pz_t ad)) (pz_PreX D cy ad H.size σ M)) (As.map (pz_t ad)) :=
    ⟨pz_blindX, va_recv C.2.1 hP hci (pz_at (shL h1.1 b hb) (shK h1.1 b hb hK)), fun U hU hW => ⟨rfl, ((pz_pre (av := .ref b :: As) C hP hD).2 U hU hW).2, by rw [hU]; exact hZH.moved hW.alike⟩⟩
  have hr : vx_Run p l e (pv_rm fr lo V) s m args below meth c H locs 0 0 (pv_c q1.2.2 - pv_c V) (pv_s q1.2.2 - pv_s V) (F0 m pc ls ((As.reverse ++ .ref b :: rest).map (pz_t ad))) (rest.map (pz_t ad)) (pz_Q D cy σ.1 ad (pv_post 1 V q1 σ.1) (va_A (pz_w cy ad σ M) H.size) (Value.ref (ad b) :: As.map (pz_t ad)).toArray) (pz_XQ D cy σ.1 ad (pv_postX V q1 σ.1) (va_A (pz_w cy ad σ M) H.size)) (va_A (pz_w cy ad σ M) H.size) := pv_runVX (As := As.map (pz_t ad)) (rest := rest.map (pz_t ad)) (b := ad b) C.1 (hMet ad H.size) hcw hpre rfl (by rw [List.length_map]; exact hn) hl.1 (by simp [pz_t, List.map_reverse]) (pz_room hcat) hd ⟨by show 0 + (pv_LC - pv_c V) ≤ pv_LC - pv_c V; omega, by show 0 + (pv_LS - pv_s V) ≤ pv_LS - pv_s V; omega⟩
  intro T9 hT X
  rcases hr T9 hT X with ⟨v, st₀, t, T', L, h0, X', hL, e1, e2, hq, st9⟩ | ⟨q, st₀, t, T', L, E, ce, h0, X', hL, e1, e2, ⟨⟨σ', M', ad', hag, hp, hP', hK', hD'⟩, hF⟩, hce, hcv, hcl, st9⟩
  · obtain ⟨⟨r, σ', M', ad', hag, hv, hp, hP', hK', hD'⟩, hF⟩ := hq
    have hv : v = r.map (pz_t ad') := by cases hv; rfl
    subst hv
    obtain ⟨k1, k2, k3⟩ := vx_keep h0 e1 hS (fun q _ h => hfree q h) hfree hL hF
    rw [Nat.zero_add, Nat.zero_add] at X'
    obtain ⟨t2, a1, b1⟩ := kk r σ' M' hp ad' T'.heap (locs ++ L) ls (fun i hi => (hag i (Nat.lt_of_lt_of_le hi hn0)).trans (ha i hi)) (by rw [e1]; exact hP') (hD'.weaken (fun _ q _ h => hfree q.1 h)) k3 (by rw [pz_alll_map hag h2]; exact hl) T' rfl X'
    refine ⟨t2, st9 t2 ?_, b1⟩
    have hst : (r.map (pz_t ad')).toList ++ rest.map (pz_t ad) = (r.toList ++ rest).map (pz_t ad') := by
      rw [List.map_append, pz_all_map hag g1]
      cases r <;> rfl
    rw [hst]
    exact a1
  · obtain ⟨hpc, ⟨pre, x, suf, name, hsp, hpass, hcov, h0t, hlk, hcs, hpce⟩, hk9⟩ := kx E σ' M' hp
    have hle : σ.1 ≤ σ'.1 := hp.2.2.1
    have hwf : pz_wf σ' := hp.2.1.1.2.2.2
    obtain ⟨k1, k2, k3⟩ := vx_keep h0 e1 hS (fun q _ h => hfree q h) hfree hL hF
    have hwq := pz_w_ad (cy := cy) (ad := ad') (M := M') (q := q) hwf
    have hk := hk9 (va_up ad' σ'.1 q) T'.heap (locs ++ L) ls (fun i hi => (pz_up_ad i (Nat.lt_of_lt_of_le hi (Nat.le_trans hn0 hle))).trans ((hag i (Nat.lt_of_lt_of_le hi hn0)).trans (ha i hi))) (by rw [e1, hwq]; exact hP') (by rw [hwq]; exact hD'.weaken (fun _ q _ h => hfree q.1 h)) k3 (by rw [pz_alll_map (ad := ad) (fun i hi => (pz_up_ad i (Nat.lt_of_lt_of_le hi hle)).trans (hag i hi)) h2]; exact hl)
    have e3 : ([Value.ref σ'.1] : List Value).map (pz_t (va_up ad' σ'.1 q)) = [.ref q] := by simp [pz_t, va_up]
    rw [e3, ← hpce] at hk
    rw [Nat.zero_add, Nat.zero_add] at X'
    have hcatch := vx_catch (pc := pc) (ls := ls) (rest := rest.map (pz_t ad)) (E := E) (ce := ce) (q := q) C.1.2.2.2.1 pre x suf hsp (fun z hz => (hpass z hz).imp id (fun h => ⟨h.1, h.2.imp (fun nm hn => ⟨C.1.2.2.2.2 _ hn.1, hn.2⟩)⟩)) hcov h0t (C.1.2.2.2.2 _ hlk) (pz_N.use C.2.2.2.2 hcs) (by rw [e1]; exact hce) hcv hcl hk
    obtain ⟨t2, a1, b1⟩ := hcatch T' rfl X'
    exact ⟨t2, st9.trans a1, b1⟩
end PLZ
theorem cs_IA : Cond.castable sIA sIA ∈ lw_face := lw_face_in (by decide +kernel) (by decide +kernel)
theorem cs_IS : Cond.castable sIS sIS ∈ lw_face := lw_face_in (by decide +kernel) (by decide +kernel)
