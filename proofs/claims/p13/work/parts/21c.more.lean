theorem pv_R_84 {V : pvM} {σ : pzS} {M : pzM} {k : Nat} {x : Int} (h : pv_R V σ M) : pv_R (pz_u V 84 k x) σ M := by
  have ne : ∀ a b, a < 84 → pz_u V 84 k x a b = V a b := fun a b ha => pv_u_ne (Or.inl (by omega))
  obtain ⟨h0, h1, h2, ⟨hJ, h3⟩, ⟨hj, h4⟩, ⟨b1, b2, b3⟩, h5⟩ := h
  refine ⟨h0, fun a b hab => ?_, fun a b hab => ?_, ⟨⟨fun t ht => ?_, hJ.2⟩, by rw [ne _ _ (by omega)]; exact h3⟩, ⟨?_, by rw [ne _ _ (by omega)]; exact h4⟩, ⟨fun b => ?_, fun b => ?_, fun b => ?_⟩, ?_⟩
  · rw [ne _ _ (pv_li_lt hab)]; exact h1 a b hab
  · rw [ne _ _ (pv_ll_lt hab).1]; exact h2 a b hab
  · obtain ⟨g1, g2, g3, g4, g5⟩ := hJ.1 t ht
    rw [ne 17 0 (by omega)]
    exact ⟨g1, g2, g3, g4, fun b hb9 => by rw [ne _ _ (by omega)]; exact g5 b hb9⟩
  · obtain ⟨g1, g2, g3, g4, g5⟩ := hj
    unfold pv_kept
    rw [ne 39 2 (by omega)]
    exact ⟨g1, g2, g3, g4, fun b hb9 => by rw [ne _ _ (by omega)]; exact g5 b hb9⟩
  · rw [ne _ _ (by omega)]; exact b1 b
  · rw [ne _ _ (by omega)]; exact b2 b
  · rw [ne _ _ (by omega)]; exact b3 b
  · rw [ne _ _ (by omega)]; exact h5
/-! METHODS THAT THROW -/
def pv_postX (V0 : pvM) (q : pvO) (n0 : Nat) : String → pzS → pzM → Prop := fun E σ M => ((q.1 = 1 ∧ E = "java/lang/IllegalArgumentException") ∨ (q.1 = 2 ∧ E = "java/lang/IllegalStateException")) ∧ pv_R q.2.2 σ M ∧ n0 ≤ σ.1 ∧ pv_B V0 q.2.2
abbrev pv_QX (below : List Frame) (D : va_G) (cy : Nat → ClassId) (n0 : Nat) (ad0 : Nat → Nat) (V0 : pvM) (q : pvO) (A : Nat → Prop) (args : Array Value) (s : State) : State → Prop := vx_MQ below (pz_Q D cy n0 ad0 (pv_post 1 V0 q n0) A) (pz_XQ D cy n0 ad0 (pv_postX V0 q n0) A) args s (pv_c q.2.2 - pv_c V0) (pv_s q.2.2 - pv_s V0) A
def pv_MetX (l : Launch) (y : MethodName) (cc : ByteArray) (maxL : Nat) (ret : Option FieldType) (fr lo : Nat) (D : va_G) (cy : Nat → ClassId) (V : pvM) (av : List Value) (q : pvO) : Prop :=
  ∀ (σ : pzS) (M : pzM), pv_R V σ M → pv_c V ≤ pv_LC → pv_s V ≤ pv_LS → ∀ (ad : Nat → Nat) (sz : Nat), vx_Met l y (Cond.code y cc maxL ret :: lw_good) (pv_rm fr lo V) (va_Pc (av.map (pz_t ad)) (pz_PreX D cy ad sz σ M)) (pz_Q D cy σ.1 ad (pv_post 1 V q σ.1) (va_A (pz_w cy ad σ M) sz)) (pz_XQ D cy σ.1 ad (pv_postX V q σ.1) (va_A (pz_w cy ad σ M) sz)) (pv_c q.2.2 - pv_c V) (pv_s q.2.2 - pv_s V) (va_A (pz_w cy ad σ M) sz)
theorem pv_ofWX {l : Launch} {y : MethodName} {cc : ByteArray} {maxL : Nat} {ret : Option FieldType} {fr lo : Nat} {D : va_G} {cy : Nat → ClassId} {V : pvM} {av : List Value} {q : pvO} (hy : plainName y.cls = true) (hlen : (lg_sl av).length ≤ maxL)
    (body : ∀ (p : Program) (e : Env) (s : State) (m : MethodId) (args : Array Value) (below : List Frame) (meth : Method) (c : Code) (ad : Nat → Nat) (A : Nat → Prop) (n0 : Nat) (σ : pzS), pz_C p s m args meth c cc maxL y.cls D cy A → meth.sig.returnType = ret → pz_Z A s s.heap → (∀ x ∈ c.exceptionTable.toList, False) →
      pv_W p l e fr lo s m args below meth c maxL D cy A n0 ad (pv_QX below D cy n0 ad V q A args s) V σ V 0 (lv_args 0 av) []) : pv_MetX l y cc maxL ret fr lo D cy V av q := by
  intro σ M hR hcL hsL ad sz
  refine vx_ofW (cc := cc) (maxL := maxL) (ret := ret) hy rfl ?_
  intro p e s m args below meth c s₁ B hml hno hv
  obtain ⟨rfl, ⟨hsz, hP, hK, hD0, hN⟩, hZ⟩ := hv
  have hts := atoms_spec (ws := Cond.code y cc maxL ret :: lw_good) B.pre
  have hown : s.vm.findClass y.cls = some m.cls := findClass_of_methodNamed B.named
  subst hsz
  have hD := hD0.self (sz := s.heap.size)
  have hl := lv_entry (av.map (pz_t ad)) (n := maxL) (by rw [pz_sl_len]; exact hlen)
  rw [lg_entry_eq]
  rw [pz_args_map] at hl
  have k9 := body p e s m (av.map (pz_t ad)).toArray below meth c ad (va_A (pz_w cy ad σ M) s.heap.size) σ.1 σ ⟨⟨B.exec, B.bytes, hml, hown, fun w hw => hts w (List.mem_cons_of_mem _ hw)⟩, hK, fun q h => Or.inr h, B.notSynchronized, hN⟩ B.returns hZ hno M hR (Nat.le_refl _) ⟨Nat.le_refl _, hcL, Nat.le_refl _, hsL⟩
  rw [Nat.sub_self, Nat.sub_self] at k9
  exact k9 ad s.heap [] _ (fun _ _ => rfl) hP hD va_S.rf hl
section PDC
variable {p : Program} {l : Launch} {e : Env} {fr lo : Nat} {s : State} {m : MethodId} {args : Array Value} {below : List Frame} {meth : Method} {c : Code} {cc : ByteArray} {nL : Nat} {own : String} {D : va_G} {cy : Nat → ClassId} {A : Nat → Prop} {n0 : Nat} {ad0 : Nat → Nat} {Q : State → Prop} {V0 V : pvM} {σ : pzS} {pc : Nat} {loc loc' : List (Nat × Value)} {st : List Value} {q : pvO} {kd : Nat}
theorem pv_iretX (C : pz_C p s m args meth c cc nL own D cy A) {x : Int32} (hp : rT V x.toInt = some q) (hr : meth.sig.returnType = some .int) (hd : decode cc pc = .ok (.ireturn, 1)) : pv_W p l e fr lo s m args below meth c nL D cy A n0 ad0 (pv_QX below D cy n0 ad0 V0 q A args s) V0 σ V pc loc [.int x] := by
  intro M h1 h2 h3
  cases hp
  exact pz_retX (pz_iret C hr (Nat.le_refl _) (Nat.le_refl _) hd ⟨rfl, ⟨x, rfl, rfl⟩, h1, h2, h3⟩)
theorem pv_throw (C : pz_C p s m args meth c cc nL own D cy A) {e9 : Nat} (hl0 : l.stackTraces = false) (hZ : pz_Z A s s.heap) (hno : ∀ x ∈ c.exceptionTable.toList, False) (hp : tH V e9 = some q) {cls : String} {names : List String} {ik ic : Nat}
    (d0 : decode cc pc = .ok (.new ik, 3)) (d3 : decode cc (pc + 3) = .ok (.dup, 1)) (d4 : decode cc (pc + 4) = .ok (.invokespecial ic, 3)) (d7 : decode cc (pc + 7) = .ok (.athrow, 1))
    (hcls : Bundle.fit cls = true) (hnames : ∀ n ∈ names, Bundle.fit n = true) (hat : ∀ w ∈ Cond.classLink own ik cls :: Cond.initialized cls :: vx_at0 own ic cls names, w ∈ lw_face)
    (hfr : names.length + 3 < fr) (hlo : (st.map fun v => v.category).sum + (13 * (names.length + 1) + 42) ≤ lo) (he : (e9, cls) = (1, "java/lang/IllegalArgumentException") ∨ (e9, cls) = (2, "java/lang/IllegalStateException")) : pv_W p l e fr lo s m args below meth c nL D cy A n0 ad0 (pv_QX below D cy n0 ad0 V0 q A args s) V0 σ V pc loc st := by
  intro M h1 h2 h3
  unfold tH at hp
  by_cases hz : 0 ≤ V 84 0 ∧ 0 ≤ V 84 1 ∧ V 84 0 + 1 ≤ (pv_LC : Int) ∧ V 84 1 + 6 ≤ (pv_LS : Int)
  · rw [if_pos hz] at hp
    cases hp
    have e1 : pv_c (pz_u (pz_u V 84 0 (V 84 0 + 1)) 84 1 (V 84 1 + 6)) = pv_c V + 1 := by
      unfold pv_c
      rw [pv_u_ne (Or.inr (by omega)), pz_u_eq]
      omega
    have e2 : pv_s (pz_u (pz_u V 84 0 (V 84 0 + 1)) 84 1 (V 84 1 + 6)) = pv_s V + 6 := by
      unfold pv_s
      rw [pz_u_eq]
      omega
    have c1 : pv_c V + 1 ≤ pv_LC := by unfold pv_c; omega
    have c2 : pv_s V + 6 ≤ pv_LS := by unfold pv_s; omega
    have h9 := h3
    unfold pv_B at h9
    refine pz_throw0 C hl0 hZ hno d0 d3 d4 d7 hcls hnames hat hfr hlo (show pv_c V - pv_c V0 + 1 ≤ pv_LC - pv_c V0 by omega) (show pv_s V - pv_s V0 + 6 ≤ pv_LS - pv_s V0 by omega) ?_ ?_ ⟨?_, pv_R_84 (pv_R_84 h1), h2, ?_⟩
    · show _ ≤ pv_c (pz_u (pz_u V 84 0 (V 84 0 + 1)) 84 1 (V 84 1 + 6)) - pv_c V0
      rw [e1]; omega
    · show _ ≤ pv_s (pz_u (pz_u V 84 0 (V 84 0 + 1)) 84 1 (V 84 1 + 6)) - pv_s V0
      rw [e2]; omega
    · rcases he with h | h <;> cases h
      · exact Or.inl ⟨rfl, rfl⟩
      · exact Or.inr ⟨rfl, rfl⟩
    · unfold pv_B
      show _ ≤ pv_c (pz_u (pz_u V 84 0 (V 84 0 + 1)) 84 1 (V 84 1 + 6)) ∧ pv_c (pz_u (pz_u V 84 0 (V 84 0 + 1)) 84 1 (V 84 1 + 6)) ≤ _ ∧ _ ≤ pv_s (pz_u (pz_u V 84 0 (V 84 0 + 1)) 84 1 (V 84 1 + 6)) ∧ pv_s (pz_u (pz_u V 84 0 (V 84 0 + 1)) 84 1 (V 84 1 + 6)) ≤ _
      rw [e1, e2]
      omega
  · rw [if_neg hz] at hp; cases hp
theorem pv_shC {σ : pzS} {i k b : Nat} (h : pz_sh σ) (hb : b < σ.1) (hn : pz_r0 i k = none) : pz_sh (σ.1, σ.2.1, pz_u σ.2.2 i k (some b)) := by
  obtain ⟨h0, h1, h2, h3⟩ := h
  refine ⟨h0, h1, fun a ha t ht j hj => ?_, pz_wf_put h3 hb⟩
  show pz_u σ.2.2 i k (some b) a t = some j
  by_cases he : a = i ∧ t = k
  · obtain ⟨rfl, rfl⟩ := he
    rw [hn] at hj; cases hj
  · rw [pz_u_ne _ _ (by omega)]
    exact h2 a ha t ht j hj
theorem pv_R_putC {V : pvM} {σ : pzS} {M : pzM} {b : Nat} (h : pv_R V σ M) (hb : b = 1 ∨ b = 16) : pv_R (pz_u V 28 5 (b : Int)) (σ.1, σ.2.1, pz_u σ.2.2 28 5 (some b)) M := by
  obtain ⟨h0, h1, h2, ⟨hJ, h3⟩, ⟨hj, h4⟩, ⟨b1, b2, b3⟩, h5⟩ := h
  have ne : ∀ a t, (a ≠ 28 ∨ t ≠ 5) → pz_u V 28 5 (b : Int) a t = V a t := fun a t h => pv_u_ne h
  have nr : ∀ a t, (a ≠ 28 ∨ t ≠ 5) → pz_u σ.2.2 28 5 (some b) a t = σ.2.2 a t := fun a t h => pz_u_ne _ _ h
  have ej : ∀ r, pv_j (σ.1, σ.2.1, pz_u σ.2.2 28 5 (some b)) r = pv_j σ r := fun r => by unfold pv_j; show (pz_u σ.2.2 28 5 (some b) 17 r).getD 0 = _; rw [nr _ _ (by omega)]
  have ek : pv_k (σ.1, σ.2.1, pz_u σ.2.2 28 5 (some b)) = pv_k σ := by unfold pv_k; show (pz_u σ.2.2 28 5 (some b) 39 2).getD 0 = _; rw [nr _ _ (by omega)]
  have ec : pv_cd (σ.1, σ.2.1, pz_u σ.2.2 28 5 (some b)) = b := by unfold pv_cd; show (pz_u σ.2.2 28 5 (some b) 28 5).getD 0 = _; rw [pz_u_eq]; rfl
  have h84 := h0.1
  refine ⟨pv_shC h0 (by omega) rfl, fun a t hab => ?_, fun a t hab => ?_, ⟨⟨fun r hr => ?_, fun r t hr ht h => hJ.2 r t hr ht (by rw [ej, ej] at h; exact h)⟩, by rw [ne _ _ (by omega)]; exact h3⟩, ⟨?_, by rw [ne _ _ (by omega)]; exact h4⟩, ⟨fun t => ?_, fun t => ?_, fun t => ?_⟩, ?_⟩
  · rw [ne _ _ (by have := pv_li_ps hab; omega)]; exact h1 a t hab
  · rw [ne _ _ (by have := pv_ll_lt hab; omega)]; exact h2 a t hab
  · obtain ⟨g1, g2, g3, g4, g5⟩ := hJ.1 r hr
    rw [ej, ne 17 0 (by omega)]
    refine ⟨g1, g2, ?_, g4, fun k hk => by rw [ne _ _ (by omega)]; exact g5 k hk⟩
    show pz_u σ.2.2 28 5 (some b) 17 r = _
    rw [nr _ _ (by omega)]; exact g3
  · obtain ⟨g1, g2, g3, g4, g5⟩ := hj
    unfold pv_kept
    rw [ek, ne 39 2 (by omega)]
    refine ⟨g1, g2, ?_, g4, fun k hk => by rw [ne _ _ (by omega)]; exact g5 k hk⟩
    show pz_u σ.2.2 28 5 (some b) 39 2 = _
    rw [nr _ _ (by omega)]; exact g3
  · rw [ne _ _ (by omega)]; exact b1 t
  · rw [ne _ _ (by omega)]; exact b2 t
  · rw [ne _ _ (by omega)]; exact b3 t
  · rw [ec, pz_u_eq]
    refine ⟨?_, rfl, hb⟩
    show pz_u σ.2.2 28 5 (some b) 28 5 = _
    rw [pz_u_eq]
theorem pv_putC (C : pz_C p s m args meth c cc nL own D cy A) {kt : pvM → Option pvO} {b : Nat} {z : Int} {C1 : String} {T : u_T} {N ci index : Nat} {ty : FieldType} {ty0 : Nat → FieldType} (hin : ∀ w ∈ u_ws C1 T N, w ∈ lw_good) (hc : pz_cl[ci]? = some (C1, T, N)) (hk : 5 < N) (hlink : Cond.fieldLink own index (T 5).1 (T 5).2.1 (T 5).2.2.1 ∈ lw_good) (hK : (pz_k0 28).1 = ci + 4) (hty : ∀ k, k < N → parseFieldDescriptor (T k).2.2.1 = some (ty0 k)) (hnm : ∀ a, a < N → ∀ b, b < N → a ≠ b → (T a).2.1 ≠ (T b).2.1)
    (hp : gW V 28 5 z kt = some q) (hb : b = 1 ∨ b = 16) (hz : (b : Int) = z) (hft : (pz_ft ci)[5]? = some 2) (hfin : (T 5).2.2.2 = false) (hpd : parseFieldDescriptor (T 5).2.2.1 = some ty) (hx : ∀ a : Nat, narrow ty (.ref a) = .ref a) (hx2 : ∀ a : Nat, fits ty (.ref a) = true) (hd : decode cc pc = .ok (.putfield index, 3)) (kk : ∀ (σ' : pzS) (V' : pvM), kt V' = some q → pv_W p l e fr lo s m args below meth c nL D cy A n0 ad0 Q V0 σ' V' (pc + 3) loc st) : pv_W p l e fr lo s m args below meth c nL D cy A n0 ad0 Q V0 σ V pc loc (.ref b :: .ref 28 :: st) := by
  intro M h1 h2 h3
  subst hz
  have k9 := kk _ _ hp M (pv_R_putC h1 hb) h2 (pv_Bu rfl h3)
  rw [(pv_cu (V := V) (c := 28) (k := 5) (x := (b : Int)) rfl).1, (pv_cu (V := V) (c := 28) (k := 5) (x := (b : Int)) rfl).2] at k9
  exact pz_putR C hin hc hk hlink (shL h1.1 28 rfl) (shK h1.1 28 rfl hK) hty hnm hft hfin hpd hx hx2 hd k9
theorem pv_runF {R : Room} {H : Heap} {locs : List Loc} {cells slots : Nat} {x y : MethodName} {bytes : ByteArray} {maxL mc ms RC RS n index count : Nat} {ret : Option FieldType} {ws : List Cond} {rm : Room} {Pc : Array Value → State → Prop} {Qc : Array Value → State → Outcome → State → Prop} {free : Addr → Prop} {Ts : List Cond} {C1 : String} {cC : ClassId} {b : Addr} {As rest : List Value} {g : JFrame}
    (hat : ClassAt s C1 cC) (S : CallFix p m c cc nL s args Ts own) (hM : Met l y ws rm Pc Qc mc ms free) (cw : va_CI R s args own C1 index x y bytes maxL ret ws rm RC RS n) (hp : PreV s H C1 b Pc As)
    (hg : g.method = m) (hn : As.length = n) (hsize : g.locals.size = nL) (hstack : g.stack = As.reverse ++ .ref b :: rest) (hW : 2 * g.monitorRoom + (rest.map fun v => v.category).sum ≤ 8) (hdg : decode cc g.pc = .ok (.invokeinterface index count, 5)) (hf : cells + RC ≤ R.cells ∧ slots + RS ≤ R.slots) :
    va_Run5 p l e R s m args below meth c H locs cells slots mc ms g rest (Qc (Value.ref b :: As).toArray) (free) := by
  obtain ⟨hrc, hrs, hfr, hlo, hws, hcw⟩ := cw.back
  have hini := cw.init
  have hK : Back l R p e below s args y 5 8 (PreOf R RC RS Pc) (PostOf Qc mc ms free) := pv_back (bytes := bytes) (maxL := maxL) (ret := ret) hM hp.1 hrc hrs hfr hlo hws hcw hini
  obtain ⟨hx, hb, hml, ho, -⟩ := S
  obtain ⟨-, ⟨cellB, hcB, hoB, hclB⟩, hPc⟩ := hp
  obtain ⟨hfc, kB, hkB, -⟩ := hat
  cases hfc.symm.trans hclB
  intro T hT X
  obtain ⟨v, vm₁, ⟨U', l2, c2, s2⟩, hW₁, X', ⟨g', mk, t, L, e1, e2, hq, h1, hL, h2, h3⟩, st⟩ := va_callIF X hx (C := C1) (bytes := bytes) (maxL := maxL) (ret := ret) ho cw.link cw.decl cw.face cw.sel cw.inst cw.pub cw.unh cw.cast cw.code cw.notMH hK (by rw [hT]; exact hcB) hoB hclB hkB hg (hsize.trans hml.symm) (argsL := As) (rest := rest) (fun sig h => hn.trans (cw.len sig h)) hstack hW (by rw [hb]; exact hdg)
    (fun vm₁ hW₁ => ⟨hf.1, hf.2, hPc (T.setVm vm₁) hT hW₁⟩)
  dsimp only [Pt.U, Pt.locs, Pt.cells, Pt.slots] at X' e1 e2 h1 h2 h3 st
  subst h1; subst h2; subst h3
  exact ⟨v, (T.setVm vm₁).calling g' mk (Value.ref b :: As).toArray, t, U', L, hT, X', hL, e1, e2, hq, st⟩
theorem pz_run5 {R : Room} {M : pzM} {cells slots mc ms : Nat} {post : Option Value → pzS → pzM → Prop} {rest : List Value} {ad : Nat → Nat} {H : Heap} {locs : List Loc} {ls : Array Slot} {st0 : List Value} {a : Array Value} (C : pz_C p s m args meth c cc nL own D cy A)
    (hr : va_Run5 p l e R s m args below meth c H locs cells slots mc ms (F0 m pc ls st0) (rest.map (pz_t ad)) (pz_Q D cy σ.1 ad post (va_A (pz_w cy ad σ M) H.size) a) (va_A (pz_w cy ad σ M) H.size))
    (hn0 : n0 ≤ σ.1) (h1 : pz_all σ.1 rest) (h2 : pz_alll σ.1 loc) (ha : ∀ i, i < n0 → ad i = ad0 i) (hD : va_D A (pz_w cy ad σ M)) (hS : va_S A s.heap H locs) (hl : lv_has ls nL (loc.map (pz_p ad)))
    (kk : ∀ (r : Option Value) (σ' : pzS) (M' : pzM), post r σ' M' → pz_W p l e R s m args below meth c nL D cy A n0 ad0 Q σ' M' (cells + mc) (slots + ms) (pc + 5) loc (r.toList ++ rest)) : W p l e R s m args below meth c H locs cells slots Q (F0 m pc ls st0) := by
  intro T hT X
  obtain ⟨v, st₀, t, T', L, h0, X', hL, e1, e2, ⟨⟨r, σ', M', ad', hag, hv, hp, hP', hK', hD'⟩, hz, hk⟩, st9⟩ := hr T hT X
  have hv : v = r.map (pz_t ad') := by cases hv; rfl
  subst hv
  rw [h0] at hz hk
  have hfree := pz_freeA C hD hS
  have hS1 : va_S A s.heap T'.heap (locs ++ L) := ⟨Nat.le_trans hS.1 (by rw [e1]; exact hz), fun q g1 g2 => by rw [e1, hk q (Nat.lt_of_lt_of_le g1 hS.1) (fun z => g2 (hfree q z))]; exact hS.2.1 q g1 g2, fun q hq => by
      rcases List.mem_append.mp hq with h | h
      · exact hS.2.2 q h
      · exact hfree _ (hL q h)⟩
  obtain ⟨t2, a1, b1⟩ := kk r σ' M' hp ad' T'.heap (locs ++ L) ls (fun i hi => (hag i (Nat.lt_of_lt_of_le hi hn0)).trans (ha i hi)) (by rw [e1]; exact hP') (hD'.weaken (fun _ q _ h => hfree q.1 h)) hS1 (by rw [pz_alll_map hag h2]; exact hl) T' rfl X'
  refine ⟨t2, st9 t2 ?_, b1⟩
  have hst : (r.map (pz_t ad')).toList ++ rest.map (pz_t ad) = (r.toList ++ rest).map (pz_t ad') := by
    rw [List.map_append, pz_all_map hag h1]
    cases r <;> rfl
  have hst2 : ({ (F0 m pc ls st0) with pc := (F0 m pc ls st0).pc + 5, stack := (r.map (pz_t ad')).toList ++ rest.map (pz_t ad) } : JFrame) = F0 m (pc + 5) ls ((r.toList ++ rest).map (pz_t ad')) := by rw [hst]
  rw [hst2]
  exact a1
/-- the words of a call of x that goes to y of class C1 -/
def pv_Fw (C1 : String) (x y : MethodName) (n : Nat) : Prop := (Cond.selects C1 x y ∈ lw_good ∧ Cond.instanceMethod y ∈ lw_good) ∧ (Cond.declares x ∈ lw_face ∧ Cond.interfaceMethod x.cls x.cls x.name x.desc ∈ lw_face ∧ Cond.publicMethod y ∈ lw_face ∧ Cond.unhidden C1 x.name x.desc ∈ lw_face ∧ Cond.castable C1 x.cls ∈ lw_face) ∧ (x.cls ≠ "java/lang/invoke/MethodHandle" ∧ x.cls ≠ "java/lang/invoke/VarHandle" ∧ (parseMethodDescriptor x.desc).map (fun d => d.parameters.length) = some n)
theorem pv_callF1 (C : pz_C p s m args meth c cc nL own D cy A) {x y : MethodName} {bytes : ByteArray} {maxL fr1 lo1 n index count kd1 ci b N : Nat} {ret : Option FieldType} {T : u_T} {As rest : List Value} {kt : Int → pvM → Option pvO} {q1 : pvO} {M : pzM} (h1 : pv_R V σ M) (h2 : n0 ≤ σ.1) (h3 : pv_B V0 V) (hM : pv_Met l y bytes maxL ret fr1 lo1 D cy V (.ref b :: As) kd1 q1) (hk : kt q1.2.1 q1.2.2 = some q)
    (hw : pz_wB y bytes maxL ret n) (hw1 : Cond.methodLink own index x ∈ lw_good) (hF : pv_Fw y.cls x y n) (hci : pz_cl[ci]? = some (y.cls, T, N)) (hb : Nat.blt b 84 = true) (hK : (pz_k0 b).1 = ci + 4) (hn : As.length = n) (hcat : (rest.map fun v => v.category).sum ≤ 8) (hR : fr1 + 1 ≤ fr ∧ 8 + (maxL + 11) + lo1 ≤ lo) (hd : decode cc pc = .ok (.invokeinterface index count, 5)) (g1 : pv_al rest = true) (g2 : pv_all loc = true)
    (kk : pv_K p l e fr lo s m args below meth c nL D cy A n0 ad0 Q V0 (pc + 5) loc rest q kt kd1) : pz_W p l e (pv_rm fr lo V0) s m args below meth c nL D cy A n0 ad0 Q σ M (pv_c V - pv_c V0) (pv_s V - pv_s V0) pc loc (As.reverse ++ .ref b :: rest) := by
  have hMet := hM σ M h1 h3.2.1 h3.2.2.2
  intro ad H locs ls ha hP hD hS hl
  have us : ∀ {w : Cond}, w ∈ lw_face → w.before #[] s = true := fun h => pz_N.use C.2.2.2.2 h
  have hG : GoodIn lw_good (va_wsF own index y.cls x y (Cond.code y bytes maxL ret :: lw_good)) := by
    intro w h9
    have hm : w ∈ lw_good := by
      simp only [va_wsF, List.mem_append, List.mem_cons, List.not_mem_nil, or_false] at h9
      rcases h9 with (rfl | rfl | rfl | rfl) | rfl | h
      · exact hw1
      · exact hF.1.1
      · exact hF.1.2
      · exact hw.1
      · exact hw.2.1
      · exact h
    exact ⟨hm, good_of_word (lw_good_ok hm)⟩
  have hcw := va_cwF (R := pv_rm fr lo V0) (rm := pv_rm fr1 lo1 V) (mc := pv_LC - pv_c V) (ms := pv_LS - pv_s V) (ret := ret) (bytes := bytes) (maxL := maxL) n C.1.2.2.2.2 hG rfl rfl rfl ⟨us hF.2.1.1, us hF.2.1.2.1, us hF.2.1.2.2.1, us hF.2.1.2.2.2.1, us hF.2.1.2.2.2.2⟩ hF.2.2 hR
  have hpre : PreV s H y.cls (ad b) (va_Pc ((.ref b :: As).map (pz_t ad)) (pz_Pre D cy ad H.size σ M)) (As.map (pz_t ad)) :=
    ⟨pz_blind, va_recv C.2.1 hP hci (pz_at (shL h1.1 b hb) (shK h1.1 b hb hK)), (pz_pre (av := .ref b :: As) C hP hD).2⟩
  exact pz_run5 C (pv_runF (As := As.map (pz_t ad)) (rest := rest.map (pz_t ad)) (b := ad b) (C.2.1.1 ci _ hci).2 C.1 (hMet ad H.size) hcw hpre rfl (by rw [List.length_map]; exact hn) hl.1 (by simp [pz_t, List.map_reverse]) (pz_room hcat) hd (pv_room9 h3)) h2 (pv_al_p h1.1.1 g1) (pv_all_p h1.1.1 g2) ha hD hS hl (fun r σ' M' hpp => pv_kont kk hk h2 h3 hpp)
theorem pv_callF (C : pz_C p s m args meth c cc nL own D cy A) {x y1 y2 : MethodName} {bytes1 bytes2 : ByteArray} {maxL1 maxL2 fr1 lo1 fr2 lo2 n index count kd1 ci1 N1 ci2 N2 : Nat} {ret : Option FieldType} {T1 T2 : u_T} {As rest : List Value} {kt : Int → pvM → Option pvO} {o1 o2 : Option pvO} (hp : cL (if V 28 5 = 1 then o1 else o2) kt = some q)
    (hM1 : ∀ q1, o1 = some q1 → pv_Met l y1 bytes1 maxL1 ret fr1 lo1 D cy V (.ref 1 :: As) kd1 q1) (hM2 : ∀ q1, o2 = some q1 → pv_Met l y2 bytes2 maxL2 ret fr2 lo2 D cy V (.ref 16 :: As) kd1 q1) (hw1 : pz_wB y1 bytes1 maxL1 ret n) (hw2 : pz_wB y2 bytes2 maxL2 ret n) (hl9 : Cond.methodLink own index x ∈ lw_good) (hF1 : pv_Fw y1.cls x y1 n) (hF2 : pv_Fw y2.cls x y2 n)
    (hci1 : pz_cl[ci1]? = some (y1.cls, T1, N1)) (hK1 : (pz_k0 1).1 = ci1 + 4) (hci2 : pz_cl[ci2]? = some (y2.cls, T2, N2)) (hK2 : (pz_k0 16).1 = ci2 + 4) (hn : As.length = n) (hst : st = As.reverse ++ .ref (pv_cd σ) :: rest) (hcat : (rest.map fun v => v.category).sum ≤ 8) (hR1 : fr1 + 1 ≤ fr ∧ 8 + (maxL1 + 11) + lo1 ≤ lo) (hR2 : fr2 + 1 ≤ fr ∧ 8 + (maxL2 + 11) + lo2 ≤ lo) (hd : decode cc pc = .ok (.invokeinterface index count, 5)) (g1 : pv_al rest = true) (g2 : pv_all loc = true)
    (kk : pv_K p l e fr lo s m args below meth c nL D cy A n0 ad0 Q V0 (pc + 5) loc rest q kt kd1) : pv_W p l e fr lo s m args below meth c nL D cy A n0 ad0 Q V0 σ V pc loc st := by
  intro M h1 h2 h3
  obtain ⟨q1, ho, hk⟩ := pv_cL hp
  subst hst
  obtain ⟨-, hv, h9⟩ := h1.2.2.2.2.2.2
  rcases h9 with h9 | h9
  · rw [h9] at hv ⊢
    rw [if_pos (by rw [hv]; rfl)] at ho
    exact pv_callF1 C h1 h2 h3 (hM1 q1 ho) hk hw1 hl9 hF1 hci1 rfl hK1 hn hcat hR1 hd g1 g2 kk
  · rw [h9] at hv ⊢
    rw [if_neg (by rw [hv]; decide)] at ho
    exact pv_callF1 C h1 h2 h3 (hM2 q1 ho) hk hw2 hl9 hF2 hci2 rfl hK2 hn hcat hR2 hd g1 g2 kk
end PDC
theorem fw_X6_isStepAt : pv_Fw yX6_isStepAt.cls ⟨"FeatureDesugarer$Code", "isStepAt", "(II)Z"⟩ yX6_isStepAt 2 := ⟨⟨lw_at4 70 rfl rfl, im_yX6_isStepAt⟩, ⟨lf_at4 58 rfl rfl, lf_at4 57 rfl rfl, lf_at4 73 rfl rfl, lf_at4 71 rfl rfl, lf_at4 69 rfl rfl⟩, by decide +kernel⟩
theorem fw_X5_isStepAt : pv_Fw yX5_isStepAt.cls ⟨"FeatureDesugarer$Code", "isStepAt", "(II)Z"⟩ yX5_isStepAt 2 := ⟨⟨lw_at4 60 rfl rfl, im_yX5_isStepAt⟩, ⟨lf_at4 58 rfl rfl, lf_at4 57 rfl rfl, lf_at4 63 rfl rfl, lf_at4 61 rfl rfl, lf_at4 59 rfl rfl⟩, by decide +kernel⟩
theorem fw_X6_wordAt : pv_Fw yX6_wordAt.cls ⟨"FeatureDesugarer$Code", "wordAt", "(II)I"⟩ yX6_wordAt 2 := ⟨⟨lw_at4 86 rfl rfl, im_yX6_wordAt⟩, ⟨lf_at4 82 rfl rfl, lf_at4 81 rfl rfl, lf_at4 88 rfl rfl, lf_at4 87 rfl rfl, lf_at4 69 rfl rfl⟩, by decide +kernel⟩
theorem fw_X5_wordAt : pv_Fw yX5_wordAt.cls ⟨"FeatureDesugarer$Code", "wordAt", "(II)I"⟩ yX5_wordAt 2 := ⟨⟨lw_at4 83 rfl rfl, im_yX5_wordAt⟩, ⟨lf_at4 82 rfl rfl, lf_at4 81 rfl rfl, lf_at4 85 rfl rfl, lf_at4 84 rfl rfl, lf_at4 59 rfl rfl⟩, by decide +kernel⟩
theorem fw_X6_firstNumberAt : pv_Fw yX6_firstNumberAt.cls ⟨"FeatureDesugarer$Code", "firstNumberAt", "(II)I"⟩ yX6_firstNumberAt 2 := ⟨⟨lw_at4 96 rfl rfl, im_yX6_firstNumberAt⟩, ⟨lf_at4 92 rfl rfl, lf_at4 91 rfl rfl, lf_at4 98 rfl rfl, lf_at4 97 rfl rfl, lf_at4 69 rfl rfl⟩, by decide +kernel⟩
theorem fw_X5_firstNumberAt : pv_Fw yX5_firstNumberAt.cls ⟨"FeatureDesugarer$Code", "firstNumberAt", "(II)I"⟩ yX5_firstNumberAt 2 := ⟨⟨lw_at4 93 rfl rfl, im_yX5_firstNumberAt⟩, ⟨lf_at4 92 rfl rfl, lf_at4 91 rfl rfl, lf_at4 95 rfl rfl, lf_at4 94 rfl rfl, lf_at4 59 rfl rfl⟩, by decide +kernel⟩
theorem fw_X6_secondNumberAt : pv_Fw yX6_secondNumberAt.cls ⟨"FeatureDesugarer$Code", "secondNumberAt", "(II)I"⟩ yX6_secondNumberAt 2 := ⟨⟨lw_at4 106 rfl rfl, im_yX6_secondNumberAt⟩, ⟨lf_at4 102 rfl rfl, lf_at4 101 rfl rfl, lf_at4 108 rfl rfl, lf_at4 107 rfl rfl, lf_at4 69 rfl rfl⟩, by decide +kernel⟩
theorem fw_X5_secondNumberAt : pv_Fw yX5_secondNumberAt.cls ⟨"FeatureDesugarer$Code", "secondNumberAt", "(II)I"⟩ yX5_secondNumberAt 2 := ⟨⟨lw_at4 103 rfl rfl, im_yX5_secondNumberAt⟩, ⟨lf_at4 102 rfl rfl, lf_at4 101 rfl rfl, lf_at4 105 rfl rfl, lf_at4 104 rfl rfl, lf_at4 59 rfl rfl⟩, by decide +kernel⟩
