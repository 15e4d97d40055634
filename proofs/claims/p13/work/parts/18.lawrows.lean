/-! THE LAW'S OWN WALK: calls at the level of the machine, the pure world beside the script -/
theorem pz_w_back {cy : Nat → ClassId} {ad ad' : Nat → Nat} {σ : pzS} {M : pzM} (hwf : pz_wf σ) (hag : ∀ i, i < σ.1 → ad' i = ad i) : pz_w cy ad' σ M = pz_w cy ad σ M := by
  refine pz_w_congr rfl hag (fun i hi => ?_)
  unfold pz_e
  have hf : ∀ c, pz_fs ad' σ M i 0 (pz_ft c) = pz_fs ad σ M i 0 (pz_ft c) := fun c => pz_fs_congr _ _ (fun k t _ => by
    unfold pz_v
    cases hr : σ.2.2 i (0 + k) with
    | none => rfl
    | some r => simp [hag r (hwf i _ r hr)])
  split <;> first | rfl | (rw [hf])
section LWR
variable {p : Program} {l : Launch} {e : Env} {R : Room} {s : State} {m : MethodId} {args : Array Value} {below : List Frame} {meth : Method} {c : Code} {cc : ByteArray} {nL : Nat} {own : String} {D : va_G} {cy : Nat → ClassId} {A : Nat → Prop} {Q : State → Prop} {σ : pzS} {M : pzM} {cells slots pc mc ms : Nat} {ad : Nat → Nat} {H : Heap} {locs : List Loc} {ls : Array Slot} {st0 rest : List Value}
theorem lx_run {a : Array Value} {v : Value} {Pq : pzM → Prop} (C : pz_C p s m args meth c cc nL own D cy A)
    (hr : va_Run p l e R s m args below meth c H locs cells slots mc ms (F0 m pc ls st0) rest (pz_Q D cy σ.1 ad (fun r σ' M' => r = some v ∧ σ' = σ ∧ Pq M') (va_A (pz_w cy ad σ M) H.size) a) (va_A (pz_w cy ad σ M) H.size))
    (hv : ∀ ad' : Nat → Nat, pz_t ad' v = v) (hwf : pz_wf σ) (hD : va_D A (pz_w cy ad σ M)) (hS : va_S A s.heap H locs)
    (kk : ∀ (M' : pzM) (H' : Heap) (locs' : List Loc), Pq M' → va_P D pz_cl (pz_w cy ad σ M') H' → va_D A (pz_w cy ad σ M') → va_S A s.heap H' locs' → W p l e R s m args below meth c H' locs' (cells + mc) (slots + ms) Q (F0 m (pc + 3) ls (v :: rest))) : W p l e R s m args below meth c H locs cells slots Q (F0 m pc ls st0) := by
  intro T hT X
  obtain ⟨v', st₀, t, T', L, h0, X', hL, e1, e2, ⟨⟨r, σ', M', ad', hag, hv', ⟨rfl, hsg, hq⟩, hP', hK', hD'⟩, hz, hk⟩, st9⟩ := hr T hT X
  subst hsg
  have hv2 : v' = some v := by cases hv'; exact congrArg some (hv ad')
  subst hv2
  rw [h0] at hz hk
  have hfree := pz_freeA C hD hS
  have hbk := pz_w_back (cy := cy) (M := M') hwf hag
  rw [hbk] at hP' hD'
  have hS1 : va_S A s.heap T'.heap (locs ++ L) := ⟨Nat.le_trans hS.1 (by rw [e1]; exact hz), fun q g1 g2 => by rw [e1, hk q (Nat.lt_of_lt_of_le g1 hS.1) (fun z => g2 (hfree q z))]; exact hS.2.1 q g1 g2, fun q hq => by
      rcases List.mem_append.mp hq with h | h
      · exact hS.2.2 q h
      · exact hfree _ (hL q h)⟩
  obtain ⟨t2, a1, b1⟩ := kk M' T'.heap (locs ++ L) hq (by rw [e1]; exact hP') (hD'.weaken (fun _ q _ h => hfree q.1 h)) hS1 T' rfl X'
  exact ⟨t2, st9 t2 a1, b1⟩
/-- behind a call that may make cells -/
theorem lx_runN {a : Array Value} {σ2 : pzS} {M2 : pzM} (C : pz_C p s m args meth c cc nL own D cy A)
    (hr : va_Run p l e R s m args below meth c H locs cells slots mc ms (F0 m pc ls st0) rest (pz_Q D cy σ.1 ad (fun r σ' M' => r = none ∧ σ' = σ2 ∧ M' = M2) (va_A (pz_w cy ad σ M) H.size) a) (va_A (pz_w cy ad σ M) H.size))
    (hD : va_D A (pz_w cy ad σ M)) (hS : va_S A s.heap H locs)
    (kk : ∀ (ad1 : Nat → Nat) (H' : Heap) (locs' : List Loc), (∀ i, i < σ.1 → ad1 i = ad i) → va_P D pz_cl (pz_w cy ad1 σ2 M2) H' → va_D A (pz_w cy ad1 σ2 M2) → va_S A s.heap H' locs' → W p l e R s m args below meth c H' locs' (cells + mc) (slots + ms) Q (F0 m (pc + 3) ls rest)) : W p l e R s m args below meth c H locs cells slots Q (F0 m pc ls st0) := by
  intro T hT X
  obtain ⟨v', st₀, t, T', L, h0, X', hL, e1, e2, ⟨⟨r, σ', M', ad', hag, hv', ⟨rfl, hsg, hq⟩, hP', hK', hD'⟩, hz, hk⟩, st9⟩ := hr T hT X
  subst hsg; subst hq
  have hv2 : v' = none := by cases hv'; rfl
  subst hv2
  rw [h0] at hz hk
  have hfree := pz_freeA C hD hS
  have hS1 : va_S A s.heap T'.heap (locs ++ L) := ⟨Nat.le_trans hS.1 (by rw [e1]; exact hz), fun q g1 g2 => by rw [e1, hk q (Nat.lt_of_lt_of_le g1 hS.1) (fun z => g2 (hfree q z))]; exact hS.2.1 q g1 g2, fun q hq => by
      rcases List.mem_append.mp hq with h | h
      · exact hS.2.2 q h
      · exact hfree _ (hL q h)⟩
  obtain ⟨t2, a1, b1⟩ := kk ad' T'.heap (locs ++ L) hag (by rw [e1]; exact hP') (hD'.weaken (fun _ q _ h => hfree q.1 h)) hS1 T' rfl X'
  exact ⟨t2, st9 t2 a1, b1⟩
theorem lx_callI (C : pz_C p s m args meth c cc nL own D cy A) {y : MethodName} {bytes : ByteArray} {maxL fr lo n index b : Nat} {As : List Value} {σ2 : pzS} {M2 : pzM} (hM : pz_Met l y bytes maxL none fr lo mc ms D cy σ M (.ref b :: As) (fun r σ' M' => r = none ∧ σ' = σ2 ∧ M' = M2))
    (hw : pz_wB y bytes maxL none n) (hw1 : Cond.methodLink own index y ∈ lw_good) (hw2 : Cond.instanceMethod y ∈ lw_good) (hy : y.name = "<init>") (hn : As.length = n) (hst : st0 = (As.map (pz_t ad)).reverse ++ .ref (ad b) :: rest) (hcat : (rest.map fun v => v.category).sum ≤ 8) (hR : fr + 1 ≤ R.frames ∧ 8 + (maxL + 11) + lo ≤ R.locals) (hf : cells + mc ≤ R.cells ∧ slots + ms ≤ R.slots) (hd : decode cc pc = .ok (.invokespecial index, 3))
    (hP : va_P D pz_cl (pz_w cy ad σ M) H) (hD : va_D A (pz_w cy ad σ M)) (hS : va_S A s.heap H locs) (hsz : ls.size = nL)
    (kk : ∀ (ad1 : Nat → Nat) (H' : Heap) (locs' : List Loc), (∀ i, i < σ.1 → ad1 i = ad i) → va_P D pz_cl (pz_w cy ad1 σ2 M2) H' → va_D A (pz_w cy ad1 σ2 M2) → va_S A s.heap H' locs' → W p l e R s m args below meth c H' locs' (cells + mc) (slots + ms) Q (F0 m (pc + 3) ls rest)) : W p l e R s m args below meth c H locs cells slots Q (F0 m pc ls st0) := by
  exact lx_runN C (va_runI (As := As.map (pz_t ad)) (rest := rest) (b := ad b) C.1 (hM ad H.size) ⟨callB_of n C.1.2.2.2.2 (pz_goodIn hw) rfl rfl rfl (C.1.2.2.2.2 _ hw.1) (C.1.2.2.2.2 _ hw1) hw.2.2 hR, hy, C.1.2.2.2.2 _ hw2⟩ (pz_pre (av := .ref b :: As) C hP hD) rfl (by rw [List.length_map]; exact hn) hsz hst (lv_room hcat) hd hf) hD hS kk
theorem lx_callV (C : pz_C p s m args meth c cc nL own D cy A) {y : MethodName} {bytes : ByteArray} {maxL fr lo n index ci b N : Nat} {ret : Option FieldType} {T : u_T} {As : List Value} {v : Value} {Pq : pzM → Prop} (hM : pz_Met l y bytes maxL ret fr lo mc ms D cy σ M (.ref b :: As) (fun r σ' M' => r = some v ∧ σ' = σ ∧ Pq M')) (hv : ∀ ad' : Nat → Nat, pz_t ad' v = v)
    (hw : pz_wB y bytes maxL ret n) (hw1 : Cond.methodLink own index y ∈ lw_good) (hw2 : Cond.instanceMethod y ∈ lw_good) (hw3 : Cond.selects y.cls y y ∈ lw_good) (hci : pz_cl[ci]? = some (y.cls, T, N)) (hb : b < σ.1) (hK : (σ.2.1 b).1 = ci + 4)
    (hn : As.length = n) (hst : st0 = (As.map (pz_t ad)).reverse ++ .ref (ad b) :: rest) (hcat : (rest.map fun v => v.category).sum ≤ 8) (hR : fr + 1 ≤ R.frames ∧ 8 + (maxL + 11) + lo ≤ R.locals) (hf : cells + mc ≤ R.cells ∧ slots + ms ≤ R.slots) (hd : decode cc pc = .ok (.invokevirtual index, 3)) (hwf : pz_wf σ)
    (hP : va_P D pz_cl (pz_w cy ad σ M) H) (hD : va_D A (pz_w cy ad σ M)) (hS : va_S A s.heap H locs) (hsz : ls.size = nL)
    (kk : ∀ (M' : pzM) (H' : Heap) (locs' : List Loc), Pq M' → va_P D pz_cl (pz_w cy ad σ M') H' → va_D A (pz_w cy ad σ M') → va_S A s.heap H' locs' → W p l e R s m args below meth c H' locs' (cells + mc) (slots + ms) Q (F0 m (pc + 3) ls (v :: rest))) : W p l e R s m args below meth c H locs cells slots Q (F0 m pc ls st0) := by
  have hcw : CallW R s args own y.cls index y bytes maxL ret (Cond.code y bytes maxL ret :: lw_good) ({ frames := fr, cells := mc, slots := ms, locals := lo }) mc ms n :=
    ⟨callB_of n C.1.2.2.2.2 (pz_goodIn hw) rfl rfl rfl (C.1.2.2.2.2 _ hw.1) (C.1.2.2.2.2 _ hw1) hw.2.2 hR, C.1.2.2.2.2 _ hw2, C.1.2.2.2.2 _ hw3⟩
  have hpre : PreV s H y.cls (ad b) (va_Pc ((.ref b :: As).map (pz_t ad)) (pz_Pre D cy ad H.size σ M)) (As.map (pz_t ad)) :=
    ⟨pz_blind, va_recv C.2.1 hP hci (pz_at hb hK), (pz_pre (av := .ref b :: As) C hP hD).2⟩
  exact lx_run C (va_runV (As := As.map (pz_t ad)) (rest := rest) (b := ad b) C.1 (hM ad H.size) hcw hpre rfl (by rw [List.length_map]; exact hn) hsz hst (lv_room hcat) hd hf) hv hwf hD hS kk
theorem lx_callSH (C : pz_C p s m args meth c cc nL own D cy A) {y : MethodName} {bytes : ByteArray} {maxL fr lo n index : Nat} {ret : Option FieldType} {hh : List (Nat × Nat × Nat × Nat)} {As : List Value} {v : Value} {Pq : pzM → Prop} (hZ : pz_Z A s s.heap) (hM : pz_MetH l y bytes maxL ret hh fr lo mc ms D cy σ M As (fun r σ' M' => r = some v ∧ σ' = σ ∧ Pq M')) (hv : ∀ ad' : Nat → Nat, pz_t ad' v = v)
    (hw0 : Cond.initialized y.cls ∈ lw_good) (hw : Cond.codeWith y bytes maxL ret hh ∈ lw_good) (hwd : y.cls ≠ "java/lang/invoke/MethodHandle" ∧ y.cls ≠ "java/lang/invoke/VarHandle" ∧ (parseMethodDescriptor y.desc).map (fun d => d.parameters.length) = some n) (hw1 : Cond.methodLink own index y ∈ lw_good) (hw2 : Cond.static y ∈ lw_good)
    (hn : As.length = n) (hst : st0 = (As.map (pz_t ad)).reverse ++ rest) (hcat : (rest.map fun v => v.category).sum ≤ 8) (hR : fr + 1 ≤ R.frames ∧ 8 + (maxL + 11) + lo ≤ R.locals) (hf : cells + mc ≤ R.cells ∧ slots + ms ≤ R.slots) (hd : decode cc pc = .ok (.invokestatic index, 3)) (hwf : pz_wf σ)
    (hP : va_P D pz_cl (pz_w cy ad σ M) H) (hD : va_D A (pz_w cy ad σ M)) (hS : va_S A s.heap H locs) (hsz : ls.size = nL)
    (kk : ∀ (M' : pzM) (H' : Heap) (locs' : List Loc), Pq M' → va_P D pz_cl (pz_w cy ad σ M') H' → va_D A (pz_w cy ad σ M') → va_S A s.heap H' locs' → W p l e R s m args below meth c H' locs' (cells + mc) (slots + ms) Q (F0 m (pc + 3) ls (v :: rest))) : W p l e R s m args below meth c H locs cells slots Q (F0 m pc ls st0) := by
  have hfree := pz_freeA C hD hS
  have hZH : pz_Z (va_A (pz_w cy ad σ M) H.size) s H := (hZ.kept (fun a g1 g2 => hS.2.1 a g1 g2)).narrow hfree
  have hG : GoodIn lw_good (va_wsS own index y (Cond.codeWith y bytes maxL ret hh :: lw_good)) := by
    intro w h9
    have hm : w ∈ lw_good := by
      simp only [va_wsS, List.mem_append, List.mem_cons, List.not_mem_nil, or_false] at h9
      rcases h9 with (rfl | rfl | rfl) | rfl | h
      · exact hw1
      · exact hw2
      · exact hw0
      · exact hw
      · exact h
    exact ⟨hm, good_of_word (lw_good_ok hm)⟩
  have hpre : PreS s H (va_Pc (As.map (pz_t ad)) (pz_PreX D cy ad H.size σ M)) (As.map (pz_t ad)) :=
    ⟨pz_blindX, fun U hU hW => ⟨rfl, ((pz_pre (av := As) C hP hD).2 U hU hW).2, by rw [hU]; exact hZH.moved hW.alike⟩⟩
  exact lx_run C (vx_runSW (As := As.map (pz_t ad)) (rest := rest) C.1 (hM ad H.size) (vx_cwSW n C.1.2.2.2.2 hG rfl rfl rfl hwd hR) hpre rfl (by rw [List.length_map]; exact hn) hsz hst (lv_room hcat) hd hf) hv hwf hD hS kk
theorem lx_newobj (C : pz_C p s m args meth c cc nL own D cy A) {C1 : String} {T : u_T} {N ci index : Nat} {ty : Nat → FieldType} (hd : decode cc pc = .ok (.new index, 3)) (hin : ∀ w ∈ u_ws C1 T N, w ∈ lw_good) (hty : ∀ k, k < N → parseFieldDescriptor (T k).2.2.1 = some (ty k)) (hw1 : Cond.classLink own index C1 ∈ lw_good) (hw2 : Cond.instantiable C1 N ∈ lw_good) (hw3 : Cond.initialized C1 ∈ lw_good) (hc : pz_cl[ci]? = some (C1, T, N)) (hfs : ∀ j, j < N → defaultValue (ty j) = vp_V ((pz_ft ci).map pz_dv) j)
    (hwf : pz_wf σ) (hcells : cells + 1 ≤ R.cells) (hslots : slots + N ≤ R.slots) (hP : va_P D pz_cl (pz_w cy ad σ M) H) (hD : va_D A (pz_w cy ad σ M)) (hS : va_S A s.heap H locs)
    (kk : ∀ (ad1 : Nat → Nat) (H1 : Heap), (∀ i, i < σ.1 → ad1 i = ad i) → va_P D pz_cl (pz_w cy ad1 (pz_new σ (ci + 4, 0)) (pz_nM σ M)) H1 → va_D A (pz_w cy ad1 (pz_new σ (ci + 4, 0)) (pz_nM σ M)) → va_S A s.heap H1 locs → W p l e R s m args below meth c H1 locs (cells + 1) (slots + N) Q (F0 m (pc + 3) ls (.ref (ad1 σ.1) :: rest))) : W p l e R s m args below meth c H locs cells slots Q (F0 m pc ls rest) := by
  refine va_new (ci := ci) (fs := (pz_ft ci).map pz_dv) (C := C1) (T := T) (N := N) C.1.1 C.1.2.1 C.1.2.2.2.2 hin ty hty C.1.2.2.2.1 (C.1.2.2.2.2 _ hw1) (C.1.2.2.2.2 _ hw2) (C.1.2.2.2.2 _ hw3) C.2.1 hP hD hS C.2.2.1 hc hfs hcells hslots hd (fun q H1 hP1 hD1 hS1 => ?_)
  have he9 : pz_e cy (va_up ad σ.1 q) (pz_new σ (ci + 4, 0)) (pz_nM σ M) σ.1 = .inr (ci, (pz_ft ci).map pz_dv) := by
    unfold pz_e
    have hk : ((pz_new σ (ci + 4, 0)).2.1 σ.1).1 = ci + 4 := by simp [pz_new, va_up]
    rw [hk]
    exact congrArg (fun z => Sum.inr (ci, z)) (pz_fs_zero (fun k => by simp [pz_nM, va_up]) (fun k => by simp [pz_nM, va_up]) (fun k => by simp [pz_new, va_up]) _ _)
  have e1 := pz_w_push (M := M) hwf he9
  rw [e1] at hP1 hD1
  have k9 := kk (va_up ad σ.1 q) H1 (fun i hi => pz_up_ad i hi) hP1 hD1 hS1
  have e2 : va_up ad σ.1 q σ.1 = q := by simp [va_up]
  rw [e2] at k9
  exact k9
theorem lx_newarrJ (C : pz_C p s m args meth c cc nL own D cy A) {N' : Nat} {x : Int32} (hd : decode cc pc = .ok (.newarray .long, 2)) (hx : ¬ x < 0) (hN : x.toNatClampNeg = N') (hb : N' ≤ 1000000)
    (hwf : pz_wf σ) (hcells : cells + 1 ≤ R.cells) (hslots : slots + N' ≤ R.slots) (hP : va_P D pz_cl (pz_w cy ad σ M) H) (hD : va_D A (pz_w cy ad σ M)) (hS : va_S A s.heap H locs)
    (kk : ∀ (ad1 : Nat → Nat) (H1 : Heap), (∀ i, i < σ.1 → ad1 i = ad i) → va_P D pz_cl (pz_w cy ad1 (pz_new σ (2, N')) (pz_nM σ M)) H1 → va_D A (pz_w cy ad1 (pz_new σ (2, N')) (pz_nM σ M)) → va_S A s.heap H1 locs → W p l e R s m args below meth c H1 locs (cells + 1) (slots + N') Q (F0 m (pc + 2) ls (.ref (ad1 σ.1) :: rest))) : W p l e R s m args below meth c H locs cells slots Q (F0 m pc ls (.int x :: rest)) := by
  refine va_newa C.1.1 C.1.2.1 (atype := .long) (C.1.2.2.2.2 _ arr_long) (ty := .long) rfl C.2.1 hP hD hS C.2.2.1 (a0 := (N', .inr (.inl (fun _ => 0)))) (fun _ => rfl) hx hN (by simp [componentBytes]; omega) hcells hslots hd (fun q cA H1 hK1 hP1 hD1 hS1 => ?_)
  have hcA : cA = cy 2 := Option.some.inj ((hK1.2 4 (cA, .long) rfl).2.symm.trans (C.2.1.2 2 (cy 2, .long) rfl).2)
  subst hcA
  have e1 := pz_w_push (M := M) (q := q) (kd := (2, N')) hwf (by simp [pz_e, pz_new, pz_nM, va_up] : pz_e cy (va_up ad σ.1 q) (pz_new σ (2, N')) (pz_nM σ M) σ.1 = .inl (cy 2, N', .inr (.inl (fun _ => 0))))
  rw [e1] at hP1 hD1
  have k9 := kk (va_up ad σ.1 q) H1 (fun i hi => pz_up_ad i hi) hP1 hD1 hS1
  have e2 : va_up ad σ.1 q σ.1 = q := by simp [va_up]
  rw [e2] at k9
  exact k9
/-- what the law's own row holds -/
theorem lx_lald (C : pz_C p s m args meth c cc nL own D cy A) {i : Nat} {x : Int32} (hi : i < σ.1) (hK : (σ.2.1 i).1 = 2) (hin : vp_in x (σ.2.1 i).2) (hd : decode cc pc = .ok (.laload, 1)) (hP : va_P D pz_cl (pz_w cy ad σ M) H)
    (kk : W p l e R s m args below meth c H locs cells slots Q (F0 m (pc + 1) ls (.long (M.2 i x.toNatClampNeg) :: rest))) : W p l e R s m args below meth c H locs cells slots Q (F0 m pc ls (.int x :: .ref (ad i) :: rest)) := va_lald C.1.1 C.1.2.1 C.2.1 hP i 2 (pz_ar2 hi hK) rfl hin hd kk
end LWR
theorem pz_known {s : State} {args : Array Value} (hts : ∀ w ∈ lw_tbl, w.before args s = true) {ty : FieldType} (hty : ∀ C, ty ≠ .object C) (h : Cond.arrayClass ty ∈ lw_tbl) : ∃ cA : ClassId, ArrOfT s cA ty ∧ va_RA s cA ty := by
  obtain ⟨cA, kA, comp, h1, h2, h3⟩ := Cond.arrayClass_spec (show (Cond.arrayClass ty).holds args s none s [] = true from hts _ h)
  refine ⟨cA, fun n z => ⟨fun k h => (by cases h), kA, h2, comp, h3⟩, ?_⟩
  cases ty with
  | object C => exact absurd rfl (hty C)
  | _ => exact h1
