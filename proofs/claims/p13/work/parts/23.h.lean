def q_X8_clear (N : Nat) (V : pvM) : Option pvO :=
  lI (0) fun v1 =>
  gW V 39 3 v1 fun V =>
  lI (0) fun v2 =>
  gW V 39 7 v2 fun V =>
  rT V 0
set_option maxHeartbeats 4000000 in
set_option maxRecDepth 100000 in
theorem c_X8_clear (l : Launch) (D : va_G) (cy : Nat → ClassId) {N : Nat} {V : pvM} {q : pvO} (hp : q_X8_clear N V = some q) : pv_Met l yX8_clear cX8_clear 1 none 0 0 D cy V [.ref 39] 0 q := by
  unfold q_X8_clear at hp
  refine pv_ofW (by decide) (Nat.le_of_ble_eq_true rfl) (fun p e s m args below meth c ad A n0 σ C hr => ?_)
  refine pv_aload_n C 0 dX8_clear_0 rfl ?_
  refine pv_iconst C hp dX8_clear_1 (by decide) (fun v1 hp => ?_)
  refine pv_putI C (ci := 7) (k := 3) gwX8 rfl (Nat.le_of_ble_eq_true rfl) fl_X8_28 rfl rfl tyX8_ok nmX8 hp rfl rfl rfl (by decide +kernel) dX8_clear_2 (fun V hp => ?_)
  refine pv_aload_n C 0 dX8_clear_5 rfl ?_
  refine pv_iconst C hp dX8_clear_6 (by decide) (fun v2 hp => ?_)
  refine pv_putI C (ci := 7) (k := 7) gwX8 rfl (Nat.le_of_ble_eq_true rfl) fl_X8_32 rfl rfl tyX8_ok nmX8 hp rfl rfl rfl (by decide +kernel) dX8_clear_7 (fun V hp => ?_)
  exact pv_vret C rfl hp hr dX8_clear_10
def q_X8_outputLength (N : Nat) (V : pvM) : Option pvO :=
  gR V 39 7 fun v1 =>
  rT V v1
set_option maxHeartbeats 4000000 in
set_option maxRecDepth 100000 in
theorem c_X8_outputLength (l : Launch) (D : va_G) (cy : Nat → ClassId) {N : Nat} {V : pvM} {q : pvO} (hp : q_X8_outputLength N V = some q) : pv_Met l yX8_outputLength cX8_outputLength 1 (some .int) 0 0 D cy V [.ref 39] 1 q := by
  unfold q_X8_outputLength at hp
  refine pv_ofW (by decide) (Nat.le_of_ble_eq_true rfl) (fun p e s m args below meth c ad A n0 σ C hr => ?_)
  refine pv_aload_n C 0 dX8_outputLength_0 rfl ?_
  refine pv_getI C (ci := 7) (k := 7) gwX8 rfl (Nat.le_of_ble_eq_true rfl) fl_X8_32 rfl rfl hp rfl rfl dX8_outputLength_1 (fun v1 hp => ?_)
  exact pv_iret C rfl hp hr dX8_outputLength_4
def q_X8_outputAt (N : Nat) (x1 : Int) (V : pvM) : Option pvO :=
  aR V 44 200 x1 fun v1 =>
  rT V v1
set_option maxHeartbeats 4000000 in
set_option maxRecDepth 100000 in
theorem c_X8_outputAt (l : Launch) (D : va_G) (cy : Nat → ClassId) {N : Nat} {x1 : Int32} {V : pvM} {q : pvO} (hp : q_X8_outputAt N x1.toInt V = some q) : pv_Met l yX8_outputAt cX8_outputAt 2 (some .int) 0 0 D cy V [.ref 39, .int x1] 1 q := by
  unfold q_X8_outputAt at hp
  refine pv_ofW (by decide) (Nat.le_of_ble_eq_true rfl) (fun p e s m args below meth c ad A n0 σ C hr => ?_)
  refine pv_aload_n C 0 dX8_outputAt_0 rfl ?_
  refine pv_getR C (ci := 7) (k := 6) gwX8 rfl (Nat.le_of_ble_eq_true rfl) fl_X8_25 rfl rfl rfl (j := 44) rfl rfl dX8_outputAt_1 ?_
  refine pv_iload_n C 1 dX8_outputAt_4 rfl ?_
  refine pv_bald C hp rfl rfl rfl (fun _ => rfl) dX8_outputAt_5 (fun v1 hp => ?_)
  exact pv_iret C rfl hp hr dX8_outputAt_6
def q_X8_begin_b56 (N : Nat) (s0 : Int) (s1 : Int) (V : pvM) : Option pvO :=
  aW V 40 400 s1 s0 fun V =>
  gR V 39 3 fun v1 =>
  lI (0) fun v2 =>
  aW V 41 400 v1 v2 fun V =>
  gR V 39 3 fun v3 =>
  lI (1) fun v4 =>
  lI (pv_w (v3 + v4)) fun v5 =>
  gW V 39 3 v5 fun V =>
  lI (2) fun v6 =>
  gR V 39 3 fun v7 =>
  lI (1) fun v8 =>
  lI (pv_w (v7 - v8)) fun v9 =>
  cL (q_X10_valueOf N v6 v9 V) fun v10 V =>
  rT V v10
set_option maxHeartbeats 4000000 in
set_option maxRecDepth 100000 in
theorem w_X8_begin_b56 {p : Program} {l : Launch} {e : Env} {s : State} {m : MethodId} {args : Array Value} {below : List Frame} {meth : Method} {c : Code} {D : va_G} {cy : Nat → ClassId} {A : Nat → Prop} {n0 : Nat} {ad0 : Nat → Nat} {V0 : pvM} {q : pvO} (C : pz_C p s m args meth c cX8_begin 1 yX8_begin.cls D cy A) (hr : meth.sig.returnType = (some .long)) {N : Nat} {s0 : Int32} {s1 : Int32} {σ : pzS} {V : pvM} (hp : q_X8_begin_b56 N s0.toInt s1.toInt V = some q) : pv_W p l e 1 21 s m args below meth c 1 D cy A n0 ad0 (pv_Q below D cy n0 ad0 2 V0 q A args s) V0 σ V 56 [(0, .ref 39)] [.int s0, .int s1, .ref 40] := by
  unfold q_X8_begin_b56 at hp
  refine pv_iast C hp rfl rfl rfl (fun _ => rfl) dX8_begin_56 (fun V hp => ?_)
  refine pv_aload_n C 0 dX8_begin_57 rfl ?_
  refine pv_getR C (ci := 7) (k := 1) gwX8 rfl (Nat.le_of_ble_eq_true rfl) fl_X8_15 rfl rfl rfl (j := 41) rfl rfl dX8_begin_58 ?_
  refine pv_aload_n C 0 dX8_begin_61 rfl ?_
  refine pv_getI C (ci := 7) (k := 3) gwX8 rfl (Nat.le_of_ble_eq_true rfl) fl_X8_28 rfl rfl hp rfl rfl dX8_begin_62 (fun v1 hp => ?_)
  refine pv_iconst C hp dX8_begin_65 (by decide) (fun v2 hp => ?_)
  refine pv_iast C hp rfl rfl rfl (fun _ => rfl) dX8_begin_66 (fun V hp => ?_)
  refine pv_aload_n C 0 dX8_begin_67 rfl ?_
  refine pv_dup C dX8_begin_68 rfl ?_
  refine pv_getI C (ci := 7) (k := 3) gwX8 rfl (Nat.le_of_ble_eq_true rfl) fl_X8_28 rfl rfl hp rfl rfl dX8_begin_69 (fun v3 hp => ?_)
  refine pv_iconst C hp dX8_begin_72 (by decide) (fun v4 hp => ?_)
  refine pv_iadd C hp dX8_begin_73 (fun v5 hp => ?_)
  refine pv_putI C (ci := 7) (k := 3) gwX8 rfl (Nat.le_of_ble_eq_true rfl) fl_X8_28 rfl rfl tyX8_ok nmX8 hp rfl rfl rfl (by decide +kernel) dX8_begin_74 (fun V hp => ?_)
  refine pv_iconst C hp dX8_begin_77 (by decide) (fun v6 hp => ?_)
  refine pv_aload_n C 0 dX8_begin_78 rfl ?_
  refine pv_getI C (ci := 7) (k := 3) gwX8 rfl (Nat.le_of_ble_eq_true rfl) fl_X8_28 rfl rfl hp rfl rfl dX8_begin_79 (fun v7 hp => ?_)
  refine pv_iconst C hp dX8_begin_82 (by decide) (fun v8 hp => ?_)
  refine pv_isub C hp dX8_begin_83 (fun v9 hp => ?_)
  refine pv_callSN C (As := [.int v6, .int v9]) (rest := []) (kd1 := 2) hp (fun q1 h9 => c_X10_valueOf l D cy h9) wB_yX10_valueOf (show (RX8, 37, yX10_valueOf, "FeatureDesugarer") ∈ pz_nests by decide +kernel) sm_yX10_valueOf rfl rfl (Nat.le_of_ble_eq_true rfl) ⟨(Nat.le_of_ble_eq_true rfl), (Nat.le_of_ble_eq_true rfl)⟩ dX8_begin_84 rfl rfl (fun v10 σ V hp => ?_)
  exact pv_lret C rfl hp hr dX8_begin_87
def q_X8_begin (N : Nat) (V : pvM) : Option pvO :=
  gR V 39 3 fun v11 =>
  lI (400) fun v12 =>
  if v11 ≠ v12 then
    gR V 39 3 fun v13 =>
    gR V 39 3 fun v14 =>
    if v14 ≠ 0 then
      gR V 39 3 fun v15 =>
      lI (1) fun v16 =>
      lI (pv_w (v15 - v16)) fun v17 =>
      aR V 40 400 v17 fun v18 =>
      gR V 39 3 fun v19 =>
      lI (1) fun v20 =>
      lI (pv_w (v19 - v20)) fun v21 =>
      aR V 41 400 v21 fun v22 =>
      lI (pv_w (v18 + v22)) fun v23 =>
      q_X8_begin_b56 N v23 v13 V
    else
    lI (0) fun v24 =>
    q_X8_begin_b56 N v24 v13 V
  else
  lI (4294967296) fun v25 =>
  rT V v25
set_option maxHeartbeats 4000000 in
set_option maxRecDepth 100000 in
theorem c_X8_begin (l : Launch) (D : va_G) (cy : Nat → ClassId) {N : Nat} {V : pvM} {q : pvO} (hp : q_X8_begin N V = some q) : pv_Met l yX8_begin cX8_begin 1 (some .long) 1 21 D cy V [.ref 39] 2 q := by
  unfold q_X8_begin at hp
  refine pv_ofW (by decide) (Nat.le_of_ble_eq_true rfl) (fun p e s m args below meth c ad A n0 σ C hr => ?_)
  refine pv_aload_n C 0 dX8_begin_0 rfl ?_
  refine pv_getI C (ci := 7) (k := 3) gwX8 rfl (Nat.le_of_ble_eq_true rfl) fl_X8_28 rfl rfl hp rfl rfl dX8_begin_1 (fun v11 hp => ?_)
  refine pv_sipush C hp dX8_begin_4 (by decide) (fun v12 hp => ?_)
  refine pv_icmp_ne (tgt := 14) C hp dX8_begin_7 (by decide) (fun hp => ?_) (fun hp => ?_)
  · refine pv_aload_n C 0 dX8_begin_14 rfl ?_
    refine pv_getR C (ci := 7) (k := 0) gwX8 rfl (Nat.le_of_ble_eq_true rfl) fl_X8_9 rfl rfl rfl (j := 40) rfl rfl dX8_begin_15 ?_
    refine pv_aload_n C 0 dX8_begin_18 rfl ?_
    refine pv_getI C (ci := 7) (k := 3) gwX8 rfl (Nat.le_of_ble_eq_true rfl) fl_X8_28 rfl rfl hp rfl rfl dX8_begin_19 (fun v13 hp => ?_)
    refine pv_aload_n C 0 dX8_begin_22 rfl ?_
    refine pv_getI C (ci := 7) (k := 3) gwX8 rfl (Nat.le_of_ble_eq_true rfl) fl_X8_28 rfl rfl hp rfl rfl dX8_begin_23 (fun v14 hp => ?_)
    refine pv_if_ne (tgt := 33) C hp dX8_begin_26 (by decide) (fun hp => ?_) (fun hp => ?_)
    · refine pv_aload_n C 0 dX8_begin_33 rfl ?_
      refine pv_getR C (ci := 7) (k := 0) gwX8 rfl (Nat.le_of_ble_eq_true rfl) fl_X8_9 rfl rfl rfl (j := 40) rfl rfl dX8_begin_34 ?_
      refine pv_aload_n C 0 dX8_begin_37 rfl ?_
      refine pv_getI C (ci := 7) (k := 3) gwX8 rfl (Nat.le_of_ble_eq_true rfl) fl_X8_28 rfl rfl hp rfl rfl dX8_begin_38 (fun v15 hp => ?_)
      refine pv_iconst C hp dX8_begin_41 (by decide) (fun v16 hp => ?_)
      refine pv_isub C hp dX8_begin_42 (fun v17 hp => ?_)
      refine pv_iald C hp rfl rfl rfl (fun _ => rfl) dX8_begin_43 (fun v18 hp => ?_)
      refine pv_aload_n C 0 dX8_begin_44 rfl ?_
      refine pv_getR C (ci := 7) (k := 1) gwX8 rfl (Nat.le_of_ble_eq_true rfl) fl_X8_15 rfl rfl rfl (j := 41) rfl rfl dX8_begin_45 ?_
      refine pv_aload_n C 0 dX8_begin_48 rfl ?_
      refine pv_getI C (ci := 7) (k := 3) gwX8 rfl (Nat.le_of_ble_eq_true rfl) fl_X8_28 rfl rfl hp rfl rfl dX8_begin_49 (fun v19 hp => ?_)
      refine pv_iconst C hp dX8_begin_52 (by decide) (fun v20 hp => ?_)
      refine pv_isub C hp dX8_begin_53 (fun v21 hp => ?_)
      refine pv_iald C hp rfl rfl rfl (fun _ => rfl) dX8_begin_54 (fun v22 hp => ?_)
      refine pv_iadd C hp dX8_begin_55 (fun v23 hp => ?_)
      exact w_X8_begin_b56 C hr hp
    · refine pv_iconst C hp dX8_begin_29 (by decide) (fun v24 hp => ?_)
      refine pv_goto (tgt := 56) C dX8_begin_30 (by decide) ?_
      exact w_X8_begin_b56 C hr hp
  · refine pv_ldc2 C hp dX8_begin_10 kl_X8_35 (by decide) (fun v25 hp => ?_)
    exact pv_lret C rfl hp hr dX8_begin_13
def q_X8_spellNumber_b85 (N : Nat) : Nat → Int → Int → Int → pvM → Option pvO
  | 0 => fun _ _ _ _ => none
  | n + 1 => fun x2 x5 x6 V =>
    if x6 < x5 then
      rT V 0
    else
    lI (48) fun v1 =>
    lI (10) fun v2 =>
    nZ v2 <| lI (pv_rem x2 v2) fun v3 =>
    lI (pv_wl (v1 + v3)) fun v4 =>
    lI (pv_w v4) fun v5 =>
    lI (pv_wb v5) fun v6 =>
    aW V 43 200 x6 (pv_wb v6) fun V =>
    lI (10) fun v7 =>
    nZ v7 <| lI (pv_div x2 v7) fun v8 =>
    lI (pv_w (x6 + (-1))) fun v9 =>
    q_X8_spellNumber_b85 N n v8 x5 v9 V
set_option maxHeartbeats 4000000 in
set_option maxRecDepth 100000 in
theorem w_X8_spellNumber_b85 {p : Program} {l : Launch} {e : Env} {s : State} {m : MethodId} {args : Array Value} {below : List Frame} {meth : Method} {c : Code} {D : va_G} {cy : Nat → ClassId} {A : Nat → Prop} {n0 : Nat} {ad0 : Nat → Nat} {V0 : pvM} {q : pvO} (C : pz_C p s m args meth c cX8_spellNumber 7 yX8_spellNumber.cls D cy A) (hr : meth.sig.returnType = none) {N : Nat} : ∀ (n : Nat) (x2 : Int64) (x5 : Int32) (x6 : Int32) (σ : pzS) (V : pvM), q_X8_spellNumber_b85 N n x2.toInt x5.toInt x6.toInt V = some q → pv_W p l e 0 0 s m args below meth c 7 D cy A n0 ad0 (pv_Q below D cy n0 ad0 0 V0 q A args s) V0 σ V 85 [(0, .ref 39), (2, .long x2), (5, .int x5), (6, .int x6)] [] := by
  intro n
  induction n with
  | zero =>
    intro x2 x5 x6 σ V hp
    simp only [q_X8_spellNumber_b85] at hp
    cases hp
  | succ n ih =>
    intro x2 x5 x6 σ V hp
    simp only [q_X8_spellNumber_b85] at hp
    refine pv_iload C 3 dX8_spellNumber_85 rfl ?_
    refine pv_iload C 2 dX8_spellNumber_87 rfl ?_
    refine pv_icmp_lt (tgt := 122) C hp dX8_spellNumber_89 (by decide) (fun hp => ?_) (fun hp => ?_)
    · exact pv_vret C rfl hp hr dX8_spellNumber_122
    · refine pv_aload_n C 0 dX8_spellNumber_92 rfl ?_
      refine pv_getR C (ci := 7) (k := 4) gwX8 rfl (Nat.le_of_ble_eq_true rfl) fl_X8_22 rfl rfl rfl (j := 43) rfl rfl dX8_spellNumber_93 ?_
      refine pv_iload C 3 dX8_spellNumber_96 rfl ?_
      refine pv_ldc2 C hp dX8_spellNumber_98 kl_X8_84 (by decide) (fun v1 hp => ?_)
      refine pv_lload_n C 1 dX8_spellNumber_101 rfl ?_
      refine pv_ldc2 C hp dX8_spellNumber_102 kl_X8_82 (by decide) (fun v2 hp => ?_)
      refine pv_lrem C hp dX8_spellNumber_105 (fun v3 hp => ?_)
      refine pv_ladd C hp dX8_spellNumber_106 (fun v4 hp => ?_)
      refine pv_l2i C hp dX8_spellNumber_107 (fun v5 hp => ?_)
      refine pv_i2b C hp dX8_spellNumber_108 (fun v6 hp => ?_)
      refine pv_bast C hp rfl rfl rfl (fun _ => rfl) dX8_spellNumber_109 (fun V hp => ?_)
      refine pv_lload_n C 1 dX8_spellNumber_110 rfl ?_
      refine pv_ldc2 C hp dX8_spellNumber_111 kl_X8_82 (by decide) (fun v7 hp => ?_)
      refine pv_ldiv C hp dX8_spellNumber_114 (fun v8 hp => ?_)
      refine pv_lstore_n (loc' := [(2, .long v8), (0, .ref 39), (5, .int x5), (6, .int x6)]) C dX8_spellNumber_115 (by decide) rfl ?_
      refine pv_iinc (L := fun v9 => [(6, .int v9), (2, .long v8), (0, .ref 39), (5, .int x5)]) C 3 hp dX8_spellNumber_116 (by decide) rfl (by decide) (fun _ => rfl) (fun v9 hp => ?_)
      refine pv_goto (tgt := 85) C dX8_spellNumber_119 (by decide) ?_
      refine pv_sub [2, 1, 3, 0] rfl ?_
      exact ih _ _ _ _ _ hp
def q_X8_spellNumber_b58 (N : Nat) (x2 : Int) (x4 : Int) (s0 : Int) (V : pvM) : Option pvO :=
  lI (0) fun v10 =>
  lI (45) fun v11 =>
  aW V 43 200 v10 (pv_wb v11) fun V =>
  lI (pv_w (s0 + x4)) fun v12 =>
  gW V 39 5 v12 fun V =>
  gR V 39 5 fun v13 =>
  lI (1) fun v14 =>
  lI (pv_w (v13 - v14)) fun v15 =>
  q_X8_spellNumber_b85 N N x2 s0 v15 V
set_option maxHeartbeats 4000000 in
set_option maxRecDepth 100000 in
theorem w_X8_spellNumber_b58 {p : Program} {l : Launch} {e : Env} {s : State} {m : MethodId} {args : Array Value} {below : List Frame} {meth : Method} {c : Code} {D : va_G} {cy : Nat → ClassId} {A : Nat → Prop} {n0 : Nat} {ad0 : Nat → Nat} {V0 : pvM} {q : pvO} (C : pz_C p s m args meth c cX8_spellNumber 7 yX8_spellNumber.cls D cy A) (hr : meth.sig.returnType = none) {N : Nat} {x2 : Int64} {x4 : Int32} {s0 : Int32} {σ : pzS} {V : pvM} (hp : q_X8_spellNumber_b58 N x2.toInt x4.toInt s0.toInt V = some q) : pv_W p l e 0 0 s m args below meth c 7 D cy A n0 ad0 (pv_Q below D cy n0 ad0 0 V0 q A args s) V0 σ V 58 [(0, .ref 39), (2, .long x2), (4, .int x4)] [.int s0] := by
  unfold q_X8_spellNumber_b58 at hp
  refine pv_istore (loc' := [(5, .int s0), (0, .ref 39), (2, .long x2), (4, .int x4)]) C dX8_spellNumber_58 (by decide) rfl ?_
  refine pv_aload_n C 1 dX8_spellNumber_60 rfl ?_
  refine pv_getR C (ci := 7) (k := 4) gwX8 rfl (Nat.le_of_ble_eq_true rfl) fl_X8_22 rfl rfl rfl (j := 43) rfl rfl dX8_spellNumber_61 ?_
  refine pv_iconst C hp dX8_spellNumber_64 (by decide) (fun v10 hp => ?_)
  refine pv_bipush C hp dX8_spellNumber_65 (by decide) (fun v11 hp => ?_)
  refine pv_bast C hp rfl rfl rfl (fun _ => rfl) dX8_spellNumber_67 (fun V hp => ?_)
  refine pv_aload_n C 1 dX8_spellNumber_68 rfl ?_
  refine pv_iload C 0 dX8_spellNumber_69 rfl ?_
  refine pv_iload C 3 dX8_spellNumber_71 rfl ?_
  refine pv_iadd C hp dX8_spellNumber_73 (fun v12 hp => ?_)
  refine pv_putI C (ci := 7) (k := 5) gwX8 rfl (Nat.le_of_ble_eq_true rfl) fl_X8_41 rfl rfl tyX8_ok nmX8 hp rfl rfl rfl (by decide +kernel) dX8_spellNumber_74 (fun V hp => ?_)
  refine pv_aload_n C 1 dX8_spellNumber_77 rfl ?_
  refine pv_getI C (ci := 7) (k := 5) gwX8 rfl (Nat.le_of_ble_eq_true rfl) fl_X8_41 rfl rfl hp rfl rfl dX8_spellNumber_78 (fun v13 hp => ?_)
  refine pv_iconst C hp dX8_spellNumber_81 (by decide) (fun v14 hp => ?_)
  refine pv_isub C hp dX8_spellNumber_82 (fun v15 hp => ?_)
  refine pv_istore (loc' := [(6, .int v15), (5, .int s0), (0, .ref 39), (2, .long x2), (4, .int x4)]) C dX8_spellNumber_83 (by decide) rfl ?_
  refine pv_sub [2, 3, 1, 0] rfl ?_
  exact w_X8_spellNumber_b85 C hr N _ _ _ _ _ hp
def q_X8_spellNumber_b49 (N : Nat) (x1 : Int) (x2 : Int) (x4 : Int) (V : pvM) : Option pvO :=
  if 0 ≤ x1 then
    lI (0) fun v16 =>
    q_X8_spellNumber_b58 N x2 x4 v16 V
  else
  lI (1) fun v17 =>
  q_X8_spellNumber_b58 N x2 x4 v17 V
set_option maxHeartbeats 4000000 in
set_option maxRecDepth 100000 in
theorem w_X8_spellNumber_b49 {p : Program} {l : Launch} {e : Env} {s : State} {m : MethodId} {args : Array Value} {below : List Frame} {meth : Method} {c : Code} {D : va_G} {cy : Nat → ClassId} {A : Nat → Prop} {n0 : Nat} {ad0 : Nat → Nat} {V0 : pvM} {q : pvO} (C : pz_C p s m args meth c cX8_spellNumber 7 yX8_spellNumber.cls D cy A) (hr : meth.sig.returnType = none) {N : Nat} {x1 : Int32} {x2 : Int64} {x4 : Int32} {σ : pzS} {V : pvM} (hp : q_X8_spellNumber_b49 N x1.toInt x2.toInt x4.toInt V = some q) : pv_W p l e 0 0 s m args below meth c 7 D cy A n0 ad0 (pv_Q below D cy n0 ad0 0 V0 q A args s) V0 σ V 49 [(0, .ref 39), (1, .int x1), (2, .long x2), (4, .int x4)] [] := by
  unfold q_X8_spellNumber_b49 at hp
  refine pv_iload_n C 1 dX8_spellNumber_49 rfl ?_
  refine pv_if_ge (tgt := 57) C hp dX8_spellNumber_50 (by decide) (fun hp => ?_) (fun hp => ?_)
  · refine pv_iconst C hp dX8_spellNumber_57 (by decide) (fun v16 hp => ?_)
    refine pv_sub [0, 2, 3] rfl ?_
    exact w_X8_spellNumber_b58 C hr hp
  · refine pv_iconst C hp dX8_spellNumber_53 (by decide) (fun v17 hp => ?_)
    refine pv_goto (tgt := 58) C dX8_spellNumber_54 (by decide) ?_
    refine pv_sub [0, 2, 3] rfl ?_
    exact w_X8_spellNumber_b58 C hr hp
def q_X8_spellNumber_b21 (N : Nat) : Nat → Int → Int → Int → Int → pvM → Option pvO
  | 0 => fun _ _ _ _ _ => none
  | n + 1 => fun x1 x2 x4 x5 V =>
    lI (10) fun v18 =>
    if v18 ≤ x4 then
      q_X8_spellNumber_b49 N x1 x2 x4 V
    else
    lI (pv_cmp x5 x2) fun v19 =>
    if 0 < v19 then
      q_X8_spellNumber_b49 N x1 x2 x4 V
    else
    lI (pv_w (x4 + (1))) fun v20 =>
    lI (10) fun v21 =>
    lI (pv_wl (x5 * v21)) fun v22 =>
    q_X8_spellNumber_b21 N n x1 x2 v20 v22 V
set_option maxHeartbeats 4000000 in
set_option maxRecDepth 100000 in
theorem w_X8_spellNumber_b21 {p : Program} {l : Launch} {e : Env} {s : State} {m : MethodId} {args : Array Value} {below : List Frame} {meth : Method} {c : Code} {D : va_G} {cy : Nat → ClassId} {A : Nat → Prop} {n0 : Nat} {ad0 : Nat → Nat} {V0 : pvM} {q : pvO} (C : pz_C p s m args meth c cX8_spellNumber 7 yX8_spellNumber.cls D cy A) (hr : meth.sig.returnType = none) {N : Nat} : ∀ (n : Nat) (x1 : Int32) (x2 : Int64) (x4 : Int32) (x5 : Int64) (σ : pzS) (V : pvM), q_X8_spellNumber_b21 N n x1.toInt x2.toInt x4.toInt x5.toInt V = some q → pv_W p l e 0 0 s m args below meth c 7 D cy A n0 ad0 (pv_Q below D cy n0 ad0 0 V0 q A args s) V0 σ V 21 [(0, .ref 39), (1, .int x1), (2, .long x2), (4, .int x4), (5, .long x5)] [] := by
  intro n
  induction n with
  | zero =>
    intro x1 x2 x4 x5 σ V hp
    simp only [q_X8_spellNumber_b21] at hp
    cases hp
  | succ n ih =>
    intro x1 x2 x4 x5 σ V hp
    simp only [q_X8_spellNumber_b21] at hp
    refine pv_iload C 3 dX8_spellNumber_21 rfl ?_
    refine pv_bipush C hp dX8_spellNumber_23 (by decide) (fun v18 hp => ?_)
    refine pv_icmp_ge (tgt := 49) C hp dX8_spellNumber_25 (by decide) (fun hp => ?_) (fun hp => ?_)
    · refine pv_sub [0, 1, 2, 3] rfl ?_
      exact w_X8_spellNumber_b49 C hr hp
    · refine pv_lload C 4 dX8_spellNumber_28 rfl ?_
      refine pv_lload_n C 2 dX8_spellNumber_30 rfl ?_
      refine pv_lcmp C hp dX8_spellNumber_31 (fun v19 hp => ?_)
      refine pv_if_gt (tgt := 49) C hp dX8_spellNumber_32 (by decide) (fun hp => ?_) (fun hp => ?_)
      · refine pv_sub [0, 1, 2, 3] rfl ?_
        exact w_X8_spellNumber_b49 C hr hp
      · refine pv_iinc (L := fun v20 => [(4, .int v20), (0, .ref 39), (1, .int x1), (2, .long x2), (5, .long x5)]) C 3 hp dX8_spellNumber_35 (by decide) rfl (by decide) (fun _ => rfl) (fun v20 hp => ?_)
        refine pv_lload C 4 dX8_spellNumber_38 rfl ?_
        refine pv_ldc2 C hp dX8_spellNumber_40 kl_X8_82 (by decide) (fun v21 hp => ?_)
        refine pv_lmul C hp dX8_spellNumber_43 (fun v22 hp => ?_)
        refine pv_lstore (loc' := [(5, .long v22), (4, .int v20), (0, .ref 39), (1, .int x1), (2, .long x2)]) C dX8_spellNumber_44 (by decide) rfl ?_
        refine pv_goto (tgt := 21) C dX8_spellNumber_46 (by decide) ?_
        refine pv_sub [2, 3, 4, 1, 0] rfl ?_
        exact ih _ _ _ _ _ _ hp
def q_X8_spellNumber_b12 (N : Nat) (x1 : Int) (s0 : Int) (V : pvM) : Option pvO :=
  lI (1) fun v23 =>
  lI (10) fun v24 =>
  q_X8_spellNumber_b21 N N x1 s0 v23 v24 V
set_option maxHeartbeats 4000000 in
set_option maxRecDepth 100000 in
theorem w_X8_spellNumber_b12 {p : Program} {l : Launch} {e : Env} {s : State} {m : MethodId} {args : Array Value} {below : List Frame} {meth : Method} {c : Code} {D : va_G} {cy : Nat → ClassId} {A : Nat → Prop} {n0 : Nat} {ad0 : Nat → Nat} {V0 : pvM} {q : pvO} (C : pz_C p s m args meth c cX8_spellNumber 7 yX8_spellNumber.cls D cy A) (hr : meth.sig.returnType = none) {N : Nat} {x1 : Int32} {s0 : Int64} {σ : pzS} {V : pvM} (hp : q_X8_spellNumber_b12 N x1.toInt s0.toInt V = some q) : pv_W p l e 0 0 s m args below meth c 7 D cy A n0 ad0 (pv_Q below D cy n0 ad0 0 V0 q A args s) V0 σ V 12 [(0, .ref 39), (1, .int x1)] [.long s0] := by
  unfold q_X8_spellNumber_b12 at hp
  refine pv_lstore_n (loc' := [(2, .long s0), (0, .ref 39), (1, .int x1)]) C dX8_spellNumber_12 (by decide) rfl ?_
  refine pv_iconst C hp dX8_spellNumber_13 (by decide) (fun v23 hp => ?_)
  refine pv_istore (loc' := [(4, .int v23), (2, .long s0), (0, .ref 39), (1, .int x1)]) C dX8_spellNumber_14 (by decide) rfl ?_
  refine pv_ldc2 C hp dX8_spellNumber_16 kl_X8_82 (by decide) (fun v24 hp => ?_)
  refine pv_lstore (loc' := [(5, .long v24), (4, .int v23), (2, .long s0), (0, .ref 39), (1, .int x1)]) C dX8_spellNumber_19 (by decide) rfl ?_
  refine pv_sub [3, 4, 2, 1, 0] rfl ?_
  exact w_X8_spellNumber_b21 C hr N _ _ _ _ _ _ hp
def q_X8_spellNumber (N : Nat) (x1 : Int) (V : pvM) : Option pvO :=
  if 0 ≤ x1 then
    lI (x1) fun v25 =>
    q_X8_spellNumber_b12 N x1 v25 V
  else
  lI (x1) fun v26 =>
  lI (pv_neg v26) fun v27 =>
  q_X8_spellNumber_b12 N x1 v27 V
set_option maxHeartbeats 4000000 in
set_option maxRecDepth 100000 in
theorem c_X8_spellNumber (l : Launch) (D : va_G) (cy : Nat → ClassId) {N : Nat} {x1 : Int32} {V : pvM} {q : pvO} (hp : q_X8_spellNumber N x1.toInt V = some q) : pv_Met l yX8_spellNumber cX8_spellNumber 7 none 0 0 D cy V [.ref 39, .int x1] 0 q := by
  unfold q_X8_spellNumber at hp
  refine pv_ofW (by decide) (Nat.le_of_ble_eq_true rfl) (fun p e s m args below meth c ad A n0 σ C hr => ?_)
  refine pv_iload_n C 1 dX8_spellNumber_0 rfl ?_
  refine pv_if_ge (tgt := 10) C hp dX8_spellNumber_1 (by decide) (fun hp => ?_) (fun hp => ?_)
  · refine pv_iload_n C 1 dX8_spellNumber_10 rfl ?_
    refine pv_i2l C hp dX8_spellNumber_11 (fun v25 hp => ?_)
    exact w_X8_spellNumber_b12 C hr hp
  · refine pv_iload_n C 1 dX8_spellNumber_4 rfl ?_
    refine pv_i2l C hp dX8_spellNumber_5 (fun v26 hp => ?_)
    refine pv_lneg C hp dX8_spellNumber_6 (fun v27 hp => ?_)
    refine pv_goto (tgt := 12) C dX8_spellNumber_7 (by decide) ?_
    exact w_X8_spellNumber_b12 C hr hp
def q_X8_spell (N : Nat) (x1 : Int) (V : pvM) : Option pvO :=
  cL (q_X10_kindOf N x1 V) fun v1 V =>
  cL (q_X10_contentOf N x1 V) fun v2 V =>
  lI (1) fun v3 =>
  if v1 ≠ v3 then
    lI (2) fun v4 =>
    if v1 ≠ v4 then
      lI (0) fun v5 =>
      lI (102) fun v6 =>
      aW V 43 200 v5 (pv_wb v6) fun V =>
      lI (1) fun v7 =>
      gW V 39 5 v7 fun V =>
      rT V 0
    else
    aR V 41 400 v2 fun v8 =>
    gW V 39 5 v8 fun V =>
    aR V 40 400 v2 fun v9 =>
    lI (0) fun v10 =>
    gR V 39 5 fun v11 =>
    aC V 42 (V 39 2).toNat 43 200 v9 v10 v11 fun V =>
    rT V 0
  else
  cL (q_X8_spellNumber N v2 V) fun _ V =>
  rT V 0
set_option maxHeartbeats 4000000 in
set_option maxRecDepth 100000 in
theorem c_X8_spell (l : Launch) (D : va_G) (cy : Nat → ClassId) {N : Nat} {x1 : Int64} {V : pvM} {q : pvO} (hp : q_X8_spell N x1.toInt V = some q) : pv_Met l yX8_spell cX8_spell 5 none 1 40 D cy V [.ref 39, .long x1] 0 q := by
  unfold q_X8_spell at hp
  refine pv_ofW (by decide) (Nat.le_of_ble_eq_true rfl) (fun p e s m args below meth c ad A n0 σ C hr => ?_)
  refine pv_lload_n C 1 dX8_spell_0 rfl ?_
  refine pv_callSN C (As := [.long x1]) (rest := []) (kd1 := 1) hp (fun q1 h9 => c_X10_kindOf l D cy h9) wB_yX10_kindOf (show (RX8, 71, yX10_kindOf, "FeatureDesugarer") ∈ pz_nests by decide +kernel) sm_yX10_kindOf rfl rfl (Nat.le_of_ble_eq_true rfl) ⟨(Nat.le_of_ble_eq_true rfl), (Nat.le_of_ble_eq_true rfl)⟩ dX8_spell_1 rfl rfl (fun v1 σ V hp => ?_)
  refine pv_istore_n (loc' := [(3, .int v1), (0, .ref 39), (1, .long x1)]) C dX8_spell_4 (by decide) rfl ?_
  refine pv_lload_n C 2 dX8_spell_5 rfl ?_
  refine pv_callSN C (As := [.long x1]) (rest := []) (kd1 := 1) hp (fun q1 h9 => c_X10_contentOf l D cy h9) wB_yX10_contentOf (show (RX8, 75, yX10_contentOf, "FeatureDesugarer") ∈ pz_nests by decide +kernel) sm_yX10_contentOf rfl rfl (Nat.le_of_ble_eq_true rfl) ⟨(Nat.le_of_ble_eq_true rfl), (Nat.le_of_ble_eq_true rfl)⟩ dX8_spell_6 rfl rfl (fun v2 σ V hp => ?_)
  refine pv_istore (loc' := [(4, .int v2), (3, .int v1), (0, .ref 39), (1, .long x1)]) C dX8_spell_9 (by decide) rfl ?_
  refine pv_iload_n C 1 dX8_spell_11 rfl ?_
  refine pv_iconst C hp dX8_spell_12 (by decide) (fun v3 hp => ?_)
  refine pv_icmp_ne (tgt := 25) C hp dX8_spell_13 (by decide) (fun hp => ?_) (fun hp => ?_)
  · refine pv_iload_n C 1 dX8_spell_25 rfl ?_
    refine pv_iconst C hp dX8_spell_26 (by decide) (fun v4 hp => ?_)
    refine pv_icmp_ne (tgt := 67) C hp dX8_spell_27 (by decide) (fun hp => ?_) (fun hp => ?_)
    · refine pv_aload_n C 2 dX8_spell_67 rfl ?_
      refine pv_getR C (ci := 7) (k := 4) gwX8 rfl (Nat.le_of_ble_eq_true rfl) fl_X8_22 rfl rfl rfl (j := 43) rfl rfl dX8_spell_68 ?_
      refine pv_iconst C hp dX8_spell_71 (by decide) (fun v5 hp => ?_)
      refine pv_bipush C hp dX8_spell_72 (by decide) (fun v6 hp => ?_)
      refine pv_bast C hp rfl rfl rfl (fun _ => rfl) dX8_spell_74 (fun V hp => ?_)
      refine pv_aload_n C 2 dX8_spell_75 rfl ?_
      refine pv_iconst C hp dX8_spell_76 (by decide) (fun v7 hp => ?_)
      refine pv_putI C (ci := 7) (k := 5) gwX8 rfl (Nat.le_of_ble_eq_true rfl) fl_X8_41 rfl rfl tyX8_ok nmX8 hp rfl rfl rfl (by decide +kernel) dX8_spell_77 (fun V hp => ?_)
      exact pv_vret C rfl hp hr dX8_spell_80
    · refine pv_aload_n C 2 dX8_spell_30 rfl ?_
      refine pv_aload_n C 2 dX8_spell_31 rfl ?_
      refine pv_getR C (ci := 7) (k := 1) gwX8 rfl (Nat.le_of_ble_eq_true rfl) fl_X8_15 rfl rfl rfl (j := 41) rfl rfl dX8_spell_32 ?_
      refine pv_iload C 0 dX8_spell_35 rfl ?_
      refine pv_iald C hp rfl rfl rfl (fun _ => rfl) dX8_spell_37 (fun v8 hp => ?_)
      refine pv_putI C (ci := 7) (k := 5) gwX8 rfl (Nat.le_of_ble_eq_true rfl) fl_X8_41 rfl rfl tyX8_ok nmX8 hp rfl rfl rfl (by decide +kernel) dX8_spell_38 (fun V hp => ?_)
      refine pv_aload_n C 2 dX8_spell_41 rfl ?_
      refine pv_getK C (ci := 7) gwX8 rfl (Nat.le_of_ble_eq_true rfl) fl_X8_18 rfl rfl dX8_spell_42 ?_
      refine pv_aload_n C 2 dX8_spell_45 rfl ?_
      refine pv_getR C (ci := 7) (k := 0) gwX8 rfl (Nat.le_of_ble_eq_true rfl) fl_X8_9 rfl rfl rfl (j := 40) rfl rfl dX8_spell_46 ?_
      refine pv_iload C 0 dX8_spell_49 rfl ?_
      refine pv_iald C hp rfl rfl rfl (fun _ => rfl) dX8_spell_51 (fun v9 hp => ?_)
      refine pv_aload_n C 2 dX8_spell_52 rfl ?_
      refine pv_getR C (ci := 7) (k := 4) gwX8 rfl (Nat.le_of_ble_eq_true rfl) fl_X8_22 rfl rfl rfl (j := 43) rfl rfl dX8_spell_53 ?_
      refine pv_iconst C hp dX8_spell_56 (by decide) (fun v10 hp => ?_)
      refine pv_aload_n C 2 dX8_spell_57 rfl ?_
      refine pv_getI C (ci := 7) (k := 5) gwX8 rfl (Nat.le_of_ble_eq_true rfl) fl_X8_41 rfl rfl hp rfl rfl dX8_spell_58 (fun v11 hp => ?_)
      refine pv_copyKB C hp ml_X8_52 (Nat.le_of_ble_eq_true rfl) (Nat.le_of_ble_eq_true rfl) dX8_spell_61 (fun V hp => ?_)
      refine pv_goto (tgt := 80) C dX8_spell_64 (by decide) ?_
      exact pv_vret C rfl hp hr dX8_spell_80
  · refine pv_aload_n C 2 dX8_spell_16 rfl ?_
    refine pv_iload C 0 dX8_spell_17 rfl ?_
    refine pv_callV C (As := [.int v2]) (rest := []) (b := 39) (kd1 := 0) hp (fun q1 h9 => c_X8_spellNumber l D cy h9) wB_yX8_spellNumber ml_X8_78 im_yX8_spellNumber se_yX8_spellNumber (ci := 7) rfl rfl rfl rfl rfl (Nat.le_of_ble_eq_true rfl) ⟨(Nat.le_of_ble_eq_true rfl), (Nat.le_of_ble_eq_true rfl)⟩ dX8_spell_19 rfl rfl (fun _ σ V hp => ?_)
    refine pv_goto (tgt := 80) C dX8_spell_22 (by decide) ?_
    exact pv_vret C rfl hp hr dX8_spell_80
def q_X8_sayValue (N : Nat) (x1 : Int) (V : pvM) : Option pvO :=
  cL (q_X8_spell N x1 V) fun _ V =>
  gR V 39 7 fun v1 =>
  gR V 39 5 fun v2 =>
  lI (pv_w (v1 + v2)) fun v3 =>
  lI (200) fun v4 =>
  if v3 ≤ v4 then
    lI (0) fun v5 =>
    gR V 39 7 fun v6 =>
    gR V 39 5 fun v7 =>
    aC V 43 200 44 200 v5 v6 v7 fun V =>
    gR V 39 7 fun v8 =>
    gR V 39 5 fun v9 =>
    lI (pv_w (v8 + v9)) fun v10 =>
    gW V 39 7 v10 fun V =>
    lI (1) fun v11 =>
    bT v11 (rT V v11)
  else
  lI (0) fun v12 =>
  bT v12 (rT V v12)
set_option maxHeartbeats 4000000 in
set_option maxRecDepth 100000 in
theorem c_X8_sayValue (l : Launch) (D : va_G) (cy : Nat → ClassId) {N : Nat} {x1 : Int64} {V : pvM} {q : pvO} (hp : q_X8_sayValue N x1.toInt V = some q) : pv_Met l yX8_sayValue cX8_sayValue 3 (some .boolean) 2 64 D cy V [.ref 39, .long x1] 1 q := by
  unfold q_X8_sayValue at hp
  refine pv_ofW (by decide) (Nat.le_of_ble_eq_true rfl) (fun p e s m args below meth c ad A n0 σ C hr => ?_)
  refine pv_aload_n C 0 dX8_sayValue_0 rfl ?_
  refine pv_lload_n C 1 dX8_sayValue_1 rfl ?_
  refine pv_callV C (As := [.long x1]) (rest := []) (b := 39) (kd1 := 0) hp (fun q1 h9 => c_X8_spell l D cy h9) wB_yX8_spell ml_X8_48 im_yX8_spell se_yX8_spell (ci := 7) rfl rfl rfl rfl rfl (Nat.le_of_ble_eq_true rfl) ⟨(Nat.le_of_ble_eq_true rfl), (Nat.le_of_ble_eq_true rfl)⟩ dX8_sayValue_2 rfl rfl (fun _ σ V hp => ?_)
  refine pv_aload_n C 0 dX8_sayValue_5 rfl ?_
  refine pv_getI C (ci := 7) (k := 7) gwX8 rfl (Nat.le_of_ble_eq_true rfl) fl_X8_32 rfl rfl hp rfl rfl dX8_sayValue_6 (fun v1 hp => ?_)
  refine pv_aload_n C 0 dX8_sayValue_9 rfl ?_
  refine pv_getI C (ci := 7) (k := 5) gwX8 rfl (Nat.le_of_ble_eq_true rfl) fl_X8_41 rfl rfl hp rfl rfl dX8_sayValue_10 (fun v2 hp => ?_)
  refine pv_iadd C hp dX8_sayValue_13 (fun v3 hp => ?_)
  refine pv_sipush C hp dX8_sayValue_14 (by decide) (fun v4 hp => ?_)
  refine pv_icmp_le (tgt := 22) C hp dX8_sayValue_17 (by decide) (fun hp => ?_) (fun hp => ?_)
  · refine pv_aload_n C 0 dX8_sayValue_22 rfl ?_
    refine pv_getR C (ci := 7) (k := 4) gwX8 rfl (Nat.le_of_ble_eq_true rfl) fl_X8_22 rfl rfl rfl (j := 43) rfl rfl dX8_sayValue_23 ?_
    refine pv_iconst C hp dX8_sayValue_26 (by decide) (fun v5 hp => ?_)
    refine pv_aload_n C 0 dX8_sayValue_27 rfl ?_
    refine pv_getR C (ci := 7) (k := 6) gwX8 rfl (Nat.le_of_ble_eq_true rfl) fl_X8_25 rfl rfl rfl (j := 44) rfl rfl dX8_sayValue_28 ?_
    refine pv_aload_n C 0 dX8_sayValue_31 rfl ?_
    refine pv_getI C (ci := 7) (k := 7) gwX8 rfl (Nat.le_of_ble_eq_true rfl) fl_X8_32 rfl rfl hp rfl rfl dX8_sayValue_32 (fun v6 hp => ?_)
    refine pv_aload_n C 0 dX8_sayValue_35 rfl ?_
    refine pv_getI C (ci := 7) (k := 5) gwX8 rfl (Nat.le_of_ble_eq_true rfl) fl_X8_41 rfl rfl hp rfl rfl dX8_sayValue_36 (fun v7 hp => ?_)
    refine pv_copyB C hp (Or.inl rfl) (Or.inr rfl) rfl rfl ml_X8_52 (Nat.le_of_ble_eq_true rfl) (Nat.le_of_ble_eq_true rfl) dX8_sayValue_39 (fun V hp => ?_)
    refine pv_aload_n C 0 dX8_sayValue_42 rfl ?_
    refine pv_dup C dX8_sayValue_43 rfl ?_
    refine pv_getI C (ci := 7) (k := 7) gwX8 rfl (Nat.le_of_ble_eq_true rfl) fl_X8_32 rfl rfl hp rfl rfl dX8_sayValue_44 (fun v8 hp => ?_)
    refine pv_aload_n C 0 dX8_sayValue_47 rfl ?_
    refine pv_getI C (ci := 7) (k := 5) gwX8 rfl (Nat.le_of_ble_eq_true rfl) fl_X8_41 rfl rfl hp rfl rfl dX8_sayValue_48 (fun v9 hp => ?_)
    refine pv_iadd C hp dX8_sayValue_51 (fun v10 hp => ?_)
    refine pv_putI C (ci := 7) (k := 7) gwX8 rfl (Nat.le_of_ble_eq_true rfl) fl_X8_32 rfl rfl tyX8_ok nmX8 hp rfl rfl rfl (by decide +kernel) dX8_sayValue_52 (fun V hp => ?_)
    refine pv_iconst C hp dX8_sayValue_55 (by decide) (fun v11 hp => ?_)
    exact pv_zret C rfl hp hr dX8_sayValue_56
  · refine pv_iconst C hp dX8_sayValue_20 (by decide) (fun v12 hp => ?_)
    exact pv_zret C rfl hp hr dX8_sayValue_21
def q_X8_appendSpelled_b70 (N : Nat) (x1 : Int) (x2 : Int) (V : pvM) : Option pvO :=
  lI (0) fun v1 =>
  gR V 39 5 fun v2 =>
  aC V 43 200 42 (V 39 2).toNat v1 x2 v2 fun V =>
  aR V 41 400 x1 fun v3 =>
  gR V 39 5 fun v4 =>
  lI (pv_w (v3 + v4)) fun v5 =>
  aW V 41 400 x1 v5 fun V =>
  lI (1) fun v6 =>
  bT v6 (rT V v6)
set_option maxHeartbeats 4000000 in
set_option maxRecDepth 100000 in
theorem w_X8_appendSpelled_b70 {p : Program} {l : Launch} {e : Env} {s : State} {m : MethodId} {args : Array Value} {below : List Frame} {meth : Method} {c : Code} {D : va_G} {cy : Nat → ClassId} {A : Nat → Prop} {n0 : Nat} {ad0 : Nat → Nat} {V0 : pvM} {q : pvO} (C : pz_C p s m args meth c cX8_appendSpelled 3 yX8_appendSpelled.cls D cy A) (hr : meth.sig.returnType = (some .boolean)) {N : Nat} {x1 : Int32} {x2 : Int32} {σ : pzS} {V : pvM} (hp : q_X8_appendSpelled_b70 N x1.toInt x2.toInt V = some q) : pv_W p l e 2 62 s m args below meth c 3 D cy A n0 ad0 (pv_Q below D cy n0 ad0 1 V0 q A args s) V0 σ V 70 [(0, .ref 39), (1, .int x1), (2, .int x2)] [] := by
  unfold q_X8_appendSpelled_b70 at hp
  refine pv_aload_n C 0 dX8_appendSpelled_70 rfl ?_
  refine pv_getR C (ci := 7) (k := 4) gwX8 rfl (Nat.le_of_ble_eq_true rfl) fl_X8_22 rfl rfl rfl (j := 43) rfl rfl dX8_appendSpelled_71 ?_
  refine pv_iconst C hp dX8_appendSpelled_74 (by decide) (fun v1 hp => ?_)
  refine pv_aload_n C 0 dX8_appendSpelled_75 rfl ?_
  refine pv_getK C (ci := 7) gwX8 rfl (Nat.le_of_ble_eq_true rfl) fl_X8_18 rfl rfl dX8_appendSpelled_76 ?_
  refine pv_iload_n C 2 dX8_appendSpelled_79 rfl ?_
  refine pv_aload_n C 0 dX8_appendSpelled_80 rfl ?_
  refine pv_getI C (ci := 7) (k := 5) gwX8 rfl (Nat.le_of_ble_eq_true rfl) fl_X8_41 rfl rfl hp rfl rfl dX8_appendSpelled_81 (fun v2 hp => ?_)
  refine pv_copyBK C hp ml_X8_52 (Nat.le_of_ble_eq_true rfl) (Nat.le_of_ble_eq_true rfl) dX8_appendSpelled_84 (fun V hp => ?_)
  refine pv_aload_n C 0 dX8_appendSpelled_87 rfl ?_
  refine pv_getR C (ci := 7) (k := 1) gwX8 rfl (Nat.le_of_ble_eq_true rfl) fl_X8_15 rfl rfl rfl (j := 41) rfl rfl dX8_appendSpelled_88 ?_
  refine pv_iload_n C 1 dX8_appendSpelled_91 rfl ?_
  refine pv_dup2 C dX8_appendSpelled_92 rfl rfl ?_
  refine pv_iald C hp rfl rfl rfl (fun _ => rfl) dX8_appendSpelled_93 (fun v3 hp => ?_)
  refine pv_aload_n C 0 dX8_appendSpelled_94 rfl ?_
  refine pv_getI C (ci := 7) (k := 5) gwX8 rfl (Nat.le_of_ble_eq_true rfl) fl_X8_41 rfl rfl hp rfl rfl dX8_appendSpelled_95 (fun v4 hp => ?_)
  refine pv_iadd C hp dX8_appendSpelled_98 (fun v5 hp => ?_)
  refine pv_iast C hp rfl rfl rfl (fun _ => rfl) dX8_appendSpelled_99 (fun V hp => ?_)
  refine pv_iconst C hp dX8_appendSpelled_100 (by decide) (fun v6 hp => ?_)
  exact pv_zret C rfl hp hr dX8_appendSpelled_101
def q_X8_appendSpelled (N : Nat) (x1 : Int) (V : pvM) : Option pvO :=
  aR V 41 400 x1 fun v7 =>
  gR V 39 5 fun v8 =>
  lI (pv_w (v7 + v8)) fun v9 =>
  lI (200) fun v10 =>
  if v9 ≤ v10 then
    aR V 40 400 x1 fun v11 =>
    aR V 41 400 x1 fun v12 =>
    lI (pv_w (v11 + v12)) fun v13 =>
    gR V 39 5 fun v14 =>
    lI (pv_w (v13 + v14)) fun v15 =>
    gR V 39 2 fun v16 =>
    if v15 ≤ v16 then
      q_X8_appendSpelled_b70 N x1 v13 V
    else
    gK V fun V =>
    q_X8_appendSpelled_b70 N x1 v13 V
  else
  lI (0) fun v17 =>
  bT v17 (rT V v17)
set_option maxHeartbeats 4000000 in
set_option maxRecDepth 100000 in
theorem c_X8_appendSpelled (l : Launch) (D : va_G) (cy : Nat → ClassId) {N : Nat} {x1 : Int32} {V : pvM} {q : pvO} (hp : q_X8_appendSpelled N x1.toInt V = some q) : pv_Met l yX8_appendSpelled cX8_appendSpelled 3 (some .boolean) 2 62 D cy V [.ref 39, .int x1] 1 q := by
  unfold q_X8_appendSpelled at hp
  refine pv_ofW (by decide) (Nat.le_of_ble_eq_true rfl) (fun p e s m args below meth c ad A n0 σ C hr => ?_)
  refine pv_aload_n C 0 dX8_appendSpelled_0 rfl ?_
  refine pv_getR C (ci := 7) (k := 1) gwX8 rfl (Nat.le_of_ble_eq_true rfl) fl_X8_15 rfl rfl rfl (j := 41) rfl rfl dX8_appendSpelled_1 ?_
  refine pv_iload_n C 1 dX8_appendSpelled_4 rfl ?_
  refine pv_iald C hp rfl rfl rfl (fun _ => rfl) dX8_appendSpelled_5 (fun v7 hp => ?_)
  refine pv_aload_n C 0 dX8_appendSpelled_6 rfl ?_
  refine pv_getI C (ci := 7) (k := 5) gwX8 rfl (Nat.le_of_ble_eq_true rfl) fl_X8_41 rfl rfl hp rfl rfl dX8_appendSpelled_7 (fun v8 hp => ?_)
  refine pv_iadd C hp dX8_appendSpelled_10 (fun v9 hp => ?_)
  refine pv_sipush C hp dX8_appendSpelled_11 (by decide) (fun v10 hp => ?_)
  refine pv_icmp_le (tgt := 19) C hp dX8_appendSpelled_14 (by decide) (fun hp => ?_) (fun hp => ?_)
  · refine pv_aload_n C 0 dX8_appendSpelled_19 rfl ?_
    refine pv_getR C (ci := 7) (k := 0) gwX8 rfl (Nat.le_of_ble_eq_true rfl) fl_X8_9 rfl rfl rfl (j := 40) rfl rfl dX8_appendSpelled_20 ?_
    refine pv_iload_n C 1 dX8_appendSpelled_23 rfl ?_
    refine pv_iald C hp rfl rfl rfl (fun _ => rfl) dX8_appendSpelled_24 (fun v11 hp => ?_)
    refine pv_aload_n C 0 dX8_appendSpelled_25 rfl ?_
    refine pv_getR C (ci := 7) (k := 1) gwX8 rfl (Nat.le_of_ble_eq_true rfl) fl_X8_15 rfl rfl rfl (j := 41) rfl rfl dX8_appendSpelled_26 ?_
    refine pv_iload_n C 1 dX8_appendSpelled_29 rfl ?_
    refine pv_iald C hp rfl rfl rfl (fun _ => rfl) dX8_appendSpelled_30 (fun v12 hp => ?_)
    refine pv_iadd C hp dX8_appendSpelled_31 (fun v13 hp => ?_)
    refine pv_istore_n (loc' := [(2, .int v13), (0, .ref 39), (1, .int x1)]) C dX8_appendSpelled_32 (by decide) rfl ?_
    refine pv_iload_n C 0 dX8_appendSpelled_33 rfl ?_
    refine pv_aload_n C 1 dX8_appendSpelled_34 rfl ?_
    refine pv_getI C (ci := 7) (k := 5) gwX8 rfl (Nat.le_of_ble_eq_true rfl) fl_X8_41 rfl rfl hp rfl rfl dX8_appendSpelled_35 (fun v14 hp => ?_)
    refine pv_iadd C hp dX8_appendSpelled_38 (fun v15 hp => ?_)
    refine pv_aload_n C 1 dX8_appendSpelled_39 rfl ?_
    refine pv_getK C (ci := 7) gwX8 rfl (Nat.le_of_ble_eq_true rfl) fl_X8_18 rfl rfl dX8_appendSpelled_40 ?_
    refine pv_alenK C hp dX8_appendSpelled_43 (fun v16 hp => ?_)
    refine pv_icmp_le (tgt := 70) C hp dX8_appendSpelled_44 (by decide) (fun hp => ?_) (fun hp => ?_)
    · refine pv_sub [1, 2, 0] rfl ?_
      exact w_X8_appendSpelled_b70 C hr hp
    · refine pv_gK C 1 rfl hp ⟨(Nat.le_of_ble_eq_true rfl), (Nat.le_of_ble_eq_true rfl)⟩ rfl (fun σ V hp => ?_)
      refine pv_sub [1, 2, 0] rfl ?_
      exact w_X8_appendSpelled_b70 C hr hp
  · refine pv_iconst C hp dX8_appendSpelled_17 (by decide) (fun v17 hp => ?_)
    exact pv_zret C rfl hp hr dX8_appendSpelled_18
def q_X8_appendLetter (N : Nat) (x1 : Int) (x2 : Int) (V : pvM) : Option pvO :=
  lI (0) fun v1 =>
  lI (97) fun v2 =>
  lI (pv_w (v2 + x2)) fun v3 =>
  lI (pv_wb v3) fun v4 =>
  aW V 43 200 v1 (pv_wb v4) fun V =>
  lI (1) fun v5 =>
  gW V 39 5 v5 fun V =>
  cL (q_X8_appendSpelled N x1 V) fun v6 V =>
  bT v6 (rT V v6)
set_option maxHeartbeats 4000000 in
set_option maxRecDepth 100000 in
theorem c_X8_appendLetter (l : Launch) (D : va_G) (cy : Nat → ClassId) {N : Nat} {x1 : Int32} {x2 : Int32} {V : pvM} {q : pvO} (hp : q_X8_appendLetter N x1.toInt x2.toInt V = some q) : pv_Met l yX8_appendLetter cX8_appendLetter 3 (some .boolean) 3 84 D cy V [.ref 39, .int x1, .int x2] 1 q := by
  unfold q_X8_appendLetter at hp
  refine pv_ofW (by decide) (Nat.le_of_ble_eq_true rfl) (fun p e s m args below meth c ad A n0 σ C hr => ?_)
  refine pv_aload_n C 0 dX8_appendLetter_0 rfl ?_
  refine pv_getR C (ci := 7) (k := 4) gwX8 rfl (Nat.le_of_ble_eq_true rfl) fl_X8_22 rfl rfl rfl (j := 43) rfl rfl dX8_appendLetter_1 ?_
  refine pv_iconst C hp dX8_appendLetter_4 (by decide) (fun v1 hp => ?_)
  refine pv_bipush C hp dX8_appendLetter_5 (by decide) (fun v2 hp => ?_)
  refine pv_iload_n C 2 dX8_appendLetter_7 rfl ?_
  refine pv_iadd C hp dX8_appendLetter_8 (fun v3 hp => ?_)
  refine pv_i2b C hp dX8_appendLetter_9 (fun v4 hp => ?_)
  refine pv_bast C hp rfl rfl rfl (fun _ => rfl) dX8_appendLetter_10 (fun V hp => ?_)
  refine pv_aload_n C 0 dX8_appendLetter_11 rfl ?_
  refine pv_iconst C hp dX8_appendLetter_12 (by decide) (fun v5 hp => ?_)
  refine pv_putI C (ci := 7) (k := 5) gwX8 rfl (Nat.le_of_ble_eq_true rfl) fl_X8_41 rfl rfl tyX8_ok nmX8 hp rfl rfl rfl (by decide +kernel) dX8_appendLetter_13 (fun V hp => ?_)
  refine pv_aload_n C 0 dX8_appendLetter_16 rfl ?_
  refine pv_iload_n C 1 dX8_appendLetter_17 rfl ?_
  refine pv_callV C (As := [.int x1]) (rest := []) (b := 39) (kd1 := 1) hp (fun q1 h9 => c_X8_appendSpelled l D cy h9) wB_yX8_appendSpelled ml_X8_44 im_yX8_appendSpelled se_yX8_appendSpelled (ci := 7) rfl rfl rfl rfl rfl (Nat.le_of_ble_eq_true rfl) ⟨(Nat.le_of_ble_eq_true rfl), (Nat.le_of_ble_eq_true rfl)⟩ dX8_appendLetter_18 rfl rfl (fun v6 σ V hp => ?_)
  exact pv_zret C rfl hp hr dX8_appendLetter_21
def q_X8_appendValue (N : Nat) (x1 : Int) (x2 : Int) (V : pvM) : Option pvO :=
  cL (q_X8_spell N x2 V) fun _ V =>
  cL (q_X8_appendSpelled N x1 V) fun v1 V =>
  bT v1 (rT V v1)
set_option maxHeartbeats 4000000 in
set_option maxRecDepth 100000 in
theorem c_X8_appendValue (l : Launch) (D : va_G) (cy : Nat → ClassId) {N : Nat} {x1 : Int32} {x2 : Int64} {V : pvM} {q : pvO} (hp : q_X8_appendValue N x1.toInt x2.toInt V = some q) : pv_Met l yX8_appendValue cX8_appendValue 4 (some .boolean) 3 84 D cy V [.ref 39, .int x1, .long x2] 1 q := by
  unfold q_X8_appendValue at hp
  refine pv_ofW (by decide) (Nat.le_of_ble_eq_true rfl) (fun p e s m args below meth c ad A n0 σ C hr => ?_)
  refine pv_aload_n C 0 dX8_appendValue_0 rfl ?_
  refine pv_lload_n C 2 dX8_appendValue_1 rfl ?_
  refine pv_callV C (As := [.long x2]) (rest := []) (b := 39) (kd1 := 0) hp (fun q1 h9 => c_X8_spell l D cy h9) wB_yX8_spell ml_X8_48 im_yX8_spell se_yX8_spell (ci := 7) rfl rfl rfl rfl rfl (Nat.le_of_ble_eq_true rfl) ⟨(Nat.le_of_ble_eq_true rfl), (Nat.le_of_ble_eq_true rfl)⟩ dX8_appendValue_2 rfl rfl (fun _ σ V hp => ?_)
  refine pv_aload_n C 0 dX8_appendValue_5 rfl ?_
  refine pv_iload_n C 1 dX8_appendValue_6 rfl ?_
  refine pv_callV C (As := [.int x1]) (rest := []) (b := 39) (kd1 := 1) hp (fun q1 h9 => c_X8_appendSpelled l D cy h9) wB_yX8_appendSpelled ml_X8_44 im_yX8_appendSpelled se_yX8_appendSpelled (ci := 7) rfl rfl rfl rfl rfl (Nat.le_of_ble_eq_true rfl) ⟨(Nat.le_of_ble_eq_true rfl), (Nat.le_of_ble_eq_true rfl)⟩ dX8_appendValue_7 rfl rfl (fun v1 σ V hp => ?_)
  exact pv_zret C rfl hp hr dX8_appendValue_10
