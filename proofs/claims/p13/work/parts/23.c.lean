def q_X2_clear (N : Nat) (V : pvM) : Option pvO :=
  lI (0) fun v1 =>
  gW V 35 3 v1 fun V =>
  rT V 0
set_option maxHeartbeats 4000000 in
set_option maxRecDepth 100000 in
theorem c_X2_clear (l : Launch) (D : va_G) (cy : Nat → ClassId) {N : Nat} {V : pvM} {q : pvO} (hp : q_X2_clear N V = some q) : pv_Met l yX2_clear cX2_clear 1 none 0 0 D cy V [.ref 35] 0 q := by
  unfold q_X2_clear at hp
  refine pv_ofW (by decide) (Nat.le_of_ble_eq_true rfl) (fun p e s m args below meth c ad A n0 σ C hr => ?_)
  refine pv_aload_n C 0 dX2_clear_0 rfl ?_
  refine pv_iconst C hp dX2_clear_1 (by decide) (fun v1 hp => ?_)
  refine pv_putI C (ci := 1) (k := 3) gwX2 rfl (Nat.le_of_ble_eq_true rfl) fl_X2_22 rfl rfl tyX2_ok nmX2 hp rfl rfl rfl (by decide +kernel) dX2_clear_2 (fun V hp => ?_)
  exact pv_vret C rfl hp hr dX2_clear_5
def q_X2_add_b46 (N : Nat) : Nat → Int → Int → Int → pvM → Option pvO
  | 0 => fun _ _ _ _ => none
  | n + 1 => fun x2 x3 x4 V =>
    if x2 ≤ x4 then
      lI (3) fun v1 =>
      cL (q_X10_valueOf N v1 x3 V) fun v2 V =>
      rT V v2
    else
    lI (3) fun v3 =>
    lI (pv_w (x3 * v3)) fun v4 =>
    lI (pv_w (v4 + x4)) fun v5 =>
    lI (4294967296) fun v6 =>
    aW V 38 1200 v5 v6 fun V =>
    lI (pv_w (x4 + (1))) fun v7 =>
    q_X2_add_b46 N n x2 x3 v7 V
set_option maxHeartbeats 4000000 in
set_option maxRecDepth 100000 in
theorem w_X2_add_b46 {p : Program} {l : Launch} {e : Env} {s : State} {m : MethodId} {args : Array Value} {below : List Frame} {meth : Method} {c : Code} {D : va_G} {cy : Nat → ClassId} {A : Nat → Prop} {n0 : Nat} {ad0 : Nat → Nat} {V0 : pvM} {q : pvO} (C : pz_C p s m args meth c cX2_add 5 yX2_add.cls D cy A) (hr : meth.sig.returnType = (some .long)) {N : Nat} : ∀ (n : Nat) (x2 : Int32) (x3 : Int32) (x4 : Int32) (σ : pzS) (V : pvM), q_X2_add_b46 N n x2.toInt x3.toInt x4.toInt V = some q → pv_W p l e 1 21 s m args below meth c 5 D cy A n0 ad0 (pv_Q below D cy n0 ad0 2 V0 q A args s) V0 σ V 46 [(0, .ref 35), (2, .int x2), (3, .int x3), (4, .int x4)] [] := by
  intro n
  induction n with
  | zero =>
    intro x2 x3 x4 σ V hp
    simp only [q_X2_add_b46] at hp
    cases hp
  | succ n ih =>
    intro x2 x3 x4 σ V hp
    simp only [q_X2_add_b46] at hp
    refine pv_iload C 3 dX2_add_46 rfl ?_
    refine pv_iload_n C 1 dX2_add_48 rfl ?_
    refine pv_icmp_ge (tgt := 72) C hp dX2_add_49 (by decide) (fun hp => ?_) (fun hp => ?_)
    · refine pv_iconst C hp dX2_add_72 (by decide) (fun v1 hp => ?_)
      refine pv_iload_n C 2 dX2_add_73 rfl ?_
      refine pv_callSN C (As := [.int v1, .int x3]) (rest := []) (kd1 := 2) hp (fun q1 h9 => c_X10_valueOf l D cy h9) wB_yX10_valueOf (show (RX2, 28, yX10_valueOf, "FeatureDesugarer") ∈ pz_nests by decide +kernel) sm_yX10_valueOf rfl rfl (Nat.le_of_ble_eq_true rfl) ⟨(Nat.le_of_ble_eq_true rfl), (Nat.le_of_ble_eq_true rfl)⟩ dX2_add_74 rfl rfl (fun v2 σ V hp => ?_)
      exact pv_lret C rfl hp hr dX2_add_77
    · refine pv_aload_n C 0 dX2_add_52 rfl ?_
      refine pv_getR C (ci := 1) (k := 2) gwX2 rfl (Nat.le_of_ble_eq_true rfl) fl_X2_18 rfl rfl rfl (j := 38) rfl rfl dX2_add_53 ?_
      refine pv_iload_n C 2 dX2_add_56 rfl ?_
      refine pv_iconst C hp dX2_add_57 (by decide) (fun v3 hp => ?_)
      refine pv_imul C hp dX2_add_58 (fun v4 hp => ?_)
      refine pv_iload C 3 dX2_add_59 rfl ?_
      refine pv_iadd C hp dX2_add_61 (fun v5 hp => ?_)
      refine pv_ldc2 C hp dX2_add_62 kl_X2_26 (by decide) (fun v6 hp => ?_)
      refine pv_last C hp rfl rfl rfl (fun _ => rfl) dX2_add_65 (fun V hp => ?_)
      refine pv_iinc (L := fun v7 => [(4, .int v7), (0, .ref 35), (2, .int x2), (3, .int x3)]) C 3 hp dX2_add_66 (by decide) rfl (by decide) (fun _ => rfl) (fun v7 hp => ?_)
      refine pv_goto (tgt := 46) C dX2_add_69 (by decide) ?_
      refine pv_sub [1, 2, 3, 0] rfl ?_
      exact ih _ _ _ _ _ hp
def q_X2_add (N : Nat) (x1 : Int) (x2 : Int) (V : pvM) : Option pvO :=
  gR V 35 3 fun v8 =>
  lI (400) fun v9 =>
  if v8 ≠ v9 then
    gR V 35 3 fun v10 =>
    gR V 35 3 fun v11 =>
    lI (1) fun v12 =>
    lI (pv_w (v11 + v12)) fun v13 =>
    gW V 35 3 v13 fun V =>
    aW V 36 400 v10 x1 fun V =>
    aW V 37 400 v10 x2 fun V =>
    lI (0) fun v14 =>
    q_X2_add_b46 N N x2 v10 v14 V
  else
  lI (4294967296) fun v15 =>
  rT V v15
set_option maxHeartbeats 4000000 in
set_option maxRecDepth 100000 in
theorem c_X2_add (l : Launch) (D : va_G) (cy : Nat → ClassId) {N : Nat} {x1 : Int32} {x2 : Int32} {V : pvM} {q : pvO} (hp : q_X2_add N x1.toInt x2.toInt V = some q) : pv_Met l yX2_add cX2_add 5 (some .long) 1 21 D cy V [.ref 35, .int x1, .int x2] 2 q := by
  unfold q_X2_add at hp
  refine pv_ofW (by decide) (Nat.le_of_ble_eq_true rfl) (fun p e s m args below meth c ad A n0 σ C hr => ?_)
  refine pv_aload_n C 0 dX2_add_0 rfl ?_
  refine pv_getI C (ci := 1) (k := 3) gwX2 rfl (Nat.le_of_ble_eq_true rfl) fl_X2_22 rfl rfl hp rfl rfl dX2_add_1 (fun v8 hp => ?_)
  refine pv_sipush C hp dX2_add_4 (by decide) (fun v9 hp => ?_)
  refine pv_icmp_ne (tgt := 14) C hp dX2_add_7 (by decide) (fun hp => ?_) (fun hp => ?_)
  · refine pv_aload_n C 0 dX2_add_14 rfl ?_
    refine pv_getI C (ci := 1) (k := 3) gwX2 rfl (Nat.le_of_ble_eq_true rfl) fl_X2_22 rfl rfl hp rfl rfl dX2_add_15 (fun v10 hp => ?_)
    refine pv_istore_n (loc' := [(3, .int v10), (0, .ref 35), (1, .int x1), (2, .int x2)]) C dX2_add_18 (by decide) rfl ?_
    refine pv_aload_n C 1 dX2_add_19 rfl ?_
    refine pv_dup C dX2_add_20 rfl ?_
    refine pv_getI C (ci := 1) (k := 3) gwX2 rfl (Nat.le_of_ble_eq_true rfl) fl_X2_22 rfl rfl hp rfl rfl dX2_add_21 (fun v11 hp => ?_)
    refine pv_iconst C hp dX2_add_24 (by decide) (fun v12 hp => ?_)
    refine pv_iadd C hp dX2_add_25 (fun v13 hp => ?_)
    refine pv_putI C (ci := 1) (k := 3) gwX2 rfl (Nat.le_of_ble_eq_true rfl) fl_X2_22 rfl rfl tyX2_ok nmX2 hp rfl rfl rfl (by decide +kernel) dX2_add_26 (fun V hp => ?_)
    refine pv_aload_n C 1 dX2_add_29 rfl ?_
    refine pv_getR C (ci := 1) (k := 0) gwX2 rfl (Nat.le_of_ble_eq_true rfl) fl_X2_9 rfl rfl rfl (j := 36) rfl rfl dX2_add_30 ?_
    refine pv_iload_n C 0 dX2_add_33 rfl ?_
    refine pv_iload_n C 2 dX2_add_34 rfl ?_
    refine pv_iast C hp rfl rfl rfl (fun _ => rfl) dX2_add_35 (fun V hp => ?_)
    refine pv_aload_n C 1 dX2_add_36 rfl ?_
    refine pv_getR C (ci := 1) (k := 1) gwX2 rfl (Nat.le_of_ble_eq_true rfl) fl_X2_15 rfl rfl rfl (j := 37) rfl rfl dX2_add_37 ?_
    refine pv_iload_n C 0 dX2_add_40 rfl ?_
    refine pv_iload_n C 3 dX2_add_41 rfl ?_
    refine pv_iast C hp rfl rfl rfl (fun _ => rfl) dX2_add_42 (fun V hp => ?_)
    refine pv_iconst C hp dX2_add_43 (by decide) (fun v14 hp => ?_)
    refine pv_istore (loc' := [(4, .int v14), (3, .int v10), (0, .ref 35), (1, .int x1), (2, .int x2)]) C dX2_add_44 (by decide) rfl ?_
    refine pv_sub [2, 4, 1, 0] rfl ?_
    exact w_X2_add_b46 C hr N _ _ _ _ _ hp
  · refine pv_ldc2 C hp dX2_add_10 kl_X2_26 (by decide) (fun v15 hp => ?_)
    exact pv_lret C rfl hp hr dX2_add_13
def q_X2_typeOf (N : Nat) (x1 : Int) (V : pvM) : Option pvO :=
  aR V 36 400 x1 fun v1 =>
  rT V v1
set_option maxHeartbeats 4000000 in
set_option maxRecDepth 100000 in
theorem c_X2_typeOf (l : Launch) (D : va_G) (cy : Nat → ClassId) {N : Nat} {x1 : Int32} {V : pvM} {q : pvO} (hp : q_X2_typeOf N x1.toInt V = some q) : pv_Met l yX2_typeOf cX2_typeOf 2 (some .int) 0 0 D cy V [.ref 35, .int x1] 1 q := by
  unfold q_X2_typeOf at hp
  refine pv_ofW (by decide) (Nat.le_of_ble_eq_true rfl) (fun p e s m args below meth c ad A n0 σ C hr => ?_)
  refine pv_aload_n C 0 dX2_typeOf_0 rfl ?_
  refine pv_getR C (ci := 1) (k := 0) gwX2 rfl (Nat.le_of_ble_eq_true rfl) fl_X2_9 rfl rfl rfl (j := 36) rfl rfl dX2_typeOf_1 ?_
  refine pv_iload_n C 1 dX2_typeOf_4 rfl ?_
  refine pv_iald C hp rfl rfl rfl (fun _ => rfl) dX2_typeOf_5 (fun v1 hp => ?_)
  exact pv_iret C rfl hp hr dX2_typeOf_6
def q_X2_sizeOf (N : Nat) (x1 : Int) (V : pvM) : Option pvO :=
  aR V 37 400 x1 fun v1 =>
  rT V v1
set_option maxHeartbeats 4000000 in
set_option maxRecDepth 100000 in
theorem c_X2_sizeOf (l : Launch) (D : va_G) (cy : Nat → ClassId) {N : Nat} {x1 : Int32} {V : pvM} {q : pvO} (hp : q_X2_sizeOf N x1.toInt V = some q) : pv_Met l yX2_sizeOf cX2_sizeOf 2 (some .int) 0 0 D cy V [.ref 35, .int x1] 1 q := by
  unfold q_X2_sizeOf at hp
  refine pv_ofW (by decide) (Nat.le_of_ble_eq_true rfl) (fun p e s m args below meth c ad A n0 σ C hr => ?_)
  refine pv_aload_n C 0 dX2_sizeOf_0 rfl ?_
  refine pv_getR C (ci := 1) (k := 1) gwX2 rfl (Nat.le_of_ble_eq_true rfl) fl_X2_15 rfl rfl rfl (j := 37) rfl rfl dX2_sizeOf_1 ?_
  refine pv_iload_n C 1 dX2_sizeOf_4 rfl ?_
  refine pv_iald C hp rfl rfl rfl (fun _ => rfl) dX2_sizeOf_5 (fun v1 hp => ?_)
  exact pv_iret C rfl hp hr dX2_sizeOf_6
def q_X2_valueAt (N : Nat) (x1 : Int) (x2 : Int) (V : pvM) : Option pvO :=
  lI (3) fun v1 =>
  lI (pv_w (x1 * v1)) fun v2 =>
  lI (pv_w (v2 + x2)) fun v3 =>
  aR V 38 1200 v3 fun v4 =>
  rT V v4
set_option maxHeartbeats 4000000 in
set_option maxRecDepth 100000 in
theorem c_X2_valueAt (l : Launch) (D : va_G) (cy : Nat → ClassId) {N : Nat} {x1 : Int32} {x2 : Int32} {V : pvM} {q : pvO} (hp : q_X2_valueAt N x1.toInt x2.toInt V = some q) : pv_Met l yX2_valueAt cX2_valueAt 3 (some .long) 0 0 D cy V [.ref 35, .int x1, .int x2] 2 q := by
  unfold q_X2_valueAt at hp
  refine pv_ofW (by decide) (Nat.le_of_ble_eq_true rfl) (fun p e s m args below meth c ad A n0 σ C hr => ?_)
  refine pv_aload_n C 0 dX2_valueAt_0 rfl ?_
  refine pv_getR C (ci := 1) (k := 2) gwX2 rfl (Nat.le_of_ble_eq_true rfl) fl_X2_18 rfl rfl rfl (j := 38) rfl rfl dX2_valueAt_1 ?_
  refine pv_iload_n C 1 dX2_valueAt_4 rfl ?_
  refine pv_iconst C hp dX2_valueAt_5 (by decide) (fun v1 hp => ?_)
  refine pv_imul C hp dX2_valueAt_6 (fun v2 hp => ?_)
  refine pv_iload_n C 2 dX2_valueAt_7 rfl ?_
  refine pv_iadd C hp dX2_valueAt_8 (fun v3 hp => ?_)
  refine pv_lald C hp rfl rfl rfl (fun _ => rfl) dX2_valueAt_9 (fun v4 hp => ?_)
  exact pv_lret C rfl hp hr dX2_valueAt_10
def q_X2_setValue (N : Nat) (x1 : Int) (x2 : Int) (x3 : Int) (V : pvM) : Option pvO :=
  lI (3) fun v1 =>
  lI (pv_w (x1 * v1)) fun v2 =>
  lI (pv_w (v2 + x2)) fun v3 =>
  aW V 38 1200 v3 x3 fun V =>
  rT V 0
set_option maxHeartbeats 4000000 in
set_option maxRecDepth 100000 in
theorem c_X2_setValue (l : Launch) (D : va_G) (cy : Nat → ClassId) {N : Nat} {x1 : Int32} {x2 : Int32} {x3 : Int64} {V : pvM} {q : pvO} (hp : q_X2_setValue N x1.toInt x2.toInt x3.toInt V = some q) : pv_Met l yX2_setValue cX2_setValue 5 none 0 0 D cy V [.ref 35, .int x1, .int x2, .long x3] 0 q := by
  unfold q_X2_setValue at hp
  refine pv_ofW (by decide) (Nat.le_of_ble_eq_true rfl) (fun p e s m args below meth c ad A n0 σ C hr => ?_)
  refine pv_aload_n C 0 dX2_setValue_0 rfl ?_
  refine pv_getR C (ci := 1) (k := 2) gwX2 rfl (Nat.le_of_ble_eq_true rfl) fl_X2_18 rfl rfl rfl (j := 38) rfl rfl dX2_setValue_1 ?_
  refine pv_iload_n C 1 dX2_setValue_4 rfl ?_
  refine pv_iconst C hp dX2_setValue_5 (by decide) (fun v1 hp => ?_)
  refine pv_imul C hp dX2_setValue_6 (fun v2 hp => ?_)
  refine pv_iload_n C 2 dX2_setValue_7 rfl ?_
  refine pv_iadd C hp dX2_setValue_8 (fun v3 hp => ?_)
  refine pv_lload_n C 3 dX2_setValue_9 rfl ?_
  refine pv_last C hp rfl rfl rfl (fun _ => rfl) dX2_setValue_10 (fun V hp => ?_)
  exact pv_vret C rfl hp hr dX2_setValue_11
