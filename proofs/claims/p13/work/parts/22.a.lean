def q_X11_thrown (N : Nat) (V : pvM) : Option pvO :=
  gR V 45 0 fun v1 =>
  rT V v1
set_option maxHeartbeats 4000000 in
set_option maxRecDepth 100000 in
theorem c_X11_thrown (l : Launch) (D : va_G) (cy : Nat → ClassId) {N : Nat} {V : pvM} {q : pvO} (hp : q_X11_thrown N V = some q) : pv_Met l yX11_thrown cX11_thrown 1 (some .int) 0 0 D cy V [.ref 45] 1 q := by
  unfold q_X11_thrown at hp
  refine pv_ofW (by decide) (Nat.le_of_ble_eq_true rfl) (fun p e s m args below meth c ad A n0 σ C hr => ?_)
  refine pv_aload_n C 0 dX11_thrown_0 rfl ?_
  refine pv_getI C (ci := 10) (k := 0) gwX11 rfl (Nat.le_of_ble_eq_true rfl) fl_X11_123 rfl rfl hp rfl rfl dX11_thrown_1 (fun v1 hp => ?_)
  exact pv_iret C rfl hp hr dX11_thrown_4
def q_X11_goes_b18 (N : Nat) (s0 : Int) (V : pvM) : Option pvO :=
  gW V 45 0 s0 fun V =>
  gR V 45 0 fun v1 =>
  if v1 ≠ 0 then
    lI (0) fun v2 =>
    bT v2 (rT V v2)
  else
  lI (1) fun v3 =>
  bT v3 (rT V v3)
set_option maxHeartbeats 4000000 in
set_option maxRecDepth 100000 in
theorem w_X11_goes_b18 {p : Program} {l : Launch} {e : Env} {s : State} {m : MethodId} {args : Array Value} {below : List Frame} {meth : Method} {c : Code} {D : va_G} {cy : Nat → ClassId} {A : Nat → Prop} {n0 : Nat} {ad0 : Nat → Nat} {V0 : pvM} {q : pvO} (C : pz_C p s m args meth c cX11_goes 3 yX11_goes.cls D cy A) (hr : meth.sig.returnType = (some .boolean)) {N : Nat} {s0 : Int32} {σ : pzS} {V : pvM} (hp : q_X11_goes_b18 N s0.toInt V = some q) : pv_W p l e 0 0 s m args below meth c 3 D cy A n0 ad0 (pv_Q below D cy n0 ad0 1 V0 q A args s) V0 σ V 18 [(0, .ref 45)] [.int s0, .ref 45] := by
  unfold q_X11_goes_b18 at hp
  refine pv_putI C (ci := 10) (k := 0) gwX11 rfl (Nat.le_of_ble_eq_true rfl) fl_X11_123 rfl rfl tyX11_ok nmX11 hp rfl rfl rfl (by decide +kernel) dX11_goes_18 (fun V hp => ?_)
  refine pv_aload_n C 0 dX11_goes_21 rfl ?_
  refine pv_getI C (ci := 10) (k := 0) gwX11 rfl (Nat.le_of_ble_eq_true rfl) fl_X11_123 rfl rfl hp rfl rfl dX11_goes_22 (fun v1 hp => ?_)
  refine pv_if_ne (tgt := 32) C hp dX11_goes_25 (by decide) (fun hp => ?_) (fun hp => ?_)
  · refine pv_iconst C hp dX11_goes_32 (by decide) (fun v2 hp => ?_)
    exact pv_zret C rfl hp hr dX11_goes_33
  · refine pv_iconst C hp dX11_goes_28 (by decide) (fun v3 hp => ?_)
    refine pv_goto (tgt := 33) C dX11_goes_29 (by decide) ?_
    exact pv_zret C rfl hp hr dX11_goes_33
def q_X11_goes (N : Nat) (x1 : Int) (x2 : Int) (V : pvM) : Option pvO :=
  if x1 ≠ 0 then
    if x2 ≠ 0 then
      lI (0) fun v4 =>
      q_X11_goes_b18 N v4 V
    else
    lI (2) fun v5 =>
    q_X11_goes_b18 N v5 V
  else
  lI (1) fun v6 =>
  q_X11_goes_b18 N v6 V
set_option maxHeartbeats 4000000 in
set_option maxRecDepth 100000 in
theorem c_X11_goes (l : Launch) (D : va_G) (cy : Nat → ClassId) {N : Nat} {x1 : Int32} {x2 : Int32} {V : pvM} {q : pvO} (hp : q_X11_goes N x1.toInt x2.toInt V = some q) : pv_Met l yX11_goes cX11_goes 3 (some .boolean) 0 0 D cy V [.ref 45, .int x1, .int x2] 1 q := by
  unfold q_X11_goes at hp
  refine pv_ofW (by decide) (Nat.le_of_ble_eq_true rfl) (fun p e s m args below meth c ad A n0 σ C hr => ?_)
  refine pv_aload_n C 0 dX11_goes_0 rfl ?_
  refine pv_iload_n C 1 dX11_goes_1 rfl ?_
  refine pv_if_ne (tgt := 9) C hp dX11_goes_2 (by decide) (fun hp => ?_) (fun hp => ?_)
  · refine pv_iload_n C 2 dX11_goes_9 rfl ?_
    refine pv_if_ne (tgt := 17) C hp dX11_goes_10 (by decide) (fun hp => ?_) (fun hp => ?_)
    · refine pv_iconst C hp dX11_goes_17 (by decide) (fun v4 hp => ?_)
      refine pv_sub [0] rfl ?_
      exact w_X11_goes_b18 C hr hp
    · refine pv_iconst C hp dX11_goes_13 (by decide) (fun v5 hp => ?_)
      refine pv_goto (tgt := 18) C dX11_goes_14 (by decide) ?_
      refine pv_sub [0] rfl ?_
      exact w_X11_goes_b18 C hr hp
  · refine pv_iconst C hp dX11_goes_5 (by decide) (fun v6 hp => ?_)
    refine pv_goto (tgt := 18) C dX11_goes_6 (by decide) ?_
    refine pv_sub [0] rfl ?_
    exact w_X11_goes_b18 C hr hp
def q_X11_function_b29 (N : Nat) (x1 : Int) (s0 : Int) (s1 : Int) (V : pvM) : Option pvO :=
  cL (q_X11_goes N s1 s0 V) fun v1 V =>
  if v1 ≠ 0 then
    lI (0) fun v2 =>
    bT v2 <| gW V 45 10 v2 fun V =>
    gR V 45 1 fun v3 =>
    aW V 46 12 v3 x1 fun V =>
    gR V 45 1 fun v4 =>
    lI (1) fun v5 =>
    lI (pv_w (v4 + v5)) fun v6 =>
    gW V 45 1 v6 fun V =>
    gR V 45 1 fun v7 =>
    lI (1) fun v8 =>
    lI (pv_w (v7 - v8)) fun v9 =>
    rT V v9
  else
  lI (0) fun v10 =>
  rT V v10
set_option maxHeartbeats 4000000 in
set_option maxRecDepth 100000 in
theorem w_X11_function_b29 {p : Program} {l : Launch} {e : Env} {s : State} {m : MethodId} {args : Array Value} {below : List Frame} {meth : Method} {c : Code} {D : va_G} {cy : Nat → ClassId} {A : Nat → Prop} {n0 : Nat} {ad0 : Nat → Nat} {V0 : pvM} {q : pvO} (C : pz_C p s m args meth c cX11_function 2 yX11_function.cls D cy A) (hr : meth.sig.returnType = (some .int)) {N : Nat} {x1 : Int32} {s0 : Int32} {s1 : Int32} {σ : pzS} {V : pvM} (hp : q_X11_function_b29 N x1.toInt s0.toInt s1.toInt V = some q) : pv_W p l e 1 22 s m args below meth c 2 D cy A n0 ad0 (pv_Q below D cy n0 ad0 1 V0 q A args s) V0 σ V 29 [(0, .ref 45), (1, .int x1)] [.int s0, .int s1, .ref 45] := by
  unfold q_X11_function_b29 at hp
  refine pv_callV C (As := [.int s1, .int s0]) (rest := []) (b := 45) (kd1 := 1) hp (fun q1 h9 => c_X11_goes l D cy h9) wB_yX11_goes ml_X11_130 im_yX11_goes se_yX11_goes (ci := 10) rfl rfl rfl rfl rfl (Nat.le_of_ble_eq_true rfl) ⟨(Nat.le_of_ble_eq_true rfl), (Nat.le_of_ble_eq_true rfl)⟩ dX11_function_29 rfl rfl (fun v1 σ V hp => ?_)
  refine pv_if_ne (tgt := 37) C hp dX11_function_32 (by decide) (fun hp => ?_) (fun hp => ?_)
  · refine pv_aload_n C 0 dX11_function_37 rfl ?_
    refine pv_iconst C hp dX11_function_38 (by decide) (fun v2 hp => ?_)
    refine pv_putZ C (ci := 10) (k := 10) gwX11 rfl (Nat.le_of_ble_eq_true rfl) fl_X11_134 rfl rfl tyX11_ok nmX11 hp rfl rfl rfl (by decide +kernel) dX11_function_39 (fun V hp => ?_)
    refine pv_aload_n C 0 dX11_function_42 rfl ?_
    refine pv_getR C (ci := 10) (k := 2) gwX11 rfl (Nat.le_of_ble_eq_true rfl) fl_X11_7 rfl rfl rfl (j := 46) rfl rfl dX11_function_43 ?_
    refine pv_aload_n C 0 dX11_function_46 rfl ?_
    refine pv_getI C (ci := 10) (k := 1) gwX11 rfl (Nat.le_of_ble_eq_true rfl) fl_X11_127 rfl rfl hp rfl rfl dX11_function_47 (fun v3 hp => ?_)
    refine pv_iload_n C 1 dX11_function_50 rfl ?_
    refine pv_iast C hp rfl rfl rfl (fun _ => rfl) dX11_function_51 (fun V hp => ?_)
    refine pv_aload_n C 0 dX11_function_52 rfl ?_
    refine pv_dup C dX11_function_53 rfl ?_
    refine pv_getI C (ci := 10) (k := 1) gwX11 rfl (Nat.le_of_ble_eq_true rfl) fl_X11_127 rfl rfl hp rfl rfl dX11_function_54 (fun v4 hp => ?_)
    refine pv_iconst C hp dX11_function_57 (by decide) (fun v5 hp => ?_)
    refine pv_iadd C hp dX11_function_58 (fun v6 hp => ?_)
    refine pv_putI C (ci := 10) (k := 1) gwX11 rfl (Nat.le_of_ble_eq_true rfl) fl_X11_127 rfl rfl tyX11_ok nmX11 hp rfl rfl rfl (by decide +kernel) dX11_function_59 (fun V hp => ?_)
    refine pv_aload_n C 0 dX11_function_62 rfl ?_
    refine pv_getI C (ci := 10) (k := 1) gwX11 rfl (Nat.le_of_ble_eq_true rfl) fl_X11_127 rfl rfl hp rfl rfl dX11_function_63 (fun v7 hp => ?_)
    refine pv_iconst C hp dX11_function_66 (by decide) (fun v8 hp => ?_)
    refine pv_isub C hp dX11_function_67 (fun v9 hp => ?_)
    exact pv_iret C rfl hp hr dX11_function_68
  · refine pv_iconst C hp dX11_function_35 (by decide) (fun v10 hp => ?_)
    exact pv_iret C rfl hp hr dX11_function_36
def q_X11_function_b15 (N : Nat) (x1 : Int) (s0 : Int) (V : pvM) : Option pvO :=
  gR V 45 1 fun v11 =>
  lI (12) fun v12 =>
  if v12 ≤ v11 then
    lI (0) fun v13 =>
    q_X11_function_b29 N x1 v13 s0 V
  else
  lI (1) fun v14 =>
  q_X11_function_b29 N x1 v14 s0 V
set_option maxHeartbeats 4000000 in
set_option maxRecDepth 100000 in
theorem w_X11_function_b15 {p : Program} {l : Launch} {e : Env} {s : State} {m : MethodId} {args : Array Value} {below : List Frame} {meth : Method} {c : Code} {D : va_G} {cy : Nat → ClassId} {A : Nat → Prop} {n0 : Nat} {ad0 : Nat → Nat} {V0 : pvM} {q : pvO} (C : pz_C p s m args meth c cX11_function 2 yX11_function.cls D cy A) (hr : meth.sig.returnType = (some .int)) {N : Nat} {x1 : Int32} {s0 : Int32} {σ : pzS} {V : pvM} (hp : q_X11_function_b15 N x1.toInt s0.toInt V = some q) : pv_W p l e 1 22 s m args below meth c 2 D cy A n0 ad0 (pv_Q below D cy n0 ad0 1 V0 q A args s) V0 σ V 15 [(0, .ref 45), (1, .int x1)] [.int s0, .ref 45] := by
  unfold q_X11_function_b15 at hp
  refine pv_aload_n C 0 dX11_function_15 rfl ?_
  refine pv_getI C (ci := 10) (k := 1) gwX11 rfl (Nat.le_of_ble_eq_true rfl) fl_X11_127 rfl rfl hp rfl rfl dX11_function_16 (fun v11 hp => ?_)
  refine pv_bipush C hp dX11_function_19 (by decide) (fun v12 hp => ?_)
  refine pv_icmp_ge (tgt := 28) C hp dX11_function_21 (by decide) (fun hp => ?_) (fun hp => ?_)
  · refine pv_iconst C hp dX11_function_28 (by decide) (fun v13 hp => ?_)
    exact w_X11_function_b29 C hr hp
  · refine pv_iconst C hp dX11_function_24 (by decide) (fun v14 hp => ?_)
    refine pv_goto (tgt := 29) C dX11_function_25 (by decide) ?_
    exact w_X11_function_b29 C hr hp
def q_X11_function (N : Nat) (x1 : Int) (V : pvM) : Option pvO :=
  if x1 < 0 then
    lI (0) fun v15 =>
    q_X11_function_b15 N x1 v15 V
  else
  lI (3) fun v16 =>
  if v16 < x1 then
    lI (0) fun v17 =>
    q_X11_function_b15 N x1 v17 V
  else
  lI (1) fun v18 =>
  q_X11_function_b15 N x1 v18 V
set_option maxHeartbeats 4000000 in
set_option maxRecDepth 100000 in
theorem c_X11_function (l : Launch) (D : va_G) (cy : Nat → ClassId) {N : Nat} {x1 : Int32} {V : pvM} {q : pvO} (hp : q_X11_function N x1.toInt V = some q) : pv_Met l yX11_function cX11_function 2 (some .int) 1 22 D cy V [.ref 45, .int x1] 1 q := by
  unfold q_X11_function at hp
  refine pv_ofW (by decide) (Nat.le_of_ble_eq_true rfl) (fun p e s m args below meth c ad A n0 σ C hr => ?_)
  refine pv_aload_n C 0 dX11_function_0 rfl ?_
  refine pv_iload_n C 1 dX11_function_1 rfl ?_
  refine pv_if_lt (tgt := 14) C hp dX11_function_2 (by decide) (fun hp => ?_) (fun hp => ?_)
  · refine pv_iconst C hp dX11_function_14 (by decide) (fun v15 hp => ?_)
    exact w_X11_function_b15 C hr hp
  · refine pv_iload_n C 1 dX11_function_5 rfl ?_
    refine pv_iconst C hp dX11_function_6 (by decide) (fun v16 hp => ?_)
    refine pv_icmp_gt (tgt := 14) C hp dX11_function_7 (by decide) (fun hp => ?_) (fun hp => ?_)
    · refine pv_iconst C hp dX11_function_14 (by decide) (fun v17 hp => ?_)
      exact w_X11_function_b15 C hr hp
    · refine pv_iconst C hp dX11_function_10 (by decide) (fun v18 hp => ?_)
      refine pv_goto (tgt := 15) C dX11_function_11 (by decide) ?_
      exact w_X11_function_b15 C hr hp
def q_X11_isFunction (N : Nat) (x1 : Int) (V : pvM) : Option pvO :=
  if x1 < 0 then
    lI (0) fun v1 =>
    bT v1 (rT V v1)
  else
  gR V 45 1 fun v2 =>
  if v2 ≤ x1 then
    lI (0) fun v3 =>
    bT v3 (rT V v3)
  else
  lI (1) fun v4 =>
  bT v4 (rT V v4)
set_option maxHeartbeats 4000000 in
set_option maxRecDepth 100000 in
theorem c_X11_isFunction (l : Launch) (D : va_G) (cy : Nat → ClassId) {N : Nat} {x1 : Int32} {V : pvM} {q : pvO} (hp : q_X11_isFunction N x1.toInt V = some q) : pv_Met l yX11_isFunction cX11_isFunction 2 (some .boolean) 0 0 D cy V [.ref 45, .int x1] 1 q := by
  unfold q_X11_isFunction at hp
  refine pv_ofW (by decide) (Nat.le_of_ble_eq_true rfl) (fun p e s m args below meth c ad A n0 σ C hr => ?_)
  refine pv_iload_n C 1 dX11_isFunction_0 rfl ?_
  refine pv_if_lt (tgt := 16) C hp dX11_isFunction_1 (by decide) (fun hp => ?_) (fun hp => ?_)
  · refine pv_iconst C hp dX11_isFunction_16 (by decide) (fun v1 hp => ?_)
    exact pv_zret C rfl hp hr dX11_isFunction_17
  · refine pv_iload_n C 1 dX11_isFunction_4 rfl ?_
    refine pv_aload_n C 0 dX11_isFunction_5 rfl ?_
    refine pv_getI C (ci := 10) (k := 1) gwX11 rfl (Nat.le_of_ble_eq_true rfl) fl_X11_127 rfl rfl hp rfl rfl dX11_isFunction_6 (fun v2 hp => ?_)
    refine pv_icmp_ge (tgt := 16) C hp dX11_isFunction_9 (by decide) (fun hp => ?_) (fun hp => ?_)
    · refine pv_iconst C hp dX11_isFunction_16 (by decide) (fun v3 hp => ?_)
      exact pv_zret C rfl hp hr dX11_isFunction_17
    · refine pv_iconst C hp dX11_isFunction_12 (by decide) (fun v4 hp => ?_)
      refine pv_goto (tgt := 17) C dX11_isFunction_13 (by decide) ?_
      exact pv_zret C rfl hp hr dX11_isFunction_17
def q_X11_code_b49 (N : Nat) (x1 : Int) (x2 : Int) (x3 : Int) (x4 : Int) (s0 : Int) (s1 : Int) (V : pvM) : Option pvO :=
  cL (q_X11_goes N s1 s0 V) fun v1 V =>
  if v1 ≠ 0 then
    lI (0) fun v2 =>
    bT v2 <| gW V 45 10 v2 fun V =>
    lI (40) fun v3 =>
    lI (pv_w (v3 * x1)) fun v4 =>
    aR V 47 12 x1 fun v5 =>
    lI (pv_w (v4 + v5)) fun v6 =>
    aW V 48 480 v6 x2 fun V =>
    aW V 49 480 v6 x3 fun V =>
    aW V 50 480 v6 x4 fun V =>
    aR V 47 12 x1 fun v7 =>
    lI (1) fun v8 =>
    lI (pv_w (v7 + v8)) fun v9 =>
    aW V 47 12 x1 v9 fun V =>
    aR V 47 12 x1 fun v10 =>
    lI (1) fun v11 =>
    lI (pv_w (v10 - v11)) fun v12 =>
    rT V v12
  else
  lI (0) fun v13 =>
  rT V v13
set_option maxHeartbeats 4000000 in
set_option maxRecDepth 100000 in
theorem w_X11_code_b49 {p : Program} {l : Launch} {e : Env} {s : State} {m : MethodId} {args : Array Value} {below : List Frame} {meth : Method} {c : Code} {D : va_G} {cy : Nat → ClassId} {A : Nat → Prop} {n0 : Nat} {ad0 : Nat → Nat} {V0 : pvM} {q : pvO} (C : pz_C p s m args meth c cX11_code 7 yX11_code.cls D cy A) (hr : meth.sig.returnType = (some .int)) {N : Nat} {x1 : Int32} {x2 : Int32} {x3 : Int32} {x4 : Int32} {s0 : Int32} {s1 : Int32} {σ : pzS} {V : pvM} (hp : q_X11_code_b49 N x1.toInt x2.toInt x3.toInt x4.toInt s0.toInt s1.toInt V = some q) : pv_W p l e 1 22 s m args below meth c 7 D cy A n0 ad0 (pv_Q below D cy n0 ad0 1 V0 q A args s) V0 σ V 49 [(0, .ref 45), (1, .int x1), (2, .int x2), (3, .int x3), (4, .int x4)] [.int s0, .int s1, .ref 45] := by
  unfold q_X11_code_b49 at hp
  refine pv_callV C (As := [.int s1, .int s0]) (rest := []) (b := 45) (kd1 := 1) hp (fun q1 h9 => c_X11_goes l D cy h9) wB_yX11_goes ml_X11_130 im_yX11_goes se_yX11_goes (ci := 10) rfl rfl rfl rfl rfl (Nat.le_of_ble_eq_true rfl) ⟨(Nat.le_of_ble_eq_true rfl), (Nat.le_of_ble_eq_true rfl)⟩ dX11_code_49 rfl rfl (fun v1 σ V hp => ?_)
  refine pv_if_ne (tgt := 57) C hp dX11_code_52 (by decide) (fun hp => ?_) (fun hp => ?_)
  · refine pv_aload_n C 0 dX11_code_57 rfl ?_
    refine pv_iconst C hp dX11_code_58 (by decide) (fun v2 hp => ?_)
    refine pv_putZ C (ci := 10) (k := 10) gwX11 rfl (Nat.le_of_ble_eq_true rfl) fl_X11_134 rfl rfl tyX11_ok nmX11 hp rfl rfl rfl (by decide +kernel) dX11_code_59 (fun V hp => ?_)
    refine pv_bipush C hp dX11_code_62 (by decide) (fun v3 hp => ?_)
    refine pv_iload_n C 1 dX11_code_64 rfl ?_
    refine pv_imul C hp dX11_code_65 (fun v4 hp => ?_)
    refine pv_aload_n C 0 dX11_code_66 rfl ?_
    refine pv_getR C (ci := 10) (k := 3) gwX11 rfl (Nat.le_of_ble_eq_true rfl) fl_X11_13 rfl rfl rfl (j := 47) rfl rfl dX11_code_67 ?_
    refine pv_iload_n C 1 dX11_code_70 rfl ?_
    refine pv_iald C hp rfl rfl rfl (fun _ => rfl) dX11_code_71 (fun v5 hp => ?_)
    refine pv_iadd C hp dX11_code_72 (fun v6 hp => ?_)
    refine pv_istore (loc' := [(6, .int v6), (0, .ref 45), (1, .int x1), (2, .int x2), (3, .int x3), (4, .int x4)]) C dX11_code_73 (by decide) rfl ?_
    refine pv_aload_n C 1 dX11_code_75 rfl ?_
    refine pv_getR C (ci := 10) (k := 4) gwX11 rfl (Nat.le_of_ble_eq_true rfl) fl_X11_16 rfl rfl rfl (j := 48) rfl rfl dX11_code_76 ?_
    refine pv_iload C 0 dX11_code_79 rfl ?_
    refine pv_iload_n C 3 dX11_code_81 rfl ?_
    refine pv_iast C hp rfl rfl rfl (fun _ => rfl) dX11_code_82 (fun V hp => ?_)
    refine pv_aload_n C 1 dX11_code_83 rfl ?_
    refine pv_getR C (ci := 10) (k := 5) gwX11 rfl (Nat.le_of_ble_eq_true rfl) fl_X11_19 rfl rfl rfl (j := 49) rfl rfl dX11_code_84 ?_
    refine pv_iload C 0 dX11_code_87 rfl ?_
    refine pv_iload_n C 4 dX11_code_89 rfl ?_
    refine pv_iast C hp rfl rfl rfl (fun _ => rfl) dX11_code_90 (fun V hp => ?_)
    refine pv_aload_n C 1 dX11_code_91 rfl ?_
    refine pv_getR C (ci := 10) (k := 6) gwX11 rfl (Nat.le_of_ble_eq_true rfl) fl_X11_22 rfl rfl rfl (j := 50) rfl rfl dX11_code_92 ?_
    refine pv_iload C 0 dX11_code_95 rfl ?_
    refine pv_iload C 5 dX11_code_97 rfl ?_
    refine pv_iast C hp rfl rfl rfl (fun _ => rfl) dX11_code_99 (fun V hp => ?_)
    refine pv_aload_n C 1 dX11_code_100 rfl ?_
    refine pv_getR C (ci := 10) (k := 3) gwX11 rfl (Nat.le_of_ble_eq_true rfl) fl_X11_13 rfl rfl rfl (j := 47) rfl rfl dX11_code_101 ?_
    refine pv_iload_n C 2 dX11_code_104 rfl ?_
    refine pv_dup2 C dX11_code_105 rfl rfl ?_
    refine pv_iald C hp rfl rfl rfl (fun _ => rfl) dX11_code_106 (fun v7 hp => ?_)
    refine pv_iconst C hp dX11_code_107 (by decide) (fun v8 hp => ?_)
    refine pv_iadd C hp dX11_code_108 (fun v9 hp => ?_)
    refine pv_iast C hp rfl rfl rfl (fun _ => rfl) dX11_code_109 (fun V hp => ?_)
    refine pv_aload_n C 1 dX11_code_110 rfl ?_
    refine pv_getR C (ci := 10) (k := 3) gwX11 rfl (Nat.le_of_ble_eq_true rfl) fl_X11_13 rfl rfl rfl (j := 47) rfl rfl dX11_code_111 ?_
    refine pv_iload_n C 2 dX11_code_114 rfl ?_
    refine pv_iald C hp rfl rfl rfl (fun _ => rfl) dX11_code_115 (fun v10 hp => ?_)
    refine pv_iconst C hp dX11_code_116 (by decide) (fun v11 hp => ?_)
    refine pv_isub C hp dX11_code_117 (fun v12 hp => ?_)
    exact pv_iret C rfl hp hr dX11_code_118
  · refine pv_iconst C hp dX11_code_55 (by decide) (fun v13 hp => ?_)
    exact pv_iret C rfl hp hr dX11_code_56
def q_X11_code_b23 (N : Nat) (x1 : Int) (x2 : Int) (x3 : Int) (x4 : Int) (s0 : Int) (V : pvM) : Option pvO :=
  if s0 = 0 then
    lI (0) fun v14 =>
    q_X11_code_b49 N x1 x2 x3 x4 v14 s0 V
  else
  aR V 47 12 x1 fun v15 =>
  lI (40) fun v16 =>
  if v16 ≤ v15 then
    lI (0) fun v17 =>
    q_X11_code_b49 N x1 x2 x3 x4 v17 s0 V
  else
  lI (1) fun v18 =>
  q_X11_code_b49 N x1 x2 x3 x4 v18 s0 V
set_option maxHeartbeats 4000000 in
set_option maxRecDepth 100000 in
theorem w_X11_code_b23 {p : Program} {l : Launch} {e : Env} {s : State} {m : MethodId} {args : Array Value} {below : List Frame} {meth : Method} {c : Code} {D : va_G} {cy : Nat → ClassId} {A : Nat → Prop} {n0 : Nat} {ad0 : Nat → Nat} {V0 : pvM} {q : pvO} (C : pz_C p s m args meth c cX11_code 7 yX11_code.cls D cy A) (hr : meth.sig.returnType = (some .int)) {N : Nat} {x1 : Int32} {x2 : Int32} {x3 : Int32} {x4 : Int32} {s0 : Int32} {σ : pzS} {V : pvM} (hp : q_X11_code_b23 N x1.toInt x2.toInt x3.toInt x4.toInt s0.toInt V = some q) : pv_W p l e 1 22 s m args below meth c 7 D cy A n0 ad0 (pv_Q below D cy n0 ad0 1 V0 q A args s) V0 σ V 23 [(0, .ref 45), (1, .int x1), (2, .int x2), (3, .int x3), (4, .int x4)] [.int s0] := by
  unfold q_X11_code_b23 at hp
  refine pv_istore (loc' := [(5, .int s0), (0, .ref 45), (1, .int x1), (2, .int x2), (3, .int x3), (4, .int x4)]) C dX11_code_23 (by decide) rfl ?_
  refine pv_aload_n C 1 dX11_code_25 rfl ?_
  refine pv_iload C 0 dX11_code_26 rfl ?_
  refine pv_iload C 0 dX11_code_28 rfl ?_
  refine pv_if_eq (tgt := 48) C hp dX11_code_30 (by decide) (fun hp => ?_) (fun hp => ?_)
  · refine pv_iconst C hp dX11_code_48 (by decide) (fun v14 hp => ?_)
    refine pv_sub [1, 2, 3, 4, 5] rfl ?_
    exact w_X11_code_b49 C hr hp
  · refine pv_aload_n C 1 dX11_code_33 rfl ?_
    refine pv_getR C (ci := 10) (k := 3) gwX11 rfl (Nat.le_of_ble_eq_true rfl) fl_X11_13 rfl rfl rfl (j := 47) rfl rfl dX11_code_34 ?_
    refine pv_iload_n C 2 dX11_code_37 rfl ?_
    refine pv_iald C hp rfl rfl rfl (fun _ => rfl) dX11_code_38 (fun v15 hp => ?_)
    refine pv_bipush C hp dX11_code_39 (by decide) (fun v16 hp => ?_)
    refine pv_icmp_ge (tgt := 48) C hp dX11_code_41 (by decide) (fun hp => ?_) (fun hp => ?_)
    · refine pv_iconst C hp dX11_code_48 (by decide) (fun v17 hp => ?_)
      refine pv_sub [1, 2, 3, 4, 5] rfl ?_
      exact w_X11_code_b49 C hr hp
    · refine pv_iconst C hp dX11_code_44 (by decide) (fun v18 hp => ?_)
      refine pv_goto (tgt := 49) C dX11_code_45 (by decide) ?_
      refine pv_sub [1, 2, 3, 4, 5] rfl ?_
      exact w_X11_code_b49 C hr hp
def q_X11_code (N : Nat) (x1 : Int) (x2 : Int) (x3 : Int) (x4 : Int) (V : pvM) : Option pvO :=
  cL (q_X11_isFunction N x1 V) fun v19 V =>
  if v19 = 0 then
    lI (0) fun v20 =>
    q_X11_code_b23 N x1 x2 x3 x4 v20 V
  else
  if x2 < 0 then
    lI (0) fun v21 =>
    q_X11_code_b23 N x1 x2 x3 x4 v21 V
  else
  lI (15) fun v22 =>
  if v22 < x2 then
    lI (0) fun v23 =>
    q_X11_code_b23 N x1 x2 x3 x4 v23 V
  else
  lI (1) fun v24 =>
  q_X11_code_b23 N x1 x2 x3 x4 v24 V
set_option maxHeartbeats 4000000 in
set_option maxRecDepth 100000 in
theorem c_X11_code (l : Launch) (D : va_G) (cy : Nat → ClassId) {N : Nat} {x1 : Int32} {x2 : Int32} {x3 : Int32} {x4 : Int32} {V : pvM} {q : pvO} (hp : q_X11_code N x1.toInt x2.toInt x3.toInt x4.toInt V = some q) : pv_Met l yX11_code cX11_code 7 (some .int) 1 22 D cy V [.ref 45, .int x1, .int x2, .int x3, .int x4] 1 q := by
  unfold q_X11_code at hp
  refine pv_ofW (by decide) (Nat.le_of_ble_eq_true rfl) (fun p e s m args below meth c ad A n0 σ C hr => ?_)
  refine pv_aload_n C 0 dX11_code_0 rfl ?_
  refine pv_iload_n C 1 dX11_code_1 rfl ?_
  refine pv_callV C (As := [.int x1]) (rest := []) (b := 45) (kd1 := 1) hp (fun q1 h9 => c_X11_isFunction l D cy h9) wB_yX11_isFunction ml_X11_138 im_yX11_isFunction se_yX11_isFunction (ci := 10) rfl rfl rfl rfl rfl (Nat.le_of_ble_eq_true rfl) ⟨(Nat.le_of_ble_eq_true rfl), (Nat.le_of_ble_eq_true rfl)⟩ dX11_code_2 rfl rfl (fun v19 σ V hp => ?_)
  refine pv_if_eq (tgt := 22) C hp dX11_code_5 (by decide) (fun hp => ?_) (fun hp => ?_)
  · refine pv_iconst C hp dX11_code_22 (by decide) (fun v20 hp => ?_)
    exact w_X11_code_b23 C hr hp
  · refine pv_iload_n C 2 dX11_code_8 rfl ?_
    refine pv_if_lt (tgt := 22) C hp dX11_code_9 (by decide) (fun hp => ?_) (fun hp => ?_)
    · refine pv_iconst C hp dX11_code_22 (by decide) (fun v21 hp => ?_)
      exact w_X11_code_b23 C hr hp
    · refine pv_iload_n C 2 dX11_code_12 rfl ?_
      refine pv_bipush C hp dX11_code_13 (by decide) (fun v22 hp => ?_)
      refine pv_icmp_gt (tgt := 22) C hp dX11_code_15 (by decide) (fun hp => ?_) (fun hp => ?_)
      · refine pv_iconst C hp dX11_code_22 (by decide) (fun v23 hp => ?_)
        exact w_X11_code_b23 C hr hp
      · refine pv_iconst C hp dX11_code_18 (by decide) (fun v24 hp => ?_)
        refine pv_goto (tgt := 23) C dX11_code_19 (by decide) ?_
        exact w_X11_code_b23 C hr hp
def q_X11_holes_b36 (N : Nat) (r4 : Int → Int → Int → pvM → Option pvO) (x1 : Int) (x3 : Int) (s0 : Int) (s1 : Int) (V : pvM) : Option pvO :=
  lI (pv_w (s1 + s0)) fun v1 =>
  lI (pv_w (x3 + (1))) fun v2 =>
  r4 x1 v1 v2 V
set_option maxHeartbeats 4000000 in
set_option maxRecDepth 100000 in
theorem w_X11_holes_b36 {p : Program} {l : Launch} {e : Env} {s : State} {m : MethodId} {args : Array Value} {below : List Frame} {meth : Method} {c : Code} {D : va_G} {cy : Nat → ClassId} {A : Nat → Prop} {n0 : Nat} {ad0 : Nat → Nat} {V0 : pvM} {q : pvO} (C : pz_C p s m args meth c cX11_holes 4 yX11_holes.cls D cy A) (hr : meth.sig.returnType = (some .int)) {N : Nat} {r4 : Int → Int → Int → pvM → Option pvO} (H4 : ∀ (x1 : Int32) (x2 : Int32) (x3 : Int32) (σ : pzS) (V : pvM), r4 x1.toInt x2.toInt x3.toInt V = some q → pv_W p l e 0 0 s m args below meth c 4 D cy A n0 ad0 (pv_Q below D cy n0 ad0 1 V0 q A args s) V0 σ V 4 [(0, .ref 45), (1, .int x1), (2, .int x2), (3, .int x3)] []) {x1 : Int32} {x3 : Int32} {s0 : Int32} {s1 : Int32} {σ : pzS} {V : pvM} (hp : q_X11_holes_b36 N r4 x1.toInt x3.toInt s0.toInt s1.toInt V = some q) : pv_W p l e 0 0 s m args below meth c 4 D cy A n0 ad0 (pv_Q below D cy n0 ad0 1 V0 q A args s) V0 σ V 36 [(0, .ref 45), (1, .int x1), (3, .int x3)] [.int s0, .int s1] := by
  unfold q_X11_holes_b36 at hp
  refine pv_iadd C hp dX11_holes_36 (fun v1 hp => ?_)
  refine pv_istore_n (loc' := [(2, .int v1), (0, .ref 45), (1, .int x1), (3, .int x3)]) C dX11_holes_37 (by decide) rfl ?_
  refine pv_iinc (L := fun v2 => [(3, .int v2), (2, .int v1), (0, .ref 45), (1, .int x1)]) C 3 hp dX11_holes_38 (by decide) rfl (by decide) (fun _ => rfl) (fun v2 hp => ?_)
  refine pv_goto (tgt := 4) C dX11_holes_41 (by decide) ?_
  refine pv_sub [2, 3, 1, 0] rfl ?_
  exact H4 _ _ _ _ _ hp
def q_X11_holes_b4 (N : Nat) : Nat → Int → Int → Int → pvM → Option pvO
  | 0 => fun _ _ _ _ => none
  | n + 1 => fun x1 x2 x3 V =>
    aR V 51 8 x1 fun v3 =>
    if v3 ≤ x3 then
      rT V x2
    else
    lI (12) fun v4 =>
    lI (pv_w (v4 * x1)) fun v5 =>
    lI (pv_w (v5 + x3)) fun v6 =>
    aR V 52 96 v6 fun v7 =>
    lI (27) fun v8 =>
    if v7 ≠ v8 then
      lI (0) fun v9 =>
      q_X11_holes_b36 N (q_X11_holes_b4 N n) x1 x3 v9 x2 V
    else
    lI (1) fun v10 =>
    q_X11_holes_b36 N (q_X11_holes_b4 N n) x1 x3 v10 x2 V
set_option maxHeartbeats 4000000 in
set_option maxRecDepth 100000 in
theorem w_X11_holes_b4 {p : Program} {l : Launch} {e : Env} {s : State} {m : MethodId} {args : Array Value} {below : List Frame} {meth : Method} {c : Code} {D : va_G} {cy : Nat → ClassId} {A : Nat → Prop} {n0 : Nat} {ad0 : Nat → Nat} {V0 : pvM} {q : pvO} (C : pz_C p s m args meth c cX11_holes 4 yX11_holes.cls D cy A) (hr : meth.sig.returnType = (some .int)) {N : Nat} : ∀ (n : Nat) (x1 : Int32) (x2 : Int32) (x3 : Int32) (σ : pzS) (V : pvM), q_X11_holes_b4 N n x1.toInt x2.toInt x3.toInt V = some q → pv_W p l e 0 0 s m args below meth c 4 D cy A n0 ad0 (pv_Q below D cy n0 ad0 1 V0 q A args s) V0 σ V 4 [(0, .ref 45), (1, .int x1), (2, .int x2), (3, .int x3)] [] := by
  intro n
  induction n with
  | zero =>
    intro x1 x2 x3 σ V hp
    simp only [q_X11_holes_b4] at hp
    cases hp
  | succ n ih =>
    intro x1 x2 x3 σ V hp
    simp only [q_X11_holes_b4] at hp
    refine pv_iload_n C 3 dX11_holes_4 rfl ?_
    refine pv_aload_n C 0 dX11_holes_5 rfl ?_
    refine pv_getR C (ci := 10) (k := 8) gwX11 rfl (Nat.le_of_ble_eq_true rfl) fl_X11_25 rfl rfl rfl (j := 51) rfl rfl dX11_holes_6 ?_
    refine pv_iload_n C 1 dX11_holes_9 rfl ?_
    refine pv_iald C hp rfl rfl rfl (fun _ => rfl) dX11_holes_10 (fun v3 hp => ?_)
    refine pv_icmp_ge (tgt := 44) C hp dX11_holes_11 (by decide) (fun hp => ?_) (fun hp => ?_)
    · refine pv_iload_n C 2 dX11_holes_44 rfl ?_
      exact pv_iret C rfl hp hr dX11_holes_45
    · refine pv_iload_n C 2 dX11_holes_14 rfl ?_
      refine pv_aload_n C 0 dX11_holes_15 rfl ?_
      refine pv_getR C (ci := 10) (k := 9) gwX11 rfl (Nat.le_of_ble_eq_true rfl) fl_X11_28 rfl rfl rfl (j := 52) rfl rfl dX11_holes_16 ?_
      refine pv_bipush C hp dX11_holes_19 (by decide) (fun v4 hp => ?_)
      refine pv_iload_n C 1 dX11_holes_21 rfl ?_
      refine pv_imul C hp dX11_holes_22 (fun v5 hp => ?_)
      refine pv_iload_n C 3 dX11_holes_23 rfl ?_
      refine pv_iadd C hp dX11_holes_24 (fun v6 hp => ?_)
      refine pv_iald C hp rfl rfl rfl (fun _ => rfl) dX11_holes_25 (fun v7 hp => ?_)
      refine pv_bipush C hp dX11_holes_26 (by decide) (fun v8 hp => ?_)
      refine pv_icmp_ne (tgt := 35) C hp dX11_holes_28 (by decide) (fun hp => ?_) (fun hp => ?_)
      · refine pv_iconst C hp dX11_holes_35 (by decide) (fun v9 hp => ?_)
        refine pv_sub [0, 1, 3] rfl ?_
        exact w_X11_holes_b36 C hr ih hp
      · refine pv_iconst C hp dX11_holes_31 (by decide) (fun v10 hp => ?_)
        refine pv_goto (tgt := 36) C dX11_holes_32 (by decide) ?_
        refine pv_sub [0, 1, 3] rfl ?_
        exact w_X11_holes_b36 C hr ih hp
def q_X11_holes (N : Nat) (x1 : Int) (V : pvM) : Option pvO :=
  lI (0) fun v11 =>
  lI (0) fun v12 =>
  q_X11_holes_b4 N N x1 v11 v12 V
set_option maxHeartbeats 4000000 in
set_option maxRecDepth 100000 in
theorem c_X11_holes (l : Launch) (D : va_G) (cy : Nat → ClassId) {N : Nat} {x1 : Int32} {V : pvM} {q : pvO} (hp : q_X11_holes N x1.toInt V = some q) : pv_Met l yX11_holes cX11_holes 4 (some .int) 0 0 D cy V [.ref 45, .int x1] 1 q := by
  unfold q_X11_holes at hp
  refine pv_ofW (by decide) (Nat.le_of_ble_eq_true rfl) (fun p e s m args below meth c ad A n0 σ C hr => ?_)
  refine pv_iconst C hp dX11_holes_0 (by decide) (fun v11 hp => ?_)
  refine pv_istore_n (loc' := [(2, .int v11), (0, .ref 45), (1, .int x1)]) C dX11_holes_1 (by decide) rfl ?_
  refine pv_iconst C hp dX11_holes_2 (by decide) (fun v12 hp => ?_)
  refine pv_istore_n (loc' := [(3, .int v12), (2, .int v11), (0, .ref 45), (1, .int x1)]) C dX11_holes_3 (by decide) rfl ?_
  refine pv_sub [2, 3, 1, 0] rfl ?_
  exact w_X11_holes_b4 C hr N _ _ _ _ _ hp
def q_X11_isBound (N : Nat) (x1 : Int) (x2 : Int) (V : pvM) : Option pvO :=
  lI (40) fun v1 =>
  lI (pv_w (v1 * x1)) fun v2 =>
  lI (pv_w (v2 + x2)) fun v3 =>
  aR V 48 480 v3 fun v4 =>
  lI (40) fun v5 =>
  lI (pv_w (v5 * x1)) fun v6 =>
  lI (pv_w (v6 + x2)) fun v7 =>
  aR V 49 480 v7 fun v8 =>
  lI (40) fun v9 =>
  lI (pv_w (v9 * x1)) fun v10 =>
  lI (pv_w (v10 + x2)) fun v11 =>
  aR V 50 480 v11 fun v12 =>
  if v4 = 1 then
    if v8 < 0 then
      lI (0) fun v13 =>
      bT v13 (rT V v13)
    else
    lI (8) fun v14 =>
    if v14 ≤ v8 then
      lI (0) fun v15 =>
      bT v15 (rT V v15)
    else
    lI (1) fun v16 =>
    bT v16 (rT V v16)
  else
  if v4 = 2 then
    if v8 < 0 then
      lI (0) fun v17 =>
      bT v17 (rT V v17)
    else
    lI (8) fun v18 =>
    if v18 ≤ v8 then
      lI (0) fun v19 =>
      bT v19 (rT V v19)
    else
    lI (1) fun v20 =>
    bT v20 (rT V v20)
  else
  if v4 = 3 then
    lI (1) fun v21 =>
    bT v21 (rT V v21)
  else
  if v4 = 4 then
    lI (1) fun v22 =>
    bT v22 (rT V v22)
  else
  if v4 = 5 then
    lI (1) fun v23 =>
    bT v23 (rT V v23)
  else
  if v4 = 6 then
    lI (1) fun v24 =>
    bT v24 (rT V v24)
  else
  if v4 = 7 then
    lI (1) fun v25 =>
    bT v25 (rT V v25)
  else
  if v4 = 8 then
    if v8 < 0 then
      lI (0) fun v26 =>
      bT v26 (rT V v26)
    else
    aR V 47 12 x1 fun v27 =>
    if v27 ≤ v8 then
      lI (0) fun v28 =>
      bT v28 (rT V v28)
    else
    lI (1) fun v29 =>
    bT v29 (rT V v29)
  else
  if v4 = 9 then
    if v8 < 0 then
      lI (0) fun v30 =>
      bT v30 (rT V v30)
    else
    aR V 47 12 x1 fun v31 =>
    if v31 ≤ v8 then
      lI (0) fun v32 =>
      bT v32 (rT V v32)
    else
    lI (1) fun v33 =>
    bT v33 (rT V v33)
  else
  if v4 = 10 then
    cL (q_X11_isFunction N v8 V) fun v34 V =>
    bT v34 (rT V v34)
  else
  if v4 = 11 then
    lI (1) fun v35 =>
    bT v35 (rT V v35)
  else
  if v4 = 12 then
    lI (1) fun v36 =>
    bT v36 (rT V v36)
  else
  if v4 = 13 then
    cL (q_X11_isFunction N v8 V) fun v37 V =>
    if v37 = 0 then
      lI (0) fun v38 =>
      bT v38 (rT V v38)
    else
    if v12 < 0 then
      lI (0) fun v39 =>
      bT v39 (rT V v39)
    else
    aR V 46 12 v8 fun v40 =>
    if v40 < v12 then
      lI (0) fun v41 =>
      bT v41 (rT V v41)
    else
    lI (1) fun v42 =>
    bT v42 (rT V v42)
  else
  if v4 = 14 then
    if v8 < 0 then
      lI (0) fun v43 =>
      bT v43 (rT V v43)
    else
    lI (3) fun v44 =>
    if v44 < v8 then
      lI (0) fun v45 =>
      bT v45 (rT V v45)
    else
    lI (1) fun v46 =>
    bT v46 (rT V v46)
  else
  if v4 = 15 then
    if v8 < 0 then
      lI (0) fun v47 =>
      bT v47 (rT V v47)
    else
    gR V 45 7 fun v48 =>
    if v48 ≤ v8 then
      lI (0) fun v49 =>
      bT v49 (rT V v49)
    else
    lI (1) fun v50 =>
    bT v50 (rT V v50)
  else
  lI (1) fun v51 =>
  bT v51 (rT V v51)
set_option maxHeartbeats 4000000 in
set_option maxRecDepth 100000 in
theorem c_X11_isBound (l : Launch) (D : va_G) (cy : Nat → ClassId) {N : Nat} {x1 : Int32} {x2 : Int32} {V : pvM} {q : pvO} (hp : q_X11_isBound N x1.toInt x2.toInt V = some q) : pv_Met l yX11_isBound cX11_isBound 6 (some .boolean) 1 21 D cy V [.ref 45, .int x1, .int x2] 1 q := by
  unfold q_X11_isBound at hp
  refine pv_ofW (by decide) (Nat.le_of_ble_eq_true rfl) (fun p e s m args below meth c ad A n0 σ C hr => ?_)
  refine pv_aload_n C 0 dX11_isBound_0 rfl ?_
  refine pv_getR C (ci := 10) (k := 4) gwX11 rfl (Nat.le_of_ble_eq_true rfl) fl_X11_16 rfl rfl rfl (j := 48) rfl rfl dX11_isBound_1 ?_
  refine pv_bipush C hp dX11_isBound_4 (by decide) (fun v1 hp => ?_)
  refine pv_iload_n C 1 dX11_isBound_6 rfl ?_
  refine pv_imul C hp dX11_isBound_7 (fun v2 hp => ?_)
  refine pv_iload_n C 2 dX11_isBound_8 rfl ?_
  refine pv_iadd C hp dX11_isBound_9 (fun v3 hp => ?_)
  refine pv_iald C hp rfl rfl rfl (fun _ => rfl) dX11_isBound_10 (fun v4 hp => ?_)
  refine pv_istore_n (loc' := [(3, .int v4), (0, .ref 45), (1, .int x1), (2, .int x2)]) C dX11_isBound_11 (by decide) rfl ?_
  refine pv_aload_n C 1 dX11_isBound_12 rfl ?_
  refine pv_getR C (ci := 10) (k := 5) gwX11 rfl (Nat.le_of_ble_eq_true rfl) fl_X11_19 rfl rfl rfl (j := 49) rfl rfl dX11_isBound_13 ?_
  refine pv_bipush C hp dX11_isBound_16 (by decide) (fun v5 hp => ?_)
  refine pv_iload_n C 2 dX11_isBound_18 rfl ?_
  refine pv_imul C hp dX11_isBound_19 (fun v6 hp => ?_)
  refine pv_iload_n C 3 dX11_isBound_20 rfl ?_
  refine pv_iadd C hp dX11_isBound_21 (fun v7 hp => ?_)
  refine pv_iald C hp rfl rfl rfl (fun _ => rfl) dX11_isBound_22 (fun v8 hp => ?_)
  refine pv_istore (loc' := [(4, .int v8), (3, .int v4), (0, .ref 45), (1, .int x1), (2, .int x2)]) C dX11_isBound_23 (by decide) rfl ?_
  refine pv_aload_n C 2 dX11_isBound_25 rfl ?_
  refine pv_getR C (ci := 10) (k := 6) gwX11 rfl (Nat.le_of_ble_eq_true rfl) fl_X11_22 rfl rfl rfl (j := 50) rfl rfl dX11_isBound_26 ?_
  refine pv_bipush C hp dX11_isBound_29 (by decide) (fun v9 hp => ?_)
  refine pv_iload_n C 3 dX11_isBound_31 rfl ?_
  refine pv_imul C hp dX11_isBound_32 (fun v10 hp => ?_)
  refine pv_iload_n C 4 dX11_isBound_33 rfl ?_
  refine pv_iadd C hp dX11_isBound_34 (fun v11 hp => ?_)
  refine pv_iald C hp rfl rfl rfl (fun _ => rfl) dX11_isBound_35 (fun v12 hp => ?_)
  refine pv_istore (loc' := [(5, .int v12), (4, .int v8), (3, .int v4), (0, .ref 45), (1, .int x1), (2, .int x2)]) C dX11_isBound_36 (by decide) rfl ?_
  refine pv_iload_n C 2 dX11_isBound_38 rfl ?_
  refine pv_case (x := v4) (v := 1) hp (fun hx hp => ?_) (fun h39_1 hp => ?_)
  · refine pv_tableIn (tgt := 112) C hx dX11_isBound_39 (by decide) (by decide) (off := 73) rfl (by decide) ?_
    refine pv_iload C 1 dX11_isBound_112 rfl ?_
    refine pv_if_lt (tgt := 128) C hp dX11_isBound_114 (by decide) (fun hp => ?_) (fun hp => ?_)
    · refine pv_iconst C hp dX11_isBound_128 (by decide) (fun v13 hp => ?_)
      exact pv_zret C rfl hp hr dX11_isBound_129
    · refine pv_iload C 1 dX11_isBound_117 rfl ?_
      refine pv_bipush C hp dX11_isBound_119 (by decide) (fun v14 hp => ?_)
      refine pv_icmp_ge (tgt := 128) C hp dX11_isBound_121 (by decide) (fun hp => ?_) (fun hp => ?_)
      · refine pv_iconst C hp dX11_isBound_128 (by decide) (fun v15 hp => ?_)
        exact pv_zret C rfl hp hr dX11_isBound_129
      · refine pv_iconst C hp dX11_isBound_124 (by decide) (fun v16 hp => ?_)
        refine pv_goto (tgt := 129) C dX11_isBound_125 (by decide) ?_
        exact pv_zret C rfl hp hr dX11_isBound_129
  refine pv_case (x := v4) (v := 2) hp (fun hx hp => ?_) (fun h39_2 hp => ?_)
  · refine pv_tableIn (tgt := 112) C hx dX11_isBound_39 (by decide) (by decide) (off := 73) rfl (by decide) ?_
    refine pv_iload C 1 dX11_isBound_112 rfl ?_
    refine pv_if_lt (tgt := 128) C hp dX11_isBound_114 (by decide) (fun hp => ?_) (fun hp => ?_)
    · refine pv_iconst C hp dX11_isBound_128 (by decide) (fun v17 hp => ?_)
      exact pv_zret C rfl hp hr dX11_isBound_129
    · refine pv_iload C 1 dX11_isBound_117 rfl ?_
      refine pv_bipush C hp dX11_isBound_119 (by decide) (fun v18 hp => ?_)
      refine pv_icmp_ge (tgt := 128) C hp dX11_isBound_121 (by decide) (fun hp => ?_) (fun hp => ?_)
      · refine pv_iconst C hp dX11_isBound_128 (by decide) (fun v19 hp => ?_)
        exact pv_zret C rfl hp hr dX11_isBound_129
      · refine pv_iconst C hp dX11_isBound_124 (by decide) (fun v20 hp => ?_)
        refine pv_goto (tgt := 129) C dX11_isBound_125 (by decide) ?_
        exact pv_zret C rfl hp hr dX11_isBound_129
  refine pv_case (x := v4) (v := 3) hp (fun hx hp => ?_) (fun h39_3 hp => ?_)
  · refine pv_tableIn (tgt := 228) C hx dX11_isBound_39 (by decide) (by decide) (off := 189) rfl (by decide) ?_
    refine pv_iconst C hp dX11_isBound_228 (by decide) (fun v21 hp => ?_)
    exact pv_zret C rfl hp hr dX11_isBound_229
  refine pv_case (x := v4) (v := 4) hp (fun hx hp => ?_) (fun h39_4 hp => ?_)
  · refine pv_tableIn (tgt := 228) C hx dX11_isBound_39 (by decide) (by decide) (off := 189) rfl (by decide) ?_
    refine pv_iconst C hp dX11_isBound_228 (by decide) (fun v22 hp => ?_)
    exact pv_zret C rfl hp hr dX11_isBound_229
  refine pv_case (x := v4) (v := 5) hp (fun hx hp => ?_) (fun h39_5 hp => ?_)
  · refine pv_tableIn (tgt := 228) C hx dX11_isBound_39 (by decide) (by decide) (off := 189) rfl (by decide) ?_
    refine pv_iconst C hp dX11_isBound_228 (by decide) (fun v23 hp => ?_)
    exact pv_zret C rfl hp hr dX11_isBound_229
  refine pv_case (x := v4) (v := 6) hp (fun hx hp => ?_) (fun h39_6 hp => ?_)
  · refine pv_tableIn (tgt := 228) C hx dX11_isBound_39 (by decide) (by decide) (off := 189) rfl (by decide) ?_
    refine pv_iconst C hp dX11_isBound_228 (by decide) (fun v24 hp => ?_)
    exact pv_zret C rfl hp hr dX11_isBound_229
  refine pv_case (x := v4) (v := 7) hp (fun hx hp => ?_) (fun h39_7 hp => ?_)
  · refine pv_tableIn (tgt := 228) C hx dX11_isBound_39 (by decide) (by decide) (off := 189) rfl (by decide) ?_
    refine pv_iconst C hp dX11_isBound_228 (by decide) (fun v25 hp => ?_)
    exact pv_zret C rfl hp hr dX11_isBound_229
  refine pv_case (x := v4) (v := 8) hp (fun hx hp => ?_) (fun h39_8 hp => ?_)
  · refine pv_tableIn (tgt := 130) C hx dX11_isBound_39 (by decide) (by decide) (off := 91) rfl (by decide) ?_
    refine pv_iload C 1 dX11_isBound_130 rfl ?_
    refine pv_if_lt (tgt := 150) C hp dX11_isBound_132 (by decide) (fun hp => ?_) (fun hp => ?_)
    · refine pv_iconst C hp dX11_isBound_150 (by decide) (fun v26 hp => ?_)
      exact pv_zret C rfl hp hr dX11_isBound_151
    · refine pv_iload C 1 dX11_isBound_135 rfl ?_
      refine pv_aload_n C 3 dX11_isBound_137 rfl ?_
      refine pv_getR C (ci := 10) (k := 3) gwX11 rfl (Nat.le_of_ble_eq_true rfl) fl_X11_13 rfl rfl rfl (j := 47) rfl rfl dX11_isBound_138 ?_
      refine pv_iload_n C 4 dX11_isBound_141 rfl ?_
      refine pv_iald C hp rfl rfl rfl (fun _ => rfl) dX11_isBound_142 (fun v27 hp => ?_)
      refine pv_icmp_ge (tgt := 150) C hp dX11_isBound_143 (by decide) (fun hp => ?_) (fun hp => ?_)
      · refine pv_iconst C hp dX11_isBound_150 (by decide) (fun v28 hp => ?_)
        exact pv_zret C rfl hp hr dX11_isBound_151
      · refine pv_iconst C hp dX11_isBound_146 (by decide) (fun v29 hp => ?_)
        refine pv_goto (tgt := 151) C dX11_isBound_147 (by decide) ?_
        exact pv_zret C rfl hp hr dX11_isBound_151
  refine pv_case (x := v4) (v := 9) hp (fun hx hp => ?_) (fun h39_9 hp => ?_)
  · refine pv_tableIn (tgt := 130) C hx dX11_isBound_39 (by decide) (by decide) (off := 91) rfl (by decide) ?_
    refine pv_iload C 1 dX11_isBound_130 rfl ?_
    refine pv_if_lt (tgt := 150) C hp dX11_isBound_132 (by decide) (fun hp => ?_) (fun hp => ?_)
    · refine pv_iconst C hp dX11_isBound_150 (by decide) (fun v30 hp => ?_)
      exact pv_zret C rfl hp hr dX11_isBound_151
    · refine pv_iload C 1 dX11_isBound_135 rfl ?_
      refine pv_aload_n C 3 dX11_isBound_137 rfl ?_
      refine pv_getR C (ci := 10) (k := 3) gwX11 rfl (Nat.le_of_ble_eq_true rfl) fl_X11_13 rfl rfl rfl (j := 47) rfl rfl dX11_isBound_138 ?_
      refine pv_iload_n C 4 dX11_isBound_141 rfl ?_
      refine pv_iald C hp rfl rfl rfl (fun _ => rfl) dX11_isBound_142 (fun v31 hp => ?_)
      refine pv_icmp_ge (tgt := 150) C hp dX11_isBound_143 (by decide) (fun hp => ?_) (fun hp => ?_)
      · refine pv_iconst C hp dX11_isBound_150 (by decide) (fun v32 hp => ?_)
        exact pv_zret C rfl hp hr dX11_isBound_151
      · refine pv_iconst C hp dX11_isBound_146 (by decide) (fun v33 hp => ?_)
        refine pv_goto (tgt := 151) C dX11_isBound_147 (by decide) ?_
        exact pv_zret C rfl hp hr dX11_isBound_151
  refine pv_case (x := v4) (v := 10) hp (fun hx hp => ?_) (fun h39_10 hp => ?_)
  · refine pv_tableIn (tgt := 152) C hx dX11_isBound_39 (by decide) (by decide) (off := 113) rfl (by decide) ?_
    refine pv_aload_n C 3 dX11_isBound_152 rfl ?_
    refine pv_iload C 1 dX11_isBound_153 rfl ?_
    refine pv_callV C (As := [.int v8]) (rest := []) (b := 45) (kd1 := 1) hp (fun q1 h9 => c_X11_isFunction l D cy h9) wB_yX11_isFunction ml_X11_138 im_yX11_isFunction se_yX11_isFunction (ci := 10) rfl rfl rfl rfl rfl (Nat.le_of_ble_eq_true rfl) ⟨(Nat.le_of_ble_eq_true rfl), (Nat.le_of_ble_eq_true rfl)⟩ dX11_isBound_155 rfl rfl (fun v34 σ V hp => ?_)
    exact pv_zret C rfl hp hr dX11_isBound_158
  refine pv_case (x := v4) (v := 11) hp (fun hx hp => ?_) (fun h39_11 hp => ?_)
  · refine pv_tableIn (tgt := 228) C hx dX11_isBound_39 (by decide) (by decide) (off := 189) rfl (by decide) ?_
    refine pv_iconst C hp dX11_isBound_228 (by decide) (fun v35 hp => ?_)
    exact pv_zret C rfl hp hr dX11_isBound_229
  refine pv_case (x := v4) (v := 12) hp (fun hx hp => ?_) (fun h39_12 hp => ?_)
  · refine pv_tableIn (tgt := 228) C hx dX11_isBound_39 (by decide) (by decide) (off := 189) rfl (by decide) ?_
    refine pv_iconst C hp dX11_isBound_228 (by decide) (fun v36 hp => ?_)
    exact pv_zret C rfl hp hr dX11_isBound_229
  refine pv_case (x := v4) (v := 13) hp (fun hx hp => ?_) (fun h39_13 hp => ?_)
  · refine pv_tableIn (tgt := 159) C hx dX11_isBound_39 (by decide) (by decide) (off := 120) rfl (by decide) ?_
    refine pv_aload_n C 3 dX11_isBound_159 rfl ?_
    refine pv_iload C 1 dX11_isBound_160 rfl ?_
    refine pv_callV C (As := [.int v8]) (rest := []) (b := 45) (kd1 := 1) hp (fun q1 h9 => c_X11_isFunction l D cy h9) wB_yX11_isFunction ml_X11_138 im_yX11_isFunction se_yX11_isFunction (ci := 10) rfl rfl rfl rfl rfl (Nat.le_of_ble_eq_true rfl) ⟨(Nat.le_of_ble_eq_true rfl), (Nat.le_of_ble_eq_true rfl)⟩ dX11_isBound_162 rfl rfl (fun v37 σ V hp => ?_)
    refine pv_if_eq (tgt := 189) C hp dX11_isBound_165 (by decide) (fun hp => ?_) (fun hp => ?_)
    · refine pv_iconst C hp dX11_isBound_189 (by decide) (fun v38 hp => ?_)
      exact pv_zret C rfl hp hr dX11_isBound_190
    · refine pv_iload C 0 dX11_isBound_168 rfl ?_
      refine pv_if_lt (tgt := 189) C hp dX11_isBound_170 (by decide) (fun hp => ?_) (fun hp => ?_)
      · refine pv_iconst C hp dX11_isBound_189 (by decide) (fun v39 hp => ?_)
        exact pv_zret C rfl hp hr dX11_isBound_190
      · refine pv_iload C 0 dX11_isBound_173 rfl ?_
        refine pv_aload_n C 3 dX11_isBound_175 rfl ?_
        refine pv_getR C (ci := 10) (k := 2) gwX11 rfl (Nat.le_of_ble_eq_true rfl) fl_X11_7 rfl rfl rfl (j := 46) rfl rfl dX11_isBound_176 ?_
        refine pv_iload C 1 dX11_isBound_179 rfl ?_
        refine pv_iald C hp rfl rfl rfl (fun _ => rfl) dX11_isBound_181 (fun v40 hp => ?_)
        refine pv_icmp_gt (tgt := 189) C hp dX11_isBound_182 (by decide) (fun hp => ?_) (fun hp => ?_)
        · refine pv_iconst C hp dX11_isBound_189 (by decide) (fun v41 hp => ?_)
          exact pv_zret C rfl hp hr dX11_isBound_190
        · refine pv_iconst C hp dX11_isBound_185 (by decide) (fun v42 hp => ?_)
          refine pv_goto (tgt := 190) C dX11_isBound_186 (by decide) ?_
          exact pv_zret C rfl hp hr dX11_isBound_190
  refine pv_case (x := v4) (v := 14) hp (fun hx hp => ?_) (fun h39_14 hp => ?_)
  · refine pv_tableIn (tgt := 191) C hx dX11_isBound_39 (by decide) (by decide) (off := 152) rfl (by decide) ?_
    refine pv_iload C 1 dX11_isBound_191 rfl ?_
    refine pv_if_lt (tgt := 206) C hp dX11_isBound_193 (by decide) (fun hp => ?_) (fun hp => ?_)
    · refine pv_iconst C hp dX11_isBound_206 (by decide) (fun v43 hp => ?_)
      exact pv_zret C rfl hp hr dX11_isBound_207
    · refine pv_iload C 1 dX11_isBound_196 rfl ?_
      refine pv_iconst C hp dX11_isBound_198 (by decide) (fun v44 hp => ?_)
      refine pv_icmp_gt (tgt := 206) C hp dX11_isBound_199 (by decide) (fun hp => ?_) (fun hp => ?_)
      · refine pv_iconst C hp dX11_isBound_206 (by decide) (fun v45 hp => ?_)
        exact pv_zret C rfl hp hr dX11_isBound_207
      · refine pv_iconst C hp dX11_isBound_202 (by decide) (fun v46 hp => ?_)
        refine pv_goto (tgt := 207) C dX11_isBound_203 (by decide) ?_
        exact pv_zret C rfl hp hr dX11_isBound_207
  refine pv_case (x := v4) (v := 15) hp (fun hx hp => ?_) (fun h39_15 hp => ?_)
  · refine pv_tableIn (tgt := 208) C hx dX11_isBound_39 (by decide) (by decide) (off := 169) rfl (by decide) ?_
    refine pv_iload C 1 dX11_isBound_208 rfl ?_
    refine pv_if_lt (tgt := 226) C hp dX11_isBound_210 (by decide) (fun hp => ?_) (fun hp => ?_)
    · refine pv_iconst C hp dX11_isBound_226 (by decide) (fun v47 hp => ?_)
      exact pv_zret C rfl hp hr dX11_isBound_227
    · refine pv_iload C 1 dX11_isBound_213 rfl ?_
      refine pv_aload_n C 3 dX11_isBound_215 rfl ?_
      refine pv_getI C (ci := 10) (k := 7) gwX11 rfl (Nat.le_of_ble_eq_true rfl) fl_X11_146 rfl rfl hp rfl rfl dX11_isBound_216 (fun v48 hp => ?_)
      refine pv_icmp_ge (tgt := 226) C hp dX11_isBound_219 (by decide) (fun hp => ?_) (fun hp => ?_)
      · refine pv_iconst C hp dX11_isBound_226 (by decide) (fun v49 hp => ?_)
        exact pv_zret C rfl hp hr dX11_isBound_227
      · refine pv_iconst C hp dX11_isBound_222 (by decide) (fun v50 hp => ?_)
        refine pv_goto (tgt := 227) C dX11_isBound_223 (by decide) ?_
        exact pv_zret C rfl hp hr dX11_isBound_227
  refine pv_tableOut (tgt := 228) C (by omega) dX11_isBound_39 (by decide) ?_
  refine pv_iconst C hp dX11_isBound_228 (by decide) (fun v51 hp => ?_)
  exact pv_zret C rfl hp hr dX11_isBound_229
def q_X11_pops (N : Nat) (x1 : Int) (V : pvM) : Option pvO :=
  aR V 49 480 x1 fun v1 =>
  aR V 48 480 x1 fun v2 =>
  if v2 = 2 then
    lI (1) fun v3 =>
    rT V v3
  else
  if v2 = 3 then
    lI (2) fun v4 =>
    rT V v4
  else
  if v2 = 4 then
    lI (2) fun v5 =>
    rT V v5
  else
  if v2 = 5 then
    lI (2) fun v6 =>
    rT V v6
  else
  if v2 = 6 then
    lI (1) fun v7 =>
    rT V v7
  else
  if v2 = 7 then
    lI (1) fun v8 =>
    rT V v8
  else
  if v2 = 8 then
    lI (0) fun v9 =>
    rT V v9
  else
  if v2 = 9 then
    lI (1) fun v10 =>
    rT V v10
  else
  if v2 = 10 then
    aR V 46 12 v1 fun v11 =>
    rT V v11
  else
  if v2 = 11 then
    lI (1) fun v12 =>
    rT V v12
  else
  if v2 = 12 then
    lI (1) fun v13 =>
    rT V v13
  else
  if v2 = 13 then
    aR V 50 480 x1 fun v14 =>
    rT V v14
  else
  if v2 = 14 then
    lI (1) fun v15 =>
    lI (pv_w (v1 + v15)) fun v16 =>
    rT V v16
  else
  if v2 = 15 then
    cL (q_X11_holes N v1 V) fun v17 V =>
    rT V v17
  else
  lI (0) fun v18 =>
  rT V v18
set_option maxHeartbeats 4000000 in
set_option maxRecDepth 100000 in
theorem c_X11_pops (l : Launch) (D : va_G) (cy : Nat → ClassId) {N : Nat} {x1 : Int32} {V : pvM} {q : pvO} (hp : q_X11_pops N x1.toInt V = some q) : pv_Met l yX11_pops cX11_pops 3 (some .int) 1 23 D cy V [.ref 45, .int x1] 1 q := by
  unfold q_X11_pops at hp
  refine pv_ofW (by decide) (Nat.le_of_ble_eq_true rfl) (fun p e s m args below meth c ad A n0 σ C hr => ?_)
  refine pv_aload_n C 0 dX11_pops_0 rfl ?_
  refine pv_getR C (ci := 10) (k := 5) gwX11 rfl (Nat.le_of_ble_eq_true rfl) fl_X11_19 rfl rfl rfl (j := 49) rfl rfl dX11_pops_1 ?_
  refine pv_iload_n C 1 dX11_pops_4 rfl ?_
  refine pv_iald C hp rfl rfl rfl (fun _ => rfl) dX11_pops_5 (fun v1 hp => ?_)
  refine pv_istore_n (loc' := [(2, .int v1), (0, .ref 45), (1, .int x1)]) C dX11_pops_6 (by decide) rfl ?_
  refine pv_aload_n C 1 dX11_pops_7 rfl ?_
  refine pv_getR C (ci := 10) (k := 4) gwX11 rfl (Nat.le_of_ble_eq_true rfl) fl_X11_16 rfl rfl rfl (j := 48) rfl rfl dX11_pops_8 ?_
  refine pv_iload_n C 2 dX11_pops_11 rfl ?_
  refine pv_iald C hp rfl rfl rfl (fun _ => rfl) dX11_pops_12 (fun v2 hp => ?_)
  refine pv_case (x := v2) (v := 2) hp (fun hx hp => ?_) (fun h13_2 hp => ?_)
  · refine pv_tableIn (tgt := 84) C hx dX11_pops_13 (by decide) (by decide) (off := 71) rfl (by decide) ?_
    refine pv_iconst C hp dX11_pops_84 (by decide) (fun v3 hp => ?_)
    exact pv_iret C rfl hp hr dX11_pops_85
  refine pv_case (x := v2) (v := 3) hp (fun hx hp => ?_) (fun h13_3 hp => ?_)
  · refine pv_tableIn (tgt := 86) C hx dX11_pops_13 (by decide) (by decide) (off := 73) rfl (by decide) ?_
    refine pv_iconst C hp dX11_pops_86 (by decide) (fun v4 hp => ?_)
    exact pv_iret C rfl hp hr dX11_pops_87
  refine pv_case (x := v2) (v := 4) hp (fun hx hp => ?_) (fun h13_4 hp => ?_)
  · refine pv_tableIn (tgt := 86) C hx dX11_pops_13 (by decide) (by decide) (off := 73) rfl (by decide) ?_
    refine pv_iconst C hp dX11_pops_86 (by decide) (fun v5 hp => ?_)
    exact pv_iret C rfl hp hr dX11_pops_87
  refine pv_case (x := v2) (v := 5) hp (fun hx hp => ?_) (fun h13_5 hp => ?_)
  · refine pv_tableIn (tgt := 86) C hx dX11_pops_13 (by decide) (by decide) (off := 73) rfl (by decide) ?_
    refine pv_iconst C hp dX11_pops_86 (by decide) (fun v6 hp => ?_)
    exact pv_iret C rfl hp hr dX11_pops_87
  refine pv_case (x := v2) (v := 6) hp (fun hx hp => ?_) (fun h13_6 hp => ?_)
  · refine pv_tableIn (tgt := 84) C hx dX11_pops_13 (by decide) (by decide) (off := 71) rfl (by decide) ?_
    refine pv_iconst C hp dX11_pops_84 (by decide) (fun v7 hp => ?_)
    exact pv_iret C rfl hp hr dX11_pops_85
  refine pv_case (x := v2) (v := 7) hp (fun hx hp => ?_) (fun h13_7 hp => ?_)
  · refine pv_tableIn (tgt := 84) C hx dX11_pops_13 (by decide) (by decide) (off := 71) rfl (by decide) ?_
    refine pv_iconst C hp dX11_pops_84 (by decide) (fun v8 hp => ?_)
    exact pv_iret C rfl hp hr dX11_pops_85
  refine pv_case (x := v2) (v := 8) hp (fun hx hp => ?_) (fun h13_8 hp => ?_)
  · refine pv_tableIn (tgt := 112) C hx dX11_pops_13 (by decide) (by decide) (off := 99) rfl (by decide) ?_
    refine pv_iconst C hp dX11_pops_112 (by decide) (fun v9 hp => ?_)
    exact pv_iret C rfl hp hr dX11_pops_113
  refine pv_case (x := v2) (v := 9) hp (fun hx hp => ?_) (fun h13_9 hp => ?_)
  · refine pv_tableIn (tgt := 84) C hx dX11_pops_13 (by decide) (by decide) (off := 71) rfl (by decide) ?_
    refine pv_iconst C hp dX11_pops_84 (by decide) (fun v10 hp => ?_)
    exact pv_iret C rfl hp hr dX11_pops_85
  refine pv_case (x := v2) (v := 10) hp (fun hx hp => ?_) (fun h13_10 hp => ?_)
  · refine pv_tableIn (tgt := 88) C hx dX11_pops_13 (by decide) (by decide) (off := 75) rfl (by decide) ?_
    refine pv_aload_n C 1 dX11_pops_88 rfl ?_
    refine pv_getR C (ci := 10) (k := 2) gwX11 rfl (Nat.le_of_ble_eq_true rfl) fl_X11_7 rfl rfl rfl (j := 46) rfl rfl dX11_pops_89 ?_
    refine pv_iload_n C 0 dX11_pops_92 rfl ?_
    refine pv_iald C hp rfl rfl rfl (fun _ => rfl) dX11_pops_93 (fun v11 hp => ?_)
    exact pv_iret C rfl hp hr dX11_pops_94
  refine pv_case (x := v2) (v := 11) hp (fun hx hp => ?_) (fun h13_11 hp => ?_)
  · refine pv_tableIn (tgt := 84) C hx dX11_pops_13 (by decide) (by decide) (off := 71) rfl (by decide) ?_
    refine pv_iconst C hp dX11_pops_84 (by decide) (fun v12 hp => ?_)
    exact pv_iret C rfl hp hr dX11_pops_85
  refine pv_case (x := v2) (v := 12) hp (fun hx hp => ?_) (fun h13_12 hp => ?_)
  · refine pv_tableIn (tgt := 84) C hx dX11_pops_13 (by decide) (by decide) (off := 71) rfl (by decide) ?_
    refine pv_iconst C hp dX11_pops_84 (by decide) (fun v13 hp => ?_)
    exact pv_iret C rfl hp hr dX11_pops_85
  refine pv_case (x := v2) (v := 13) hp (fun hx hp => ?_) (fun h13_13 hp => ?_)
  · refine pv_tableIn (tgt := 95) C hx dX11_pops_13 (by decide) (by decide) (off := 82) rfl (by decide) ?_
    refine pv_aload_n C 1 dX11_pops_95 rfl ?_
    refine pv_getR C (ci := 10) (k := 6) gwX11 rfl (Nat.le_of_ble_eq_true rfl) fl_X11_22 rfl rfl rfl (j := 50) rfl rfl dX11_pops_96 ?_
    refine pv_iload_n C 2 dX11_pops_99 rfl ?_
    refine pv_iald C hp rfl rfl rfl (fun _ => rfl) dX11_pops_100 (fun v14 hp => ?_)
    exact pv_iret C rfl hp hr dX11_pops_101
  refine pv_case (x := v2) (v := 14) hp (fun hx hp => ?_) (fun h13_14 hp => ?_)
  · refine pv_tableIn (tgt := 102) C hx dX11_pops_13 (by decide) (by decide) (off := 89) rfl (by decide) ?_
    refine pv_iload_n C 0 dX11_pops_102 rfl ?_
    refine pv_iconst C hp dX11_pops_103 (by decide) (fun v15 hp => ?_)
    refine pv_iadd C hp dX11_pops_104 (fun v16 hp => ?_)
    exact pv_iret C rfl hp hr dX11_pops_105
  refine pv_case (x := v2) (v := 15) hp (fun hx hp => ?_) (fun h13_15 hp => ?_)
  · refine pv_tableIn (tgt := 106) C hx dX11_pops_13 (by decide) (by decide) (off := 93) rfl (by decide) ?_
    refine pv_aload_n C 1 dX11_pops_106 rfl ?_
    refine pv_iload_n C 0 dX11_pops_107 rfl ?_
    refine pv_callV C (As := [.int v1]) (rest := []) (b := 45) (kd1 := 1) hp (fun q1 h9 => c_X11_holes l D cy h9) wB_yX11_holes ml_X11_149 im_yX11_holes se_yX11_holes (ci := 10) rfl rfl rfl rfl rfl (Nat.le_of_ble_eq_true rfl) ⟨(Nat.le_of_ble_eq_true rfl), (Nat.le_of_ble_eq_true rfl)⟩ dX11_pops_108 rfl rfl (fun v17 σ V hp => ?_)
    exact pv_iret C rfl hp hr dX11_pops_111
  refine pv_tableOut (tgt := 112) C (by omega) dX11_pops_13 (by decide) ?_
  refine pv_iconst C hp dX11_pops_112 (by decide) (fun v18 hp => ?_)
  exact pv_iret C rfl hp hr dX11_pops_113
def q_X11_pushes (N : Nat) (x1 : Int) (V : pvM) : Option pvO :=
  aR V 48 480 x1 fun v1 =>
  lI (6) fun v2 =>
  if v1 ≠ v2 then
    lI (2) fun v3 =>
    if v1 = v3 then
      lI (0) fun v4 =>
      rT V v4
    else
    lI (7) fun v5 =>
    if v1 = v5 then
      lI (0) fun v6 =>
      rT V v6
    else
    lI (8) fun v7 =>
    if v1 = v7 then
      lI (0) fun v8 =>
      rT V v8
    else
    lI (9) fun v9 =>
    if v1 = v9 then
      lI (0) fun v10 =>
      rT V v10
    else
    lI (11) fun v11 =>
    if v1 = v11 then
      lI (0) fun v12 =>
      rT V v12
    else
    lI (12) fun v13 =>
    if v1 ≠ v13 then
      lI (1) fun v14 =>
      rT V v14
    else
    lI (0) fun v15 =>
    rT V v15
  else
  lI (2) fun v16 =>
  rT V v16
set_option maxHeartbeats 4000000 in
set_option maxRecDepth 100000 in
theorem c_X11_pushes (l : Launch) (D : va_G) (cy : Nat → ClassId) {N : Nat} {x1 : Int32} {V : pvM} {q : pvO} (hp : q_X11_pushes N x1.toInt V = some q) : pv_Met l yX11_pushes cX11_pushes 3 (some .int) 0 0 D cy V [.ref 45, .int x1] 1 q := by
  unfold q_X11_pushes at hp
  refine pv_ofW (by decide) (Nat.le_of_ble_eq_true rfl) (fun p e s m args below meth c ad A n0 σ C hr => ?_)
  refine pv_aload_n C 0 dX11_pushes_0 rfl ?_
  refine pv_getR C (ci := 10) (k := 4) gwX11 rfl (Nat.le_of_ble_eq_true rfl) fl_X11_16 rfl rfl rfl (j := 48) rfl rfl dX11_pushes_1 ?_
  refine pv_iload_n C 1 dX11_pushes_4 rfl ?_
  refine pv_iald C hp rfl rfl rfl (fun _ => rfl) dX11_pushes_5 (fun v1 hp => ?_)
  refine pv_istore_n (loc' := [(2, .int v1), (0, .ref 45), (1, .int x1)]) C dX11_pushes_6 (by decide) rfl ?_
  refine pv_iload_n C 0 dX11_pushes_7 rfl ?_
  refine pv_bipush C hp dX11_pushes_8 (by decide) (fun v2 hp => ?_)
  refine pv_icmp_ne (tgt := 15) C hp dX11_pushes_10 (by decide) (fun hp => ?_) (fun hp => ?_)
  · refine pv_iload_n C 0 dX11_pushes_15 rfl ?_
    refine pv_iconst C hp dX11_pushes_16 (by decide) (fun v3 hp => ?_)
    refine pv_icmp_eq (tgt := 50) C hp dX11_pushes_17 (by decide) (fun hp => ?_) (fun hp => ?_)
    · refine pv_iconst C hp dX11_pushes_50 (by decide) (fun v4 hp => ?_)
      refine pv_goto (tgt := 55) C dX11_pushes_51 (by decide) ?_
      exact pv_iret C rfl hp hr dX11_pushes_55
    · refine pv_iload_n C 0 dX11_pushes_20 rfl ?_
      refine pv_bipush C hp dX11_pushes_21 (by decide) (fun v5 hp => ?_)
      refine pv_icmp_eq (tgt := 50) C hp dX11_pushes_23 (by decide) (fun hp => ?_) (fun hp => ?_)
      · refine pv_iconst C hp dX11_pushes_50 (by decide) (fun v6 hp => ?_)
        refine pv_goto (tgt := 55) C dX11_pushes_51 (by decide) ?_
        exact pv_iret C rfl hp hr dX11_pushes_55
      · refine pv_iload_n C 0 dX11_pushes_26 rfl ?_
        refine pv_bipush C hp dX11_pushes_27 (by decide) (fun v7 hp => ?_)
        refine pv_icmp_eq (tgt := 50) C hp dX11_pushes_29 (by decide) (fun hp => ?_) (fun hp => ?_)
        · refine pv_iconst C hp dX11_pushes_50 (by decide) (fun v8 hp => ?_)
          refine pv_goto (tgt := 55) C dX11_pushes_51 (by decide) ?_
          exact pv_iret C rfl hp hr dX11_pushes_55
        · refine pv_iload_n C 0 dX11_pushes_32 rfl ?_
          refine pv_bipush C hp dX11_pushes_33 (by decide) (fun v9 hp => ?_)
          refine pv_icmp_eq (tgt := 50) C hp dX11_pushes_35 (by decide) (fun hp => ?_) (fun hp => ?_)
          · refine pv_iconst C hp dX11_pushes_50 (by decide) (fun v10 hp => ?_)
            refine pv_goto (tgt := 55) C dX11_pushes_51 (by decide) ?_
            exact pv_iret C rfl hp hr dX11_pushes_55
          · refine pv_iload_n C 0 dX11_pushes_38 rfl ?_
            refine pv_bipush C hp dX11_pushes_39 (by decide) (fun v11 hp => ?_)
            refine pv_icmp_eq (tgt := 50) C hp dX11_pushes_41 (by decide) (fun hp => ?_) (fun hp => ?_)
            · refine pv_iconst C hp dX11_pushes_50 (by decide) (fun v12 hp => ?_)
              refine pv_goto (tgt := 55) C dX11_pushes_51 (by decide) ?_
              exact pv_iret C rfl hp hr dX11_pushes_55
            · refine pv_iload_n C 0 dX11_pushes_44 rfl ?_
              refine pv_bipush C hp dX11_pushes_45 (by decide) (fun v13 hp => ?_)
              refine pv_icmp_ne (tgt := 54) C hp dX11_pushes_47 (by decide) (fun hp => ?_) (fun hp => ?_)
              · refine pv_iconst C hp dX11_pushes_54 (by decide) (fun v14 hp => ?_)
                exact pv_iret C rfl hp hr dX11_pushes_55
              · refine pv_iconst C hp dX11_pushes_50 (by decide) (fun v15 hp => ?_)
                refine pv_goto (tgt := 55) C dX11_pushes_51 (by decide) ?_
                exact pv_iret C rfl hp hr dX11_pushes_55
  · refine pv_iconst C hp dX11_pushes_13 (by decide) (fun v16 hp => ?_)
    exact pv_iret C rfl hp hr dX11_pushes_14
def q_X11_meet_b23 (N : Nat) (x1 : Int) (x2 : Int) (x3 : Int) (V : pvM) : Option pvO :=
  aR V 53 40 x1 fun v1 =>
  if v1 = x2 then
    gR V 45 13 fun v2 =>
    gW V 45 13 v2 fun V =>
    rT V 0
  else
  gR V 45 13 fun v3 =>
  if 0 ≤ v3 then
    gR V 45 13 fun v4 =>
    gW V 45 13 v4 fun V =>
    rT V 0
  else
  gW V 45 13 x3 fun V =>
  rT V 0
set_option maxHeartbeats 4000000 in
set_option maxRecDepth 100000 in
theorem w_X11_meet_b23 {p : Program} {l : Launch} {e : Env} {s : State} {m : MethodId} {args : Array Value} {below : List Frame} {meth : Method} {c : Code} {D : va_G} {cy : Nat → ClassId} {A : Nat → Prop} {n0 : Nat} {ad0 : Nat → Nat} {V0 : pvM} {q : pvO} (C : pz_C p s m args meth c cX11_meet 4 yX11_meet.cls D cy A) (hr : meth.sig.returnType = none) {N : Nat} {x1 : Int32} {x2 : Int32} {x3 : Int32} {σ : pzS} {V : pvM} (hp : q_X11_meet_b23 N x1.toInt x2.toInt x3.toInt V = some q) : pv_W p l e 0 0 s m args below meth c 4 D cy A n0 ad0 (pv_Q below D cy n0 ad0 0 V0 q A args s) V0 σ V 23 [(0, .ref 45), (1, .int x1), (2, .int x2), (3, .int x3)] [] := by
  unfold q_X11_meet_b23 at hp
  refine pv_aload_n C 0 dX11_meet_23 rfl ?_
  refine pv_aload_n C 0 dX11_meet_24 rfl ?_
  refine pv_getR C (ci := 10) (k := 11) gwX11 rfl (Nat.le_of_ble_eq_true rfl) fl_X11_31 rfl rfl rfl (j := 53) rfl rfl dX11_meet_25 ?_
  refine pv_iload_n C 1 dX11_meet_28 rfl ?_
  refine pv_iald C hp rfl rfl rfl (fun _ => rfl) dX11_meet_29 (fun v1 hp => ?_)
  refine pv_iload_n C 2 dX11_meet_30 rfl ?_
  refine pv_icmp_eq (tgt := 45) C hp dX11_meet_31 (by decide) (fun hp => ?_) (fun hp => ?_)
  · refine pv_aload_n C 0 dX11_meet_45 rfl ?_
    refine pv_getI C (ci := 10) (k := 13) gwX11 rfl (Nat.le_of_ble_eq_true rfl) fl_X11_153 rfl rfl hp rfl rfl dX11_meet_46 (fun v2 hp => ?_)
    refine pv_putI C (ci := 10) (k := 13) gwX11 rfl (Nat.le_of_ble_eq_true rfl) fl_X11_153 rfl rfl tyX11_ok nmX11 hp rfl rfl rfl (by decide +kernel) dX11_meet_49 (fun V hp => ?_)
    exact pv_vret C rfl hp hr dX11_meet_52
  · refine pv_aload_n C 0 dX11_meet_34 rfl ?_
    refine pv_getI C (ci := 10) (k := 13) gwX11 rfl (Nat.le_of_ble_eq_true rfl) fl_X11_153 rfl rfl hp rfl rfl dX11_meet_35 (fun v3 hp => ?_)
    refine pv_if_ge (tgt := 45) C hp dX11_meet_38 (by decide) (fun hp => ?_) (fun hp => ?_)
    · refine pv_aload_n C 0 dX11_meet_45 rfl ?_
      refine pv_getI C (ci := 10) (k := 13) gwX11 rfl (Nat.le_of_ble_eq_true rfl) fl_X11_153 rfl rfl hp rfl rfl dX11_meet_46 (fun v4 hp => ?_)
      refine pv_putI C (ci := 10) (k := 13) gwX11 rfl (Nat.le_of_ble_eq_true rfl) fl_X11_153 rfl rfl tyX11_ok nmX11 hp rfl rfl rfl (by decide +kernel) dX11_meet_49 (fun V hp => ?_)
      exact pv_vret C rfl hp hr dX11_meet_52
    · refine pv_iload_n C 3 dX11_meet_41 rfl ?_
      refine pv_goto (tgt := 49) C dX11_meet_42 (by decide) ?_
      refine pv_putI C (ci := 10) (k := 13) gwX11 rfl (Nat.le_of_ble_eq_true rfl) fl_X11_153 rfl rfl tyX11_ok nmX11 hp rfl rfl rfl (by decide +kernel) dX11_meet_49 (fun V hp => ?_)
      exact pv_vret C rfl hp hr dX11_meet_52
def q_X11_meet (N : Nat) (x1 : Int) (x2 : Int) (x3 : Int) (V : pvM) : Option pvO :=
  aR V 53 40 x1 fun v5 =>
  if 0 ≤ v5 then
    q_X11_meet_b23 N x1 x2 x3 V
  else
  aW V 53 40 x1 x2 fun V =>
  lI (1) fun v6 =>
  bT v6 <| aW V 54 40 x1 v6 fun V =>
  q_X11_meet_b23 N x1 x2 x3 V
set_option maxHeartbeats 4000000 in
set_option maxRecDepth 100000 in
theorem c_X11_meet (l : Launch) (D : va_G) (cy : Nat → ClassId) {N : Nat} {x1 : Int32} {x2 : Int32} {x3 : Int32} {V : pvM} {q : pvO} (hp : q_X11_meet N x1.toInt x2.toInt x3.toInt V = some q) : pv_Met l yX11_meet cX11_meet 4 none 0 0 D cy V [.ref 45, .int x1, .int x2, .int x3] 0 q := by
  unfold q_X11_meet at hp
  refine pv_ofW (by decide) (Nat.le_of_ble_eq_true rfl) (fun p e s m args below meth c ad A n0 σ C hr => ?_)
  refine pv_aload_n C 0 dX11_meet_0 rfl ?_
  refine pv_getR C (ci := 10) (k := 11) gwX11 rfl (Nat.le_of_ble_eq_true rfl) fl_X11_31 rfl rfl rfl (j := 53) rfl rfl dX11_meet_1 ?_
  refine pv_iload_n C 1 dX11_meet_4 rfl ?_
  refine pv_iald C hp rfl rfl rfl (fun _ => rfl) dX11_meet_5 (fun v5 hp => ?_)
  refine pv_if_ge (tgt := 23) C hp dX11_meet_6 (by decide) (fun hp => ?_) (fun hp => ?_)
  · exact w_X11_meet_b23 C hr hp
  · refine pv_aload_n C 0 dX11_meet_9 rfl ?_
    refine pv_getR C (ci := 10) (k := 11) gwX11 rfl (Nat.le_of_ble_eq_true rfl) fl_X11_31 rfl rfl rfl (j := 53) rfl rfl dX11_meet_10 ?_
    refine pv_iload_n C 1 dX11_meet_13 rfl ?_
    refine pv_iload_n C 2 dX11_meet_14 rfl ?_
    refine pv_iast C hp rfl rfl rfl (fun _ => rfl) dX11_meet_15 (fun V hp => ?_)
    refine pv_aload_n C 0 dX11_meet_16 rfl ?_
    refine pv_getR C (ci := 10) (k := 12) gwX11 rfl (Nat.le_of_ble_eq_true rfl) fl_X11_34 rfl rfl rfl (j := 54) rfl rfl dX11_meet_17 ?_
    refine pv_iload_n C 1 dX11_meet_20 rfl ?_
    refine pv_iconst C hp dX11_meet_21 (by decide) (fun v6 hp => ?_)
    refine pv_zast C hp rfl rfl rfl (fun _ => rfl) dX11_meet_22 (fun V hp => ?_)
    exact w_X11_meet_b23 C hr hp
def q_X11_least_b2 (N : Nat) : Nat → Int → Int → pvM → Option pvO
  | 0 => fun _ _ _ => none
  | n + 1 => fun x1 x2 V =>
    if x1 ≤ x2 then
      lI (-1) fun v1 =>
      rT V v1
    else
    aR V 54 40 x2 fun v2 =>
    if v2 = 0 then
      lI (pv_w (x2 + (1))) fun v3 =>
      q_X11_least_b2 N n x1 v3 V
    else
    rT V x2
set_option maxHeartbeats 4000000 in
set_option maxRecDepth 100000 in
theorem w_X11_least_b2 {p : Program} {l : Launch} {e : Env} {s : State} {m : MethodId} {args : Array Value} {below : List Frame} {meth : Method} {c : Code} {D : va_G} {cy : Nat → ClassId} {A : Nat → Prop} {n0 : Nat} {ad0 : Nat → Nat} {V0 : pvM} {q : pvO} (C : pz_C p s m args meth c cX11_least 3 yX11_least.cls D cy A) (hr : meth.sig.returnType = (some .int)) {N : Nat} : ∀ (n : Nat) (x1 : Int32) (x2 : Int32) (σ : pzS) (V : pvM), q_X11_least_b2 N n x1.toInt x2.toInt V = some q → pv_W p l e 0 0 s m args below meth c 3 D cy A n0 ad0 (pv_Q below D cy n0 ad0 1 V0 q A args s) V0 σ V 2 [(0, .ref 45), (1, .int x1), (2, .int x2)] [] := by
  intro n
  induction n with
  | zero =>
    intro x1 x2 σ V hp
    simp only [q_X11_least_b2] at hp
    cases hp
  | succ n ih =>
    intro x1 x2 σ V hp
    simp only [q_X11_least_b2] at hp
    refine pv_iload_n C 2 dX11_least_2 rfl ?_
    refine pv_iload_n C 1 dX11_least_3 rfl ?_
    refine pv_icmp_ge (tgt := 24) C hp dX11_least_4 (by decide) (fun hp => ?_) (fun hp => ?_)
    · refine pv_iconst C hp dX11_least_24 (by decide) (fun v1 hp => ?_)
      exact pv_iret C rfl hp hr dX11_least_25
    · refine pv_aload_n C 0 dX11_least_7 rfl ?_
      refine pv_getR C (ci := 10) (k := 12) gwX11 rfl (Nat.le_of_ble_eq_true rfl) fl_X11_34 rfl rfl rfl (j := 54) rfl rfl dX11_least_8 ?_
      refine pv_iload_n C 2 dX11_least_11 rfl ?_
      refine pv_zald C hp rfl rfl rfl (fun _ => rfl) dX11_least_12 (fun v2 hp => ?_)
      refine pv_if_eq (tgt := 18) C hp dX11_least_13 (by decide) (fun hp => ?_) (fun hp => ?_)
      · refine pv_iinc (L := fun v3 => [(2, .int v3), (0, .ref 45), (1, .int x1)]) C 2 hp dX11_least_18 (by decide) rfl (by decide) (fun _ => rfl) (fun v3 hp => ?_)
        refine pv_goto (tgt := 2) C dX11_least_21 (by decide) ?_
        refine pv_sub [1, 2, 0] rfl ?_
        exact ih _ _ _ _ hp
      · refine pv_iload_n C 2 dX11_least_16 rfl ?_
        exact pv_iret C rfl hp hr dX11_least_17
def q_X11_least (N : Nat) (x1 : Int) (V : pvM) : Option pvO :=
  lI (0) fun v4 =>
  q_X11_least_b2 N N x1 v4 V
set_option maxHeartbeats 4000000 in
set_option maxRecDepth 100000 in
theorem c_X11_least (l : Launch) (D : va_G) (cy : Nat → ClassId) {N : Nat} {x1 : Int32} {V : pvM} {q : pvO} (hp : q_X11_least N x1.toInt V = some q) : pv_Met l yX11_least cX11_least 3 (some .int) 0 0 D cy V [.ref 45, .int x1] 1 q := by
  unfold q_X11_least at hp
  refine pv_ofW (by decide) (Nat.le_of_ble_eq_true rfl) (fun p e s m args below meth c ad A n0 σ C hr => ?_)
  refine pv_iconst C hp dX11_least_0 (by decide) (fun v4 hp => ?_)
  refine pv_istore_n (loc' := [(2, .int v4), (0, .ref 45), (1, .int x1)]) C dX11_least_1 (by decide) rfl ?_
  refine pv_sub [1, 2, 0] rfl ?_
  exact w_X11_least_b2 C hr N _ _ _ _ hp
