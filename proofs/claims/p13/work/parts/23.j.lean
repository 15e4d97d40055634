def q_X4_outputLength (N : Nat) (V : pvM) : Option pvO :=
  cL (q_X8_outputLength N V) fun v1 V =>
  rT V v1
set_option maxHeartbeats 4000000 in
set_option maxRecDepth 100000 in
theorem c_X4_outputLength (l : Launch) (D : va_G) (cy : Nat → ClassId) {N : Nat} {V : pvM} {q : pvO} (hp : q_X4_outputLength N V = some q) : pv_Met l yX4_outputLength cX4_outputLength 1 (some .int) 1 20 D cy V [.ref 28] 1 q := by
  unfold q_X4_outputLength at hp
  refine pv_ofW (by decide) (Nat.le_of_ble_eq_true rfl) (fun p e s m args below meth c ad A n0 σ C hr => ?_)
  refine pv_aload_n C 0 dX4_outputLength_0 rfl ?_
  refine pv_getR C (ci := 3) (k := 4) gwX4 rfl (Nat.le_of_ble_eq_true rfl) fl_X4_28 rfl rfl rfl (j := 39) rfl rfl dX4_outputLength_1 ?_
  refine pv_callV C (As := []) (rest := []) (b := 39) (kd1 := 1) hp (fun q1 h9 => c_X8_outputLength l D cy h9) wB_yX8_outputLength ml_X4_48 im_yX8_outputLength se_yX8_outputLength (ci := 7) rfl rfl rfl rfl rfl (Nat.le_of_ble_eq_true rfl) ⟨(Nat.le_of_ble_eq_true rfl), (Nat.le_of_ble_eq_true rfl)⟩ dX4_outputLength_4 rfl rfl (fun v1 σ V hp => ?_)
  exact pv_iret C rfl hp hr dX4_outputLength_7
def q_X4_outputAt (N : Nat) (x1 : Int) (V : pvM) : Option pvO :=
  cL (q_X8_outputAt N x1 V) fun v1 V =>
  rT V v1
set_option maxHeartbeats 4000000 in
set_option maxRecDepth 100000 in
theorem c_X4_outputAt (l : Launch) (D : va_G) (cy : Nat → ClassId) {N : Nat} {x1 : Int32} {V : pvM} {q : pvO} (hp : q_X4_outputAt N x1.toInt V = some q) : pv_Met l yX4_outputAt cX4_outputAt 2 (some .int) 1 21 D cy V [.ref 28, .int x1] 1 q := by
  unfold q_X4_outputAt at hp
  refine pv_ofW (by decide) (Nat.le_of_ble_eq_true rfl) (fun p e s m args below meth c ad A n0 σ C hr => ?_)
  refine pv_aload_n C 0 dX4_outputAt_0 rfl ?_
  refine pv_getR C (ci := 3) (k := 4) gwX4 rfl (Nat.le_of_ble_eq_true rfl) fl_X4_28 rfl rfl rfl (j := 39) rfl rfl dX4_outputAt_1 ?_
  refine pv_iload_n C 1 dX4_outputAt_4 rfl ?_
  refine pv_callV C (As := [.int x1]) (rest := []) (b := 39) (kd1 := 1) hp (fun q1 h9 => c_X8_outputAt l D cy h9) wB_yX8_outputAt ml_X4_52 im_yX8_outputAt se_yX8_outputAt (ci := 7) rfl rfl rfl rfl rfl (Nat.le_of_ble_eq_true rfl) ⟨(Nat.le_of_ble_eq_true rfl), (Nat.le_of_ble_eq_true rfl)⟩ dX4_outputAt_5 rfl rfl (fun v1 σ V hp => ?_)
  exact pv_iret C rfl hp hr dX4_outputAt_8
def q_X4_stepTotal (N : Nat) (V : pvM) : Option pvO :=
  gR V 28 7 fun v1 =>
  rT V v1
set_option maxHeartbeats 4000000 in
set_option maxRecDepth 100000 in
theorem c_X4_stepTotal (l : Launch) (D : va_G) (cy : Nat → ClassId) {N : Nat} {V : pvM} {q : pvO} (hp : q_X4_stepTotal N V = some q) : pv_Met l yX4_stepTotal cX4_stepTotal 1 (some .int) 0 0 D cy V [.ref 28] 1 q := by
  unfold q_X4_stepTotal at hp
  refine pv_ofW (by decide) (Nat.le_of_ble_eq_true rfl) (fun p e s m args below meth c ad A n0 σ C hr => ?_)
  refine pv_aload_n C 0 dX4_stepTotal_0 rfl ?_
  refine pv_getI C (ci := 3) (k := 7) gwX4 rfl (Nat.le_of_ble_eq_true rfl) fl_X4_56 rfl rfl hp rfl rfl dX4_stepTotal_1 (fun v1 hp => ?_)
  exact pv_iret C rfl hp hr dX4_stepTotal_4
def q_X4_returnedKind (N : Nat) (V : pvM) : Option pvO :=
  gR V 28 9 fun v1 =>
  cL (q_X10_kindOf N v1 V) fun v2 V =>
  rT V v2
set_option maxHeartbeats 4000000 in
set_option maxRecDepth 100000 in
theorem c_X4_returnedKind (l : Launch) (D : va_G) (cy : Nat → ClassId) {N : Nat} {V : pvM} {q : pvO} (hp : q_X4_returnedKind N V = some q) : pv_Met l yX4_returnedKind cX4_returnedKind 1 (some .int) 1 21 D cy V [.ref 28] 1 q := by
  unfold q_X4_returnedKind at hp
  refine pv_ofW (by decide) (Nat.le_of_ble_eq_true rfl) (fun p e s m args below meth c ad A n0 σ C hr => ?_)
  refine pv_aload_n C 0 dX4_returnedKind_0 rfl ?_
  refine pv_getJ C (ci := 3) (k := 9) gwX4 rfl (Nat.le_of_ble_eq_true rfl) fl_X4_32 rfl rfl hp rfl rfl dX4_returnedKind_1 (fun v1 hp => ?_)
  refine pv_callSN C (As := [.long v1]) (rest := []) (kd1 := 1) hp (fun q1 h9 => c_X10_kindOf l D cy h9) wB_yX10_kindOf (show (RX4, 60, yX10_kindOf, "FeatureDesugarer") ∈ pz_nests by decide +kernel) sm_yX10_kindOf rfl rfl (Nat.le_of_ble_eq_true rfl) ⟨(Nat.le_of_ble_eq_true rfl), (Nat.le_of_ble_eq_true rfl)⟩ dX4_returnedKind_4 rfl rfl (fun v2 σ V hp => ?_)
  exact pv_iret C rfl hp hr dX4_returnedKind_7
def q_X4_returnedNumber (N : Nat) (V : pvM) : Option pvO :=
  cL (q_X4_returnedKind N V) fun v1 V =>
  lI (1) fun v2 =>
  if v1 ≠ v2 then
    lI (0) fun v3 =>
    rT V v3
  else
  gR V 28 9 fun v4 =>
  cL (q_X10_contentOf N v4 V) fun v5 V =>
  rT V v5
set_option maxHeartbeats 4000000 in
set_option maxRecDepth 100000 in
theorem c_X4_returnedNumber (l : Launch) (D : va_G) (cy : Nat → ClassId) {N : Nat} {V : pvM} {q : pvO} (hp : q_X4_returnedNumber N V = some q) : pv_Met l yX4_returnedNumber cX4_returnedNumber 1 (some .int) 2 41 D cy V [.ref 28] 1 q := by
  unfold q_X4_returnedNumber at hp
  refine pv_ofW (by decide) (Nat.le_of_ble_eq_true rfl) (fun p e s m args below meth c ad A n0 σ C hr => ?_)
  refine pv_aload_n C 0 dX4_returnedNumber_0 rfl ?_
  refine pv_callV C (As := []) (rest := []) (b := 28) (kd1 := 1) hp (fun q1 h9 => c_X4_returnedKind l D cy h9) wB_yX4_returnedKind ml_X4_64 im_yX4_returnedKind se_yX4_returnedKind (ci := 3) rfl rfl rfl rfl rfl (Nat.le_of_ble_eq_true rfl) ⟨(Nat.le_of_ble_eq_true rfl), (Nat.le_of_ble_eq_true rfl)⟩ dX4_returnedNumber_1 rfl rfl (fun v1 σ V hp => ?_)
  refine pv_iconst C hp dX4_returnedNumber_4 (by decide) (fun v2 hp => ?_)
  refine pv_icmp_ne (tgt := 18) C hp dX4_returnedNumber_5 (by decide) (fun hp => ?_) (fun hp => ?_)
  · refine pv_iconst C hp dX4_returnedNumber_18 (by decide) (fun v3 hp => ?_)
    exact pv_iret C rfl hp hr dX4_returnedNumber_19
  · refine pv_aload_n C 0 dX4_returnedNumber_8 rfl ?_
    refine pv_getJ C (ci := 3) (k := 9) gwX4 rfl (Nat.le_of_ble_eq_true rfl) fl_X4_32 rfl rfl hp rfl rfl dX4_returnedNumber_9 (fun v4 hp => ?_)
    refine pv_callSN C (As := [.long v4]) (rest := []) (kd1 := 1) hp (fun q1 h9 => c_X10_contentOf l D cy h9) wB_yX10_contentOf (show (RX4, 67, yX10_contentOf, "FeatureDesugarer") ∈ pz_nests by decide +kernel) sm_yX10_contentOf rfl rfl (Nat.le_of_ble_eq_true rfl) ⟨(Nat.le_of_ble_eq_true rfl), (Nat.le_of_ble_eq_true rfl)⟩ dX4_returnedNumber_12 rfl rfl (fun v5 σ V hp => ?_)
    refine pv_goto (tgt := 19) C dX4_returnedNumber_15 (by decide) ?_
    exact pv_iret C rfl hp hr dX4_returnedNumber_19
def q_X4_faultUnless (N : Nat) (x1 : Int) (x2 : Int) (V : pvM) : Option pvO :=
  if x1 ≠ 0 then
    rT V 0
  else
  gW V 28 8 x2 fun V =>
  rT V 0
set_option maxHeartbeats 4000000 in
set_option maxRecDepth 100000 in
theorem c_X4_faultUnless (l : Launch) (D : va_G) (cy : Nat → ClassId) {N : Nat} {x1 : Int32} {x2 : Int32} {V : pvM} {q : pvO} (hp : q_X4_faultUnless N x1.toInt x2.toInt V = some q) : pv_Met l yX4_faultUnless cX4_faultUnless 3 none 0 0 D cy V [.ref 28, .int x1, .int x2] 0 q := by
  unfold q_X4_faultUnless at hp
  refine pv_ofW (by decide) (Nat.le_of_ble_eq_true rfl) (fun p e s m args below meth c ad A n0 σ C hr => ?_)
  refine pv_iload_n C 1 dX4_faultUnless_0 rfl ?_
  refine pv_if_ne (tgt := 9) C hp dX4_faultUnless_1 (by decide) (fun hp => ?_) (fun hp => ?_)
  · exact pv_vret C rfl hp hr dX4_faultUnless_9
  · refine pv_aload_n C 0 dX4_faultUnless_4 rfl ?_
    refine pv_iload_n C 2 dX4_faultUnless_5 rfl ?_
    refine pv_putI C (ci := 3) (k := 8) gwX4 rfl (Nat.le_of_ble_eq_true rfl) fl_X4_78 rfl rfl tyX4_ok nmX4 hp rfl rfl rfl (by decide +kernel) dX4_faultUnless_6 (fun V hp => ?_)
    exact pv_vret C rfl hp hr dX4_faultUnless_9
def q_X4_beginFunction (N : Nat) (x1 : Int) (V : pvM) : Option pvO :=
  gR V 28 6 fun v1 =>
  lI (30) fun v2 =>
  if v1 ≠ v2 then
    gR V 28 6 fun v3 =>
    lI (1) fun v4 =>
    lI (pv_w (v3 + v4)) fun v5 =>
    gW V 28 6 v5 fun V =>
    cL (q_X1_open N x1 V) fun _ V =>
    lI (1) fun v6 =>
    bT v6 (rT V v6)
  else
  lI (3) fun v7 =>
  gW V 28 8 v7 fun V =>
  lI (0) fun v8 =>
  bT v8 (rT V v8)
set_option maxHeartbeats 4000000 in
set_option maxRecDepth 100000 in
theorem c_X4_beginFunction (l : Launch) (D : va_G) (cy : Nat → ClassId) {N : Nat} {x1 : Int32} {V : pvM} {q : pvO} (hp : q_X4_beginFunction N x1.toInt V = some q) : pv_Met l yX4_beginFunction cX4_beginFunction 2 (some .boolean) 1 23 D cy V [.ref 28, .int x1] 1 q := by
  unfold q_X4_beginFunction at hp
  refine pv_ofW (by decide) (Nat.le_of_ble_eq_true rfl) (fun p e s m args below meth c ad A n0 σ C hr => ?_)
  refine pv_aload_n C 0 dX4_beginFunction_0 rfl ?_
  refine pv_getI C (ci := 3) (k := 6) gwX4 rfl (Nat.le_of_ble_eq_true rfl) fl_X4_75 rfl rfl hp rfl rfl dX4_beginFunction_1 (fun v1 hp => ?_)
  refine pv_bipush C hp dX4_beginFunction_4 (by decide) (fun v2 hp => ?_)
  refine pv_icmp_ne (tgt := 16) C hp dX4_beginFunction_6 (by decide) (fun hp => ?_) (fun hp => ?_)
  · refine pv_aload_n C 0 dX4_beginFunction_16 rfl ?_
    refine pv_dup C dX4_beginFunction_17 rfl ?_
    refine pv_getI C (ci := 3) (k := 6) gwX4 rfl (Nat.le_of_ble_eq_true rfl) fl_X4_75 rfl rfl hp rfl rfl dX4_beginFunction_18 (fun v3 hp => ?_)
    refine pv_iconst C hp dX4_beginFunction_21 (by decide) (fun v4 hp => ?_)
    refine pv_iadd C hp dX4_beginFunction_22 (fun v5 hp => ?_)
    refine pv_putI C (ci := 3) (k := 6) gwX4 rfl (Nat.le_of_ble_eq_true rfl) fl_X4_75 rfl rfl tyX4_ok nmX4 hp rfl rfl rfl (by decide +kernel) dX4_beginFunction_23 (fun V hp => ?_)
    refine pv_aload_n C 0 dX4_beginFunction_26 rfl ?_
    refine pv_getR C (ci := 3) (k := 2) gwX4 rfl (Nat.le_of_ble_eq_true rfl) fl_X4_12 rfl rfl rfl (j := 29) rfl rfl dX4_beginFunction_27 ?_
    refine pv_iload_n C 1 dX4_beginFunction_30 rfl ?_
    refine pv_callV C (As := [.int x1]) (rest := []) (b := 29) (kd1 := 0) hp (fun q1 h9 => c_X1_open l D cy h9) wB_yX1_open ml_X4_220 im_yX1_open se_yX1_open (ci := 0) rfl rfl rfl rfl rfl (Nat.le_of_ble_eq_true rfl) ⟨(Nat.le_of_ble_eq_true rfl), (Nat.le_of_ble_eq_true rfl)⟩ dX4_beginFunction_31 rfl rfl (fun _ σ V hp => ?_)
    refine pv_iconst C hp dX4_beginFunction_34 (by decide) (fun v6 hp => ?_)
    exact pv_zret C rfl hp hr dX4_beginFunction_35
  · refine pv_aload_n C 0 dX4_beginFunction_9 rfl ?_
    refine pv_iconst C hp dX4_beginFunction_10 (by decide) (fun v7 hp => ?_)
    refine pv_putI C (ci := 3) (k := 8) gwX4 rfl (Nat.le_of_ble_eq_true rfl) fl_X4_78 rfl rfl tyX4_ok nmX4 hp rfl rfl rfl (by decide +kernel) dX4_beginFunction_11 (fun V hp => ?_)
    refine pv_iconst C hp dX4_beginFunction_14 (by decide) (fun v8 hp => ?_)
    exact pv_zret C rfl hp hr dX4_beginFunction_15
def q_X4_callFunction (N : Nat) (x1 : Int) (V : pvM) : Option pvO :=
  cL (q_X6_parametersOf N x1 V) fun v1 V =>
  cL (q_X1_take N v1 V) fun _ V =>
  cL (q_X4_beginFunction N x1 V) fun v2 V =>
  if v2 = 0 then
    rT V 0
  else
  lI (0) fun v3 =>
  cL (q_X1_setLocalsToTaken N v3 v1 V) fun _ V =>
  rT V 0
set_option maxHeartbeats 4000000 in
set_option maxRecDepth 100000 in
theorem c_X4_callFunction (l : Launch) (D : va_G) (cy : Nat → ClassId) {N : Nat} {x1 : Int32} {V : pvM} {q : pvO} (hp : q_X4_callFunction N x1.toInt V = some q) : pv_Met l yX4_callFunction cX4_callFunction 3 none 2 46 D cy V [.ref 28, .int x1] 0 q := by
  unfold q_X4_callFunction at hp
  refine pv_ofW (by decide) (Nat.le_of_ble_eq_true rfl) (fun p e s m args below meth c ad A n0 σ C hr => ?_)
  refine pv_aload_n C 0 dX4_callFunction_0 rfl ?_
  refine pv_getR C (ci := 3) (k := 0) gwX4 rfl (Nat.le_of_ble_eq_true rfl) fl_X4_36 rfl rfl rfl (j := 1) rfl rfl dX4_callFunction_1 ?_
  refine pv_iload_n C 1 dX4_callFunction_4 rfl ?_
  refine pv_callV C (As := [.int x1]) (rest := []) (b := 1) (kd1 := 1) hp (fun q1 h9 => c_X6_parametersOf l D cy h9) wB_yX6_parametersOf ml_X4_85 im_yX6_parametersOf se_yX6_parametersOf (ci := 5) rfl rfl rfl rfl rfl (Nat.le_of_ble_eq_true rfl) ⟨(Nat.le_of_ble_eq_true rfl), (Nat.le_of_ble_eq_true rfl)⟩ dX4_callFunction_5 rfl rfl (fun v1 σ V hp => ?_)
  refine pv_istore_n (loc' := [(2, .int v1), (0, .ref 28), (1, .int x1)]) C dX4_callFunction_8 (by decide) rfl ?_
  refine pv_aload_n C 1 dX4_callFunction_9 rfl ?_
  refine pv_getR C (ci := 3) (k := 2) gwX4 rfl (Nat.le_of_ble_eq_true rfl) fl_X4_12 rfl rfl rfl (j := 29) rfl rfl dX4_callFunction_10 ?_
  refine pv_iload_n C 0 dX4_callFunction_13 rfl ?_
  refine pv_callV C (As := [.int v1]) (rest := []) (b := 29) (kd1 := 0) hp (fun q1 h9 => c_X1_take l D cy h9) wB_yX1_take ml_X4_175 im_yX1_take se_yX1_take (ci := 0) rfl rfl rfl rfl rfl (Nat.le_of_ble_eq_true rfl) ⟨(Nat.le_of_ble_eq_true rfl), (Nat.le_of_ble_eq_true rfl)⟩ dX4_callFunction_14 rfl rfl (fun _ σ V hp => ?_)
  refine pv_aload_n C 1 dX4_callFunction_17 rfl ?_
  refine pv_iload_n C 2 dX4_callFunction_18 rfl ?_
  refine pv_callV C (As := [.int x1]) (rest := []) (b := 28) (kd1 := 1) hp (fun q1 h9 => c_X4_beginFunction l D cy h9) wB_yX4_beginFunction ml_X4_81 im_yX4_beginFunction se_yX4_beginFunction (ci := 3) rfl rfl rfl rfl rfl (Nat.le_of_ble_eq_true rfl) ⟨(Nat.le_of_ble_eq_true rfl), (Nat.le_of_ble_eq_true rfl)⟩ dX4_callFunction_19 rfl rfl (fun v2 σ V hp => ?_)
  refine pv_if_eq (tgt := 34) C hp dX4_callFunction_22 (by decide) (fun hp => ?_) (fun hp => ?_)
  · exact pv_vret C rfl hp hr dX4_callFunction_34
  · refine pv_aload_n C 1 dX4_callFunction_25 rfl ?_
    refine pv_getR C (ci := 3) (k := 2) gwX4 rfl (Nat.le_of_ble_eq_true rfl) fl_X4_12 rfl rfl rfl (j := 29) rfl rfl dX4_callFunction_26 ?_
    refine pv_iconst C hp dX4_callFunction_29 (by decide) (fun v3 hp => ?_)
    refine pv_iload_n C 0 dX4_callFunction_30 rfl ?_
    refine pv_callV C (As := [.int v3, .int v1]) (rest := []) (b := 29) (kd1 := 0) hp (fun q1 h9 => c_X1_setLocalsToTaken l D cy h9) wB_yX1_setLocalsToTaken ml_X4_223 im_yX1_setLocalsToTaken se_yX1_setLocalsToTaken (ci := 0) rfl rfl rfl rfl rfl (Nat.le_of_ble_eq_true rfl) ⟨(Nat.le_of_ble_eq_true rfl), (Nat.le_of_ble_eq_true rfl)⟩ dX4_callFunction_31 rfl rfl (fun _ σ V hp => ?_)
    exact pv_vret C rfl hp hr dX4_callFunction_34
def q_X4_giveBack_b35 (N : Nat) (x1 : Int) (V : pvM) : Option pvO :=
  cL (q_X1_close N V) fun _ V =>
  cL (q_X1_areOpen N V) fun v1 V =>
  if v1 = 0 then
    gW V 28 9 x1 fun V =>
    rT V 0
  else
  cL (q_X1_push N x1 V) fun _ V =>
  rT V 0
set_option maxHeartbeats 4000000 in
set_option maxRecDepth 100000 in
theorem w_X4_giveBack_b35 {p : Program} {l : Launch} {e : Env} {s : State} {m : MethodId} {args : Array Value} {below : List Frame} {meth : Method} {c : Code} {D : va_G} {cy : Nat → ClassId} {A : Nat → Prop} {n0 : Nat} {ad0 : Nat → Nat} {V0 : pvM} {q : pvO} (C : pz_C p s m args meth c cX4_giveBack 3 yX4_giveBack.cls D cy A) (hr : meth.sig.returnType = none) {N : Nat} {x1 : Int64} {σ : pzS} {V : pvM} (hp : q_X4_giveBack_b35 N x1.toInt V = some q) : pv_W p l e 2 44 s m args below meth c 3 D cy A n0 ad0 (pv_Q below D cy n0 ad0 0 V0 q A args s) V0 σ V 35 [(0, .ref 28), (1, .long x1)] [] := by
  unfold q_X4_giveBack_b35 at hp
  refine pv_aload_n C 0 dX4_giveBack_35 rfl ?_
  refine pv_getR C (ci := 3) (k := 2) gwX4 rfl (Nat.le_of_ble_eq_true rfl) fl_X4_12 rfl rfl rfl (j := 29) rfl rfl dX4_giveBack_36 ?_
  refine pv_callV C (As := []) (rest := []) (b := 29) (kd1 := 0) hp (fun q1 h9 => c_X1_close l D cy h9) wB_yX1_close ml_X4_229 im_yX1_close se_yX1_close (ci := 0) rfl rfl rfl rfl rfl (Nat.le_of_ble_eq_true rfl) ⟨(Nat.le_of_ble_eq_true rfl), (Nat.le_of_ble_eq_true rfl)⟩ dX4_giveBack_39 rfl rfl (fun _ σ V hp => ?_)
  refine pv_aload_n C 0 dX4_giveBack_42 rfl ?_
  refine pv_getR C (ci := 3) (k := 2) gwX4 rfl (Nat.le_of_ble_eq_true rfl) fl_X4_12 rfl rfl rfl (j := 29) rfl rfl dX4_giveBack_43 ?_
  refine pv_callV C (As := []) (rest := []) (b := 29) (kd1 := 1) hp (fun q1 h9 => c_X1_areOpen l D cy h9) wB_yX1_areOpen ml_X4_99 im_yX1_areOpen se_yX1_areOpen (ci := 0) rfl rfl rfl rfl rfl (Nat.le_of_ble_eq_true rfl) ⟨(Nat.le_of_ble_eq_true rfl), (Nat.le_of_ble_eq_true rfl)⟩ dX4_giveBack_46 rfl rfl (fun v1 σ V hp => ?_)
  refine pv_if_eq (tgt := 63) C hp dX4_giveBack_49 (by decide) (fun hp => ?_) (fun hp => ?_)
  · refine pv_aload_n C 0 dX4_giveBack_63 rfl ?_
    refine pv_lload_n C 1 dX4_giveBack_64 rfl ?_
    refine pv_putJ C (ci := 3) (k := 9) gwX4 rfl (Nat.le_of_ble_eq_true rfl) fl_X4_32 rfl rfl tyX4_ok nmX4 hp rfl rfl rfl (by decide +kernel) dX4_giveBack_65 (fun V hp => ?_)
    exact pv_vret C rfl hp hr dX4_giveBack_68
  · refine pv_aload_n C 0 dX4_giveBack_52 rfl ?_
    refine pv_getR C (ci := 3) (k := 2) gwX4 rfl (Nat.le_of_ble_eq_true rfl) fl_X4_12 rfl rfl rfl (j := 29) rfl rfl dX4_giveBack_53 ?_
    refine pv_lload_n C 1 dX4_giveBack_56 rfl ?_
    refine pv_callV C (As := [.long x1]) (rest := []) (b := 29) (kd1 := 0) hp (fun q1 h9 => c_X1_push l D cy h9) wB_yX1_push ml_X4_143 im_yX1_push se_yX1_push (ci := 0) rfl rfl rfl rfl rfl (Nat.le_of_ble_eq_true rfl) ⟨(Nat.le_of_ble_eq_true rfl), (Nat.le_of_ble_eq_true rfl)⟩ dX4_giveBack_57 rfl rfl (fun _ σ V hp => ?_)
    refine pv_goto (tgt := 68) C dX4_giveBack_60 (by decide) ?_
    exact pv_vret C rfl hp hr dX4_giveBack_68
def q_X4_giveBack (N : Nat) (V : pvM) : Option pvO :=
  cL (q_X1_pop N V) fun v2 V =>
  cL (q_X1_unit N V) fun v3 V =>
  cL (q_X5_isMethod N v3 V) fun v4 V =>
  if v4 ≠ 0 then
    q_X4_giveBack_b35 N v2 V
  else
  gR V 28 6 fun v5 =>
  lI (1) fun v6 =>
  lI (pv_w (v5 - v6)) fun v7 =>
  gW V 28 6 v7 fun V =>
  q_X4_giveBack_b35 N v2 V
set_option maxHeartbeats 4000000 in
set_option maxRecDepth 100000 in
theorem c_X4_giveBack (l : Launch) (D : va_G) (cy : Nat → ClassId) {N : Nat} {V : pvM} {q : pvO} (hp : q_X4_giveBack N V = some q) : pv_Met l yX4_giveBack cX4_giveBack 3 none 2 44 D cy V [.ref 28] 0 q := by
  unfold q_X4_giveBack at hp
  refine pv_ofW (by decide) (Nat.le_of_ble_eq_true rfl) (fun p e s m args below meth c ad A n0 σ C hr => ?_)
  refine pv_aload_n C 0 dX4_giveBack_0 rfl ?_
  refine pv_getR C (ci := 3) (k := 2) gwX4 rfl (Nat.le_of_ble_eq_true rfl) fl_X4_12 rfl rfl rfl (j := 29) rfl rfl dX4_giveBack_1 ?_
  refine pv_callV C (As := []) (rest := []) (b := 29) (kd1 := 2) hp (fun q1 h9 => c_X1_pop l D cy h9) wB_yX1_pop ml_X4_151 im_yX1_pop se_yX1_pop (ci := 0) rfl rfl rfl rfl rfl (Nat.le_of_ble_eq_true rfl) ⟨(Nat.le_of_ble_eq_true rfl), (Nat.le_of_ble_eq_true rfl)⟩ dX4_giveBack_4 rfl rfl (fun v2 σ V hp => ?_)
  refine pv_lstore_n (loc' := [(1, .long v2), (0, .ref 28)]) C dX4_giveBack_7 (by decide) rfl ?_
  refine pv_aload_n C 1 dX4_giveBack_8 rfl ?_
  refine pv_getR C (ci := 3) (k := 1) gwX4 rfl (Nat.le_of_ble_eq_true rfl) fl_X4_40 rfl rfl rfl (j := 16) rfl rfl dX4_giveBack_9 ?_
  refine pv_aload_n C 1 dX4_giveBack_12 rfl ?_
  refine pv_getR C (ci := 3) (k := 2) gwX4 rfl (Nat.le_of_ble_eq_true rfl) fl_X4_12 rfl rfl rfl (j := 29) rfl rfl dX4_giveBack_13 ?_
  refine pv_callV C (As := []) (rest := [.ref 16]) (b := 29) (kd1 := 1) hp (fun q1 h9 => c_X1_unit l D cy h9) wB_yX1_unit ml_X4_106 im_yX1_unit se_yX1_unit (ci := 0) rfl rfl rfl rfl rfl (Nat.le_of_ble_eq_true rfl) ⟨(Nat.le_of_ble_eq_true rfl), (Nat.le_of_ble_eq_true rfl)⟩ dX4_giveBack_16 rfl rfl (fun v3 σ V hp => ?_)
  refine pv_callV C (As := [.int v3]) (rest := []) (b := 16) (kd1 := 1) hp (fun q1 h9 => c_X5_isMethod l D cy h9) wB_yX5_isMethod ml_X4_226 im_yX5_isMethod se_yX5_isMethod (ci := 4) rfl rfl rfl rfl rfl (Nat.le_of_ble_eq_true rfl) ⟨(Nat.le_of_ble_eq_true rfl), (Nat.le_of_ble_eq_true rfl)⟩ dX4_giveBack_19 rfl rfl (fun v4 σ V hp => ?_)
  refine pv_if_ne (tgt := 35) C hp dX4_giveBack_22 (by decide) (fun hp => ?_) (fun hp => ?_)
  · refine pv_sub [1, 0] rfl ?_
    exact w_X4_giveBack_b35 C hr hp
  · refine pv_aload_n C 1 dX4_giveBack_25 rfl ?_
    refine pv_dup C dX4_giveBack_26 rfl ?_
    refine pv_getI C (ci := 3) (k := 6) gwX4 rfl (Nat.le_of_ble_eq_true rfl) fl_X4_75 rfl rfl hp rfl rfl dX4_giveBack_27 (fun v5 hp => ?_)
    refine pv_iconst C hp dX4_giveBack_30 (by decide) (fun v6 hp => ?_)
    refine pv_isub C hp dX4_giveBack_31 (fun v7 hp => ?_)
    refine pv_putI C (ci := 3) (k := 6) gwX4 rfl (Nat.le_of_ble_eq_true rfl) fl_X4_75 rfl rfl tyX4_ok nmX4 hp rfl rfl rfl (by decide +kernel) dX4_giveBack_32 (fun V hp => ?_)
    refine pv_sub [1, 0] rfl ?_
    exact w_X4_giveBack_b35 C hr hp
def q_X4_goIfZero (N : Nat) (x1 : Int) (V : pvM) : Option pvO :=
  cL (q_X1_pop N V) fun v1 V =>
  cL (q_X10_kindOf N v1 V) fun v2 V =>
  lI (1) fun v3 =>
  if v2 = v3 then
    cL (q_X10_contentOf N v1 V) fun v4 V =>
    if v4 ≠ 0 then
      rT V 0
    else
    cL (q_X1_goTo N x1 V) fun _ V =>
    rT V 0
  else
  lI (1) fun v5 =>
  gW V 28 8 v5 fun V =>
  rT V 0
set_option maxHeartbeats 4000000 in
set_option maxRecDepth 100000 in
theorem c_X4_goIfZero (l : Launch) (D : va_G) (cy : Nat → ClassId) {N : Nat} {x1 : Int32} {V : pvM} {q : pvO} (hp : q_X4_goIfZero N x1.toInt V = some q) : pv_Met l yX4_goIfZero cX4_goIfZero 4 none 1 21 D cy V [.ref 28, .int x1] 0 q := by
  unfold q_X4_goIfZero at hp
  refine pv_ofW (by decide) (Nat.le_of_ble_eq_true rfl) (fun p e s m args below meth c ad A n0 σ C hr => ?_)
  refine pv_aload_n C 0 dX4_goIfZero_0 rfl ?_
  refine pv_getR C (ci := 3) (k := 2) gwX4 rfl (Nat.le_of_ble_eq_true rfl) fl_X4_12 rfl rfl rfl (j := 29) rfl rfl dX4_goIfZero_1 ?_
  refine pv_callV C (As := []) (rest := []) (b := 29) (kd1 := 2) hp (fun q1 h9 => c_X1_pop l D cy h9) wB_yX1_pop ml_X4_151 im_yX1_pop se_yX1_pop (ci := 0) rfl rfl rfl rfl rfl (Nat.le_of_ble_eq_true rfl) ⟨(Nat.le_of_ble_eq_true rfl), (Nat.le_of_ble_eq_true rfl)⟩ dX4_goIfZero_4 rfl rfl (fun v1 σ V hp => ?_)
  refine pv_lstore_n (loc' := [(2, .long v1), (0, .ref 28), (1, .int x1)]) C dX4_goIfZero_7 (by decide) rfl ?_
  refine pv_lload_n C 0 dX4_goIfZero_8 rfl ?_
  refine pv_callSN C (As := [.long v1]) (rest := []) (kd1 := 1) hp (fun q1 h9 => c_X10_kindOf l D cy h9) wB_yX10_kindOf (show (RX4, 60, yX10_kindOf, "FeatureDesugarer") ∈ pz_nests by decide +kernel) sm_yX10_kindOf rfl rfl (Nat.le_of_ble_eq_true rfl) ⟨(Nat.le_of_ble_eq_true rfl), (Nat.le_of_ble_eq_true rfl)⟩ dX4_goIfZero_9 rfl rfl (fun v2 σ V hp => ?_)
  refine pv_iconst C hp dX4_goIfZero_12 (by decide) (fun v3 hp => ?_)
  refine pv_icmp_eq (tgt := 24) C hp dX4_goIfZero_13 (by decide) (fun hp => ?_) (fun hp => ?_)
  · refine pv_lload_n C 0 dX4_goIfZero_24 rfl ?_
    refine pv_callSN C (As := [.long v1]) (rest := []) (kd1 := 1) hp (fun q1 h9 => c_X10_contentOf l D cy h9) wB_yX10_contentOf (show (RX4, 67, yX10_contentOf, "FeatureDesugarer") ∈ pz_nests by decide +kernel) sm_yX10_contentOf rfl rfl (Nat.le_of_ble_eq_true rfl) ⟨(Nat.le_of_ble_eq_true rfl), (Nat.le_of_ble_eq_true rfl)⟩ dX4_goIfZero_25 rfl rfl (fun v4 σ V hp => ?_)
    refine pv_if_ne (tgt := 39) C hp dX4_goIfZero_28 (by decide) (fun hp => ?_) (fun hp => ?_)
    · exact pv_vret C rfl hp hr dX4_goIfZero_39
    · refine pv_aload_n C 1 dX4_goIfZero_31 rfl ?_
      refine pv_getR C (ci := 3) (k := 2) gwX4 rfl (Nat.le_of_ble_eq_true rfl) fl_X4_12 rfl rfl rfl (j := 29) rfl rfl dX4_goIfZero_32 ?_
      refine pv_iload_n C 2 dX4_goIfZero_35 rfl ?_
      refine pv_callV C (As := [.int x1]) (rest := []) (b := 29) (kd1 := 0) hp (fun q1 h9 => c_X1_goTo l D cy h9) wB_yX1_goTo ml_X4_118 im_yX1_goTo se_yX1_goTo (ci := 0) rfl rfl rfl rfl rfl (Nat.le_of_ble_eq_true rfl) ⟨(Nat.le_of_ble_eq_true rfl), (Nat.le_of_ble_eq_true rfl)⟩ dX4_goIfZero_36 rfl rfl (fun _ σ V hp => ?_)
      exact pv_vret C rfl hp hr dX4_goIfZero_39
  · refine pv_aload_n C 1 dX4_goIfZero_16 rfl ?_
    refine pv_iconst C hp dX4_goIfZero_17 (by decide) (fun v5 hp => ?_)
    refine pv_putI C (ci := 3) (k := 8) gwX4 rfl (Nat.le_of_ble_eq_true rfl) fl_X4_78 rfl rfl tyX4_ok nmX4 hp rfl rfl rfl (by decide +kernel) dX4_goIfZero_18 (fun V hp => ?_)
    refine pv_goto (tgt := 39) C dX4_goIfZero_21 (by decide) ?_
    exact pv_vret C rfl hp hr dX4_goIfZero_39
def q_X4_reckon_b94 (N : Nat) (s0 : Int) (V : pvM) : Option pvO :=
  lI (1) fun v1 =>
  cL (q_X10_valueOf N v1 s0 V) fun v2 V =>
  cL (q_X1_push N v2 V) fun _ V =>
  rT V 0
set_option maxHeartbeats 4000000 in
set_option maxRecDepth 100000 in
theorem w_X4_reckon_b94 {p : Program} {l : Launch} {e : Env} {s : State} {m : MethodId} {args : Array Value} {below : List Frame} {meth : Method} {c : Code} {D : va_G} {cy : Nat → ClassId} {A : Nat → Prop} {n0 : Nat} {ad0 : Nat → Nat} {V0 : pvM} {q : pvO} (C : pz_C p s m args meth c cX4_reckon 9 yX4_reckon.cls D cy A) (hr : meth.sig.returnType = none) {N : Nat} {s0 : Int32} {σ : pzS} {V : pvM} (hp : q_X4_reckon_b94 N s0.toInt V = some q) : pv_W p l e 2 42 s m args below meth c 9 D cy A n0 ad0 (pv_Q below D cy n0 ad0 0 V0 q A args s) V0 σ V 94 [(0, .ref 28)] [.int s0] := by
  unfold q_X4_reckon_b94 at hp
  refine pv_istore (loc' := [(8, .int s0), (0, .ref 28)]) C dX4_reckon_94 (by decide) rfl ?_
  refine pv_aload_n C 1 dX4_reckon_96 rfl ?_
  refine pv_getR C (ci := 3) (k := 2) gwX4 rfl (Nat.le_of_ble_eq_true rfl) fl_X4_12 rfl rfl rfl (j := 29) rfl rfl dX4_reckon_97 ?_
  refine pv_iconst C hp dX4_reckon_100 (by decide) (fun v1 hp => ?_)
  refine pv_iload C 0 dX4_reckon_101 rfl ?_
  refine pv_callSN C (As := [.int v1, .int s0]) (rest := [.ref 29]) (kd1 := 2) hp (fun q1 h9 => c_X10_valueOf l D cy h9) wB_yX10_valueOf (show (RX4, 90, yX10_valueOf, "FeatureDesugarer") ∈ pz_nests by decide +kernel) sm_yX10_valueOf rfl rfl (Nat.le_of_ble_eq_true rfl) ⟨(Nat.le_of_ble_eq_true rfl), (Nat.le_of_ble_eq_true rfl)⟩ dX4_reckon_103 rfl rfl (fun v2 σ V hp => ?_)
  refine pv_callV C (As := [.long v2]) (rest := []) (b := 29) (kd1 := 0) hp (fun q1 h9 => c_X1_push l D cy h9) wB_yX1_push ml_X4_143 im_yX1_push se_yX1_push (ci := 0) rfl rfl rfl rfl rfl (Nat.le_of_ble_eq_true rfl) ⟨(Nat.le_of_ble_eq_true rfl), (Nat.le_of_ble_eq_true rfl)⟩ dX4_reckon_106 rfl rfl (fun _ σ V hp => ?_)
  exact pv_vret C rfl hp hr dX4_reckon_109
def q_X4_reckon (N : Nat) (x1 : Int) (V : pvM) : Option pvO :=
  lI (2) fun v3 =>
  cL (q_X1_take N v3 V) fun _ V =>
  lI (0) fun v4 =>
  cL (q_X1_takenAt N v4 V) fun v5 V =>
  lI (1) fun v6 =>
  cL (q_X1_takenAt N v6 V) fun v7 V =>
  cL (q_X10_kindOf N v5 V) fun v8 V =>
  lI (1) fun v9 =>
  if v8 ≠ v9 then
    lI (1) fun v10 =>
    gW V 28 8 v10 fun V =>
    rT V 0
  else
  cL (q_X10_kindOf N v7 V) fun v11 V =>
  lI (1) fun v12 =>
  if v11 = v12 then
    cL (q_X10_contentOf N v5 V) fun v13 V =>
    cL (q_X10_contentOf N v7 V) fun v14 V =>
    lI (3) fun v15 =>
    if x1 ≠ v15 then
      lI (4) fun v16 =>
      if x1 ≠ v16 then
        lI (pv_w (v13 * v14)) fun v17 =>
        q_X4_reckon_b94 N v17 V
      else
      lI (pv_w (v13 - v14)) fun v18 =>
      q_X4_reckon_b94 N v18 V
    else
    lI (pv_w (v13 + v14)) fun v19 =>
    q_X4_reckon_b94 N v19 V
  else
  lI (1) fun v20 =>
  gW V 28 8 v20 fun V =>
  rT V 0
set_option maxHeartbeats 4000000 in
set_option maxRecDepth 100000 in
theorem c_X4_reckon (l : Launch) (D : va_G) (cy : Nat → ClassId) {N : Nat} {x1 : Int32} {V : pvM} {q : pvO} (hp : q_X4_reckon N x1.toInt V = some q) : pv_Met l yX4_reckon cX4_reckon 9 none 2 42 D cy V [.ref 28, .int x1] 0 q := by
  unfold q_X4_reckon at hp
  refine pv_ofW (by decide) (Nat.le_of_ble_eq_true rfl) (fun p e s m args below meth c ad A n0 σ C hr => ?_)
  refine pv_aload_n C 0 dX4_reckon_0 rfl ?_
  refine pv_getR C (ci := 3) (k := 2) gwX4 rfl (Nat.le_of_ble_eq_true rfl) fl_X4_12 rfl rfl rfl (j := 29) rfl rfl dX4_reckon_1 ?_
  refine pv_iconst C hp dX4_reckon_4 (by decide) (fun v3 hp => ?_)
  refine pv_callV C (As := [.int v3]) (rest := []) (b := 29) (kd1 := 0) hp (fun q1 h9 => c_X1_take l D cy h9) wB_yX1_take ml_X4_175 im_yX1_take se_yX1_take (ci := 0) rfl rfl rfl rfl rfl (Nat.le_of_ble_eq_true rfl) ⟨(Nat.le_of_ble_eq_true rfl), (Nat.le_of_ble_eq_true rfl)⟩ dX4_reckon_5 rfl rfl (fun _ σ V hp => ?_)
  refine pv_aload_n C 0 dX4_reckon_8 rfl ?_
  refine pv_getR C (ci := 3) (k := 2) gwX4 rfl (Nat.le_of_ble_eq_true rfl) fl_X4_12 rfl rfl rfl (j := 29) rfl rfl dX4_reckon_9 ?_
  refine pv_iconst C hp dX4_reckon_12 (by decide) (fun v4 hp => ?_)
  refine pv_callV C (As := [.int v4]) (rest := []) (b := 29) (kd1 := 2) hp (fun q1 h9 => c_X1_takenAt l D cy h9) wB_yX1_takenAt ml_X4_181 im_yX1_takenAt se_yX1_takenAt (ci := 0) rfl rfl rfl rfl rfl (Nat.le_of_ble_eq_true rfl) ⟨(Nat.le_of_ble_eq_true rfl), (Nat.le_of_ble_eq_true rfl)⟩ dX4_reckon_13 rfl rfl (fun v5 σ V hp => ?_)
  refine pv_lstore_n (loc' := [(2, .long v5), (0, .ref 28), (1, .int x1)]) C dX4_reckon_16 (by decide) rfl ?_
  refine pv_aload_n C 1 dX4_reckon_17 rfl ?_
  refine pv_getR C (ci := 3) (k := 2) gwX4 rfl (Nat.le_of_ble_eq_true rfl) fl_X4_12 rfl rfl rfl (j := 29) rfl rfl dX4_reckon_18 ?_
  refine pv_iconst C hp dX4_reckon_21 (by decide) (fun v6 hp => ?_)
  refine pv_callV C (As := [.int v6]) (rest := []) (b := 29) (kd1 := 2) hp (fun q1 h9 => c_X1_takenAt l D cy h9) wB_yX1_takenAt ml_X4_181 im_yX1_takenAt se_yX1_takenAt (ci := 0) rfl rfl rfl rfl rfl (Nat.le_of_ble_eq_true rfl) ⟨(Nat.le_of_ble_eq_true rfl), (Nat.le_of_ble_eq_true rfl)⟩ dX4_reckon_22 rfl rfl (fun v7 σ V hp => ?_)
  refine pv_lstore (loc' := [(4, .long v7), (2, .long v5), (0, .ref 28), (1, .int x1)]) C dX4_reckon_25 (by decide) rfl ?_
  refine pv_lload_n C 1 dX4_reckon_27 rfl ?_
  refine pv_callSN C (As := [.long v5]) (rest := []) (kd1 := 1) hp (fun q1 h9 => c_X10_kindOf l D cy h9) wB_yX10_kindOf (show (RX4, 60, yX10_kindOf, "FeatureDesugarer") ∈ pz_nests by decide +kernel) sm_yX10_kindOf rfl rfl (Nat.le_of_ble_eq_true rfl) ⟨(Nat.le_of_ble_eq_true rfl), (Nat.le_of_ble_eq_true rfl)⟩ dX4_reckon_28 rfl rfl (fun v8 σ V hp => ?_)
  refine pv_iconst C hp dX4_reckon_31 (by decide) (fun v9 hp => ?_)
  refine pv_icmp_ne (tgt := 44) C hp dX4_reckon_32 (by decide) (fun hp => ?_) (fun hp => ?_)
  · refine pv_aload_n C 2 dX4_reckon_44 rfl ?_
    refine pv_iconst C hp dX4_reckon_45 (by decide) (fun v10 hp => ?_)
    refine pv_putI C (ci := 3) (k := 8) gwX4 rfl (Nat.le_of_ble_eq_true rfl) fl_X4_78 rfl rfl tyX4_ok nmX4 hp rfl rfl rfl (by decide +kernel) dX4_reckon_46 (fun V hp => ?_)
    exact pv_vret C rfl hp hr dX4_reckon_49
  · refine pv_lload C 0 dX4_reckon_35 rfl ?_
    refine pv_callSN C (As := [.long v7]) (rest := []) (kd1 := 1) hp (fun q1 h9 => c_X10_kindOf l D cy h9) wB_yX10_kindOf (show (RX4, 60, yX10_kindOf, "FeatureDesugarer") ∈ pz_nests by decide +kernel) sm_yX10_kindOf rfl rfl (Nat.le_of_ble_eq_true rfl) ⟨(Nat.le_of_ble_eq_true rfl), (Nat.le_of_ble_eq_true rfl)⟩ dX4_reckon_37 rfl rfl (fun v11 σ V hp => ?_)
    refine pv_iconst C hp dX4_reckon_40 (by decide) (fun v12 hp => ?_)
    refine pv_icmp_eq (tgt := 50) C hp dX4_reckon_41 (by decide) (fun hp => ?_) (fun hp => ?_)
    · refine pv_lload_n C 1 dX4_reckon_50 rfl ?_
      refine pv_callSN C (As := [.long v5]) (rest := []) (kd1 := 1) hp (fun q1 h9 => c_X10_contentOf l D cy h9) wB_yX10_contentOf (show (RX4, 67, yX10_contentOf, "FeatureDesugarer") ∈ pz_nests by decide +kernel) sm_yX10_contentOf rfl rfl (Nat.le_of_ble_eq_true rfl) ⟨(Nat.le_of_ble_eq_true rfl), (Nat.le_of_ble_eq_true rfl)⟩ dX4_reckon_51 rfl rfl (fun v13 σ V hp => ?_)
      refine pv_istore (loc' := [(6, .int v13), (4, .long v7), (2, .long v5), (0, .ref 28), (1, .int x1)]) C dX4_reckon_54 (by decide) rfl ?_
      refine pv_lload C 1 dX4_reckon_56 rfl ?_
      refine pv_callSN C (As := [.long v7]) (rest := []) (kd1 := 1) hp (fun q1 h9 => c_X10_contentOf l D cy h9) wB_yX10_contentOf (show (RX4, 67, yX10_contentOf, "FeatureDesugarer") ∈ pz_nests by decide +kernel) sm_yX10_contentOf rfl rfl (Nat.le_of_ble_eq_true rfl) ⟨(Nat.le_of_ble_eq_true rfl), (Nat.le_of_ble_eq_true rfl)⟩ dX4_reckon_58 rfl rfl (fun v14 σ V hp => ?_)
      refine pv_istore (loc' := [(7, .int v14), (6, .int v13), (4, .long v7), (2, .long v5), (0, .ref 28), (1, .int x1)]) C dX4_reckon_61 (by decide) rfl ?_
      refine pv_iload_n C 5 dX4_reckon_63 rfl ?_
      refine pv_iconst C hp dX4_reckon_64 (by decide) (fun v15 hp => ?_)
      refine pv_icmp_ne (tgt := 76) C hp dX4_reckon_65 (by decide) (fun hp => ?_) (fun hp => ?_)
      · refine pv_iload_n C 5 dX4_reckon_76 rfl ?_
        refine pv_iconst C hp dX4_reckon_77 (by decide) (fun v16 hp => ?_)
        refine pv_icmp_ne (tgt := 89) C hp dX4_reckon_78 (by decide) (fun hp => ?_) (fun hp => ?_)
        · refine pv_iload C 1 dX4_reckon_89 rfl ?_
          refine pv_iload C 0 dX4_reckon_91 rfl ?_
          refine pv_imul C hp dX4_reckon_93 (fun v17 hp => ?_)
          refine pv_sub [4] rfl ?_
          exact w_X4_reckon_b94 C hr hp
        · refine pv_iload C 1 dX4_reckon_81 rfl ?_
          refine pv_iload C 0 dX4_reckon_83 rfl ?_
          refine pv_isub C hp dX4_reckon_85 (fun v18 hp => ?_)
          refine pv_goto (tgt := 94) C dX4_reckon_86 (by decide) ?_
          refine pv_sub [4] rfl ?_
          exact w_X4_reckon_b94 C hr hp
      · refine pv_iload C 1 dX4_reckon_68 rfl ?_
        refine pv_iload C 0 dX4_reckon_70 rfl ?_
        refine pv_iadd C hp dX4_reckon_72 (fun v19 hp => ?_)
        refine pv_goto (tgt := 94) C dX4_reckon_73 (by decide) ?_
        refine pv_sub [4] rfl ?_
        exact w_X4_reckon_b94 C hr hp
    · refine pv_aload_n C 2 dX4_reckon_44 rfl ?_
      refine pv_iconst C hp dX4_reckon_45 (by decide) (fun v20 hp => ?_)
      refine pv_putI C (ci := 3) (k := 8) gwX4 rfl (Nat.le_of_ble_eq_true rfl) fl_X4_78 rfl rfl tyX4_ok nmX4 hp rfl rfl rfl (by decide +kernel) dX4_reckon_46 (fun V hp => ?_)
      exact pv_vret C rfl hp hr dX4_reckon_49
def q_X4_applyTo_b92 (N : Nat) : Nat → Int → Int → Int → Int → pvM → Option pvO
  | 0 => fun _ _ _ _ _ => none
  | n + 1 => fun x1 x4 x6 x7 V =>
    if x6 ≤ x7 then
      cL (q_X1_setLocalsToTaken N x6 x1 V) fun _ V =>
      rT V 0
    else
    cL (q_X2_valueAt N x4 x7 V) fun v1 V =>
    cL (q_X1_setLocal N x7 v1 V) fun _ V =>
    lI (pv_w (x7 + (1))) fun v2 =>
    q_X4_applyTo_b92 N n x1 x4 x6 v2 V
set_option maxHeartbeats 4000000 in
set_option maxRecDepth 100000 in
theorem w_X4_applyTo_b92 {p : Program} {l : Launch} {e : Env} {s : State} {m : MethodId} {args : Array Value} {below : List Frame} {meth : Method} {c : Code} {D : va_G} {cy : Nat → ClassId} {A : Nat → Prop} {n0 : Nat} {ad0 : Nat → Nat} {V0 : pvM} {q : pvO} (C : pz_C p s m args meth c cX4_applyTo 8 yX4_applyTo.cls D cy A) (hr : meth.sig.returnType = none) {N : Nat} : ∀ (n : Nat) (x1 : Int32) (x4 : Int32) (x6 : Int32) (x7 : Int32) (σ : pzS) (V : pvM), q_X4_applyTo_b92 N n x1.toInt x4.toInt x6.toInt x7.toInt V = some q → pv_W p l e 2 46 s m args below meth c 8 D cy A n0 ad0 (pv_Q below D cy n0 ad0 0 V0 q A args s) V0 σ V 92 [(0, .ref 28), (1, .int x1), (4, .int x4), (6, .int x6), (7, .int x7)] [] := by
  intro n
  induction n with
  | zero =>
    intro x1 x4 x6 x7 σ V hp
    simp only [q_X4_applyTo_b92] at hp
    cases hp
  | succ n ih =>
    intro x1 x4 x6 x7 σ V hp
    simp only [q_X4_applyTo_b92] at hp
    refine pv_iload C 4 dX4_applyTo_92 rfl ?_
    refine pv_iload C 3 dX4_applyTo_94 rfl ?_
    refine pv_icmp_ge (tgt := 125) C hp dX4_applyTo_96 (by decide) (fun hp => ?_) (fun hp => ?_)
    · refine pv_aload_n C 0 dX4_applyTo_125 rfl ?_
      refine pv_getR C (ci := 3) (k := 2) gwX4 rfl (Nat.le_of_ble_eq_true rfl) fl_X4_12 rfl rfl rfl (j := 29) rfl rfl dX4_applyTo_126 ?_
      refine pv_iload C 3 dX4_applyTo_129 rfl ?_
      refine pv_iload_n C 1 dX4_applyTo_131 rfl ?_
      refine pv_callV C (As := [.int x6, .int x1]) (rest := []) (b := 29) (kd1 := 0) hp (fun q1 h9 => c_X1_setLocalsToTaken l D cy h9) wB_yX1_setLocalsToTaken ml_X4_223 im_yX1_setLocalsToTaken se_yX1_setLocalsToTaken (ci := 0) rfl rfl rfl rfl rfl (Nat.le_of_ble_eq_true rfl) ⟨(Nat.le_of_ble_eq_true rfl), (Nat.le_of_ble_eq_true rfl)⟩ dX4_applyTo_132 rfl rfl (fun _ σ V hp => ?_)
      exact pv_vret C rfl hp hr dX4_applyTo_135
    · refine pv_aload_n C 0 dX4_applyTo_99 rfl ?_
      refine pv_getR C (ci := 3) (k := 2) gwX4 rfl (Nat.le_of_ble_eq_true rfl) fl_X4_12 rfl rfl rfl (j := 29) rfl rfl dX4_applyTo_100 ?_
      refine pv_iload C 4 dX4_applyTo_103 rfl ?_
      refine pv_aload_n C 0 dX4_applyTo_105 rfl ?_
      refine pv_getR C (ci := 3) (k := 3) gwX4 rfl (Nat.le_of_ble_eq_true rfl) fl_X4_21 rfl rfl rfl (j := 35) rfl rfl dX4_applyTo_106 ?_
      refine pv_iload C 2 dX4_applyTo_109 rfl ?_
      refine pv_iload C 4 dX4_applyTo_111 rfl ?_
      refine pv_callV C (As := [.int x4, .int x7]) (rest := [.int x7, .ref 29]) (b := 35) (kd1 := 2) hp (fun q1 h9 => c_X2_valueAt l D cy h9) wB_yX2_valueAt ml_X4_207 im_yX2_valueAt se_yX2_valueAt (ci := 1) rfl rfl rfl rfl rfl (Nat.le_of_ble_eq_true rfl) ⟨(Nat.le_of_ble_eq_true rfl), (Nat.le_of_ble_eq_true rfl)⟩ dX4_applyTo_113 rfl rfl (fun v1 σ V hp => ?_)
      refine pv_callV C (As := [.int x7, .long v1]) (rest := []) (b := 29) (kd1 := 0) hp (fun q1 h9 => c_X1_setLocal l D cy h9) wB_yX1_setLocal ml_X4_94 im_yX1_setLocal se_yX1_setLocal (ci := 0) rfl rfl rfl rfl rfl (Nat.le_of_ble_eq_true rfl) ⟨(Nat.le_of_ble_eq_true rfl), (Nat.le_of_ble_eq_true rfl)⟩ dX4_applyTo_116 rfl rfl (fun _ σ V hp => ?_)
      refine pv_iinc (L := fun v2 => [(7, .int v2), (0, .ref 28), (1, .int x1), (4, .int x4), (6, .int x6)]) C 4 hp dX4_applyTo_119 (by decide) rfl (by decide) (fun _ => rfl) (fun v2 hp => ?_)
      refine pv_goto (tgt := 92) C dX4_applyTo_122 (by decide) ?_
      refine pv_sub [1, 2, 3, 4, 0] rfl ?_
      exact ih _ _ _ _ _ _ hp
def q_X4_applyTo (N : Nat) (x1 : Int) (V : pvM) : Option pvO :=
  cL (q_X1_take N x1 V) fun _ V =>
  cL (q_X1_pop N V) fun v3 V =>
  cL (q_X10_kindOf N v3 V) fun v4 V =>
  lI (3) fun v5 =>
  if v4 = v5 then
    cL (q_X10_contentOf N v3 V) fun v6 V =>
    cL (q_X2_typeOf N v6 V) fun v7 V =>
    cL (q_X2_sizeOf N v6 V) fun v8 V =>
    lI (pv_w (v8 + x1)) fun v9 =>
    cL (q_X6_parametersOf N v7 V) fun v10 V =>
    if v9 = v10 then
      cL (q_X4_beginFunction N v7 V) fun v11 V =>
      if v11 = 0 then
        rT V 0
      else
      lI (0) fun v12 =>
      q_X4_applyTo_b92 N N x1 v6 v8 v12 V
    else
    lI (2) fun v13 =>
    gW V 28 8 v13 fun V =>
    rT V 0
  else
  lI (1) fun v14 =>
  gW V 28 8 v14 fun V =>
  rT V 0
set_option maxHeartbeats 4000000 in
set_option maxRecDepth 100000 in
theorem c_X4_applyTo (l : Launch) (D : va_G) (cy : Nat → ClassId) {N : Nat} {x1 : Int32} {V : pvM} {q : pvO} (hp : q_X4_applyTo N x1.toInt V = some q) : pv_Met l yX4_applyTo cX4_applyTo 8 none 2 46 D cy V [.ref 28, .int x1] 0 q := by
  unfold q_X4_applyTo at hp
  refine pv_ofW (by decide) (Nat.le_of_ble_eq_true rfl) (fun p e s m args below meth c ad A n0 σ C hr => ?_)
  refine pv_aload_n C 0 dX4_applyTo_0 rfl ?_
  refine pv_getR C (ci := 3) (k := 2) gwX4 rfl (Nat.le_of_ble_eq_true rfl) fl_X4_12 rfl rfl rfl (j := 29) rfl rfl dX4_applyTo_1 ?_
  refine pv_iload_n C 1 dX4_applyTo_4 rfl ?_
  refine pv_callV C (As := [.int x1]) (rest := []) (b := 29) (kd1 := 0) hp (fun q1 h9 => c_X1_take l D cy h9) wB_yX1_take ml_X4_175 im_yX1_take se_yX1_take (ci := 0) rfl rfl rfl rfl rfl (Nat.le_of_ble_eq_true rfl) ⟨(Nat.le_of_ble_eq_true rfl), (Nat.le_of_ble_eq_true rfl)⟩ dX4_applyTo_5 rfl rfl (fun _ σ V hp => ?_)
  refine pv_aload_n C 0 dX4_applyTo_8 rfl ?_
  refine pv_getR C (ci := 3) (k := 2) gwX4 rfl (Nat.le_of_ble_eq_true rfl) fl_X4_12 rfl rfl rfl (j := 29) rfl rfl dX4_applyTo_9 ?_
  refine pv_callV C (As := []) (rest := []) (b := 29) (kd1 := 2) hp (fun q1 h9 => c_X1_pop l D cy h9) wB_yX1_pop ml_X4_151 im_yX1_pop se_yX1_pop (ci := 0) rfl rfl rfl rfl rfl (Nat.le_of_ble_eq_true rfl) ⟨(Nat.le_of_ble_eq_true rfl), (Nat.le_of_ble_eq_true rfl)⟩ dX4_applyTo_12 rfl rfl (fun v3 σ V hp => ?_)
  refine pv_lstore_n (loc' := [(2, .long v3), (0, .ref 28), (1, .int x1)]) C dX4_applyTo_15 (by decide) rfl ?_
  refine pv_lload_n C 0 dX4_applyTo_16 rfl ?_
  refine pv_callSN C (As := [.long v3]) (rest := []) (kd1 := 1) hp (fun q1 h9 => c_X10_kindOf l D cy h9) wB_yX10_kindOf (show (RX4, 60, yX10_kindOf, "FeatureDesugarer") ∈ pz_nests by decide +kernel) sm_yX10_kindOf rfl rfl (Nat.le_of_ble_eq_true rfl) ⟨(Nat.le_of_ble_eq_true rfl), (Nat.le_of_ble_eq_true rfl)⟩ dX4_applyTo_17 rfl rfl (fun v4 σ V hp => ?_)
  refine pv_iconst C hp dX4_applyTo_20 (by decide) (fun v5 hp => ?_)
  refine pv_icmp_eq (tgt := 30) C hp dX4_applyTo_21 (by decide) (fun hp => ?_) (fun hp => ?_)
  · refine pv_lload_n C 0 dX4_applyTo_30 rfl ?_
    refine pv_callSN C (As := [.long v3]) (rest := []) (kd1 := 1) hp (fun q1 h9 => c_X10_contentOf l D cy h9) wB_yX10_contentOf (show (RX4, 67, yX10_contentOf, "FeatureDesugarer") ∈ pz_nests by decide +kernel) sm_yX10_contentOf rfl rfl (Nat.le_of_ble_eq_true rfl) ⟨(Nat.le_of_ble_eq_true rfl), (Nat.le_of_ble_eq_true rfl)⟩ dX4_applyTo_31 rfl rfl (fun v6 σ V hp => ?_)
    refine pv_istore (loc' := [(4, .int v6), (2, .long v3), (0, .ref 28), (1, .int x1)]) C dX4_applyTo_34 (by decide) rfl ?_
    refine pv_aload_n C 2 dX4_applyTo_36 rfl ?_
    refine pv_getR C (ci := 3) (k := 3) gwX4 rfl (Nat.le_of_ble_eq_true rfl) fl_X4_21 rfl rfl rfl (j := 35) rfl rfl dX4_applyTo_37 ?_
    refine pv_iload C 0 dX4_applyTo_40 rfl ?_
    refine pv_callV C (As := [.int v6]) (rest := []) (b := 35) (kd1 := 1) hp (fun q1 h9 => c_X2_typeOf l D cy h9) wB_yX2_typeOf ml_X4_232 im_yX2_typeOf se_yX2_typeOf (ci := 1) rfl rfl rfl rfl rfl (Nat.le_of_ble_eq_true rfl) ⟨(Nat.le_of_ble_eq_true rfl), (Nat.le_of_ble_eq_true rfl)⟩ dX4_applyTo_42 rfl rfl (fun v7 σ V hp => ?_)
    refine pv_istore (loc' := [(5, .int v7), (4, .int v6), (2, .long v3), (0, .ref 28), (1, .int x1)]) C dX4_applyTo_45 (by decide) rfl ?_
    refine pv_aload_n C 3 dX4_applyTo_47 rfl ?_
    refine pv_getR C (ci := 3) (k := 3) gwX4 rfl (Nat.le_of_ble_eq_true rfl) fl_X4_21 rfl rfl rfl (j := 35) rfl rfl dX4_applyTo_48 ?_
    refine pv_iload C 1 dX4_applyTo_51 rfl ?_
    refine pv_callV C (As := [.int v6]) (rest := []) (b := 35) (kd1 := 1) hp (fun q1 h9 => c_X2_sizeOf l D cy h9) wB_yX2_sizeOf ml_X4_235 im_yX2_sizeOf se_yX2_sizeOf (ci := 1) rfl rfl rfl rfl rfl (Nat.le_of_ble_eq_true rfl) ⟨(Nat.le_of_ble_eq_true rfl), (Nat.le_of_ble_eq_true rfl)⟩ dX4_applyTo_53 rfl rfl (fun v8 σ V hp => ?_)
    refine pv_istore (loc' := [(6, .int v8), (5, .int v7), (4, .int v6), (2, .long v3), (0, .ref 28), (1, .int x1)]) C dX4_applyTo_56 (by decide) rfl ?_
    refine pv_iload C 0 dX4_applyTo_58 rfl ?_
    refine pv_iload_n C 5 dX4_applyTo_60 rfl ?_
    refine pv_iadd C hp dX4_applyTo_61 (fun v9 hp => ?_)
    refine pv_aload_n C 4 dX4_applyTo_62 rfl ?_
    refine pv_getR C (ci := 3) (k := 0) gwX4 rfl (Nat.le_of_ble_eq_true rfl) fl_X4_36 rfl rfl rfl (j := 1) rfl rfl dX4_applyTo_63 ?_
    refine pv_iload C 1 dX4_applyTo_66 rfl ?_
    refine pv_callV C (As := [.int v7]) (rest := [.int v9]) (b := 1) (kd1 := 1) hp (fun q1 h9 => c_X6_parametersOf l D cy h9) wB_yX6_parametersOf ml_X4_85 im_yX6_parametersOf se_yX6_parametersOf (ci := 5) rfl rfl rfl rfl rfl (Nat.le_of_ble_eq_true rfl) ⟨(Nat.le_of_ble_eq_true rfl), (Nat.le_of_ble_eq_true rfl)⟩ dX4_applyTo_68 rfl rfl (fun v10 σ V hp => ?_)
    refine pv_icmp_eq (tgt := 80) C hp dX4_applyTo_71 (by decide) (fun hp => ?_) (fun hp => ?_)
    · refine pv_aload_n C 4 dX4_applyTo_80 rfl ?_
      refine pv_iload C 1 dX4_applyTo_81 rfl ?_
      refine pv_callV C (As := [.int v7]) (rest := []) (b := 28) (kd1 := 1) hp (fun q1 h9 => c_X4_beginFunction l D cy h9) wB_yX4_beginFunction ml_X4_81 im_yX4_beginFunction se_yX4_beginFunction (ci := 3) rfl rfl rfl rfl rfl (Nat.le_of_ble_eq_true rfl) ⟨(Nat.le_of_ble_eq_true rfl), (Nat.le_of_ble_eq_true rfl)⟩ dX4_applyTo_83 rfl rfl (fun v11 σ V hp => ?_)
      refine pv_if_eq (tgt := 135) C hp dX4_applyTo_86 (by decide) (fun hp => ?_) (fun hp => ?_)
      · exact pv_vret C rfl hp hr dX4_applyTo_135
      · refine pv_iconst C hp dX4_applyTo_89 (by decide) (fun v12 hp => ?_)
        refine pv_istore (loc' := [(7, .int v12), (6, .int v8), (5, .int v7), (4, .int v6), (2, .long v3), (0, .ref 28), (1, .int x1)]) C dX4_applyTo_90 (by decide) rfl ?_
        refine pv_sub [5, 6, 3, 1, 0] rfl ?_
        exact w_X4_applyTo_b92 C hr N _ _ _ _ _ _ hp
    · refine pv_aload_n C 4 dX4_applyTo_74 rfl ?_
      refine pv_iconst C hp dX4_applyTo_75 (by decide) (fun v13 hp => ?_)
      refine pv_putI C (ci := 3) (k := 8) gwX4 rfl (Nat.le_of_ble_eq_true rfl) fl_X4_78 rfl rfl tyX4_ok nmX4 hp rfl rfl rfl (by decide +kernel) dX4_applyTo_76 (fun V hp => ?_)
      exact pv_vret C rfl hp hr dX4_applyTo_79
  · refine pv_aload_n C 1 dX4_applyTo_24 rfl ?_
    refine pv_iconst C hp dX4_applyTo_25 (by decide) (fun v14 hp => ?_)
    refine pv_putI C (ci := 3) (k := 8) gwX4 rfl (Nat.le_of_ble_eq_true rfl) fl_X4_78 rfl rfl tyX4_ok nmX4 hp rfl rfl rfl (by decide +kernel) dX4_applyTo_26 (fun V hp => ?_)
    exact pv_vret C rfl hp hr dX4_applyTo_29
def q_X4_invoke (N : Nat) (x1 : Int) (V : pvM) : Option pvO :=
  cL (q_X1_take N x1 V) fun _ V =>
  cL (q_X1_pop N V) fun v1 V =>
  cL (q_X10_kindOf N v1 V) fun v2 V =>
  lI (3) fun v3 =>
  if v2 = v3 then
    cL (q_X10_contentOf N v1 V) fun v4 V =>
    cL (q_X2_typeOf N v4 V) fun v5 V =>
    cL (q_X5_functionOfClass N v5 V) fun v6 V =>
    cL (q_X6_parametersOf N v6 V) fun v7 V =>
    cL (q_X5_valuesOfClass N v5 V) fun v8 V =>
    lI (pv_w (v8 + x1)) fun v9 =>
    if v9 = v7 then
      cL (q_X5_methodOfClass N v5 V) fun v10 V =>
      cL (q_X1_open N v10 V) fun _ V =>
      lI (0) fun v11 =>
      cL (q_X1_setLocal N v11 v1 V) fun _ V =>
      lI (1) fun v12 =>
      cL (q_X1_setLocalsToTaken N v12 x1 V) fun _ V =>
      rT V 0
    else
    lI (2) fun v13 =>
    gW V 28 8 v13 fun V =>
    rT V 0
  else
  lI (1) fun v14 =>
  gW V 28 8 v14 fun V =>
  rT V 0
set_option maxHeartbeats 4000000 in
set_option maxRecDepth 100000 in
theorem c_X4_invoke (l : Launch) (D : va_G) (cy : Nat → ClassId) {N : Nat} {x1 : Int32} {V : pvM} {q : pvO} (hp : q_X4_invoke N x1.toInt V = some q) : pv_Met l yX4_invoke cX4_invoke 6 none 2 46 D cy V [.ref 28, .int x1] 0 q := by
  unfold q_X4_invoke at hp
  refine pv_ofW (by decide) (Nat.le_of_ble_eq_true rfl) (fun p e s m args below meth c ad A n0 σ C hr => ?_)
  refine pv_aload_n C 0 dX4_invoke_0 rfl ?_
  refine pv_getR C (ci := 3) (k := 2) gwX4 rfl (Nat.le_of_ble_eq_true rfl) fl_X4_12 rfl rfl rfl (j := 29) rfl rfl dX4_invoke_1 ?_
  refine pv_iload_n C 1 dX4_invoke_4 rfl ?_
  refine pv_callV C (As := [.int x1]) (rest := []) (b := 29) (kd1 := 0) hp (fun q1 h9 => c_X1_take l D cy h9) wB_yX1_take ml_X4_175 im_yX1_take se_yX1_take (ci := 0) rfl rfl rfl rfl rfl (Nat.le_of_ble_eq_true rfl) ⟨(Nat.le_of_ble_eq_true rfl), (Nat.le_of_ble_eq_true rfl)⟩ dX4_invoke_5 rfl rfl (fun _ σ V hp => ?_)
  refine pv_aload_n C 0 dX4_invoke_8 rfl ?_
  refine pv_getR C (ci := 3) (k := 2) gwX4 rfl (Nat.le_of_ble_eq_true rfl) fl_X4_12 rfl rfl rfl (j := 29) rfl rfl dX4_invoke_9 ?_
  refine pv_callV C (As := []) (rest := []) (b := 29) (kd1 := 2) hp (fun q1 h9 => c_X1_pop l D cy h9) wB_yX1_pop ml_X4_151 im_yX1_pop se_yX1_pop (ci := 0) rfl rfl rfl rfl rfl (Nat.le_of_ble_eq_true rfl) ⟨(Nat.le_of_ble_eq_true rfl), (Nat.le_of_ble_eq_true rfl)⟩ dX4_invoke_12 rfl rfl (fun v1 σ V hp => ?_)
  refine pv_lstore_n (loc' := [(2, .long v1), (0, .ref 28), (1, .int x1)]) C dX4_invoke_15 (by decide) rfl ?_
  refine pv_lload_n C 0 dX4_invoke_16 rfl ?_
  refine pv_callSN C (As := [.long v1]) (rest := []) (kd1 := 1) hp (fun q1 h9 => c_X10_kindOf l D cy h9) wB_yX10_kindOf (show (RX4, 60, yX10_kindOf, "FeatureDesugarer") ∈ pz_nests by decide +kernel) sm_yX10_kindOf rfl rfl (Nat.le_of_ble_eq_true rfl) ⟨(Nat.le_of_ble_eq_true rfl), (Nat.le_of_ble_eq_true rfl)⟩ dX4_invoke_17 rfl rfl (fun v2 σ V hp => ?_)
  refine pv_iconst C hp dX4_invoke_20 (by decide) (fun v3 hp => ?_)
  refine pv_icmp_eq (tgt := 30) C hp dX4_invoke_21 (by decide) (fun hp => ?_) (fun hp => ?_)
  · refine pv_aload_n C 1 dX4_invoke_30 rfl ?_
    refine pv_getR C (ci := 3) (k := 3) gwX4 rfl (Nat.le_of_ble_eq_true rfl) fl_X4_21 rfl rfl rfl (j := 35) rfl rfl dX4_invoke_31 ?_
    refine pv_lload_n C 0 dX4_invoke_34 rfl ?_
    refine pv_callSN C (As := [.long v1]) (rest := [.ref 35]) (kd1 := 1) hp (fun q1 h9 => c_X10_contentOf l D cy h9) wB_yX10_contentOf (show (RX4, 67, yX10_contentOf, "FeatureDesugarer") ∈ pz_nests by decide +kernel) sm_yX10_contentOf rfl rfl (Nat.le_of_ble_eq_true rfl) ⟨(Nat.le_of_ble_eq_true rfl), (Nat.le_of_ble_eq_true rfl)⟩ dX4_invoke_35 rfl rfl (fun v4 σ V hp => ?_)
    refine pv_callV C (As := [.int v4]) (rest := []) (b := 35) (kd1 := 1) hp (fun q1 h9 => c_X2_typeOf l D cy h9) wB_yX2_typeOf ml_X4_232 im_yX2_typeOf se_yX2_typeOf (ci := 1) rfl rfl rfl rfl rfl (Nat.le_of_ble_eq_true rfl) ⟨(Nat.le_of_ble_eq_true rfl), (Nat.le_of_ble_eq_true rfl)⟩ dX4_invoke_38 rfl rfl (fun v5 σ V hp => ?_)
    refine pv_istore (loc' := [(4, .int v5), (2, .long v1), (0, .ref 28), (1, .int x1)]) C dX4_invoke_41 (by decide) rfl ?_
    refine pv_aload_n C 2 dX4_invoke_43 rfl ?_
    refine pv_getR C (ci := 3) (k := 0) gwX4 rfl (Nat.le_of_ble_eq_true rfl) fl_X4_36 rfl rfl rfl (j := 1) rfl rfl dX4_invoke_44 ?_
    refine pv_aload_n C 2 dX4_invoke_47 rfl ?_
    refine pv_getR C (ci := 3) (k := 1) gwX4 rfl (Nat.le_of_ble_eq_true rfl) fl_X4_40 rfl rfl rfl (j := 16) rfl rfl dX4_invoke_48 ?_
    refine pv_iload C 0 dX4_invoke_51 rfl ?_
    refine pv_callV C (As := [.int v5]) (rest := [.ref 1]) (b := 16) (kd1 := 1) hp (fun q1 h9 => c_X5_functionOfClass l D cy h9) wB_yX5_functionOfClass ml_X4_238 im_yX5_functionOfClass se_yX5_functionOfClass (ci := 4) rfl rfl rfl rfl rfl (Nat.le_of_ble_eq_true rfl) ⟨(Nat.le_of_ble_eq_true rfl), (Nat.le_of_ble_eq_true rfl)⟩ dX4_invoke_53 rfl rfl (fun v6 σ V hp => ?_)
    refine pv_callV C (As := [.int v6]) (rest := []) (b := 1) (kd1 := 1) hp (fun q1 h9 => c_X6_parametersOf l D cy h9) wB_yX6_parametersOf ml_X4_85 im_yX6_parametersOf se_yX6_parametersOf (ci := 5) rfl rfl rfl rfl rfl (Nat.le_of_ble_eq_true rfl) ⟨(Nat.le_of_ble_eq_true rfl), (Nat.le_of_ble_eq_true rfl)⟩ dX4_invoke_56 rfl rfl (fun v7 σ V hp => ?_)
    refine pv_istore (loc' := [(5, .int v7), (4, .int v5), (2, .long v1), (0, .ref 28), (1, .int x1)]) C dX4_invoke_59 (by decide) rfl ?_
    refine pv_aload_n C 3 dX4_invoke_61 rfl ?_
    refine pv_getR C (ci := 3) (k := 1) gwX4 rfl (Nat.le_of_ble_eq_true rfl) fl_X4_40 rfl rfl rfl (j := 16) rfl rfl dX4_invoke_62 ?_
    refine pv_iload C 1 dX4_invoke_65 rfl ?_
    refine pv_callV C (As := [.int v5]) (rest := []) (b := 16) (kd1 := 1) hp (fun q1 h9 => c_X5_valuesOfClass l D cy h9) wB_yX5_valuesOfClass ml_X4_199 im_yX5_valuesOfClass se_yX5_valuesOfClass (ci := 4) rfl rfl rfl rfl rfl (Nat.le_of_ble_eq_true rfl) ⟨(Nat.le_of_ble_eq_true rfl), (Nat.le_of_ble_eq_true rfl)⟩ dX4_invoke_67 rfl rfl (fun v8 σ V hp => ?_)
    refine pv_iload_n C 4 dX4_invoke_70 rfl ?_
    refine pv_iadd C hp dX4_invoke_71 (fun v9 hp => ?_)
    refine pv_iload C 0 dX4_invoke_72 rfl ?_
    refine pv_icmp_eq (tgt := 83) C hp dX4_invoke_74 (by decide) (fun hp => ?_) (fun hp => ?_)
    · refine pv_aload_n C 3 dX4_invoke_83 rfl ?_
      refine pv_getR C (ci := 3) (k := 2) gwX4 rfl (Nat.le_of_ble_eq_true rfl) fl_X4_12 rfl rfl rfl (j := 29) rfl rfl dX4_invoke_84 ?_
      refine pv_aload_n C 3 dX4_invoke_87 rfl ?_
      refine pv_getR C (ci := 3) (k := 1) gwX4 rfl (Nat.le_of_ble_eq_true rfl) fl_X4_40 rfl rfl rfl (j := 16) rfl rfl dX4_invoke_88 ?_
      refine pv_iload C 1 dX4_invoke_91 rfl ?_
      refine pv_callV C (As := [.int v5]) (rest := [.ref 29]) (b := 16) (kd1 := 1) hp (fun q1 h9 => c_X5_methodOfClass l D cy h9) wB_yX5_methodOfClass ml_X4_241 im_yX5_methodOfClass se_yX5_methodOfClass (ci := 4) rfl rfl rfl rfl rfl (Nat.le_of_ble_eq_true rfl) ⟨(Nat.le_of_ble_eq_true rfl), (Nat.le_of_ble_eq_true rfl)⟩ dX4_invoke_93 rfl rfl (fun v10 σ V hp => ?_)
      refine pv_callV C (As := [.int v10]) (rest := []) (b := 29) (kd1 := 0) hp (fun q1 h9 => c_X1_open l D cy h9) wB_yX1_open ml_X4_220 im_yX1_open se_yX1_open (ci := 0) rfl rfl rfl rfl rfl (Nat.le_of_ble_eq_true rfl) ⟨(Nat.le_of_ble_eq_true rfl), (Nat.le_of_ble_eq_true rfl)⟩ dX4_invoke_96 rfl rfl (fun _ σ V hp => ?_)
      refine pv_aload_n C 3 dX4_invoke_99 rfl ?_
      refine pv_getR C (ci := 3) (k := 2) gwX4 rfl (Nat.le_of_ble_eq_true rfl) fl_X4_12 rfl rfl rfl (j := 29) rfl rfl dX4_invoke_100 ?_
      refine pv_iconst C hp dX4_invoke_103 (by decide) (fun v11 hp => ?_)
      refine pv_lload_n C 2 dX4_invoke_104 rfl ?_
      refine pv_callV C (As := [.int v11, .long v1]) (rest := []) (b := 29) (kd1 := 0) hp (fun q1 h9 => c_X1_setLocal l D cy h9) wB_yX1_setLocal ml_X4_94 im_yX1_setLocal se_yX1_setLocal (ci := 0) rfl rfl rfl rfl rfl (Nat.le_of_ble_eq_true rfl) ⟨(Nat.le_of_ble_eq_true rfl), (Nat.le_of_ble_eq_true rfl)⟩ dX4_invoke_105 rfl rfl (fun _ σ V hp => ?_)
      refine pv_aload_n C 3 dX4_invoke_108 rfl ?_
      refine pv_getR C (ci := 3) (k := 2) gwX4 rfl (Nat.le_of_ble_eq_true rfl) fl_X4_12 rfl rfl rfl (j := 29) rfl rfl dX4_invoke_109 ?_
      refine pv_iconst C hp dX4_invoke_112 (by decide) (fun v12 hp => ?_)
      refine pv_iload_n C 4 dX4_invoke_113 rfl ?_
      refine pv_callV C (As := [.int v12, .int x1]) (rest := []) (b := 29) (kd1 := 0) hp (fun q1 h9 => c_X1_setLocalsToTaken l D cy h9) wB_yX1_setLocalsToTaken ml_X4_223 im_yX1_setLocalsToTaken se_yX1_setLocalsToTaken (ci := 0) rfl rfl rfl rfl rfl (Nat.le_of_ble_eq_true rfl) ⟨(Nat.le_of_ble_eq_true rfl), (Nat.le_of_ble_eq_true rfl)⟩ dX4_invoke_114 rfl rfl (fun _ σ V hp => ?_)
      exact pv_vret C rfl hp hr dX4_invoke_117
    · refine pv_aload_n C 3 dX4_invoke_77 rfl ?_
      refine pv_iconst C hp dX4_invoke_78 (by decide) (fun v13 hp => ?_)
      refine pv_putI C (ci := 3) (k := 8) gwX4 rfl (Nat.le_of_ble_eq_true rfl) fl_X4_78 rfl rfl tyX4_ok nmX4 hp rfl rfl rfl (by decide +kernel) dX4_invoke_79 (fun V hp => ?_)
      exact pv_vret C rfl hp hr dX4_invoke_82
  · refine pv_aload_n C 1 dX4_invoke_24 rfl ?_
    refine pv_iconst C hp dX4_invoke_25 (by decide) (fun v14 hp => ?_)
    refine pv_putI C (ci := 3) (k := 8) gwX4 rfl (Nat.le_of_ble_eq_true rfl) fl_X4_78 rfl rfl tyX4_ok nmX4 hp rfl rfl rfl (by decide +kernel) dX4_invoke_26 (fun V hp => ?_)
    exact pv_vret C rfl hp hr dX4_invoke_29
def q_X4_join_b118 (N : Nat) (r39 : Int → Int → Int → Int → Int → Int → pvM → Option pvO) (x1 : Int) (x3 : Int) (x5 : Int) (x6 : Int) (x7 : Int) (x8 : Int) (V : pvM) : Option pvO :=
  lI (pv_w (x8 + (1))) fun v1 =>
  r39 x1 x3 x5 x6 x7 v1 V
set_option maxHeartbeats 4000000 in
set_option maxRecDepth 100000 in
theorem w_X4_join_b118 {p : Program} {l : Launch} {e : Env} {s : State} {m : MethodId} {args : Array Value} {below : List Frame} {meth : Method} {c : Code} {D : va_G} {cy : Nat → ClassId} {A : Nat → Prop} {n0 : Nat} {ad0 : Nat → Nat} {V0 : pvM} {q : pvO} (C : pz_C p s m args meth c cX4_join 9 yX4_join.cls D cy A) (hr : meth.sig.returnType = none) {N : Nat} {r39 : Int → Int → Int → Int → Int → Int → pvM → Option pvO} (H39 : ∀ (x1 : Int32) (x3 : Int64) (x5 : Int32) (x6 : Int32) (x7 : Int32) (x8 : Int32) (σ : pzS) (V : pvM), r39 x1.toInt x3.toInt x5.toInt x6.toInt x7.toInt x8.toInt V = some q → pv_W p l e 4 107 s m args below meth c 9 D cy A n0 ad0 (pv_Q below D cy n0 ad0 0 V0 q A args s) V0 σ V 39 [(0, .ref 28), (1, .int x1), (2, .ref 2), (3, .long x3), (5, .int x5), (6, .int x6), (7, .int x7), (8, .int x8)] []) {x1 : Int32} {x3 : Int64} {x5 : Int32} {x6 : Int32} {x7 : Int32} {x8 : Int32} {σ : pzS} {V : pvM} (hp : q_X4_join_b118 N r39 x1.toInt x3.toInt x5.toInt x6.toInt x7.toInt x8.toInt V = some q) : pv_W p l e 4 107 s m args below meth c 9 D cy A n0 ad0 (pv_Q below D cy n0 ad0 0 V0 q A args s) V0 σ V 118 [(0, .ref 28), (1, .int x1), (2, .ref 2), (3, .long x3), (5, .int x5), (6, .int x6), (7, .int x7), (8, .int x8)] [] := by
  unfold q_X4_join_b118 at hp
  refine pv_iinc (L := fun v1 => [(8, .int v1), (0, .ref 28), (1, .int x1), (2, .ref 2), (3, .long x3), (5, .int x5), (6, .int x6), (7, .int x7)]) C 7 hp dX4_join_118 (by decide) rfl (by decide) (fun _ => rfl) (fun v1 hp => ?_)
  refine pv_goto (tgt := 39) C dX4_join_121 (by decide) ?_
  refine pv_sub [1, 2, 3, 4, 5, 6, 7, 0] rfl ?_
  exact H39 _ _ _ _ _ _ _ _ hp
def q_X4_join_b124 (N : Nat) (x3 : Int) (V : pvM) : Option pvO :=
  cL (q_X1_push N x3 V) fun _ V =>
  rT V 0
set_option maxHeartbeats 4000000 in
set_option maxRecDepth 100000 in
theorem w_X4_join_b124 {p : Program} {l : Launch} {e : Env} {s : State} {m : MethodId} {args : Array Value} {below : List Frame} {meth : Method} {c : Code} {D : va_G} {cy : Nat → ClassId} {A : Nat → Prop} {n0 : Nat} {ad0 : Nat → Nat} {V0 : pvM} {q : pvO} (C : pz_C p s m args meth c cX4_join 9 yX4_join.cls D cy A) (hr : meth.sig.returnType = none) {N : Nat} {x3 : Int64} {σ : pzS} {V : pvM} (hp : q_X4_join_b124 N x3.toInt V = some q) : pv_W p l e 4 107 s m args below meth c 9 D cy A n0 ad0 (pv_Q below D cy n0 ad0 0 V0 q A args s) V0 σ V 124 [(0, .ref 28), (3, .long x3)] [] := by
  unfold q_X4_join_b124 at hp
  refine pv_aload_n C 0 dX4_join_124 rfl ?_
  refine pv_getR C (ci := 3) (k := 2) gwX4 rfl (Nat.le_of_ble_eq_true rfl) fl_X4_12 rfl rfl rfl (j := 29) rfl rfl dX4_join_125 ?_
  refine pv_lload_n C 1 dX4_join_128 rfl ?_
  refine pv_callV C (As := [.long x3]) (rest := []) (b := 29) (kd1 := 0) hp (fun q1 h9 => c_X1_push l D cy h9) wB_yX1_push ml_X4_143 im_yX1_push se_yX1_push (ci := 0) rfl rfl rfl rfl rfl (Nat.le_of_ble_eq_true rfl) ⟨(Nat.le_of_ble_eq_true rfl), (Nat.le_of_ble_eq_true rfl)⟩ dX4_join_129 rfl rfl (fun _ σ V hp => ?_)
  exact pv_vret C rfl hp hr dX4_join_132
def q_X4_join_b39 (N : Nat) : Nat → Int → Int → Int → Int → Int → Int → pvM → Option pvO
  | 0 => fun _ _ _ _ _ _ _ => none
  | n + 1 => fun x1 x3 x5 x6 x7 x8 V =>
    cL (q_X7_lengthOf N x1 V) fun v2 V =>
    if v2 ≤ x8 then
      q_X4_join_b124 N x3 V
    else
    gR V 28 8 fun v3 =>
    if v3 ≠ 0 then
      q_X4_join_b124 N x3 V
    else
    cL (q_X7_isHole N x1 x8 V) fun v4 V =>
    if v4 = 0 then
      cL (q_X7_letterAt N x6 V) fun v5 V =>
      cL (q_X8_appendLetter N x5 v5 V) fun v6 V =>
      lI (5) fun v7 =>
      cL (q_X4_faultUnless N v6 v7 V) fun _ V =>
      lI (pv_w (x6 + (1))) fun v8 =>
      q_X4_join_b118 N (q_X4_join_b39 N n) x1 x3 x5 v8 x7 x8 V
    else
    cL (q_X1_takenAt N x7 V) fun v9 V =>
    cL (q_X8_appendValue N x5 v9 V) fun v10 V =>
    lI (5) fun v11 =>
    cL (q_X4_faultUnless N v10 v11 V) fun _ V =>
    lI (pv_w (x7 + (1))) fun v12 =>
    q_X4_join_b118 N (q_X4_join_b39 N n) x1 x3 x5 x6 v12 x8 V
set_option maxHeartbeats 4000000 in
set_option maxRecDepth 100000 in
theorem w_X4_join_b39 {p : Program} {l : Launch} {e : Env} {s : State} {m : MethodId} {args : Array Value} {below : List Frame} {meth : Method} {c : Code} {D : va_G} {cy : Nat → ClassId} {A : Nat → Prop} {n0 : Nat} {ad0 : Nat → Nat} {V0 : pvM} {q : pvO} (C : pz_C p s m args meth c cX4_join 9 yX4_join.cls D cy A) (hr : meth.sig.returnType = none) {N : Nat} : ∀ (n : Nat) (x1 : Int32) (x3 : Int64) (x5 : Int32) (x6 : Int32) (x7 : Int32) (x8 : Int32) (σ : pzS) (V : pvM), q_X4_join_b39 N n x1.toInt x3.toInt x5.toInt x6.toInt x7.toInt x8.toInt V = some q → pv_W p l e 4 107 s m args below meth c 9 D cy A n0 ad0 (pv_Q below D cy n0 ad0 0 V0 q A args s) V0 σ V 39 [(0, .ref 28), (1, .int x1), (2, .ref 2), (3, .long x3), (5, .int x5), (6, .int x6), (7, .int x7), (8, .int x8)] [] := by
  intro n
  induction n with
  | zero =>
    intro x1 x3 x5 x6 x7 x8 σ V hp
    simp only [q_X4_join_b39] at hp
    cases hp
  | succ n ih =>
    intro x1 x3 x5 x6 x7 x8 σ V hp
    simp only [q_X4_join_b39] at hp
    refine pv_iload C 7 dX4_join_39 rfl ?_
    refine pv_aload_n C 2 dX4_join_41 rfl ?_
    refine pv_iload_n C 1 dX4_join_42 rfl ?_
    refine pv_callV C (As := [.int x1]) (rest := [.int x8]) (b := 2) (kd1 := 1) hp (fun q1 h9 => c_X7_lengthOf l D cy h9) wB_yX7_lengthOf ml_X4_252 im_yX7_lengthOf se_yX7_lengthOf (ci := 6) rfl rfl rfl rfl rfl (Nat.le_of_ble_eq_true rfl) ⟨(Nat.le_of_ble_eq_true rfl), (Nat.le_of_ble_eq_true rfl)⟩ dX4_join_43 rfl rfl (fun v2 σ V hp => ?_)
    refine pv_icmp_ge (tgt := 124) C hp dX4_join_46 (by decide) (fun hp => ?_) (fun hp => ?_)
    · refine pv_sub [0, 3] rfl ?_
      exact w_X4_join_b124 C hr hp
    · refine pv_aload_n C 0 dX4_join_49 rfl ?_
      refine pv_getI C (ci := 3) (k := 8) gwX4 rfl (Nat.le_of_ble_eq_true rfl) fl_X4_78 rfl rfl hp rfl rfl dX4_join_50 (fun v3 hp => ?_)
      refine pv_if_ne (tgt := 124) C hp dX4_join_53 (by decide) (fun hp => ?_) (fun hp => ?_)
      · refine pv_sub [0, 3] rfl ?_
        exact w_X4_join_b124 C hr hp
      · refine pv_aload_n C 2 dX4_join_56 rfl ?_
        refine pv_iload_n C 1 dX4_join_57 rfl ?_
        refine pv_iload C 7 dX4_join_58 rfl ?_
        refine pv_callV C (As := [.int x1, .int x8]) (rest := []) (b := 2) (kd1 := 1) hp (fun q1 h9 => c_X7_isHole l D cy h9) wB_yX7_isHole ml_X4_255 im_yX7_isHole se_yX7_isHole (ci := 6) rfl rfl rfl rfl rfl (Nat.le_of_ble_eq_true rfl) ⟨(Nat.le_of_ble_eq_true rfl), (Nat.le_of_ble_eq_true rfl)⟩ dX4_join_60 rfl rfl (fun v4 σ V hp => ?_)
        refine pv_if_eq (tgt := 95) C hp dX4_join_63 (by decide) (fun hp => ?_) (fun hp => ?_)
        · refine pv_aload_n C 0 dX4_join_95 rfl ?_
          refine pv_aload_n C 0 dX4_join_96 rfl ?_
          refine pv_getR C (ci := 3) (k := 4) gwX4 rfl (Nat.le_of_ble_eq_true rfl) fl_X4_28 rfl rfl rfl (j := 39) rfl rfl dX4_join_97 ?_
          refine pv_iload C 4 dX4_join_100 rfl ?_
          refine pv_aload_n C 2 dX4_join_102 rfl ?_
          refine pv_iload C 5 dX4_join_103 rfl ?_
          refine pv_callV C (As := [.int x6]) (rest := [.int x5, .ref 39, .ref 28]) (b := 2) (kd1 := 1) hp (fun q1 h9 => c_X7_letterAt l D cy h9) wB_yX7_letterAt ml_X4_258 im_yX7_letterAt se_yX7_letterAt (ci := 6) rfl rfl rfl rfl rfl (Nat.le_of_ble_eq_true rfl) ⟨(Nat.le_of_ble_eq_true rfl), (Nat.le_of_ble_eq_true rfl)⟩ dX4_join_105 rfl rfl (fun v5 σ V hp => ?_)
          refine pv_callV C (As := [.int x5, .int v5]) (rest := [.ref 28]) (b := 39) (kd1 := 1) hp (fun q1 h9 => c_X8_appendLetter l D cy h9) wB_yX8_appendLetter ml_X4_261 im_yX8_appendLetter se_yX8_appendLetter (ci := 7) rfl rfl rfl rfl rfl (Nat.le_of_ble_eq_true rfl) ⟨(Nat.le_of_ble_eq_true rfl), (Nat.le_of_ble_eq_true rfl)⟩ dX4_join_108 rfl rfl (fun v6 σ V hp => ?_)
          refine pv_iconst C hp dX4_join_111 (by decide) (fun v7 hp => ?_)
          refine pv_callV C (As := [.int v6, .int v7]) (rest := []) (b := 28) (kd1 := 0) hp (fun q1 h9 => c_X4_faultUnless l D cy h9) wB_yX4_faultUnless ml_X4_168 im_yX4_faultUnless se_yX4_faultUnless (ci := 3) rfl rfl rfl rfl rfl (Nat.le_of_ble_eq_true rfl) ⟨(Nat.le_of_ble_eq_true rfl), (Nat.le_of_ble_eq_true rfl)⟩ dX4_join_112 rfl rfl (fun _ σ V hp => ?_)
          refine pv_iinc (L := fun v8 => [(6, .int v8), (0, .ref 28), (1, .int x1), (2, .ref 2), (3, .long x3), (5, .int x5), (7, .int x7), (8, .int x8)]) C 5 hp dX4_join_115 (by decide) rfl (by decide) (fun _ => rfl) (fun v8 hp => ?_)
          refine pv_sub [1, 2, 3, 4, 5, 0, 6, 7] rfl ?_
          exact w_X4_join_b118 C hr ih hp
        · refine pv_aload_n C 0 dX4_join_66 rfl ?_
          refine pv_aload_n C 0 dX4_join_67 rfl ?_
          refine pv_getR C (ci := 3) (k := 4) gwX4 rfl (Nat.le_of_ble_eq_true rfl) fl_X4_28 rfl rfl rfl (j := 39) rfl rfl dX4_join_68 ?_
          refine pv_iload C 4 dX4_join_71 rfl ?_
          refine pv_aload_n C 0 dX4_join_73 rfl ?_
          refine pv_getR C (ci := 3) (k := 2) gwX4 rfl (Nat.le_of_ble_eq_true rfl) fl_X4_12 rfl rfl rfl (j := 29) rfl rfl dX4_join_74 ?_
          refine pv_iload C 6 dX4_join_77 rfl ?_
          refine pv_callV C (As := [.int x7]) (rest := [.int x5, .ref 39, .ref 28]) (b := 29) (kd1 := 2) hp (fun q1 h9 => c_X1_takenAt l D cy h9) wB_yX1_takenAt ml_X4_181 im_yX1_takenAt se_yX1_takenAt (ci := 0) rfl rfl rfl rfl rfl (Nat.le_of_ble_eq_true rfl) ⟨(Nat.le_of_ble_eq_true rfl), (Nat.le_of_ble_eq_true rfl)⟩ dX4_join_79 rfl rfl (fun v9 σ V hp => ?_)
          refine pv_callV C (As := [.int x5, .long v9]) (rest := [.ref 28]) (b := 39) (kd1 := 1) hp (fun q1 h9 => c_X8_appendValue l D cy h9) wB_yX8_appendValue ml_X4_216 im_yX8_appendValue se_yX8_appendValue (ci := 7) rfl rfl rfl rfl rfl (Nat.le_of_ble_eq_true rfl) ⟨(Nat.le_of_ble_eq_true rfl), (Nat.le_of_ble_eq_true rfl)⟩ dX4_join_82 rfl rfl (fun v10 σ V hp => ?_)
          refine pv_iconst C hp dX4_join_85 (by decide) (fun v11 hp => ?_)
          refine pv_callV C (As := [.int v10, .int v11]) (rest := []) (b := 28) (kd1 := 0) hp (fun q1 h9 => c_X4_faultUnless l D cy h9) wB_yX4_faultUnless ml_X4_168 im_yX4_faultUnless se_yX4_faultUnless (ci := 3) rfl rfl rfl rfl rfl (Nat.le_of_ble_eq_true rfl) ⟨(Nat.le_of_ble_eq_true rfl), (Nat.le_of_ble_eq_true rfl)⟩ dX4_join_86 rfl rfl (fun _ σ V hp => ?_)
          refine pv_iinc (L := fun v12 => [(7, .int v12), (0, .ref 28), (1, .int x1), (2, .ref 2), (3, .long x3), (5, .int x5), (6, .int x6), (8, .int x8)]) C 6 hp dX4_join_89 (by decide) rfl (by decide) (fun _ => rfl) (fun v12 hp => ?_)
          refine pv_goto (tgt := 118) C dX4_join_92 (by decide) ?_
          refine pv_sub [1, 2, 3, 4, 5, 6, 0, 7] rfl ?_
          exact w_X4_join_b118 C hr ih hp
def q_X4_join (N : Nat) (x1 : Int) (V : pvM) : Option pvO :=
  cL (q_X7_holesOf N x1 V) fun v13 V =>
  cL (q_X1_take N v13 V) fun _ V =>
  cL (q_X8_begin N V) fun v14 V =>
  cL (q_X10_contentOf N v14 V) fun v15 V =>
  cL (q_X7_firstLetterOf N x1 V) fun v16 V =>
  lI (0) fun v17 =>
  lI (0) fun v18 =>
  q_X4_join_b39 N N x1 v14 v15 v16 v17 v18 V
set_option maxHeartbeats 4000000 in
set_option maxRecDepth 100000 in
theorem c_X4_join (l : Launch) (D : va_G) (cy : Nat → ClassId) {N : Nat} {x1 : Int32} {V : pvM} {q : pvO} (hp : q_X4_join N x1.toInt V = some q) : pv_Met l yX4_join cX4_join 9 none 4 107 D cy V [.ref 28, .int x1, .ref 2] 0 q := by
  unfold q_X4_join at hp
  refine pv_ofW (by decide) (Nat.le_of_ble_eq_true rfl) (fun p e s m args below meth c ad A n0 σ C hr => ?_)
  refine pv_aload_n C 0 dX4_join_0 rfl ?_
  refine pv_getR C (ci := 3) (k := 2) gwX4 rfl (Nat.le_of_ble_eq_true rfl) fl_X4_12 rfl rfl rfl (j := 29) rfl rfl dX4_join_1 ?_
  refine pv_aload_n C 2 dX4_join_4 rfl ?_
  refine pv_iload_n C 1 dX4_join_5 rfl ?_
  refine pv_callV C (As := [.int x1]) (rest := [.ref 29]) (b := 2) (kd1 := 1) hp (fun q1 h9 => c_X7_holesOf l D cy h9) wB_yX7_holesOf ml_X4_244 im_yX7_holesOf se_yX7_holesOf (ci := 6) rfl rfl rfl rfl rfl (Nat.le_of_ble_eq_true rfl) ⟨(Nat.le_of_ble_eq_true rfl), (Nat.le_of_ble_eq_true rfl)⟩ dX4_join_6 rfl rfl (fun v13 σ V hp => ?_)
  refine pv_callV C (As := [.int v13]) (rest := []) (b := 29) (kd1 := 0) hp (fun q1 h9 => c_X1_take l D cy h9) wB_yX1_take ml_X4_175 im_yX1_take se_yX1_take (ci := 0) rfl rfl rfl rfl rfl (Nat.le_of_ble_eq_true rfl) ⟨(Nat.le_of_ble_eq_true rfl), (Nat.le_of_ble_eq_true rfl)⟩ dX4_join_9 rfl rfl (fun _ σ V hp => ?_)
  refine pv_aload_n C 0 dX4_join_12 rfl ?_
  refine pv_getR C (ci := 3) (k := 4) gwX4 rfl (Nat.le_of_ble_eq_true rfl) fl_X4_28 rfl rfl rfl (j := 39) rfl rfl dX4_join_13 ?_
  refine pv_callV C (As := []) (rest := []) (b := 39) (kd1 := 2) hp (fun q1 h9 => c_X8_begin l D cy h9) wB_yX8_begin ml_X4_210 im_yX8_begin se_yX8_begin (ci := 7) rfl rfl rfl rfl rfl (Nat.le_of_ble_eq_true rfl) ⟨(Nat.le_of_ble_eq_true rfl), (Nat.le_of_ble_eq_true rfl)⟩ dX4_join_16 rfl rfl (fun v14 σ V hp => ?_)
  refine pv_lstore_n (loc' := [(3, .long v14), (0, .ref 28), (1, .int x1), (2, .ref 2)]) C dX4_join_19 (by decide) rfl ?_
  refine pv_lload_n C 0 dX4_join_20 rfl ?_
  refine pv_callSN C (As := [.long v14]) (rest := []) (kd1 := 1) hp (fun q1 h9 => c_X10_contentOf l D cy h9) wB_yX10_contentOf (show (RX4, 67, yX10_contentOf, "FeatureDesugarer") ∈ pz_nests by decide +kernel) sm_yX10_contentOf rfl rfl (Nat.le_of_ble_eq_true rfl) ⟨(Nat.le_of_ble_eq_true rfl), (Nat.le_of_ble_eq_true rfl)⟩ dX4_join_21 rfl rfl (fun v15 σ V hp => ?_)
  refine pv_istore (loc' := [(5, .int v15), (3, .long v14), (0, .ref 28), (1, .int x1), (2, .ref 2)]) C dX4_join_24 (by decide) rfl ?_
  refine pv_aload_n C 4 dX4_join_26 rfl ?_
  refine pv_iload_n C 3 dX4_join_27 rfl ?_
  refine pv_callV C (As := [.int x1]) (rest := []) (b := 2) (kd1 := 1) hp (fun q1 h9 => c_X7_firstLetterOf l D cy h9) wB_yX7_firstLetterOf ml_X4_249 im_yX7_firstLetterOf se_yX7_firstLetterOf (ci := 6) rfl rfl rfl rfl rfl (Nat.le_of_ble_eq_true rfl) ⟨(Nat.le_of_ble_eq_true rfl), (Nat.le_of_ble_eq_true rfl)⟩ dX4_join_28 rfl rfl (fun v16 σ V hp => ?_)
  refine pv_istore (loc' := [(6, .int v16), (5, .int v15), (3, .long v14), (0, .ref 28), (1, .int x1), (2, .ref 2)]) C dX4_join_31 (by decide) rfl ?_
  refine pv_iconst C hp dX4_join_33 (by decide) (fun v17 hp => ?_)
  refine pv_istore (loc' := [(7, .int v17), (6, .int v16), (5, .int v15), (3, .long v14), (0, .ref 28), (1, .int x1), (2, .ref 2)]) C dX4_join_34 (by decide) rfl ?_
  refine pv_iconst C hp dX4_join_36 (by decide) (fun v18 hp => ?_)
  refine pv_istore (loc' := [(8, .int v18), (7, .int v17), (6, .int v16), (5, .int v15), (3, .long v14), (0, .ref 28), (1, .int x1), (2, .ref 2)]) C dX4_join_37 (by decide) rfl ?_
  refine pv_sub [5, 6, 7, 4, 3, 2, 1, 0] rfl ?_
  exact w_X4_join_b39 C hr N _ _ _ _ _ _ _ _ hp
def q_X4_appendCharacters_b68 (N : Nat) (x3 : Int) (V : pvM) : Option pvO :=
  cL (q_X1_push N x3 V) fun _ V =>
  rT V 0
set_option maxHeartbeats 4000000 in
set_option maxRecDepth 100000 in
theorem w_X4_appendCharacters_b68 {p : Program} {l : Launch} {e : Env} {s : State} {m : MethodId} {args : Array Value} {below : List Frame} {meth : Method} {c : Code} {D : va_G} {cy : Nat → ClassId} {A : Nat → Prop} {n0 : Nat} {ad0 : Nat → Nat} {V0 : pvM} {q : pvO} (C : pz_C p s m args meth c cX4_appendCharacters 8 yX4_appendCharacters.cls D cy A) (hr : meth.sig.returnType = none) {N : Nat} {x3 : Int64} {σ : pzS} {V : pvM} (hp : q_X4_appendCharacters_b68 N x3.toInt V = some q) : pv_W p l e 4 106 s m args below meth c 8 D cy A n0 ad0 (pv_Q below D cy n0 ad0 0 V0 q A args s) V0 σ V 68 [(0, .ref 28), (3, .long x3)] [] := by
  unfold q_X4_appendCharacters_b68 at hp
  refine pv_aload_n C 0 dX4_appendCharacters_68 rfl ?_
  refine pv_getR C (ci := 3) (k := 2) gwX4 rfl (Nat.le_of_ble_eq_true rfl) fl_X4_12 rfl rfl rfl (j := 29) rfl rfl dX4_appendCharacters_69 ?_
  refine pv_lload_n C 1 dX4_appendCharacters_72 rfl ?_
  refine pv_callV C (As := [.long x3]) (rest := []) (b := 29) (kd1 := 0) hp (fun q1 h9 => c_X1_push l D cy h9) wB_yX1_push ml_X4_143 im_yX1_push se_yX1_push (ci := 0) rfl rfl rfl rfl rfl (Nat.le_of_ble_eq_true rfl) ⟨(Nat.le_of_ble_eq_true rfl), (Nat.le_of_ble_eq_true rfl)⟩ dX4_appendCharacters_73 rfl rfl (fun _ σ V hp => ?_)
  exact pv_vret C rfl hp hr dX4_appendCharacters_76
def q_X4_appendCharacters_b17 (N : Nat) : Nat → Int → Int → Int → Int → Int → pvM → Option pvO
  | 0 => fun _ _ _ _ _ _ => none
  | n + 1 => fun x1 x2 x3 x5 x6 V =>
    if x2 ≤ x6 then
      q_X4_appendCharacters_b68 N x3 V
    else
    gR V 28 8 fun v1 =>
    if v1 ≠ 0 then
      q_X4_appendCharacters_b68 N x3 V
    else
    cL (q_X6_recipes N V) fun _ V =>
    lI (pv_w (x1 + x6)) fun v2 =>
    cL (q_X7_letterAt N v2 V) fun v3 V =>
    cL (q_X8_appendLetter N x5 v3 V) fun v4 V =>
    lI (5) fun v5 =>
    cL (q_X4_faultUnless N v4 v5 V) fun _ V =>
    lI (pv_w (x6 + (1))) fun v6 =>
    q_X4_appendCharacters_b17 N n x1 x2 x3 x5 v6 V
set_option maxHeartbeats 4000000 in
set_option maxRecDepth 100000 in
theorem w_X4_appendCharacters_b17 {p : Program} {l : Launch} {e : Env} {s : State} {m : MethodId} {args : Array Value} {below : List Frame} {meth : Method} {c : Code} {D : va_G} {cy : Nat → ClassId} {A : Nat → Prop} {n0 : Nat} {ad0 : Nat → Nat} {V0 : pvM} {q : pvO} (C : pz_C p s m args meth c cX4_appendCharacters 8 yX4_appendCharacters.cls D cy A) (hr : meth.sig.returnType = none) {N : Nat} : ∀ (n : Nat) (x1 : Int32) (x2 : Int32) (x3 : Int64) (x5 : Int32) (x6 : Int32) (σ : pzS) (V : pvM), q_X4_appendCharacters_b17 N n x1.toInt x2.toInt x3.toInt x5.toInt x6.toInt V = some q → pv_W p l e 4 106 s m args below meth c 8 D cy A n0 ad0 (pv_Q below D cy n0 ad0 0 V0 q A args s) V0 σ V 17 [(0, .ref 28), (1, .int x1), (2, .int x2), (3, .long x3), (5, .int x5), (6, .int x6)] [] := by
  intro n
  induction n with
  | zero =>
    intro x1 x2 x3 x5 x6 σ V hp
    simp only [q_X4_appendCharacters_b17] at hp
    cases hp
  | succ n ih =>
    intro x1 x2 x3 x5 x6 σ V hp
    simp only [q_X4_appendCharacters_b17] at hp
    refine pv_iload C 5 dX4_appendCharacters_17 rfl ?_
    refine pv_iload_n C 2 dX4_appendCharacters_19 rfl ?_
    refine pv_icmp_ge (tgt := 68) C hp dX4_appendCharacters_20 (by decide) (fun hp => ?_) (fun hp => ?_)
    · refine pv_sub [0, 3] rfl ?_
      exact w_X4_appendCharacters_b68 C hr hp
    · refine pv_aload_n C 0 dX4_appendCharacters_23 rfl ?_
      refine pv_getI C (ci := 3) (k := 8) gwX4 rfl (Nat.le_of_ble_eq_true rfl) fl_X4_78 rfl rfl hp rfl rfl dX4_appendCharacters_24 (fun v1 hp => ?_)
      refine pv_if_ne (tgt := 68) C hp dX4_appendCharacters_27 (by decide) (fun hp => ?_) (fun hp => ?_)
      · refine pv_sub [0, 3] rfl ?_
        exact w_X4_appendCharacters_b68 C hr hp
      · refine pv_aload_n C 0 dX4_appendCharacters_30 rfl ?_
        refine pv_getR C (ci := 3) (k := 0) gwX4 rfl (Nat.le_of_ble_eq_true rfl) fl_X4_36 rfl rfl rfl (j := 1) rfl rfl dX4_appendCharacters_31 ?_
        refine pv_callV C (As := []) (rest := []) (b := 1) (kd1 := 5) hp (fun q1 h9 => c_X6_recipes l D cy h9) wB_yX6_recipes ml_X4_191 im_yX6_recipes se_yX6_recipes (ci := 5) rfl rfl rfl rfl rfl (Nat.le_of_ble_eq_true rfl) ⟨(Nat.le_of_ble_eq_true rfl), (Nat.le_of_ble_eq_true rfl)⟩ dX4_appendCharacters_34 rfl rfl (fun _ σ V hp => ?_)
        refine pv_iload_n C 1 dX4_appendCharacters_37 rfl ?_
        refine pv_iload C 5 dX4_appendCharacters_38 rfl ?_
        refine pv_iadd C hp dX4_appendCharacters_40 (fun v2 hp => ?_)
        refine pv_callV C (As := [.int v2]) (rest := []) (b := 2) (kd1 := 1) hp (fun q1 h9 => c_X7_letterAt l D cy h9) wB_yX7_letterAt ml_X4_258 im_yX7_letterAt se_yX7_letterAt (ci := 6) rfl rfl rfl rfl rfl (Nat.le_of_ble_eq_true rfl) ⟨(Nat.le_of_ble_eq_true rfl), (Nat.le_of_ble_eq_true rfl)⟩ dX4_appendCharacters_41 rfl rfl (fun v3 σ V hp => ?_)
        refine pv_istore (loc' := [(7, .int v3), (0, .ref 28), (1, .int x1), (2, .int x2), (3, .long x3), (5, .int x5), (6, .int x6)]) C dX4_appendCharacters_44 (by decide) rfl ?_
        refine pv_aload_n C 1 dX4_appendCharacters_46 rfl ?_
        refine pv_aload_n C 1 dX4_appendCharacters_47 rfl ?_
        refine pv_getR C (ci := 3) (k := 4) gwX4 rfl (Nat.le_of_ble_eq_true rfl) fl_X4_28 rfl rfl rfl (j := 39) rfl rfl dX4_appendCharacters_48 ?_
        refine pv_iload C 5 dX4_appendCharacters_51 rfl ?_
        refine pv_iload C 0 dX4_appendCharacters_53 rfl ?_
        refine pv_callV C (As := [.int x5, .int v3]) (rest := [.ref 28]) (b := 39) (kd1 := 1) hp (fun q1 h9 => c_X8_appendLetter l D cy h9) wB_yX8_appendLetter ml_X4_261 im_yX8_appendLetter se_yX8_appendLetter (ci := 7) rfl rfl rfl rfl rfl (Nat.le_of_ble_eq_true rfl) ⟨(Nat.le_of_ble_eq_true rfl), (Nat.le_of_ble_eq_true rfl)⟩ dX4_appendCharacters_55 rfl rfl (fun v4 σ V hp => ?_)
        refine pv_iconst C hp dX4_appendCharacters_58 (by decide) (fun v5 hp => ?_)
        refine pv_callV C (As := [.int v4, .int v5]) (rest := []) (b := 28) (kd1 := 0) hp (fun q1 h9 => c_X4_faultUnless l D cy h9) wB_yX4_faultUnless ml_X4_168 im_yX4_faultUnless se_yX4_faultUnless (ci := 3) rfl rfl rfl rfl rfl (Nat.le_of_ble_eq_true rfl) ⟨(Nat.le_of_ble_eq_true rfl), (Nat.le_of_ble_eq_true rfl)⟩ dX4_appendCharacters_59 rfl rfl (fun _ σ V hp => ?_)
        refine pv_iinc (L := fun v6 => [(6, .int v6), (7, .int v3), (0, .ref 28), (1, .int x1), (2, .int x2), (3, .long x3), (5, .int x5)]) C 6 hp dX4_appendCharacters_62 (by decide) rfl (by decide) (fun _ => rfl) (fun v6 hp => ?_)
        refine pv_goto (tgt := 17) C dX4_appendCharacters_65 (by decide) ?_
        refine pv_sub [2, 3, 4, 5, 6, 0] rfl ?_
        exact ih _ _ _ _ _ _ _ hp
def q_X4_appendCharacters (N : Nat) (x1 : Int) (x2 : Int) (V : pvM) : Option pvO :=
  cL (q_X1_pop N V) fun v7 V =>
  cL (q_X10_contentOf N v7 V) fun v8 V =>
  lI (0) fun v9 =>
  q_X4_appendCharacters_b17 N N x1 x2 v7 v8 v9 V
set_option maxHeartbeats 4000000 in
set_option maxRecDepth 100000 in
theorem c_X4_appendCharacters (l : Launch) (D : va_G) (cy : Nat → ClassId) {N : Nat} {x1 : Int32} {x2 : Int32} {V : pvM} {q : pvO} (hp : q_X4_appendCharacters N x1.toInt x2.toInt V = some q) : pv_Met l yX4_appendCharacters cX4_appendCharacters 8 none 4 106 D cy V [.ref 28, .int x1, .int x2] 0 q := by
  unfold q_X4_appendCharacters at hp
  refine pv_ofW (by decide) (Nat.le_of_ble_eq_true rfl) (fun p e s m args below meth c ad A n0 σ C hr => ?_)
  refine pv_aload_n C 0 dX4_appendCharacters_0 rfl ?_
  refine pv_getR C (ci := 3) (k := 2) gwX4 rfl (Nat.le_of_ble_eq_true rfl) fl_X4_12 rfl rfl rfl (j := 29) rfl rfl dX4_appendCharacters_1 ?_
  refine pv_callV C (As := []) (rest := []) (b := 29) (kd1 := 2) hp (fun q1 h9 => c_X1_pop l D cy h9) wB_yX1_pop ml_X4_151 im_yX1_pop se_yX1_pop (ci := 0) rfl rfl rfl rfl rfl (Nat.le_of_ble_eq_true rfl) ⟨(Nat.le_of_ble_eq_true rfl), (Nat.le_of_ble_eq_true rfl)⟩ dX4_appendCharacters_4 rfl rfl (fun v7 σ V hp => ?_)
  refine pv_lstore_n (loc' := [(3, .long v7), (0, .ref 28), (1, .int x1), (2, .int x2)]) C dX4_appendCharacters_7 (by decide) rfl ?_
  refine pv_lload_n C 0 dX4_appendCharacters_8 rfl ?_
  refine pv_callSN C (As := [.long v7]) (rest := []) (kd1 := 1) hp (fun q1 h9 => c_X10_contentOf l D cy h9) wB_yX10_contentOf (show (RX4, 67, yX10_contentOf, "FeatureDesugarer") ∈ pz_nests by decide +kernel) sm_yX10_contentOf rfl rfl (Nat.le_of_ble_eq_true rfl) ⟨(Nat.le_of_ble_eq_true rfl), (Nat.le_of_ble_eq_true rfl)⟩ dX4_appendCharacters_9 rfl rfl (fun v8 σ V hp => ?_)
  refine pv_istore (loc' := [(5, .int v8), (3, .long v7), (0, .ref 28), (1, .int x1), (2, .int x2)]) C dX4_appendCharacters_12 (by decide) rfl ?_
  refine pv_iconst C hp dX4_appendCharacters_14 (by decide) (fun v9 hp => ?_)
  refine pv_istore (loc' := [(6, .int v9), (5, .int v8), (3, .long v7), (0, .ref 28), (1, .int x1), (2, .int x2)]) C dX4_appendCharacters_15 (by decide) rfl ?_
  refine pv_sub [3, 4, 5, 2, 1, 0] rfl ?_
  exact w_X4_appendCharacters_b17 C hr N _ _ _ _ _ _ _ hp
def q_X4_doShared (N : Nat) (x1 : Int) (x2 : Int) (V : pvM) : Option pvO :=
  if x1 = 0 then
    lI (1) fun v1 =>
    cL (q_X10_valueOf N v1 x2 V) fun v2 V =>
    cL (q_X1_push N v2 V) fun _ V =>
    rT V 0
  else
  if x1 = 1 then
    cL (q_X1_local N x2 V) fun v3 V =>
    cL (q_X1_push N v3 V) fun _ V =>
    rT V 0
  else
  if x1 = 2 then
    cL (q_X1_pop N V) fun v4 V =>
    cL (q_X1_setLocal N x2 v4 V) fun _ V =>
    rT V 0
  else
  if x1 = 3 then
    cL (q_X4_reckon N x1 V) fun _ V =>
    rT V 0
  else
  if x1 = 4 then
    cL (q_X4_reckon N x1 V) fun _ V =>
    rT V 0
  else
  if x1 = 5 then
    cL (q_X4_reckon N x1 V) fun _ V =>
    rT V 0
  else
  if x1 = 6 then
    cL (q_X1_pop N V) fun v5 V =>
    cL (q_X1_push N v5 V) fun _ V =>
    cL (q_X1_push N v5 V) fun _ V =>
    rT V 0
  else
  if x1 = 7 then
    cL (q_X1_pop N V) fun v6 V =>
    rT V 0
  else
  if x1 = 8 then
    cL (q_X1_goTo N x2 V) fun _ V =>
    rT V 0
  else
  if x1 = 9 then
    cL (q_X4_goIfZero N x2 V) fun _ V =>
    rT V 0
  else
  if x1 = 10 then
    cL (q_X4_callFunction N x2 V) fun _ V =>
    rT V 0
  else
  if x1 = 11 then
    cL (q_X4_giveBack N V) fun _ V =>
    rT V 0
  else
  if x1 = 12 then
    cL (q_X1_pop N V) fun v7 V =>
    cL (q_X8_sayValue N v7 V) fun v8 V =>
    lI (5) fun v9 =>
    cL (q_X4_faultUnless N v8 v9 V) fun _ V =>
    rT V 0
  else
  cL (q_X4_reckon N x1 V) fun _ V =>
  rT V 0
set_option maxHeartbeats 4000000 in
set_option maxRecDepth 100000 in
theorem c_X4_doShared (l : Launch) (D : va_G) (cy : Nat → ClassId) {N : Nat} {x1 : Int32} {x2 : Int32} {V : pvM} {q : pvO} (hp : q_X4_doShared N x1.toInt x2.toInt V = some q) : pv_Met l yX4_doShared cX4_doShared 5 none 3 86 D cy V [.ref 28, .int x1, .int x2] 0 q := by
  unfold q_X4_doShared at hp
  refine pv_ofW (by decide) (Nat.le_of_ble_eq_true rfl) (fun p e s m args below meth c ad A n0 σ C hr => ?_)
  refine pv_iload_n C 1 dX4_doShared_0 rfl ?_
  refine pv_case (x := x1) (v := 0) hp (fun hx hp => ?_) (fun h1_0 hp => ?_)
  · refine pv_tableIn (tgt := 68) C hx dX4_doShared_1 (by decide) (by decide) (off := 67) rfl (by decide) ?_
    refine pv_aload_n C 0 dX4_doShared_68 rfl ?_
    refine pv_getR C (ci := 3) (k := 2) gwX4 rfl (Nat.le_of_ble_eq_true rfl) fl_X4_12 rfl rfl rfl (j := 29) rfl rfl dX4_doShared_69 ?_
    refine pv_iconst C hp dX4_doShared_72 (by decide) (fun v1 hp => ?_)
    refine pv_iload_n C 2 dX4_doShared_73 rfl ?_
    refine pv_callSN C (As := [.int v1, .int x2]) (rest := [.ref 29]) (kd1 := 2) hp (fun q1 h9 => c_X10_valueOf l D cy h9) wB_yX10_valueOf (show (RX4, 90, yX10_valueOf, "FeatureDesugarer") ∈ pz_nests by decide +kernel) sm_yX10_valueOf rfl rfl (Nat.le_of_ble_eq_true rfl) ⟨(Nat.le_of_ble_eq_true rfl), (Nat.le_of_ble_eq_true rfl)⟩ dX4_doShared_74 rfl rfl (fun v2 σ V hp => ?_)
    refine pv_callV C (As := [.long v2]) (rest := []) (b := 29) (kd1 := 0) hp (fun q1 h9 => c_X1_push l D cy h9) wB_yX1_push ml_X4_143 im_yX1_push se_yX1_push (ci := 0) rfl rfl rfl rfl rfl (Nat.le_of_ble_eq_true rfl) ⟨(Nat.le_of_ble_eq_true rfl), (Nat.le_of_ble_eq_true rfl)⟩ dX4_doShared_77 rfl rfl (fun _ σ V hp => ?_)
    refine pv_goto (tgt := 218) C dX4_doShared_80 (by decide) ?_
    exact pv_vret C rfl hp hr dX4_doShared_218
  refine pv_case (x := x1) (v := 1) hp (fun hx hp => ?_) (fun h1_1 hp => ?_)
  · refine pv_tableIn (tgt := 83) C hx dX4_doShared_1 (by decide) (by decide) (off := 82) rfl (by decide) ?_
    refine pv_aload_n C 0 dX4_doShared_83 rfl ?_
    refine pv_getR C (ci := 3) (k := 2) gwX4 rfl (Nat.le_of_ble_eq_true rfl) fl_X4_12 rfl rfl rfl (j := 29) rfl rfl dX4_doShared_84 ?_
    refine pv_aload_n C 0 dX4_doShared_87 rfl ?_
    refine pv_getR C (ci := 3) (k := 2) gwX4 rfl (Nat.le_of_ble_eq_true rfl) fl_X4_12 rfl rfl rfl (j := 29) rfl rfl dX4_doShared_88 ?_
    refine pv_iload_n C 2 dX4_doShared_91 rfl ?_
    refine pv_callV C (As := [.int x2]) (rest := [.ref 29]) (b := 29) (kd1 := 2) hp (fun q1 h9 => c_X1_local l D cy h9) wB_yX1_local ml_X4_147 im_yX1_local se_yX1_local (ci := 0) rfl rfl rfl rfl rfl (Nat.le_of_ble_eq_true rfl) ⟨(Nat.le_of_ble_eq_true rfl), (Nat.le_of_ble_eq_true rfl)⟩ dX4_doShared_92 rfl rfl (fun v3 σ V hp => ?_)
    refine pv_callV C (As := [.long v3]) (rest := []) (b := 29) (kd1 := 0) hp (fun q1 h9 => c_X1_push l D cy h9) wB_yX1_push ml_X4_143 im_yX1_push se_yX1_push (ci := 0) rfl rfl rfl rfl rfl (Nat.le_of_ble_eq_true rfl) ⟨(Nat.le_of_ble_eq_true rfl), (Nat.le_of_ble_eq_true rfl)⟩ dX4_doShared_95 rfl rfl (fun _ σ V hp => ?_)
    refine pv_goto (tgt := 218) C dX4_doShared_98 (by decide) ?_
    exact pv_vret C rfl hp hr dX4_doShared_218
  refine pv_case (x := x1) (v := 2) hp (fun hx hp => ?_) (fun h1_2 hp => ?_)
  · refine pv_tableIn (tgt := 101) C hx dX4_doShared_1 (by decide) (by decide) (off := 100) rfl (by decide) ?_
    refine pv_aload_n C 0 dX4_doShared_101 rfl ?_
    refine pv_getR C (ci := 3) (k := 2) gwX4 rfl (Nat.le_of_ble_eq_true rfl) fl_X4_12 rfl rfl rfl (j := 29) rfl rfl dX4_doShared_102 ?_
    refine pv_iload_n C 2 dX4_doShared_105 rfl ?_
    refine pv_aload_n C 0 dX4_doShared_106 rfl ?_
    refine pv_getR C (ci := 3) (k := 2) gwX4 rfl (Nat.le_of_ble_eq_true rfl) fl_X4_12 rfl rfl rfl (j := 29) rfl rfl dX4_doShared_107 ?_
    refine pv_callV C (As := []) (rest := [.int x2, .ref 29]) (b := 29) (kd1 := 2) hp (fun q1 h9 => c_X1_pop l D cy h9) wB_yX1_pop ml_X4_151 im_yX1_pop se_yX1_pop (ci := 0) rfl rfl rfl rfl rfl (Nat.le_of_ble_eq_true rfl) ⟨(Nat.le_of_ble_eq_true rfl), (Nat.le_of_ble_eq_true rfl)⟩ dX4_doShared_110 rfl rfl (fun v4 σ V hp => ?_)
    refine pv_callV C (As := [.int x2, .long v4]) (rest := []) (b := 29) (kd1 := 0) hp (fun q1 h9 => c_X1_setLocal l D cy h9) wB_yX1_setLocal ml_X4_94 im_yX1_setLocal se_yX1_setLocal (ci := 0) rfl rfl rfl rfl rfl (Nat.le_of_ble_eq_true rfl) ⟨(Nat.le_of_ble_eq_true rfl), (Nat.le_of_ble_eq_true rfl)⟩ dX4_doShared_113 rfl rfl (fun _ σ V hp => ?_)
    refine pv_goto (tgt := 218) C dX4_doShared_116 (by decide) ?_
    exact pv_vret C rfl hp hr dX4_doShared_218
  refine pv_case (x := x1) (v := 3) hp (fun hx hp => ?_) (fun h1_3 hp => ?_)
  · refine pv_tableIn (tgt := 213) C hx dX4_doShared_1 (by decide) (by decide) (off := 212) rfl (by decide) ?_
    refine pv_aload_n C 0 dX4_doShared_213 rfl ?_
    refine pv_iload_n C 1 dX4_doShared_214 rfl ?_
    refine pv_callV C (As := [.int x1]) (rest := []) (b := 28) (kd1 := 0) hp (fun q1 h9 => c_X4_reckon l D cy h9) wB_yX4_reckon ml_X4_172 im_yX4_reckon se_yX4_reckon (ci := 3) rfl rfl rfl rfl rfl (Nat.le_of_ble_eq_true rfl) ⟨(Nat.le_of_ble_eq_true rfl), (Nat.le_of_ble_eq_true rfl)⟩ dX4_doShared_215 rfl rfl (fun _ σ V hp => ?_)
    exact pv_vret C rfl hp hr dX4_doShared_218
  refine pv_case (x := x1) (v := 4) hp (fun hx hp => ?_) (fun h1_4 hp => ?_)
  · refine pv_tableIn (tgt := 213) C hx dX4_doShared_1 (by decide) (by decide) (off := 212) rfl (by decide) ?_
    refine pv_aload_n C 0 dX4_doShared_213 rfl ?_
    refine pv_iload_n C 1 dX4_doShared_214 rfl ?_
    refine pv_callV C (As := [.int x1]) (rest := []) (b := 28) (kd1 := 0) hp (fun q1 h9 => c_X4_reckon l D cy h9) wB_yX4_reckon ml_X4_172 im_yX4_reckon se_yX4_reckon (ci := 3) rfl rfl rfl rfl rfl (Nat.le_of_ble_eq_true rfl) ⟨(Nat.le_of_ble_eq_true rfl), (Nat.le_of_ble_eq_true rfl)⟩ dX4_doShared_215 rfl rfl (fun _ σ V hp => ?_)
    exact pv_vret C rfl hp hr dX4_doShared_218
  refine pv_case (x := x1) (v := 5) hp (fun hx hp => ?_) (fun h1_5 hp => ?_)
  · refine pv_tableIn (tgt := 213) C hx dX4_doShared_1 (by decide) (by decide) (off := 212) rfl (by decide) ?_
    refine pv_aload_n C 0 dX4_doShared_213 rfl ?_
    refine pv_iload_n C 1 dX4_doShared_214 rfl ?_
    refine pv_callV C (As := [.int x1]) (rest := []) (b := 28) (kd1 := 0) hp (fun q1 h9 => c_X4_reckon l D cy h9) wB_yX4_reckon ml_X4_172 im_yX4_reckon se_yX4_reckon (ci := 3) rfl rfl rfl rfl rfl (Nat.le_of_ble_eq_true rfl) ⟨(Nat.le_of_ble_eq_true rfl), (Nat.le_of_ble_eq_true rfl)⟩ dX4_doShared_215 rfl rfl (fun _ σ V hp => ?_)
    exact pv_vret C rfl hp hr dX4_doShared_218
  refine pv_case (x := x1) (v := 6) hp (fun hx hp => ?_) (fun h1_6 hp => ?_)
  · refine pv_tableIn (tgt := 119) C hx dX4_doShared_1 (by decide) (by decide) (off := 118) rfl (by decide) ?_
    refine pv_aload_n C 0 dX4_doShared_119 rfl ?_
    refine pv_getR C (ci := 3) (k := 2) gwX4 rfl (Nat.le_of_ble_eq_true rfl) fl_X4_12 rfl rfl rfl (j := 29) rfl rfl dX4_doShared_120 ?_
    refine pv_callV C (As := []) (rest := []) (b := 29) (kd1 := 2) hp (fun q1 h9 => c_X1_pop l D cy h9) wB_yX1_pop ml_X4_151 im_yX1_pop se_yX1_pop (ci := 0) rfl rfl rfl rfl rfl (Nat.le_of_ble_eq_true rfl) ⟨(Nat.le_of_ble_eq_true rfl), (Nat.le_of_ble_eq_true rfl)⟩ dX4_doShared_123 rfl rfl (fun v5 σ V hp => ?_)
    refine pv_lstore_n (loc' := [(3, .long v5), (0, .ref 28), (1, .int x1), (2, .int x2)]) C dX4_doShared_126 (by decide) rfl ?_
    refine pv_aload_n C 1 dX4_doShared_127 rfl ?_
    refine pv_getR C (ci := 3) (k := 2) gwX4 rfl (Nat.le_of_ble_eq_true rfl) fl_X4_12 rfl rfl rfl (j := 29) rfl rfl dX4_doShared_128 ?_
    refine pv_lload_n C 0 dX4_doShared_131 rfl ?_
    refine pv_callV C (As := [.long v5]) (rest := []) (b := 29) (kd1 := 0) hp (fun q1 h9 => c_X1_push l D cy h9) wB_yX1_push ml_X4_143 im_yX1_push se_yX1_push (ci := 0) rfl rfl rfl rfl rfl (Nat.le_of_ble_eq_true rfl) ⟨(Nat.le_of_ble_eq_true rfl), (Nat.le_of_ble_eq_true rfl)⟩ dX4_doShared_132 rfl rfl (fun _ σ V hp => ?_)
    refine pv_aload_n C 1 dX4_doShared_135 rfl ?_
    refine pv_getR C (ci := 3) (k := 2) gwX4 rfl (Nat.le_of_ble_eq_true rfl) fl_X4_12 rfl rfl rfl (j := 29) rfl rfl dX4_doShared_136 ?_
    refine pv_lload_n C 0 dX4_doShared_139 rfl ?_
    refine pv_callV C (As := [.long v5]) (rest := []) (b := 29) (kd1 := 0) hp (fun q1 h9 => c_X1_push l D cy h9) wB_yX1_push ml_X4_143 im_yX1_push se_yX1_push (ci := 0) rfl rfl rfl rfl rfl (Nat.le_of_ble_eq_true rfl) ⟨(Nat.le_of_ble_eq_true rfl), (Nat.le_of_ble_eq_true rfl)⟩ dX4_doShared_140 rfl rfl (fun _ σ V hp => ?_)
    refine pv_goto (tgt := 218) C dX4_doShared_143 (by decide) ?_
    exact pv_vret C rfl hp hr dX4_doShared_218
  refine pv_case (x := x1) (v := 7) hp (fun hx hp => ?_) (fun h1_7 hp => ?_)
  · refine pv_tableIn (tgt := 146) C hx dX4_doShared_1 (by decide) (by decide) (off := 145) rfl (by decide) ?_
    refine pv_aload_n C 0 dX4_doShared_146 rfl ?_
    refine pv_getR C (ci := 3) (k := 2) gwX4 rfl (Nat.le_of_ble_eq_true rfl) fl_X4_12 rfl rfl rfl (j := 29) rfl rfl dX4_doShared_147 ?_
    refine pv_callV C (As := []) (rest := []) (b := 29) (kd1 := 2) hp (fun q1 h9 => c_X1_pop l D cy h9) wB_yX1_pop ml_X4_151 im_yX1_pop se_yX1_pop (ci := 0) rfl rfl rfl rfl rfl (Nat.le_of_ble_eq_true rfl) ⟨(Nat.le_of_ble_eq_true rfl), (Nat.le_of_ble_eq_true rfl)⟩ dX4_doShared_150 rfl rfl (fun v6 σ V hp => ?_)
    refine pv_pop2 C dX4_doShared_153 ?_
    refine pv_goto (tgt := 218) C dX4_doShared_154 (by decide) ?_
    exact pv_vret C rfl hp hr dX4_doShared_218
  refine pv_case (x := x1) (v := 8) hp (fun hx hp => ?_) (fun h1_8 hp => ?_)
  · refine pv_tableIn (tgt := 157) C hx dX4_doShared_1 (by decide) (by decide) (off := 156) rfl (by decide) ?_
    refine pv_aload_n C 0 dX4_doShared_157 rfl ?_
    refine pv_getR C (ci := 3) (k := 2) gwX4 rfl (Nat.le_of_ble_eq_true rfl) fl_X4_12 rfl rfl rfl (j := 29) rfl rfl dX4_doShared_158 ?_
    refine pv_iload_n C 2 dX4_doShared_161 rfl ?_
    refine pv_callV C (As := [.int x2]) (rest := []) (b := 29) (kd1 := 0) hp (fun q1 h9 => c_X1_goTo l D cy h9) wB_yX1_goTo ml_X4_118 im_yX1_goTo se_yX1_goTo (ci := 0) rfl rfl rfl rfl rfl (Nat.le_of_ble_eq_true rfl) ⟨(Nat.le_of_ble_eq_true rfl), (Nat.le_of_ble_eq_true rfl)⟩ dX4_doShared_162 rfl rfl (fun _ σ V hp => ?_)
    refine pv_goto (tgt := 218) C dX4_doShared_165 (by decide) ?_
    exact pv_vret C rfl hp hr dX4_doShared_218
  refine pv_case (x := x1) (v := 9) hp (fun hx hp => ?_) (fun h1_9 hp => ?_)
  · refine pv_tableIn (tgt := 168) C hx dX4_doShared_1 (by decide) (by decide) (off := 167) rfl (by decide) ?_
    refine pv_aload_n C 0 dX4_doShared_168 rfl ?_
    refine pv_iload_n C 2 dX4_doShared_169 rfl ?_
    refine pv_callV C (As := [.int x2]) (rest := []) (b := 28) (kd1 := 0) hp (fun q1 h9 => c_X4_goIfZero l D cy h9) wB_yX4_goIfZero ml_X4_155 im_yX4_goIfZero se_yX4_goIfZero (ci := 3) rfl rfl rfl rfl rfl (Nat.le_of_ble_eq_true rfl) ⟨(Nat.le_of_ble_eq_true rfl), (Nat.le_of_ble_eq_true rfl)⟩ dX4_doShared_170 rfl rfl (fun _ σ V hp => ?_)
    refine pv_goto (tgt := 218) C dX4_doShared_173 (by decide) ?_
    exact pv_vret C rfl hp hr dX4_doShared_218
  refine pv_case (x := x1) (v := 10) hp (fun hx hp => ?_) (fun h1_10 hp => ?_)
  · refine pv_tableIn (tgt := 176) C hx dX4_doShared_1 (by decide) (by decide) (off := 175) rfl (by decide) ?_
    refine pv_aload_n C 0 dX4_doShared_176 rfl ?_
    refine pv_iload_n C 2 dX4_doShared_177 rfl ?_
    refine pv_callV C (As := [.int x2]) (rest := []) (b := 28) (kd1 := 0) hp (fun q1 h9 => c_X4_callFunction l D cy h9) wB_yX4_callFunction ml_X4_158 im_yX4_callFunction se_yX4_callFunction (ci := 3) rfl rfl rfl rfl rfl (Nat.le_of_ble_eq_true rfl) ⟨(Nat.le_of_ble_eq_true rfl), (Nat.le_of_ble_eq_true rfl)⟩ dX4_doShared_178 rfl rfl (fun _ σ V hp => ?_)
    refine pv_goto (tgt := 218) C dX4_doShared_181 (by decide) ?_
    exact pv_vret C rfl hp hr dX4_doShared_218
  refine pv_case (x := x1) (v := 11) hp (fun hx hp => ?_) (fun h1_11 hp => ?_)
  · refine pv_tableIn (tgt := 184) C hx dX4_doShared_1 (by decide) (by decide) (off := 183) rfl (by decide) ?_
    refine pv_aload_n C 0 dX4_doShared_184 rfl ?_
    refine pv_callV C (As := []) (rest := []) (b := 28) (kd1 := 0) hp (fun q1 h9 => c_X4_giveBack l D cy h9) wB_yX4_giveBack ml_X4_161 im_yX4_giveBack se_yX4_giveBack (ci := 3) rfl rfl rfl rfl rfl (Nat.le_of_ble_eq_true rfl) ⟨(Nat.le_of_ble_eq_true rfl), (Nat.le_of_ble_eq_true rfl)⟩ dX4_doShared_185 rfl rfl (fun _ σ V hp => ?_)
    refine pv_goto (tgt := 218) C dX4_doShared_188 (by decide) ?_
    exact pv_vret C rfl hp hr dX4_doShared_218
  refine pv_case (x := x1) (v := 12) hp (fun hx hp => ?_) (fun h1_12 hp => ?_)
  · refine pv_tableIn (tgt := 191) C hx dX4_doShared_1 (by decide) (by decide) (off := 190) rfl (by decide) ?_
    refine pv_aload_n C 0 dX4_doShared_191 rfl ?_
    refine pv_aload_n C 0 dX4_doShared_192 rfl ?_
    refine pv_getR C (ci := 3) (k := 4) gwX4 rfl (Nat.le_of_ble_eq_true rfl) fl_X4_28 rfl rfl rfl (j := 39) rfl rfl dX4_doShared_193 ?_
    refine pv_aload_n C 0 dX4_doShared_196 rfl ?_
    refine pv_getR C (ci := 3) (k := 2) gwX4 rfl (Nat.le_of_ble_eq_true rfl) fl_X4_12 rfl rfl rfl (j := 29) rfl rfl dX4_doShared_197 ?_
    refine pv_callV C (As := []) (rest := [.ref 39, .ref 28]) (b := 29) (kd1 := 2) hp (fun q1 h9 => c_X1_pop l D cy h9) wB_yX1_pop ml_X4_151 im_yX1_pop se_yX1_pop (ci := 0) rfl rfl rfl rfl rfl (Nat.le_of_ble_eq_true rfl) ⟨(Nat.le_of_ble_eq_true rfl), (Nat.le_of_ble_eq_true rfl)⟩ dX4_doShared_200 rfl rfl (fun v7 σ V hp => ?_)
    refine pv_callV C (As := [.long v7]) (rest := [.ref 28]) (b := 39) (kd1 := 1) hp (fun q1 h9 => c_X8_sayValue l D cy h9) wB_yX8_sayValue ml_X4_164 im_yX8_sayValue se_yX8_sayValue (ci := 7) rfl rfl rfl rfl rfl (Nat.le_of_ble_eq_true rfl) ⟨(Nat.le_of_ble_eq_true rfl), (Nat.le_of_ble_eq_true rfl)⟩ dX4_doShared_203 rfl rfl (fun v8 σ V hp => ?_)
    refine pv_iconst C hp dX4_doShared_206 (by decide) (fun v9 hp => ?_)
    refine pv_callV C (As := [.int v8, .int v9]) (rest := []) (b := 28) (kd1 := 0) hp (fun q1 h9 => c_X4_faultUnless l D cy h9) wB_yX4_faultUnless ml_X4_168 im_yX4_faultUnless se_yX4_faultUnless (ci := 3) rfl rfl rfl rfl rfl (Nat.le_of_ble_eq_true rfl) ⟨(Nat.le_of_ble_eq_true rfl), (Nat.le_of_ble_eq_true rfl)⟩ dX4_doShared_207 rfl rfl (fun _ σ V hp => ?_)
    refine pv_goto (tgt := 218) C dX4_doShared_210 (by decide) ?_
    exact pv_vret C rfl hp hr dX4_doShared_218
  refine pv_tableOut (tgt := 213) C (by omega) dX4_doShared_1 (by decide) ?_
  refine pv_aload_n C 0 dX4_doShared_213 rfl ?_
  refine pv_iload_n C 1 dX4_doShared_214 rfl ?_
  refine pv_callV C (As := [.int x1]) (rest := []) (b := 28) (kd1 := 0) hp (fun q1 h9 => c_X4_reckon l D cy h9) wB_yX4_reckon ml_X4_172 im_yX4_reckon se_yX4_reckon (ci := 3) rfl rfl rfl rfl rfl (Nat.le_of_ble_eq_true rfl) ⟨(Nat.le_of_ble_eq_true rfl), (Nat.le_of_ble_eq_true rfl)⟩ dX4_doShared_215 rfl rfl (fun _ σ V hp => ?_)
  exact pv_vret C rfl hp hr dX4_doShared_218
def q_X4_doFirst_b28 (N : Nat) : Nat → Int → Int → Int → pvM → Option pvO
  | 0 => fun _ _ _ _ => none
  | n + 1 => fun x3 x4 x6 V =>
    if x3 ≤ x6 then
      cL (q_X1_push N x4 V) fun _ V =>
      rT V 0
    else
    cL (q_X10_contentOf N x4 V) fun v1 V =>
    cL (q_X1_takenAt N x6 V) fun v2 V =>
    cL (q_X2_setValue N v1 x6 v2 V) fun _ V =>
    lI (pv_w (x6 + (1))) fun v3 =>
    q_X4_doFirst_b28 N n x3 x4 v3 V
set_option maxHeartbeats 4000000 in
set_option maxRecDepth 100000 in
theorem w_X4_doFirst_b28 {p : Program} {l : Launch} {e : Env} {s : State} {m : MethodId} {args : Array Value} {below : List Frame} {meth : Method} {c : Code} {D : va_G} {cy : Nat → ClassId} {A : Nat → Prop} {n0 : Nat} {ad0 : Nat → Nat} {V0 : pvM} {q : pvO} (C : pz_C p s m args meth c cX4_doFirst 7 yX4_doFirst.cls D cy A) (hr : meth.sig.returnType = none) {N : Nat} : ∀ (n : Nat) (x3 : Int32) (x4 : Int64) (x6 : Int32) (σ : pzS) (V : pvM), q_X4_doFirst_b28 N n x3.toInt x4.toInt x6.toInt V = some q → pv_W p l e 5 135 s m args below meth c 7 D cy A n0 ad0 (pv_Q below D cy n0 ad0 0 V0 q A args s) V0 σ V 28 [(0, .ref 28), (3, .int x3), (4, .long x4), (6, .int x6)] [] := by
  intro n
  induction n with
  | zero =>
    intro x3 x4 x6 σ V hp
    simp only [q_X4_doFirst_b28] at hp
    cases hp
  | succ n ih =>
    intro x3 x4 x6 σ V hp
    simp only [q_X4_doFirst_b28] at hp
    refine pv_iload C 3 dX4_doFirst_28 rfl ?_
    refine pv_iload_n C 1 dX4_doFirst_30 rfl ?_
    refine pv_icmp_ge (tgt := 63) C hp dX4_doFirst_31 (by decide) (fun hp => ?_) (fun hp => ?_)
    · refine pv_aload_n C 0 dX4_doFirst_63 rfl ?_
      refine pv_getR C (ci := 3) (k := 2) gwX4 rfl (Nat.le_of_ble_eq_true rfl) fl_X4_12 rfl rfl rfl (j := 29) rfl rfl dX4_doFirst_64 ?_
      refine pv_lload C 2 dX4_doFirst_67 rfl ?_
      refine pv_callV C (As := [.long x4]) (rest := []) (b := 29) (kd1 := 0) hp (fun q1 h9 => c_X1_push l D cy h9) wB_yX1_push ml_X4_143 im_yX1_push se_yX1_push (ci := 0) rfl rfl rfl rfl rfl (Nat.le_of_ble_eq_true rfl) ⟨(Nat.le_of_ble_eq_true rfl), (Nat.le_of_ble_eq_true rfl)⟩ dX4_doFirst_69 rfl rfl (fun _ σ V hp => ?_)
      refine pv_goto (tgt := 101) C dX4_doFirst_72 (by decide) ?_
      exact pv_vret C rfl hp hr dX4_doFirst_101
    · refine pv_aload_n C 0 dX4_doFirst_34 rfl ?_
      refine pv_getR C (ci := 3) (k := 3) gwX4 rfl (Nat.le_of_ble_eq_true rfl) fl_X4_21 rfl rfl rfl (j := 35) rfl rfl dX4_doFirst_35 ?_
      refine pv_lload C 2 dX4_doFirst_38 rfl ?_
      refine pv_callSN C (As := [.long x4]) (rest := [.ref 35]) (kd1 := 1) hp (fun q1 h9 => c_X10_contentOf l D cy h9) wB_yX10_contentOf (show (RX4, 67, yX10_contentOf, "FeatureDesugarer") ∈ pz_nests by decide +kernel) sm_yX10_contentOf rfl rfl (Nat.le_of_ble_eq_true rfl) ⟨(Nat.le_of_ble_eq_true rfl), (Nat.le_of_ble_eq_true rfl)⟩ dX4_doFirst_40 rfl rfl (fun v1 σ V hp => ?_)
      refine pv_iload C 3 dX4_doFirst_43 rfl ?_
      refine pv_aload_n C 0 dX4_doFirst_45 rfl ?_
      refine pv_getR C (ci := 3) (k := 2) gwX4 rfl (Nat.le_of_ble_eq_true rfl) fl_X4_12 rfl rfl rfl (j := 29) rfl rfl dX4_doFirst_46 ?_
      refine pv_iload C 3 dX4_doFirst_49 rfl ?_
      refine pv_callV C (As := [.int x6]) (rest := [.int x6, .int v1, .ref 35]) (b := 29) (kd1 := 2) hp (fun q1 h9 => c_X1_takenAt l D cy h9) wB_yX1_takenAt ml_X4_181 im_yX1_takenAt se_yX1_takenAt (ci := 0) rfl rfl rfl rfl rfl (Nat.le_of_ble_eq_true rfl) ⟨(Nat.le_of_ble_eq_true rfl), (Nat.le_of_ble_eq_true rfl)⟩ dX4_doFirst_51 rfl rfl (fun v2 σ V hp => ?_)
      refine pv_callV C (As := [.int v1, .int x6, .long v2]) (rest := []) (b := 35) (kd1 := 0) hp (fun q1 h9 => c_X2_setValue l D cy h9) wB_yX2_setValue ml_X4_184 im_yX2_setValue se_yX2_setValue (ci := 1) rfl rfl rfl rfl rfl (Nat.le_of_ble_eq_true rfl) ⟨(Nat.le_of_ble_eq_true rfl), (Nat.le_of_ble_eq_true rfl)⟩ dX4_doFirst_54 rfl rfl (fun _ σ V hp => ?_)
      refine pv_iinc (L := fun v3 => [(6, .int v3), (0, .ref 28), (3, .int x3), (4, .long x4)]) C 3 hp dX4_doFirst_57 (by decide) rfl (by decide) (fun _ => rfl) (fun v3 hp => ?_)
      refine pv_goto (tgt := 28) C dX4_doFirst_60 (by decide) ?_
      refine pv_sub [1, 2, 3, 0] rfl ?_
      exact ih _ _ _ _ _ hp
def q_X4_doFirst (N : Nat) (x1 : Int) (x2 : Int) (x3 : Int) (V : pvM) : Option pvO :=
  lI (13) fun v4 =>
  if x1 ≠ v4 then
    lI (14) fun v5 =>
    if x1 ≠ v5 then
      cL (q_X6_recipes N V) fun _ V =>
      cL (q_X4_join N x2 V) fun _ V =>
      rT V 0
    else
    cL (q_X4_applyTo N x2 V) fun _ V =>
    rT V 0
  else
  cL (q_X1_take N x3 V) fun _ V =>
  cL (q_X2_add N x2 x3 V) fun v6 V =>
  lI (0) fun v7 =>
  q_X4_doFirst_b28 N N x3 v6 v7 V
set_option maxHeartbeats 4000000 in
set_option maxRecDepth 100000 in
theorem c_X4_doFirst (l : Launch) (D : va_G) (cy : Nat → ClassId) {N : Nat} {x1 : Int32} {x2 : Int32} {x3 : Int32} {V : pvM} {q : pvO} (hp : q_X4_doFirst N x1.toInt x2.toInt x3.toInt V = some q) : pv_Met l yX4_doFirst cX4_doFirst 7 none 5 135 D cy V [.ref 28, .int x1, .int x2, .int x3] 0 q := by
  unfold q_X4_doFirst at hp
  refine pv_ofW (by decide) (Nat.le_of_ble_eq_true rfl) (fun p e s m args below meth c ad A n0 σ C hr => ?_)
  refine pv_iload_n C 1 dX4_doFirst_0 rfl ?_
  refine pv_bipush C hp dX4_doFirst_1 (by decide) (fun v4 hp => ?_)
  refine pv_icmp_ne (tgt := 75) C hp dX4_doFirst_3 (by decide) (fun hp => ?_) (fun hp => ?_)
  · refine pv_iload_n C 1 dX4_doFirst_75 rfl ?_
    refine pv_bipush C hp dX4_doFirst_76 (by decide) (fun v5 hp => ?_)
    refine pv_icmp_ne (tgt := 89) C hp dX4_doFirst_78 (by decide) (fun hp => ?_) (fun hp => ?_)
    · refine pv_aload_n C 0 dX4_doFirst_89 rfl ?_
      refine pv_iload_n C 2 dX4_doFirst_90 rfl ?_
      refine pv_aload_n C 0 dX4_doFirst_91 rfl ?_
      refine pv_getR C (ci := 3) (k := 0) gwX4 rfl (Nat.le_of_ble_eq_true rfl) fl_X4_36 rfl rfl rfl (j := 1) rfl rfl dX4_doFirst_92 ?_
      refine pv_callV C (As := []) (rest := [.int x2, .ref 28]) (b := 1) (kd1 := 5) hp (fun q1 h9 => c_X6_recipes l D cy h9) wB_yX6_recipes ml_X4_191 im_yX6_recipes se_yX6_recipes (ci := 5) rfl rfl rfl rfl rfl (Nat.le_of_ble_eq_true rfl) ⟨(Nat.le_of_ble_eq_true rfl), (Nat.le_of_ble_eq_true rfl)⟩ dX4_doFirst_95 rfl rfl (fun _ σ V hp => ?_)
      refine pv_callV C (As := [.int x2, .ref 2]) (rest := []) (b := 28) (kd1 := 0) hp (fun q1 h9 => c_X4_join l D cy h9) wB_yX4_join ml_X4_195 im_yX4_join se_yX4_join (ci := 3) rfl rfl rfl rfl rfl (Nat.le_of_ble_eq_true rfl) ⟨(Nat.le_of_ble_eq_true rfl), (Nat.le_of_ble_eq_true rfl)⟩ dX4_doFirst_98 rfl rfl (fun _ σ V hp => ?_)
      exact pv_vret C rfl hp hr dX4_doFirst_101
    · refine pv_aload_n C 0 dX4_doFirst_81 rfl ?_
      refine pv_iload_n C 2 dX4_doFirst_82 rfl ?_
      refine pv_callV C (As := [.int x2]) (rest := []) (b := 28) (kd1 := 0) hp (fun q1 h9 => c_X4_applyTo l D cy h9) wB_yX4_applyTo ml_X4_188 im_yX4_applyTo se_yX4_applyTo (ci := 3) rfl rfl rfl rfl rfl (Nat.le_of_ble_eq_true rfl) ⟨(Nat.le_of_ble_eq_true rfl), (Nat.le_of_ble_eq_true rfl)⟩ dX4_doFirst_83 rfl rfl (fun _ σ V hp => ?_)
      refine pv_goto (tgt := 101) C dX4_doFirst_86 (by decide) ?_
      exact pv_vret C rfl hp hr dX4_doFirst_101
  · refine pv_aload_n C 0 dX4_doFirst_6 rfl ?_
    refine pv_getR C (ci := 3) (k := 2) gwX4 rfl (Nat.le_of_ble_eq_true rfl) fl_X4_12 rfl rfl rfl (j := 29) rfl rfl dX4_doFirst_7 ?_
    refine pv_iload_n C 3 dX4_doFirst_10 rfl ?_
    refine pv_callV C (As := [.int x3]) (rest := []) (b := 29) (kd1 := 0) hp (fun q1 h9 => c_X1_take l D cy h9) wB_yX1_take ml_X4_175 im_yX1_take se_yX1_take (ci := 0) rfl rfl rfl rfl rfl (Nat.le_of_ble_eq_true rfl) ⟨(Nat.le_of_ble_eq_true rfl), (Nat.le_of_ble_eq_true rfl)⟩ dX4_doFirst_11 rfl rfl (fun _ σ V hp => ?_)
    refine pv_aload_n C 0 dX4_doFirst_14 rfl ?_
    refine pv_getR C (ci := 3) (k := 3) gwX4 rfl (Nat.le_of_ble_eq_true rfl) fl_X4_21 rfl rfl rfl (j := 35) rfl rfl dX4_doFirst_15 ?_
    refine pv_iload_n C 2 dX4_doFirst_18 rfl ?_
    refine pv_iload_n C 3 dX4_doFirst_19 rfl ?_
    refine pv_callV C (As := [.int x2, .int x3]) (rest := []) (b := 35) (kd1 := 2) hp (fun q1 h9 => c_X2_add l D cy h9) wB_yX2_add ml_X4_178 im_yX2_add se_yX2_add (ci := 1) rfl rfl rfl rfl rfl (Nat.le_of_ble_eq_true rfl) ⟨(Nat.le_of_ble_eq_true rfl), (Nat.le_of_ble_eq_true rfl)⟩ dX4_doFirst_20 rfl rfl (fun v6 σ V hp => ?_)
    refine pv_lstore (loc' := [(4, .long v6), (0, .ref 28), (1, .int x1), (2, .int x2), (3, .int x3)]) C dX4_doFirst_23 (by decide) rfl ?_
    refine pv_iconst C hp dX4_doFirst_25 (by decide) (fun v7 hp => ?_)
    refine pv_istore (loc' := [(6, .int v7), (4, .long v6), (0, .ref 28), (1, .int x1), (2, .int x2), (3, .int x3)]) C dX4_doFirst_26 (by decide) rfl ?_
    refine pv_sub [2, 5, 1, 0] rfl ?_
    exact w_X4_doFirst_b28 C hr N _ _ _ _ _ hp
def q_X4_doPlain (N : Nat) (x1 : Int) (x2 : Int) (x3 : Int) (V : pvM) : Option pvO :=
  if x1 = 20 then
    cL (q_X5_valuesOfClass N x2 V) fun v1 V =>
    cL (q_X2_add N x2 v1 V) fun v2 V =>
    cL (q_X1_push N v2 V) fun _ V =>
    rT V 0
  else
  if x1 = 21 then
    lI (2) fun v3 =>
    cL (q_X1_take N v3 V) fun _ V =>
    lI (0) fun v4 =>
    cL (q_X1_takenAt N v4 V) fun v5 V =>
    cL (q_X10_contentOf N v5 V) fun v6 V =>
    lI (1) fun v7 =>
    cL (q_X1_takenAt N v7 V) fun v8 V =>
    cL (q_X2_setValue N v6 x2 v8 V) fun _ V =>
    lI (0) fun v9 =>
    cL (q_X1_takenAt N v9 V) fun v10 V =>
    cL (q_X1_push N v10 V) fun _ V =>
    rT V 0
  else
  if x1 = 22 then
    cL (q_X4_invoke N x2 V) fun _ V =>
    rT V 0
  else
  if x1 = 23 then
    lI (0) fun v11 =>
    cL (q_X1_local N v11 V) fun v12 V =>
    cL (q_X10_contentOf N v12 V) fun v13 V =>
    cL (q_X2_valueAt N v13 x2 V) fun v14 V =>
    cL (q_X1_push N v14 V) fun _ V =>
    rT V 0
  else
  if x1 = 24 then
    cL (q_X8_begin N V) fun v15 V =>
    cL (q_X1_push N v15 V) fun _ V =>
    rT V 0
  else
  if x1 = 25 then
    cL (q_X4_appendCharacters N x2 x3 V) fun _ V =>
    rT V 0
  else
  lI (2) fun v16 =>
  cL (q_X1_take N v16 V) fun _ V =>
  lI (0) fun v17 =>
  cL (q_X1_takenAt N v17 V) fun v18 V =>
  cL (q_X10_contentOf N v18 V) fun v19 V =>
  lI (1) fun v20 =>
  cL (q_X1_takenAt N v20 V) fun v21 V =>
  cL (q_X8_appendValue N v19 v21 V) fun v22 V =>
  lI (5) fun v23 =>
  cL (q_X4_faultUnless N v22 v23 V) fun _ V =>
  lI (0) fun v24 =>
  cL (q_X1_takenAt N v24 V) fun v25 V =>
  cL (q_X1_push N v25 V) fun _ V =>
  rT V 0
set_option maxHeartbeats 4000000 in
set_option maxRecDepth 100000 in
theorem c_X4_doPlain (l : Launch) (D : va_G) (cy : Nat → ClassId) {N : Nat} {x1 : Int32} {x2 : Int32} {x3 : Int32} {V : pvM} {q : pvO} (hp : q_X4_doPlain N x1.toInt x2.toInt x3.toInt V = some q) : pv_Met l yX4_doPlain cX4_doPlain 5 none 5 133 D cy V [.ref 28, .int x1, .int x2, .int x3] 0 q := by
  unfold q_X4_doPlain at hp
  refine pv_ofW (by decide) (Nat.le_of_ble_eq_true rfl) (fun p e s m args below meth c ad A n0 σ C hr => ?_)
  refine pv_iload_n C 1 dX4_doPlain_0 rfl ?_
  refine pv_case (x := x1) (v := 20) hp (fun hx hp => ?_) (fun h1_20 hp => ?_)
  · refine pv_tableIn (tgt := 40) C hx dX4_doPlain_1 (by decide) (by decide) (off := 39) rfl (by decide) ?_
    refine pv_aload_n C 0 dX4_doPlain_40 rfl ?_
    refine pv_getR C (ci := 3) (k := 2) gwX4 rfl (Nat.le_of_ble_eq_true rfl) fl_X4_12 rfl rfl rfl (j := 29) rfl rfl dX4_doPlain_41 ?_
    refine pv_aload_n C 0 dX4_doPlain_44 rfl ?_
    refine pv_getR C (ci := 3) (k := 3) gwX4 rfl (Nat.le_of_ble_eq_true rfl) fl_X4_21 rfl rfl rfl (j := 35) rfl rfl dX4_doPlain_45 ?_
    refine pv_iload_n C 2 dX4_doPlain_48 rfl ?_
    refine pv_aload_n C 0 dX4_doPlain_49 rfl ?_
    refine pv_getR C (ci := 3) (k := 1) gwX4 rfl (Nat.le_of_ble_eq_true rfl) fl_X4_40 rfl rfl rfl (j := 16) rfl rfl dX4_doPlain_50 ?_
    refine pv_iload_n C 2 dX4_doPlain_53 rfl ?_
    refine pv_callV C (As := [.int x2]) (rest := [.int x2, .ref 35, .ref 29]) (b := 16) (kd1 := 1) hp (fun q1 h9 => c_X5_valuesOfClass l D cy h9) wB_yX5_valuesOfClass ml_X4_199 im_yX5_valuesOfClass se_yX5_valuesOfClass (ci := 4) rfl rfl rfl rfl rfl (Nat.le_of_ble_eq_true rfl) ⟨(Nat.le_of_ble_eq_true rfl), (Nat.le_of_ble_eq_true rfl)⟩ dX4_doPlain_54 rfl rfl (fun v1 σ V hp => ?_)
    refine pv_callV C (As := [.int x2, .int v1]) (rest := [.ref 29]) (b := 35) (kd1 := 2) hp (fun q1 h9 => c_X2_add l D cy h9) wB_yX2_add ml_X4_178 im_yX2_add se_yX2_add (ci := 1) rfl rfl rfl rfl rfl (Nat.le_of_ble_eq_true rfl) ⟨(Nat.le_of_ble_eq_true rfl), (Nat.le_of_ble_eq_true rfl)⟩ dX4_doPlain_57 rfl rfl (fun v2 σ V hp => ?_)
    refine pv_callV C (As := [.long v2]) (rest := []) (b := 29) (kd1 := 0) hp (fun q1 h9 => c_X1_push l D cy h9) wB_yX1_push ml_X4_143 im_yX1_push se_yX1_push (ci := 0) rfl rfl rfl rfl rfl (Nat.le_of_ble_eq_true rfl) ⟨(Nat.le_of_ble_eq_true rfl), (Nat.le_of_ble_eq_true rfl)⟩ dX4_doPlain_60 rfl rfl (fun _ σ V hp => ?_)
    refine pv_goto (tgt := 240) C dX4_doPlain_63 (by decide) ?_
    exact pv_vret C rfl hp hr dX4_doPlain_240
  refine pv_case (x := x1) (v := 21) hp (fun hx hp => ?_) (fun h1_21 hp => ?_)
  · refine pv_tableIn (tgt := 66) C hx dX4_doPlain_1 (by decide) (by decide) (off := 65) rfl (by decide) ?_
    refine pv_aload_n C 0 dX4_doPlain_66 rfl ?_
    refine pv_getR C (ci := 3) (k := 2) gwX4 rfl (Nat.le_of_ble_eq_true rfl) fl_X4_12 rfl rfl rfl (j := 29) rfl rfl dX4_doPlain_67 ?_
    refine pv_iconst C hp dX4_doPlain_70 (by decide) (fun v3 hp => ?_)
    refine pv_callV C (As := [.int v3]) (rest := []) (b := 29) (kd1 := 0) hp (fun q1 h9 => c_X1_take l D cy h9) wB_yX1_take ml_X4_175 im_yX1_take se_yX1_take (ci := 0) rfl rfl rfl rfl rfl (Nat.le_of_ble_eq_true rfl) ⟨(Nat.le_of_ble_eq_true rfl), (Nat.le_of_ble_eq_true rfl)⟩ dX4_doPlain_71 rfl rfl (fun _ σ V hp => ?_)
    refine pv_aload_n C 0 dX4_doPlain_74 rfl ?_
    refine pv_getR C (ci := 3) (k := 3) gwX4 rfl (Nat.le_of_ble_eq_true rfl) fl_X4_21 rfl rfl rfl (j := 35) rfl rfl dX4_doPlain_75 ?_
    refine pv_aload_n C 0 dX4_doPlain_78 rfl ?_
    refine pv_getR C (ci := 3) (k := 2) gwX4 rfl (Nat.le_of_ble_eq_true rfl) fl_X4_12 rfl rfl rfl (j := 29) rfl rfl dX4_doPlain_79 ?_
    refine pv_iconst C hp dX4_doPlain_82 (by decide) (fun v4 hp => ?_)
    refine pv_callV C (As := [.int v4]) (rest := [.ref 35]) (b := 29) (kd1 := 2) hp (fun q1 h9 => c_X1_takenAt l D cy h9) wB_yX1_takenAt ml_X4_181 im_yX1_takenAt se_yX1_takenAt (ci := 0) rfl rfl rfl rfl rfl (Nat.le_of_ble_eq_true rfl) ⟨(Nat.le_of_ble_eq_true rfl), (Nat.le_of_ble_eq_true rfl)⟩ dX4_doPlain_83 rfl rfl (fun v5 σ V hp => ?_)
    refine pv_callSN C (As := [.long v5]) (rest := [.ref 35]) (kd1 := 1) hp (fun q1 h9 => c_X10_contentOf l D cy h9) wB_yX10_contentOf (show (RX4, 67, yX10_contentOf, "FeatureDesugarer") ∈ pz_nests by decide +kernel) sm_yX10_contentOf rfl rfl (Nat.le_of_ble_eq_true rfl) ⟨(Nat.le_of_ble_eq_true rfl), (Nat.le_of_ble_eq_true rfl)⟩ dX4_doPlain_86 rfl rfl (fun v6 σ V hp => ?_)
    refine pv_iload_n C 2 dX4_doPlain_89 rfl ?_
    refine pv_aload_n C 0 dX4_doPlain_90 rfl ?_
    refine pv_getR C (ci := 3) (k := 2) gwX4 rfl (Nat.le_of_ble_eq_true rfl) fl_X4_12 rfl rfl rfl (j := 29) rfl rfl dX4_doPlain_91 ?_
    refine pv_iconst C hp dX4_doPlain_94 (by decide) (fun v7 hp => ?_)
    refine pv_callV C (As := [.int v7]) (rest := [.int x2, .int v6, .ref 35]) (b := 29) (kd1 := 2) hp (fun q1 h9 => c_X1_takenAt l D cy h9) wB_yX1_takenAt ml_X4_181 im_yX1_takenAt se_yX1_takenAt (ci := 0) rfl rfl rfl rfl rfl (Nat.le_of_ble_eq_true rfl) ⟨(Nat.le_of_ble_eq_true rfl), (Nat.le_of_ble_eq_true rfl)⟩ dX4_doPlain_95 rfl rfl (fun v8 σ V hp => ?_)
    refine pv_callV C (As := [.int v6, .int x2, .long v8]) (rest := []) (b := 35) (kd1 := 0) hp (fun q1 h9 => c_X2_setValue l D cy h9) wB_yX2_setValue ml_X4_184 im_yX2_setValue se_yX2_setValue (ci := 1) rfl rfl rfl rfl rfl (Nat.le_of_ble_eq_true rfl) ⟨(Nat.le_of_ble_eq_true rfl), (Nat.le_of_ble_eq_true rfl)⟩ dX4_doPlain_98 rfl rfl (fun _ σ V hp => ?_)
    refine pv_aload_n C 0 dX4_doPlain_101 rfl ?_
    refine pv_getR C (ci := 3) (k := 2) gwX4 rfl (Nat.le_of_ble_eq_true rfl) fl_X4_12 rfl rfl rfl (j := 29) rfl rfl dX4_doPlain_102 ?_
    refine pv_aload_n C 0 dX4_doPlain_105 rfl ?_
    refine pv_getR C (ci := 3) (k := 2) gwX4 rfl (Nat.le_of_ble_eq_true rfl) fl_X4_12 rfl rfl rfl (j := 29) rfl rfl dX4_doPlain_106 ?_
    refine pv_iconst C hp dX4_doPlain_109 (by decide) (fun v9 hp => ?_)
    refine pv_callV C (As := [.int v9]) (rest := [.ref 29]) (b := 29) (kd1 := 2) hp (fun q1 h9 => c_X1_takenAt l D cy h9) wB_yX1_takenAt ml_X4_181 im_yX1_takenAt se_yX1_takenAt (ci := 0) rfl rfl rfl rfl rfl (Nat.le_of_ble_eq_true rfl) ⟨(Nat.le_of_ble_eq_true rfl), (Nat.le_of_ble_eq_true rfl)⟩ dX4_doPlain_110 rfl rfl (fun v10 σ V hp => ?_)
    refine pv_callV C (As := [.long v10]) (rest := []) (b := 29) (kd1 := 0) hp (fun q1 h9 => c_X1_push l D cy h9) wB_yX1_push ml_X4_143 im_yX1_push se_yX1_push (ci := 0) rfl rfl rfl rfl rfl (Nat.le_of_ble_eq_true rfl) ⟨(Nat.le_of_ble_eq_true rfl), (Nat.le_of_ble_eq_true rfl)⟩ dX4_doPlain_113 rfl rfl (fun _ σ V hp => ?_)
    refine pv_goto (tgt := 240) C dX4_doPlain_116 (by decide) ?_
    exact pv_vret C rfl hp hr dX4_doPlain_240
  refine pv_case (x := x1) (v := 22) hp (fun hx hp => ?_) (fun h1_22 hp => ?_)
  · refine pv_tableIn (tgt := 119) C hx dX4_doPlain_1 (by decide) (by decide) (off := 118) rfl (by decide) ?_
    refine pv_aload_n C 0 dX4_doPlain_119 rfl ?_
    refine pv_iload_n C 2 dX4_doPlain_120 rfl ?_
    refine pv_callV C (As := [.int x2]) (rest := []) (b := 28) (kd1 := 0) hp (fun q1 h9 => c_X4_invoke l D cy h9) wB_yX4_invoke ml_X4_204 im_yX4_invoke se_yX4_invoke (ci := 3) rfl rfl rfl rfl rfl (Nat.le_of_ble_eq_true rfl) ⟨(Nat.le_of_ble_eq_true rfl), (Nat.le_of_ble_eq_true rfl)⟩ dX4_doPlain_121 rfl rfl (fun _ σ V hp => ?_)
    refine pv_goto (tgt := 240) C dX4_doPlain_124 (by decide) ?_
    exact pv_vret C rfl hp hr dX4_doPlain_240
  refine pv_case (x := x1) (v := 23) hp (fun hx hp => ?_) (fun h1_23 hp => ?_)
  · refine pv_tableIn (tgt := 127) C hx dX4_doPlain_1 (by decide) (by decide) (off := 126) rfl (by decide) ?_
    refine pv_aload_n C 0 dX4_doPlain_127 rfl ?_
    refine pv_getR C (ci := 3) (k := 2) gwX4 rfl (Nat.le_of_ble_eq_true rfl) fl_X4_12 rfl rfl rfl (j := 29) rfl rfl dX4_doPlain_128 ?_
    refine pv_aload_n C 0 dX4_doPlain_131 rfl ?_
    refine pv_getR C (ci := 3) (k := 3) gwX4 rfl (Nat.le_of_ble_eq_true rfl) fl_X4_21 rfl rfl rfl (j := 35) rfl rfl dX4_doPlain_132 ?_
    refine pv_aload_n C 0 dX4_doPlain_135 rfl ?_
    refine pv_getR C (ci := 3) (k := 2) gwX4 rfl (Nat.le_of_ble_eq_true rfl) fl_X4_12 rfl rfl rfl (j := 29) rfl rfl dX4_doPlain_136 ?_
    refine pv_iconst C hp dX4_doPlain_139 (by decide) (fun v11 hp => ?_)
    refine pv_callV C (As := [.int v11]) (rest := [.ref 35, .ref 29]) (b := 29) (kd1 := 2) hp (fun q1 h9 => c_X1_local l D cy h9) wB_yX1_local ml_X4_147 im_yX1_local se_yX1_local (ci := 0) rfl rfl rfl rfl rfl (Nat.le_of_ble_eq_true rfl) ⟨(Nat.le_of_ble_eq_true rfl), (Nat.le_of_ble_eq_true rfl)⟩ dX4_doPlain_140 rfl rfl (fun v12 σ V hp => ?_)
    refine pv_callSN C (As := [.long v12]) (rest := [.ref 35, .ref 29]) (kd1 := 1) hp (fun q1 h9 => c_X10_contentOf l D cy h9) wB_yX10_contentOf (show (RX4, 67, yX10_contentOf, "FeatureDesugarer") ∈ pz_nests by decide +kernel) sm_yX10_contentOf rfl rfl (Nat.le_of_ble_eq_true rfl) ⟨(Nat.le_of_ble_eq_true rfl), (Nat.le_of_ble_eq_true rfl)⟩ dX4_doPlain_143 rfl rfl (fun v13 σ V hp => ?_)
    refine pv_iload_n C 2 dX4_doPlain_146 rfl ?_
    refine pv_callV C (As := [.int v13, .int x2]) (rest := [.ref 29]) (b := 35) (kd1 := 2) hp (fun q1 h9 => c_X2_valueAt l D cy h9) wB_yX2_valueAt ml_X4_207 im_yX2_valueAt se_yX2_valueAt (ci := 1) rfl rfl rfl rfl rfl (Nat.le_of_ble_eq_true rfl) ⟨(Nat.le_of_ble_eq_true rfl), (Nat.le_of_ble_eq_true rfl)⟩ dX4_doPlain_147 rfl rfl (fun v14 σ V hp => ?_)
    refine pv_callV C (As := [.long v14]) (rest := []) (b := 29) (kd1 := 0) hp (fun q1 h9 => c_X1_push l D cy h9) wB_yX1_push ml_X4_143 im_yX1_push se_yX1_push (ci := 0) rfl rfl rfl rfl rfl (Nat.le_of_ble_eq_true rfl) ⟨(Nat.le_of_ble_eq_true rfl), (Nat.le_of_ble_eq_true rfl)⟩ dX4_doPlain_150 rfl rfl (fun _ σ V hp => ?_)
    refine pv_goto (tgt := 240) C dX4_doPlain_153 (by decide) ?_
    exact pv_vret C rfl hp hr dX4_doPlain_240
  refine pv_case (x := x1) (v := 24) hp (fun hx hp => ?_) (fun h1_24 hp => ?_)
  · refine pv_tableIn (tgt := 156) C hx dX4_doPlain_1 (by decide) (by decide) (off := 155) rfl (by decide) ?_
    refine pv_aload_n C 0 dX4_doPlain_156 rfl ?_
    refine pv_getR C (ci := 3) (k := 2) gwX4 rfl (Nat.le_of_ble_eq_true rfl) fl_X4_12 rfl rfl rfl (j := 29) rfl rfl dX4_doPlain_157 ?_
    refine pv_aload_n C 0 dX4_doPlain_160 rfl ?_
    refine pv_getR C (ci := 3) (k := 4) gwX4 rfl (Nat.le_of_ble_eq_true rfl) fl_X4_28 rfl rfl rfl (j := 39) rfl rfl dX4_doPlain_161 ?_
    refine pv_callV C (As := []) (rest := [.ref 29]) (b := 39) (kd1 := 2) hp (fun q1 h9 => c_X8_begin l D cy h9) wB_yX8_begin ml_X4_210 im_yX8_begin se_yX8_begin (ci := 7) rfl rfl rfl rfl rfl (Nat.le_of_ble_eq_true rfl) ⟨(Nat.le_of_ble_eq_true rfl), (Nat.le_of_ble_eq_true rfl)⟩ dX4_doPlain_164 rfl rfl (fun v15 σ V hp => ?_)
    refine pv_callV C (As := [.long v15]) (rest := []) (b := 29) (kd1 := 0) hp (fun q1 h9 => c_X1_push l D cy h9) wB_yX1_push ml_X4_143 im_yX1_push se_yX1_push (ci := 0) rfl rfl rfl rfl rfl (Nat.le_of_ble_eq_true rfl) ⟨(Nat.le_of_ble_eq_true rfl), (Nat.le_of_ble_eq_true rfl)⟩ dX4_doPlain_167 rfl rfl (fun _ σ V hp => ?_)
    refine pv_goto (tgt := 240) C dX4_doPlain_170 (by decide) ?_
    exact pv_vret C rfl hp hr dX4_doPlain_240
  refine pv_case (x := x1) (v := 25) hp (fun hx hp => ?_) (fun h1_25 hp => ?_)
  · refine pv_tableIn (tgt := 173) C hx dX4_doPlain_1 (by decide) (by decide) (off := 172) rfl (by decide) ?_
    refine pv_aload_n C 0 dX4_doPlain_173 rfl ?_
    refine pv_iload_n C 2 dX4_doPlain_174 rfl ?_
    refine pv_iload_n C 3 dX4_doPlain_175 rfl ?_
    refine pv_callV C (As := [.int x2, .int x3]) (rest := []) (b := 28) (kd1 := 0) hp (fun q1 h9 => c_X4_appendCharacters l D cy h9) wB_yX4_appendCharacters ml_X4_213 im_yX4_appendCharacters se_yX4_appendCharacters (ci := 3) rfl rfl rfl rfl rfl (Nat.le_of_ble_eq_true rfl) ⟨(Nat.le_of_ble_eq_true rfl), (Nat.le_of_ble_eq_true rfl)⟩ dX4_doPlain_176 rfl rfl (fun _ σ V hp => ?_)
    refine pv_goto (tgt := 240) C dX4_doPlain_179 (by decide) ?_
    exact pv_vret C rfl hp hr dX4_doPlain_240
  refine pv_tableOut (tgt := 182) C (by omega) dX4_doPlain_1 (by decide) ?_
  refine pv_aload_n C 0 dX4_doPlain_182 rfl ?_
  refine pv_getR C (ci := 3) (k := 2) gwX4 rfl (Nat.le_of_ble_eq_true rfl) fl_X4_12 rfl rfl rfl (j := 29) rfl rfl dX4_doPlain_183 ?_
  refine pv_iconst C hp dX4_doPlain_186 (by decide) (fun v16 hp => ?_)
  refine pv_callV C (As := [.int v16]) (rest := []) (b := 29) (kd1 := 0) hp (fun q1 h9 => c_X1_take l D cy h9) wB_yX1_take ml_X4_175 im_yX1_take se_yX1_take (ci := 0) rfl rfl rfl rfl rfl (Nat.le_of_ble_eq_true rfl) ⟨(Nat.le_of_ble_eq_true rfl), (Nat.le_of_ble_eq_true rfl)⟩ dX4_doPlain_187 rfl rfl (fun _ σ V hp => ?_)
  refine pv_aload_n C 0 dX4_doPlain_190 rfl ?_
  refine pv_getR C (ci := 3) (k := 4) gwX4 rfl (Nat.le_of_ble_eq_true rfl) fl_X4_28 rfl rfl rfl (j := 39) rfl rfl dX4_doPlain_191 ?_
  refine pv_aload_n C 0 dX4_doPlain_194 rfl ?_
  refine pv_getR C (ci := 3) (k := 2) gwX4 rfl (Nat.le_of_ble_eq_true rfl) fl_X4_12 rfl rfl rfl (j := 29) rfl rfl dX4_doPlain_195 ?_
  refine pv_iconst C hp dX4_doPlain_198 (by decide) (fun v17 hp => ?_)
  refine pv_callV C (As := [.int v17]) (rest := [.ref 39]) (b := 29) (kd1 := 2) hp (fun q1 h9 => c_X1_takenAt l D cy h9) wB_yX1_takenAt ml_X4_181 im_yX1_takenAt se_yX1_takenAt (ci := 0) rfl rfl rfl rfl rfl (Nat.le_of_ble_eq_true rfl) ⟨(Nat.le_of_ble_eq_true rfl), (Nat.le_of_ble_eq_true rfl)⟩ dX4_doPlain_199 rfl rfl (fun v18 σ V hp => ?_)
  refine pv_callSN C (As := [.long v18]) (rest := [.ref 39]) (kd1 := 1) hp (fun q1 h9 => c_X10_contentOf l D cy h9) wB_yX10_contentOf (show (RX4, 67, yX10_contentOf, "FeatureDesugarer") ∈ pz_nests by decide +kernel) sm_yX10_contentOf rfl rfl (Nat.le_of_ble_eq_true rfl) ⟨(Nat.le_of_ble_eq_true rfl), (Nat.le_of_ble_eq_true rfl)⟩ dX4_doPlain_202 rfl rfl (fun v19 σ V hp => ?_)
  refine pv_aload_n C 0 dX4_doPlain_205 rfl ?_
  refine pv_getR C (ci := 3) (k := 2) gwX4 rfl (Nat.le_of_ble_eq_true rfl) fl_X4_12 rfl rfl rfl (j := 29) rfl rfl dX4_doPlain_206 ?_
  refine pv_iconst C hp dX4_doPlain_209 (by decide) (fun v20 hp => ?_)
  refine pv_callV C (As := [.int v20]) (rest := [.int v19, .ref 39]) (b := 29) (kd1 := 2) hp (fun q1 h9 => c_X1_takenAt l D cy h9) wB_yX1_takenAt ml_X4_181 im_yX1_takenAt se_yX1_takenAt (ci := 0) rfl rfl rfl rfl rfl (Nat.le_of_ble_eq_true rfl) ⟨(Nat.le_of_ble_eq_true rfl), (Nat.le_of_ble_eq_true rfl)⟩ dX4_doPlain_210 rfl rfl (fun v21 σ V hp => ?_)
  refine pv_callV C (As := [.int v19, .long v21]) (rest := []) (b := 39) (kd1 := 1) hp (fun q1 h9 => c_X8_appendValue l D cy h9) wB_yX8_appendValue ml_X4_216 im_yX8_appendValue se_yX8_appendValue (ci := 7) rfl rfl rfl rfl rfl (Nat.le_of_ble_eq_true rfl) ⟨(Nat.le_of_ble_eq_true rfl), (Nat.le_of_ble_eq_true rfl)⟩ dX4_doPlain_213 rfl rfl (fun v22 σ V hp => ?_)
  refine pv_istore (loc' := [(4, .int v22), (0, .ref 28), (1, .int x1), (2, .int x2), (3, .int x3)]) C dX4_doPlain_216 (by decide) rfl ?_
  refine pv_aload_n C 1 dX4_doPlain_218 rfl ?_
  refine pv_iload C 0 dX4_doPlain_219 rfl ?_
  refine pv_iconst C hp dX4_doPlain_221 (by decide) (fun v23 hp => ?_)
  refine pv_callV C (As := [.int v22, .int v23]) (rest := []) (b := 28) (kd1 := 0) hp (fun q1 h9 => c_X4_faultUnless l D cy h9) wB_yX4_faultUnless ml_X4_168 im_yX4_faultUnless se_yX4_faultUnless (ci := 3) rfl rfl rfl rfl rfl (Nat.le_of_ble_eq_true rfl) ⟨(Nat.le_of_ble_eq_true rfl), (Nat.le_of_ble_eq_true rfl)⟩ dX4_doPlain_222 rfl rfl (fun _ σ V hp => ?_)
  refine pv_aload_n C 1 dX4_doPlain_225 rfl ?_
  refine pv_getR C (ci := 3) (k := 2) gwX4 rfl (Nat.le_of_ble_eq_true rfl) fl_X4_12 rfl rfl rfl (j := 29) rfl rfl dX4_doPlain_226 ?_
  refine pv_aload_n C 1 dX4_doPlain_229 rfl ?_
  refine pv_getR C (ci := 3) (k := 2) gwX4 rfl (Nat.le_of_ble_eq_true rfl) fl_X4_12 rfl rfl rfl (j := 29) rfl rfl dX4_doPlain_230 ?_
  refine pv_iconst C hp dX4_doPlain_233 (by decide) (fun v24 hp => ?_)
  refine pv_callV C (As := [.int v24]) (rest := [.ref 29]) (b := 29) (kd1 := 2) hp (fun q1 h9 => c_X1_takenAt l D cy h9) wB_yX1_takenAt ml_X4_181 im_yX1_takenAt se_yX1_takenAt (ci := 0) rfl rfl rfl rfl rfl (Nat.le_of_ble_eq_true rfl) ⟨(Nat.le_of_ble_eq_true rfl), (Nat.le_of_ble_eq_true rfl)⟩ dX4_doPlain_234 rfl rfl (fun v25 σ V hp => ?_)
  refine pv_callV C (As := [.long v25]) (rest := []) (b := 29) (kd1 := 0) hp (fun q1 h9 => c_X1_push l D cy h9) wB_yX1_push ml_X4_143 im_yX1_push se_yX1_push (ci := 0) rfl rfl rfl rfl rfl (Nat.le_of_ble_eq_true rfl) ⟨(Nat.le_of_ble_eq_true rfl), (Nat.le_of_ble_eq_true rfl)⟩ dX4_doPlain_237 rfl rfl (fun _ σ V hp => ?_)
  exact pv_vret C rfl hp hr dX4_doPlain_240
def q_X4_doNext_b56 (N : Nat) (x1 : Int) (x2 : Int) (V : pvM) : Option pvO :=
  lI (1) fun v1 =>
  lI (pv_w (x2 + v1)) fun v2 =>
  cL (q_X1_goTo N v2 V) fun _ V =>
  cL (if V 28 5 = 1 then q_X6_wordAt N x1 x2 V else q_X5_wordAt N x1 x2 V) fun v3 V =>
  cL (if V 28 5 = 1 then q_X6_firstNumberAt N x1 x2 V else q_X5_firstNumberAt N x1 x2 V) fun v4 V =>
  cL (if V 28 5 = 1 then q_X6_secondNumberAt N x1 x2 V else q_X5_secondNumberAt N x1 x2 V) fun v5 V =>
  lI (12) fun v6 =>
  if v6 < v3 then
    lI (15) fun v7 =>
    if v7 < v3 then
      cL (q_X4_doPlain N v3 v4 v5 V) fun _ V =>
      rT V 0
    else
    cL (q_X4_doFirst N v3 v4 v5 V) fun _ V =>
    rT V 0
  else
  cL (q_X4_doShared N v3 v4 V) fun _ V =>
  rT V 0
set_option maxHeartbeats 4000000 in
set_option maxRecDepth 100000 in
theorem w_X4_doNext_b56 {p : Program} {l : Launch} {e : Env} {s : State} {m : MethodId} {args : Array Value} {below : List Frame} {meth : Method} {c : Code} {D : va_G} {cy : Nat → ClassId} {A : Nat → Prop} {n0 : Nat} {ad0 : Nat → Nat} {V0 : pvM} {q : pvO} (C : pz_C p s m args meth c cX4_doNext 6 yX4_doNext.cls D cy A) (hr : meth.sig.returnType = none) {N : Nat} {x1 : Int32} {x2 : Int32} {σ : pzS} {V : pvM} (hp : q_X4_doNext_b56 N x1.toInt x2.toInt V = some q) : pv_W p l e 6 161 s m args below meth c 6 D cy A n0 ad0 (pv_Q below D cy n0 ad0 0 V0 q A args s) V0 σ V 56 [(0, .ref 28), (1, .int x1), (2, .int x2)] [] := by
  unfold q_X4_doNext_b56 at hp
  refine pv_aload_n C 0 dX4_doNext_56 rfl ?_
  refine pv_getR C (ci := 3) (k := 2) gwX4 rfl (Nat.le_of_ble_eq_true rfl) fl_X4_12 rfl rfl rfl (j := 29) rfl rfl dX4_doNext_57 ?_
  refine pv_iload_n C 2 dX4_doNext_60 rfl ?_
  refine pv_iconst C hp dX4_doNext_61 (by decide) (fun v1 hp => ?_)
  refine pv_iadd C hp dX4_doNext_62 (fun v2 hp => ?_)
  refine pv_callV C (As := [.int v2]) (rest := []) (b := 29) (kd1 := 0) hp (fun q1 h9 => c_X1_goTo l D cy h9) wB_yX1_goTo ml_X4_118 im_yX1_goTo se_yX1_goTo (ci := 0) rfl rfl rfl rfl rfl (Nat.le_of_ble_eq_true rfl) ⟨(Nat.le_of_ble_eq_true rfl), (Nat.le_of_ble_eq_true rfl)⟩ dX4_doNext_63 rfl rfl (fun _ σ V hp => ?_)
  refine pv_aload_n C 0 dX4_doNext_66 rfl ?_
  refine pv_getC C (ci := 3) gwX4 rfl (Nat.le_of_ble_eq_true rfl) fl_X4_44 rfl rfl dX4_doNext_67 ?_
  refine pv_iload_n C 1 dX4_doNext_70 rfl ?_
  refine pv_iload_n C 2 dX4_doNext_71 rfl ?_
  refine pv_callF C (As := [.int x1, .int x2]) (rest := []) (kd1 := 1) hp (fun q1 h9 => c_X6_wordAt l D cy h9) (fun q1 h9 => c_X5_wordAt l D cy h9) wB_yX6_wordAt wB_yX5_wordAt ml_X4_122 fw_X6_wordAt fw_X5_wordAt (ci1 := 5) rfl rfl (ci2 := 4) rfl rfl rfl rfl (Nat.le_of_ble_eq_true rfl) ⟨(Nat.le_of_ble_eq_true rfl), (Nat.le_of_ble_eq_true rfl)⟩ ⟨(Nat.le_of_ble_eq_true rfl), (Nat.le_of_ble_eq_true rfl)⟩ dX4_doNext_72 rfl rfl (fun v3 σ V hp => ?_)
  refine pv_istore_n (loc' := [(3, .int v3), (0, .ref 28), (1, .int x1), (2, .int x2)]) C dX4_doNext_77 (by decide) rfl ?_
  refine pv_aload_n C 1 dX4_doNext_78 rfl ?_
  refine pv_getC C (ci := 3) gwX4 rfl (Nat.le_of_ble_eq_true rfl) fl_X4_44 rfl rfl dX4_doNext_79 ?_
  refine pv_iload_n C 2 dX4_doNext_82 rfl ?_
  refine pv_iload_n C 3 dX4_doNext_83 rfl ?_
  refine pv_callF C (As := [.int x1, .int x2]) (rest := []) (kd1 := 1) hp (fun q1 h9 => c_X6_firstNumberAt l D cy h9) (fun q1 h9 => c_X5_firstNumberAt l D cy h9) wB_yX6_firstNumberAt wB_yX5_firstNumberAt ml_X4_126 fw_X6_firstNumberAt fw_X5_firstNumberAt (ci1 := 5) rfl rfl (ci2 := 4) rfl rfl rfl rfl (Nat.le_of_ble_eq_true rfl) ⟨(Nat.le_of_ble_eq_true rfl), (Nat.le_of_ble_eq_true rfl)⟩ ⟨(Nat.le_of_ble_eq_true rfl), (Nat.le_of_ble_eq_true rfl)⟩ dX4_doNext_84 rfl rfl (fun v4 σ V hp => ?_)
  refine pv_istore (loc' := [(4, .int v4), (3, .int v3), (0, .ref 28), (1, .int x1), (2, .int x2)]) C dX4_doNext_89 (by decide) rfl ?_
  refine pv_aload_n C 2 dX4_doNext_91 rfl ?_
  refine pv_getC C (ci := 3) gwX4 rfl (Nat.le_of_ble_eq_true rfl) fl_X4_44 rfl rfl dX4_doNext_92 ?_
  refine pv_iload_n C 3 dX4_doNext_95 rfl ?_
  refine pv_iload_n C 4 dX4_doNext_96 rfl ?_
  refine pv_callF C (As := [.int x1, .int x2]) (rest := []) (kd1 := 1) hp (fun q1 h9 => c_X6_secondNumberAt l D cy h9) (fun q1 h9 => c_X5_secondNumberAt l D cy h9) wB_yX6_secondNumberAt wB_yX5_secondNumberAt ml_X4_129 fw_X6_secondNumberAt fw_X5_secondNumberAt (ci1 := 5) rfl rfl (ci2 := 4) rfl rfl rfl rfl (Nat.le_of_ble_eq_true rfl) ⟨(Nat.le_of_ble_eq_true rfl), (Nat.le_of_ble_eq_true rfl)⟩ ⟨(Nat.le_of_ble_eq_true rfl), (Nat.le_of_ble_eq_true rfl)⟩ dX4_doNext_97 rfl rfl (fun v5 σ V hp => ?_)
  refine pv_istore (loc' := [(5, .int v5), (4, .int v4), (3, .int v3), (0, .ref 28), (1, .int x1), (2, .int x2)]) C dX4_doNext_102 (by decide) rfl ?_
  refine pv_iload_n C 2 dX4_doNext_104 rfl ?_
  refine pv_bipush C hp dX4_doNext_105 (by decide) (fun v6 hp => ?_)
  refine pv_icmp_gt (tgt := 120) C hp dX4_doNext_107 (by decide) (fun hp => ?_) (fun hp => ?_)
  · refine pv_iload_n C 2 dX4_doNext_120 rfl ?_
    refine pv_bipush C hp dX4_doNext_121 (by decide) (fun v7 hp => ?_)
    refine pv_icmp_gt (tgt := 138) C hp dX4_doNext_123 (by decide) (fun hp => ?_) (fun hp => ?_)
    · refine pv_aload_n C 3 dX4_doNext_138 rfl ?_
      refine pv_iload_n C 2 dX4_doNext_139 rfl ?_
      refine pv_iload C 1 dX4_doNext_140 rfl ?_
      refine pv_iload C 0 dX4_doNext_142 rfl ?_
      refine pv_callV C (As := [.int v3, .int v4, .int v5]) (rest := []) (b := 28) (kd1 := 0) hp (fun q1 h9 => c_X4_doPlain l D cy h9) wB_yX4_doPlain ml_X4_140 im_yX4_doPlain se_yX4_doPlain (ci := 3) rfl rfl rfl rfl rfl (Nat.le_of_ble_eq_true rfl) ⟨(Nat.le_of_ble_eq_true rfl), (Nat.le_of_ble_eq_true rfl)⟩ dX4_doNext_144 rfl rfl (fun _ σ V hp => ?_)
      exact pv_vret C rfl hp hr dX4_doNext_147
    · refine pv_aload_n C 3 dX4_doNext_126 rfl ?_
      refine pv_iload_n C 2 dX4_doNext_127 rfl ?_
      refine pv_iload C 1 dX4_doNext_128 rfl ?_
      refine pv_iload C 0 dX4_doNext_130 rfl ?_
      refine pv_callV C (As := [.int v3, .int v4, .int v5]) (rest := []) (b := 28) (kd1 := 0) hp (fun q1 h9 => c_X4_doFirst l D cy h9) wB_yX4_doFirst ml_X4_136 im_yX4_doFirst se_yX4_doFirst (ci := 3) rfl rfl rfl rfl rfl (Nat.le_of_ble_eq_true rfl) ⟨(Nat.le_of_ble_eq_true rfl), (Nat.le_of_ble_eq_true rfl)⟩ dX4_doNext_132 rfl rfl (fun _ σ V hp => ?_)
      refine pv_goto (tgt := 147) C dX4_doNext_135 (by decide) ?_
      exact pv_vret C rfl hp hr dX4_doNext_147
  · refine pv_aload_n C 3 dX4_doNext_110 rfl ?_
    refine pv_iload_n C 2 dX4_doNext_111 rfl ?_
    refine pv_iload C 1 dX4_doNext_112 rfl ?_
    refine pv_callV C (As := [.int v3, .int v4]) (rest := []) (b := 28) (kd1 := 0) hp (fun q1 h9 => c_X4_doShared l D cy h9) wB_yX4_doShared ml_X4_132 im_yX4_doShared se_yX4_doShared (ci := 3) rfl rfl rfl rfl rfl (Nat.le_of_ble_eq_true rfl) ⟨(Nat.le_of_ble_eq_true rfl), (Nat.le_of_ble_eq_true rfl)⟩ dX4_doNext_114 rfl rfl (fun _ σ V hp => ?_)
    refine pv_goto (tgt := 147) C dX4_doNext_117 (by decide) ?_
    exact pv_vret C rfl hp hr dX4_doNext_147
def q_X4_doNext (N : Nat) (V : pvM) : Option pvO :=
  cL (q_X1_unit N V) fun v8 V =>
  cL (q_X1_place N V) fun v9 V =>
  cL (if V 28 5 = 1 then q_X6_isStepAt N v8 v9 V else q_X5_isStepAt N v8 v9 V) fun v10 V =>
  if v10 = 0 then
    q_X4_doNext_b56 N v8 v9 V
  else
  gR V 28 7 fun v11 =>
  lI (400) fun v12 =>
  if v11 ≠ v12 then
    gR V 28 7 fun v13 =>
    lI (1) fun v14 =>
    lI (pv_w (v13 + v14)) fun v15 =>
    gW V 28 7 v15 fun V =>
    q_X4_doNext_b56 N v8 v9 V
  else
  lI (4) fun v16 =>
  gW V 28 8 v16 fun V =>
  rT V 0
set_option maxHeartbeats 4000000 in
set_option maxRecDepth 100000 in
theorem c_X4_doNext (l : Launch) (D : va_G) (cy : Nat → ClassId) {N : Nat} {V : pvM} {q : pvO} (hp : q_X4_doNext N V = some q) : pv_Met l yX4_doNext cX4_doNext 6 none 6 161 D cy V [.ref 28] 0 q := by
  unfold q_X4_doNext at hp
  refine pv_ofW (by decide) (Nat.le_of_ble_eq_true rfl) (fun p e s m args below meth c ad A n0 σ C hr => ?_)
  refine pv_aload_n C 0 dX4_doNext_0 rfl ?_
  refine pv_getR C (ci := 3) (k := 2) gwX4 rfl (Nat.le_of_ble_eq_true rfl) fl_X4_12 rfl rfl rfl (j := 29) rfl rfl dX4_doNext_1 ?_
  refine pv_callV C (As := []) (rest := []) (b := 29) (kd1 := 1) hp (fun q1 h9 => c_X1_unit l D cy h9) wB_yX1_unit ml_X4_106 im_yX1_unit se_yX1_unit (ci := 0) rfl rfl rfl rfl rfl (Nat.le_of_ble_eq_true rfl) ⟨(Nat.le_of_ble_eq_true rfl), (Nat.le_of_ble_eq_true rfl)⟩ dX4_doNext_4 rfl rfl (fun v8 σ V hp => ?_)
  refine pv_istore_n (loc' := [(1, .int v8), (0, .ref 28)]) C dX4_doNext_7 (by decide) rfl ?_
  refine pv_aload_n C 1 dX4_doNext_8 rfl ?_
  refine pv_getR C (ci := 3) (k := 2) gwX4 rfl (Nat.le_of_ble_eq_true rfl) fl_X4_12 rfl rfl rfl (j := 29) rfl rfl dX4_doNext_9 ?_
  refine pv_callV C (As := []) (rest := []) (b := 29) (kd1 := 1) hp (fun q1 h9 => c_X1_place l D cy h9) wB_yX1_place ml_X4_109 im_yX1_place se_yX1_place (ci := 0) rfl rfl rfl rfl rfl (Nat.le_of_ble_eq_true rfl) ⟨(Nat.le_of_ble_eq_true rfl), (Nat.le_of_ble_eq_true rfl)⟩ dX4_doNext_12 rfl rfl (fun v9 σ V hp => ?_)
  refine pv_istore_n (loc' := [(2, .int v9), (1, .int v8), (0, .ref 28)]) C dX4_doNext_15 (by decide) rfl ?_
  refine pv_aload_n C 2 dX4_doNext_16 rfl ?_
  refine pv_getC C (ci := 3) gwX4 rfl (Nat.le_of_ble_eq_true rfl) fl_X4_44 rfl rfl dX4_doNext_17 ?_
  refine pv_iload_n C 1 dX4_doNext_20 rfl ?_
  refine pv_iload_n C 0 dX4_doNext_21 rfl ?_
  refine pv_callF C (As := [.int v8, .int v9]) (rest := []) (kd1 := 1) hp (fun q1 h9 => c_X6_isStepAt l D cy h9) (fun q1 h9 => c_X5_isStepAt l D cy h9) wB_yX6_isStepAt wB_yX5_isStepAt ml_X4_112 fw_X6_isStepAt fw_X5_isStepAt (ci1 := 5) rfl rfl (ci2 := 4) rfl rfl rfl rfl (Nat.le_of_ble_eq_true rfl) ⟨(Nat.le_of_ble_eq_true rfl), (Nat.le_of_ble_eq_true rfl)⟩ ⟨(Nat.le_of_ble_eq_true rfl), (Nat.le_of_ble_eq_true rfl)⟩ dX4_doNext_22 rfl rfl (fun v10 σ V hp => ?_)
  refine pv_if_eq (tgt := 56) C hp dX4_doNext_27 (by decide) (fun hp => ?_) (fun hp => ?_)
  · refine pv_sub [2, 1, 0] rfl ?_
    exact w_X4_doNext_b56 C hr hp
  · refine pv_aload_n C 2 dX4_doNext_30 rfl ?_
    refine pv_getI C (ci := 3) (k := 7) gwX4 rfl (Nat.le_of_ble_eq_true rfl) fl_X4_56 rfl rfl hp rfl rfl dX4_doNext_31 (fun v11 hp => ?_)
    refine pv_sipush C hp dX4_doNext_34 (by decide) (fun v12 hp => ?_)
    refine pv_icmp_ne (tgt := 46) C hp dX4_doNext_37 (by decide) (fun hp => ?_) (fun hp => ?_)
    · refine pv_aload_n C 2 dX4_doNext_46 rfl ?_
      refine pv_dup C dX4_doNext_47 rfl ?_
      refine pv_getI C (ci := 3) (k := 7) gwX4 rfl (Nat.le_of_ble_eq_true rfl) fl_X4_56 rfl rfl hp rfl rfl dX4_doNext_48 (fun v13 hp => ?_)
      refine pv_iconst C hp dX4_doNext_51 (by decide) (fun v14 hp => ?_)
      refine pv_iadd C hp dX4_doNext_52 (fun v15 hp => ?_)
      refine pv_putI C (ci := 3) (k := 7) gwX4 rfl (Nat.le_of_ble_eq_true rfl) fl_X4_56 rfl rfl tyX4_ok nmX4 hp rfl rfl rfl (by decide +kernel) dX4_doNext_53 (fun V hp => ?_)
      refine pv_sub [2, 1, 0] rfl ?_
      exact w_X4_doNext_b56 C hr hp
    · refine pv_aload_n C 2 dX4_doNext_40 rfl ?_
      refine pv_iconst C hp dX4_doNext_41 (by decide) (fun v16 hp => ?_)
      refine pv_putI C (ci := 3) (k := 8) gwX4 rfl (Nat.le_of_ble_eq_true rfl) fl_X4_78 rfl rfl tyX4_ok nmX4 hp rfl rfl rfl (by decide +kernel) dX4_doNext_42 (fun V hp => ?_)
      exact pv_vret C rfl hp hr dX4_doNext_45
def q_X4_perform_b116 (N : Nat) (r81 : Int → Int → Int → Int → Int → pvM → Option pvO) (x2 : Int) (x3 : Int) (x4 : Int) (x6 : Int) (x7 : Int) (s0 : Int) (s1 : Int) (s2 : Int) (V : pvM) : Option pvO :=
  cL (q_X10_valueOf N s1 s0 V) fun v1 V =>
  cL (q_X1_setLocal N s2 v1 V) fun _ V =>
  lI (pv_w (x7 + (1))) fun v2 =>
  r81 x2 x3 x4 x6 v2 V
set_option maxHeartbeats 4000000 in
set_option maxRecDepth 100000 in
theorem w_X4_perform_b116 {p : Program} {l : Launch} {e : Env} {s : State} {m : MethodId} {args : Array Value} {below : List Frame} {meth : Method} {c : Code} {D : va_G} {cy : Nat → ClassId} {A : Nat → Prop} {n0 : Nat} {ad0 : Nat → Nat} {V0 : pvM} {q : pvO} (C : pz_C p s m args meth c cX4_perform 8 yX4_perform.cls D cy A) (hr : meth.sig.returnType = (some .int)) {N : Nat} {r81 : Int → Int → Int → Int → Int → pvM → Option pvO} (H81 : ∀ (x2 : Int32) (x3 : Int32) (x4 : Int32) (x6 : Int32) (x7 : Int32) (σ : pzS) (V : pvM), r81 x2.toInt x3.toInt x4.toInt x6.toInt x7.toInt V = some q → pv_W p l e 7 186 s m args below meth c 8 D cy A n0 ad0 (pv_Q below D cy n0 ad0 1 V0 q A args s) V0 σ V 81 [(0, .ref 28), (2, .int x2), (3, .int x3), (4, .int x4), (6, .int x6), (7, .int x7)] []) {x2 : Int32} {x3 : Int32} {x4 : Int32} {x6 : Int32} {x7 : Int32} {s0 : Int32} {s1 : Int32} {s2 : Int32} {σ : pzS} {V : pvM} (hp : q_X4_perform_b116 N r81 x2.toInt x3.toInt x4.toInt x6.toInt x7.toInt s0.toInt s1.toInt s2.toInt V = some q) : pv_W p l e 7 186 s m args below meth c 8 D cy A n0 ad0 (pv_Q below D cy n0 ad0 1 V0 q A args s) V0 σ V 116 [(0, .ref 28), (2, .int x2), (3, .int x3), (4, .int x4), (6, .int x6), (7, .int x7)] [.int s0, .int s1, .int s2, .ref 29] := by
  unfold q_X4_perform_b116 at hp
  refine pv_callSN C (As := [.int s1, .int s0]) (rest := [.int s2, .ref 29]) (kd1 := 2) hp (fun q1 h9 => c_X10_valueOf l D cy h9) wB_yX10_valueOf (show (RX4, 90, yX10_valueOf, "FeatureDesugarer") ∈ pz_nests by decide +kernel) sm_yX10_valueOf rfl rfl (Nat.le_of_ble_eq_true rfl) ⟨(Nat.le_of_ble_eq_true rfl), (Nat.le_of_ble_eq_true rfl)⟩ dX4_perform_116 rfl rfl (fun v1 σ V hp => ?_)
  refine pv_callV C (As := [.int s2, .long v1]) (rest := []) (b := 29) (kd1 := 0) hp (fun q1 h9 => c_X1_setLocal l D cy h9) wB_yX1_setLocal ml_X4_94 im_yX1_setLocal se_yX1_setLocal (ci := 0) rfl rfl rfl rfl rfl (Nat.le_of_ble_eq_true rfl) ⟨(Nat.le_of_ble_eq_true rfl), (Nat.le_of_ble_eq_true rfl)⟩ dX4_perform_119 rfl rfl (fun _ σ V hp => ?_)
  refine pv_iinc (L := fun v2 => [(7, .int v2), (0, .ref 28), (2, .int x2), (3, .int x3), (4, .int x4), (6, .int x6)]) C 5 hp dX4_perform_122 (by decide) rfl (by decide) (fun _ => rfl) (fun v2 hp => ?_)
  refine pv_goto (tgt := 81) C dX4_perform_125 (by decide) ?_
  refine pv_sub [1, 2, 3, 4, 5, 0] rfl ?_
  exact H81 _ _ _ _ _ _ _ hp
def q_X4_perform_b131 (N : Nat) : Nat → Int → pvM → Option pvO
  | 0 => fun _ _ => none
  | n + 1 => fun x7 V =>
    lI (1000000) fun v3 =>
    if v3 ≤ x7 then
      gR V 28 8 fun v4 =>
      rT V v4
    else
    gR V 28 8 fun v5 =>
    if v5 ≠ 0 then
      gR V 28 8 fun v6 =>
      rT V v6
    else
    cL (q_X1_areOpen N V) fun v7 V =>
    if v7 = 0 then
      gR V 28 8 fun v8 =>
      rT V v8
    else
    cL (q_X4_doNext N V) fun _ V =>
    lI (pv_w (x7 + (1))) fun v9 =>
    q_X4_perform_b131 N n v9 V
set_option maxHeartbeats 4000000 in
set_option maxRecDepth 100000 in
theorem w_X4_perform_b131 {p : Program} {l : Launch} {e : Env} {s : State} {m : MethodId} {args : Array Value} {below : List Frame} {meth : Method} {c : Code} {D : va_G} {cy : Nat → ClassId} {A : Nat → Prop} {n0 : Nat} {ad0 : Nat → Nat} {V0 : pvM} {q : pvO} (C : pz_C p s m args meth c cX4_perform 8 yX4_perform.cls D cy A) (hr : meth.sig.returnType = (some .int)) {N : Nat} : ∀ (n : Nat) (x7 : Int32) (σ : pzS) (V : pvM), q_X4_perform_b131 N n x7.toInt V = some q → pv_W p l e 7 186 s m args below meth c 8 D cy A n0 ad0 (pv_Q below D cy n0 ad0 1 V0 q A args s) V0 σ V 131 [(0, .ref 28), (7, .int x7)] [] := by
  intro n
  induction n with
  | zero =>
    intro x7 σ V hp
    simp only [q_X4_perform_b131] at hp
    cases hp
  | succ n ih =>
    intro x7 σ V hp
    simp only [q_X4_perform_b131] at hp
    refine pv_iload C 1 dX4_perform_131 rfl ?_
    refine pv_ldc C hp dX4_perform_133 ki_X4_98 (by decide) (fun v3 hp => ?_)
    refine pv_icmp_ge (tgt := 165) C hp dX4_perform_135 (by decide) (fun hp => ?_) (fun hp => ?_)
    · refine pv_aload_n C 0 dX4_perform_165 rfl ?_
      refine pv_getI C (ci := 3) (k := 8) gwX4 rfl (Nat.le_of_ble_eq_true rfl) fl_X4_78 rfl rfl hp rfl rfl dX4_perform_166 (fun v4 hp => ?_)
      exact pv_iret C rfl hp hr dX4_perform_169
    · refine pv_aload_n C 0 dX4_perform_138 rfl ?_
      refine pv_getI C (ci := 3) (k := 8) gwX4 rfl (Nat.le_of_ble_eq_true rfl) fl_X4_78 rfl rfl hp rfl rfl dX4_perform_139 (fun v5 hp => ?_)
      refine pv_if_ne (tgt := 165) C hp dX4_perform_142 (by decide) (fun hp => ?_) (fun hp => ?_)
      · refine pv_aload_n C 0 dX4_perform_165 rfl ?_
        refine pv_getI C (ci := 3) (k := 8) gwX4 rfl (Nat.le_of_ble_eq_true rfl) fl_X4_78 rfl rfl hp rfl rfl dX4_perform_166 (fun v6 hp => ?_)
        exact pv_iret C rfl hp hr dX4_perform_169
      · refine pv_aload_n C 0 dX4_perform_145 rfl ?_
        refine pv_getR C (ci := 3) (k := 2) gwX4 rfl (Nat.le_of_ble_eq_true rfl) fl_X4_12 rfl rfl rfl (j := 29) rfl rfl dX4_perform_146 ?_
        refine pv_callV C (As := []) (rest := []) (b := 29) (kd1 := 1) hp (fun q1 h9 => c_X1_areOpen l D cy h9) wB_yX1_areOpen ml_X4_99 im_yX1_areOpen se_yX1_areOpen (ci := 0) rfl rfl rfl rfl rfl (Nat.le_of_ble_eq_true rfl) ⟨(Nat.le_of_ble_eq_true rfl), (Nat.le_of_ble_eq_true rfl)⟩ dX4_perform_149 rfl rfl (fun v7 σ V hp => ?_)
        refine pv_if_eq (tgt := 165) C hp dX4_perform_152 (by decide) (fun hp => ?_) (fun hp => ?_)
        · refine pv_aload_n C 0 dX4_perform_165 rfl ?_
          refine pv_getI C (ci := 3) (k := 8) gwX4 rfl (Nat.le_of_ble_eq_true rfl) fl_X4_78 rfl rfl hp rfl rfl dX4_perform_166 (fun v8 hp => ?_)
          exact pv_iret C rfl hp hr dX4_perform_169
        · refine pv_aload_n C 0 dX4_perform_155 rfl ?_
          refine pv_callV C (As := []) (rest := []) (b := 28) (kd1 := 0) hp (fun q1 h9 => c_X4_doNext l D cy h9) wB_yX4_doNext ml_X4_103 im_yX4_doNext se_yX4_doNext (ci := 3) rfl rfl rfl rfl rfl (Nat.le_of_ble_eq_true rfl) ⟨(Nat.le_of_ble_eq_true rfl), (Nat.le_of_ble_eq_true rfl)⟩ dX4_perform_156 rfl rfl (fun _ σ V hp => ?_)
          refine pv_iinc (L := fun v9 => [(7, .int v9), (0, .ref 28)]) C 1 hp dX4_perform_159 (by decide) rfl (by decide) (fun _ => rfl) (fun v9 hp => ?_)
          refine pv_goto (tgt := 131) C dX4_perform_162 (by decide) ?_
          refine pv_sub [1, 0] rfl ?_
          exact ih _ _ _ hp
def q_X4_perform_b81 (N : Nat) : Nat → Int → Int → Int → Int → Int → pvM → Option pvO
  | 0 => fun _ _ _ _ _ _ => none
  | n + 1 => fun x2 x3 x4 x6 x7 V =>
    if x6 ≤ x7 then
      lI (0) fun v10 =>
      q_X4_perform_b131 N N v10 V
    else
    lI (1) fun v11 =>
    if x7 ≠ 0 then
      lI (1) fun v12 =>
      if x7 ≠ v12 then
        q_X4_perform_b116 N (q_X4_perform_b81 N n) x2 x3 x4 x6 x7 x4 v11 x7 V
      else
      q_X4_perform_b116 N (q_X4_perform_b81 N n) x2 x3 x4 x6 x7 x3 v11 x7 V
    else
    q_X4_perform_b116 N (q_X4_perform_b81 N n) x2 x3 x4 x6 x7 x2 v11 x7 V
set_option maxHeartbeats 4000000 in
set_option maxRecDepth 100000 in
theorem w_X4_perform_b81 {p : Program} {l : Launch} {e : Env} {s : State} {m : MethodId} {args : Array Value} {below : List Frame} {meth : Method} {c : Code} {D : va_G} {cy : Nat → ClassId} {A : Nat → Prop} {n0 : Nat} {ad0 : Nat → Nat} {V0 : pvM} {q : pvO} (C : pz_C p s m args meth c cX4_perform 8 yX4_perform.cls D cy A) (hr : meth.sig.returnType = (some .int)) {N : Nat} : ∀ (n : Nat) (x2 : Int32) (x3 : Int32) (x4 : Int32) (x6 : Int32) (x7 : Int32) (σ : pzS) (V : pvM), q_X4_perform_b81 N n x2.toInt x3.toInt x4.toInt x6.toInt x7.toInt V = some q → pv_W p l e 7 186 s m args below meth c 8 D cy A n0 ad0 (pv_Q below D cy n0 ad0 1 V0 q A args s) V0 σ V 81 [(0, .ref 28), (2, .int x2), (3, .int x3), (4, .int x4), (6, .int x6), (7, .int x7)] [] := by
  intro n
  induction n with
  | zero =>
    intro x2 x3 x4 x6 x7 σ V hp
    simp only [q_X4_perform_b81] at hp
    cases hp
  | succ n ih =>
    intro x2 x3 x4 x6 x7 σ V hp
    simp only [q_X4_perform_b81] at hp
    refine pv_iload C 5 dX4_perform_81 rfl ?_
    refine pv_iload C 4 dX4_perform_83 rfl ?_
    refine pv_icmp_ge (tgt := 128) C hp dX4_perform_85 (by decide) (fun hp => ?_) (fun hp => ?_)
    · refine pv_iconst C hp dX4_perform_128 (by decide) (fun v10 hp => ?_)
      refine pv_istore (loc' := [(7, .int v10), (0, .ref 28), (2, .int x2), (3, .int x3), (4, .int x4), (6, .int x6)]) C dX4_perform_129 (by decide) rfl ?_
      refine pv_sub [1, 0] rfl ?_
      exact w_X4_perform_b131 C hr N _ _ _ hp
    · refine pv_aload_n C 0 dX4_perform_88 rfl ?_
      refine pv_getR C (ci := 3) (k := 2) gwX4 rfl (Nat.le_of_ble_eq_true rfl) fl_X4_12 rfl rfl rfl (j := 29) rfl rfl dX4_perform_89 ?_
      refine pv_iload C 5 dX4_perform_92 rfl ?_
      refine pv_iconst C hp dX4_perform_94 (by decide) (fun v11 hp => ?_)
      refine pv_iload C 5 dX4_perform_95 rfl ?_
      refine pv_if_ne (tgt := 104) C hp dX4_perform_97 (by decide) (fun hp => ?_) (fun hp => ?_)
      · refine pv_iload C 5 dX4_perform_104 rfl ?_
        refine pv_iconst C hp dX4_perform_106 (by decide) (fun v12 hp => ?_)
        refine pv_icmp_ne (tgt := 114) C hp dX4_perform_107 (by decide) (fun hp => ?_) (fun hp => ?_)
        · refine pv_iload C 3 dX4_perform_114 rfl ?_
          exact w_X4_perform_b116 C hr ih hp
        · refine pv_iload_n C 2 dX4_perform_110 rfl ?_
          refine pv_goto (tgt := 116) C dX4_perform_111 (by decide) ?_
          exact w_X4_perform_b116 C hr ih hp
      · refine pv_iload_n C 1 dX4_perform_100 rfl ?_
        refine pv_goto (tgt := 116) C dX4_perform_101 (by decide) ?_
        exact w_X4_perform_b116 C hr ih hp
def q_X4_perform_b62 (N : Nat) (x1 : Int) (x2 : Int) (x3 : Int) (x4 : Int) (V : pvM) : Option pvO :=
  cL (q_X4_beginFunction N x1 V) fun v13 V =>
  cL (q_X6_parametersOf N x1 V) fun v14 V =>
  lI (0) fun v15 =>
  q_X4_perform_b81 N N x2 x3 x4 v14 v15 V
set_option maxHeartbeats 4000000 in
set_option maxRecDepth 100000 in
theorem w_X4_perform_b62 {p : Program} {l : Launch} {e : Env} {s : State} {m : MethodId} {args : Array Value} {below : List Frame} {meth : Method} {c : Code} {D : va_G} {cy : Nat → ClassId} {A : Nat → Prop} {n0 : Nat} {ad0 : Nat → Nat} {V0 : pvM} {q : pvO} (C : pz_C p s m args meth c cX4_perform 8 yX4_perform.cls D cy A) (hr : meth.sig.returnType = (some .int)) {N : Nat} {x1 : Int32} {x2 : Int32} {x3 : Int32} {x4 : Int32} {σ : pzS} {V : pvM} (hp : q_X4_perform_b62 N x1.toInt x2.toInt x3.toInt x4.toInt V = some q) : pv_W p l e 7 186 s m args below meth c 8 D cy A n0 ad0 (pv_Q below D cy n0 ad0 1 V0 q A args s) V0 σ V 62 [(0, .ref 28), (1, .int x1), (2, .int x2), (3, .int x3), (4, .int x4)] [] := by
  unfold q_X4_perform_b62 at hp
  refine pv_aload_n C 0 dX4_perform_62 rfl ?_
  refine pv_iload_n C 1 dX4_perform_63 rfl ?_
  refine pv_callV C (As := [.int x1]) (rest := []) (b := 28) (kd1 := 1) hp (fun q1 h9 => c_X4_beginFunction l D cy h9) wB_yX4_beginFunction ml_X4_81 im_yX4_beginFunction se_yX4_beginFunction (ci := 3) rfl rfl rfl rfl rfl (Nat.le_of_ble_eq_true rfl) ⟨(Nat.le_of_ble_eq_true rfl), (Nat.le_of_ble_eq_true rfl)⟩ dX4_perform_64 rfl rfl (fun v13 σ V hp => ?_)
  refine pv_pop C dX4_perform_67 rfl ?_
  refine pv_aload_n C 0 dX4_perform_68 rfl ?_
  refine pv_getR C (ci := 3) (k := 0) gwX4 rfl (Nat.le_of_ble_eq_true rfl) fl_X4_36 rfl rfl rfl (j := 1) rfl rfl dX4_perform_69 ?_
  refine pv_iload_n C 1 dX4_perform_72 rfl ?_
  refine pv_callV C (As := [.int x1]) (rest := []) (b := 1) (kd1 := 1) hp (fun q1 h9 => c_X6_parametersOf l D cy h9) wB_yX6_parametersOf ml_X4_85 im_yX6_parametersOf se_yX6_parametersOf (ci := 5) rfl rfl rfl rfl rfl (Nat.le_of_ble_eq_true rfl) ⟨(Nat.le_of_ble_eq_true rfl), (Nat.le_of_ble_eq_true rfl)⟩ dX4_perform_73 rfl rfl (fun v14 σ V hp => ?_)
  refine pv_istore (loc' := [(6, .int v14), (0, .ref 28), (1, .int x1), (2, .int x2), (3, .int x3), (4, .int x4)]) C dX4_perform_76 (by decide) rfl ?_
  refine pv_iconst C hp dX4_perform_78 (by decide) (fun v15 hp => ?_)
  refine pv_istore (loc' := [(7, .int v15), (6, .int v14), (0, .ref 28), (1, .int x1), (2, .int x2), (3, .int x3), (4, .int x4)]) C dX4_perform_79 (by decide) rfl ?_
  refine pv_sub [2, 4, 5, 6, 1, 0] rfl ?_
  exact w_X4_perform_b81 C hr N _ _ _ _ _ _ _ hp
def q_X4_perform (N : Nat) (x1 : Int) (x2 : Int) (x3 : Int) (x4 : Int) (x5 : Int) (V : pvM) : Option pvO :=
  cL (q_X1_clear N V) fun _ V =>
  cL (q_X2_clear N V) fun _ V =>
  cL (q_X8_clear N V) fun _ V =>
  lI (0) fun v16 =>
  gW V 28 6 v16 fun V =>
  lI (0) fun v17 =>
  gW V 28 7 v17 fun V =>
  lI (0) fun v18 =>
  gW V 28 8 v18 fun V =>
  lI (0) fun v19 =>
  gW V 28 9 v19 fun V =>
  gW V 28 5 1 fun V =>
  if x5 = 0 then
    q_X4_perform_b62 N x1 x2 x3 x4 V
  else
  gW V 28 5 16 fun V =>
  q_X4_perform_b62 N x1 x2 x3 x4 V
set_option maxHeartbeats 4000000 in
set_option maxRecDepth 100000 in
theorem c_X4_perform (l : Launch) (D : va_G) (cy : Nat → ClassId) {N : Nat} {x1 : Int32} {x2 : Int32} {x3 : Int32} {x4 : Int32} {x5 : Int32} {V : pvM} {q : pvO} (hp : q_X4_perform N x1.toInt x2.toInt x3.toInt x4.toInt x5.toInt V = some q) : pv_Met l yX4_perform cX4_perform 8 (some .int) 7 186 D cy V [.ref 28, .int x1, .int x2, .int x3, .int x4, .int x5] 1 q := by
  unfold q_X4_perform at hp
  refine pv_ofW (by decide) (Nat.le_of_ble_eq_true rfl) (fun p e s m args below meth c ad A n0 σ C hr => ?_)
  refine pv_aload_n C 0 dX4_perform_0 rfl ?_
  refine pv_getR C (ci := 3) (k := 2) gwX4 rfl (Nat.le_of_ble_eq_true rfl) fl_X4_12 rfl rfl rfl (j := 29) rfl rfl dX4_perform_1 ?_
  refine pv_callV C (As := []) (rest := []) (b := 29) (kd1 := 0) hp (fun q1 h9 => c_X1_clear l D cy h9) wB_yX1_clear ml_X4_70 im_yX1_clear se_yX1_clear (ci := 0) rfl rfl rfl rfl rfl (Nat.le_of_ble_eq_true rfl) ⟨(Nat.le_of_ble_eq_true rfl), (Nat.le_of_ble_eq_true rfl)⟩ dX4_perform_4 rfl rfl (fun _ σ V hp => ?_)
  refine pv_aload_n C 0 dX4_perform_7 rfl ?_
  refine pv_getR C (ci := 3) (k := 3) gwX4 rfl (Nat.le_of_ble_eq_true rfl) fl_X4_21 rfl rfl rfl (j := 35) rfl rfl dX4_perform_8 ?_
  refine pv_callV C (As := []) (rest := []) (b := 35) (kd1 := 0) hp (fun q1 h9 => c_X2_clear l D cy h9) wB_yX2_clear ml_X4_73 im_yX2_clear se_yX2_clear (ci := 1) rfl rfl rfl rfl rfl (Nat.le_of_ble_eq_true rfl) ⟨(Nat.le_of_ble_eq_true rfl), (Nat.le_of_ble_eq_true rfl)⟩ dX4_perform_11 rfl rfl (fun _ σ V hp => ?_)
  refine pv_aload_n C 0 dX4_perform_14 rfl ?_
  refine pv_getR C (ci := 3) (k := 4) gwX4 rfl (Nat.le_of_ble_eq_true rfl) fl_X4_28 rfl rfl rfl (j := 39) rfl rfl dX4_perform_15 ?_
  refine pv_callV C (As := []) (rest := []) (b := 39) (kd1 := 0) hp (fun q1 h9 => c_X8_clear l D cy h9) wB_yX8_clear ml_X4_74 im_yX8_clear se_yX8_clear (ci := 7) rfl rfl rfl rfl rfl (Nat.le_of_ble_eq_true rfl) ⟨(Nat.le_of_ble_eq_true rfl), (Nat.le_of_ble_eq_true rfl)⟩ dX4_perform_18 rfl rfl (fun _ σ V hp => ?_)
  refine pv_aload_n C 0 dX4_perform_21 rfl ?_
  refine pv_iconst C hp dX4_perform_22 (by decide) (fun v16 hp => ?_)
  refine pv_putI C (ci := 3) (k := 6) gwX4 rfl (Nat.le_of_ble_eq_true rfl) fl_X4_75 rfl rfl tyX4_ok nmX4 hp rfl rfl rfl (by decide +kernel) dX4_perform_23 (fun V hp => ?_)
  refine pv_aload_n C 0 dX4_perform_26 rfl ?_
  refine pv_iconst C hp dX4_perform_27 (by decide) (fun v17 hp => ?_)
  refine pv_putI C (ci := 3) (k := 7) gwX4 rfl (Nat.le_of_ble_eq_true rfl) fl_X4_56 rfl rfl tyX4_ok nmX4 hp rfl rfl rfl (by decide +kernel) dX4_perform_28 (fun V hp => ?_)
  refine pv_aload_n C 0 dX4_perform_31 rfl ?_
  refine pv_iconst C hp dX4_perform_32 (by decide) (fun v18 hp => ?_)
  refine pv_putI C (ci := 3) (k := 8) gwX4 rfl (Nat.le_of_ble_eq_true rfl) fl_X4_78 rfl rfl tyX4_ok nmX4 hp rfl rfl rfl (by decide +kernel) dX4_perform_33 (fun V hp => ?_)
  refine pv_aload_n C 0 dX4_perform_36 rfl ?_
  refine pv_lconst C hp dX4_perform_37 (by decide) (fun v19 hp => ?_)
  refine pv_putJ C (ci := 3) (k := 9) gwX4 rfl (Nat.le_of_ble_eq_true rfl) fl_X4_32 rfl rfl tyX4_ok nmX4 hp rfl rfl rfl (by decide +kernel) dX4_perform_38 (fun V hp => ?_)
  refine pv_aload_n C 0 dX4_perform_41 rfl ?_
  refine pv_aload_n C 0 dX4_perform_42 rfl ?_
  refine pv_getR C (ci := 3) (k := 0) gwX4 rfl (Nat.le_of_ble_eq_true rfl) fl_X4_36 rfl rfl rfl (j := 1) rfl rfl dX4_perform_43 ?_
  refine pv_putC C (ci := 3) (b := 1) (ty := .object "FeatureDesugarer$Code") gwX4 rfl (Nat.le_of_ble_eq_true rfl) fl_X4_44 rfl tyX4_ok nmX4 hp (Or.inl rfl) rfl rfl rfl (by decide +kernel) (fun _ => rfl) (fun _ => rfl) dX4_perform_46 (fun σ V hp => ?_)
  refine pv_iload C 5 dX4_perform_49 rfl ?_
  refine pv_if_eq (tgt := 62) C hp dX4_perform_51 (by decide) (fun hp => ?_) (fun hp => ?_)
  · refine pv_sub [0, 1, 2, 3, 4] rfl ?_
    exact w_X4_perform_b62 C hr hp
  · refine pv_aload_n C 0 dX4_perform_54 rfl ?_
    refine pv_aload_n C 0 dX4_perform_55 rfl ?_
    refine pv_getR C (ci := 3) (k := 1) gwX4 rfl (Nat.le_of_ble_eq_true rfl) fl_X4_40 rfl rfl rfl (j := 16) rfl rfl dX4_perform_56 ?_
    refine pv_putC C (ci := 3) (b := 16) (ty := .object "FeatureDesugarer$Code") gwX4 rfl (Nat.le_of_ble_eq_true rfl) fl_X4_44 rfl tyX4_ok nmX4 hp (Or.inr rfl) rfl rfl rfl (by decide +kernel) (fun _ => rfl) (fun _ => rfl) dX4_perform_59 (fun σ V hp => ?_)
    refine pv_sub [0, 1, 2, 3, 4] rfl ?_
    exact w_X4_perform_b62 C hr hp
