def q_X3_clear (N : Nat) (V : pvM) : Option pvO :=
  lI (0) fun v1 =>
  gW V 17 4 v1 fun V =>
  rT V 0
set_option maxHeartbeats 4000000 in
set_option maxRecDepth 100000 in
theorem c_X3_clear (l : Launch) (D : va_G) (cy : Nat → ClassId) {N : Nat} {V : pvM} {q : pvO} (hp : q_X3_clear N V = some q) : pv_Met l yX3_clear cX3_clear 1 none 0 0 D cy V [.ref 17] 0 q := by
  unfold q_X3_clear at hp
  refine pv_ofW (by decide) (Nat.le_of_ble_eq_true rfl) (fun p e s m args below meth c ad A n0 σ C hr => ?_)
  refine pv_aload_n C 0 dX3_clear_0 rfl ?_
  refine pv_iconst C hp dX3_clear_1 (by decide) (fun v1 hp => ?_)
  refine pv_putI C (ci := 2) (k := 4) gwX3 rfl (Nat.le_of_ble_eq_true rfl) fl_X3_22 rfl rfl tyX3_ok nmX3 hp rfl rfl rfl (by decide +kernel) dX3_clear_2 (fun V hp => ?_)
  exact pv_vret C rfl hp hr dX3_clear_5
def q_X3_length (N : Nat) (V : pvM) : Option pvO :=
  gR V 17 4 fun v1 =>
  rT V v1
set_option maxHeartbeats 4000000 in
set_option maxRecDepth 100000 in
theorem c_X3_length (l : Launch) (D : va_G) (cy : Nat → ClassId) {N : Nat} {V : pvM} {q : pvO} (hp : q_X3_length N V = some q) : pv_Met l yX3_length cX3_length 1 (some .int) 0 0 D cy V [.ref 17] 1 q := by
  unfold q_X3_length at hp
  refine pv_ofW (by decide) (Nat.le_of_ble_eq_true rfl) (fun p e s m args below meth c ad A n0 σ C hr => ?_)
  refine pv_aload_n C 0 dX3_length_0 rfl ?_
  refine pv_getI C (ci := 2) (k := 4) gwX3 rfl (Nat.le_of_ble_eq_true rfl) fl_X3_22 rfl rfl hp rfl rfl dX3_length_1 (fun v1 hp => ?_)
  exact pv_iret C rfl hp hr dX3_length_4
def q_X3_add_b16 (N : Nat) (x1 : Int) (x2 : Int) (x3 : Int) (V : pvM) : Option pvO :=
  gR V 17 4 fun v1 =>
  aW V 18 (V 17 0).toNat v1 x1 fun V =>
  gR V 17 4 fun v2 =>
  aW V 19 (V 17 0).toNat v2 x2 fun V =>
  gR V 17 4 fun v3 =>
  aW V 20 (V 17 0).toNat v3 x3 fun V =>
  gR V 17 4 fun v4 =>
  lI (0) fun v5 =>
  aW V 21 (V 17 0).toNat v4 v5 fun V =>
  gR V 17 4 fun v6 =>
  lI (1) fun v7 =>
  lI (pv_w (v6 + v7)) fun v8 =>
  gW V 17 4 v8 fun V =>
  rT V 0
set_option maxHeartbeats 4000000 in
set_option maxRecDepth 100000 in
theorem w_X3_add_b16 {p : Program} {l : Launch} {e : Env} {s : State} {m : MethodId} {args : Array Value} {below : List Frame} {meth : Method} {c : Code} {D : va_G} {cy : Nat → ClassId} {A : Nat → Prop} {n0 : Nat} {ad0 : Nat → Nat} {V0 : pvM} {q : pvO} (C : pz_C p s m args meth c cX3_add 4 yX3_add.cls D cy A) (hr : meth.sig.returnType = none) {N : Nat} {x1 : Int32} {x2 : Int32} {x3 : Int32} {σ : pzS} {V : pvM} (hp : q_X3_add_b16 N x1.toInt x2.toInt x3.toInt V = some q) : pv_W p l e 3 83 s m args below meth c 4 D cy A n0 ad0 (pv_Q below D cy n0 ad0 0 V0 q A args s) V0 σ V 16 [(0, .ref 17), (1, .int x1), (2, .int x2), (3, .int x3)] [] := by
  unfold q_X3_add_b16 at hp
  refine pv_aload_n C 0 dX3_add_16 rfl ?_
  refine pv_getD C (ci := 2) (r := 0) gwX3 rfl (Nat.le_of_ble_eq_true rfl) fl_X3_7 (by decide) rfl rfl dX3_add_17 ?_
  refine pv_aload_n C 0 dX3_add_20 rfl ?_
  refine pv_getI C (ci := 2) (k := 4) gwX3 rfl (Nat.le_of_ble_eq_true rfl) fl_X3_22 rfl rfl hp rfl rfl dX3_add_21 (fun v1 hp => ?_)
  refine pv_iload_n C 1 dX3_add_24 rfl ?_
  refine pv_iastD (r := 0) C hp (by decide) dX3_add_25 (fun V hp => ?_)
  refine pv_aload_n C 0 dX3_add_26 rfl ?_
  refine pv_getD C (ci := 2) (r := 1) gwX3 rfl (Nat.le_of_ble_eq_true rfl) fl_X3_13 (by decide) rfl rfl dX3_add_27 ?_
  refine pv_aload_n C 0 dX3_add_30 rfl ?_
  refine pv_getI C (ci := 2) (k := 4) gwX3 rfl (Nat.le_of_ble_eq_true rfl) fl_X3_22 rfl rfl hp rfl rfl dX3_add_31 (fun v2 hp => ?_)
  refine pv_iload_n C 2 dX3_add_34 rfl ?_
  refine pv_iastD (r := 1) C hp (by decide) dX3_add_35 (fun V hp => ?_)
  refine pv_aload_n C 0 dX3_add_36 rfl ?_
  refine pv_getD C (ci := 2) (r := 2) gwX3 rfl (Nat.le_of_ble_eq_true rfl) fl_X3_16 (by decide) rfl rfl dX3_add_37 ?_
  refine pv_aload_n C 0 dX3_add_40 rfl ?_
  refine pv_getI C (ci := 2) (k := 4) gwX3 rfl (Nat.le_of_ble_eq_true rfl) fl_X3_22 rfl rfl hp rfl rfl dX3_add_41 (fun v3 hp => ?_)
  refine pv_iload_n C 3 dX3_add_44 rfl ?_
  refine pv_iastD (r := 2) C hp (by decide) dX3_add_45 (fun V hp => ?_)
  refine pv_aload_n C 0 dX3_add_46 rfl ?_
  refine pv_getD C (ci := 2) (r := 3) gwX3 rfl (Nat.le_of_ble_eq_true rfl) fl_X3_19 (by decide) rfl rfl dX3_add_47 ?_
  refine pv_aload_n C 0 dX3_add_50 rfl ?_
  refine pv_getI C (ci := 2) (k := 4) gwX3 rfl (Nat.le_of_ble_eq_true rfl) fl_X3_22 rfl rfl hp rfl rfl dX3_add_51 (fun v4 hp => ?_)
  refine pv_iconst C hp dX3_add_54 (by decide) (fun v5 hp => ?_)
  refine pv_iastD (r := 3) C hp (by decide) dX3_add_55 (fun V hp => ?_)
  refine pv_aload_n C 0 dX3_add_56 rfl ?_
  refine pv_dup C dX3_add_57 rfl ?_
  refine pv_getI C (ci := 2) (k := 4) gwX3 rfl (Nat.le_of_ble_eq_true rfl) fl_X3_22 rfl rfl hp rfl rfl dX3_add_58 (fun v6 hp => ?_)
  refine pv_iconst C hp dX3_add_61 (by decide) (fun v7 hp => ?_)
  refine pv_iadd C hp dX3_add_62 (fun v8 hp => ?_)
  refine pv_putI C (ci := 2) (k := 4) gwX3 rfl (Nat.le_of_ble_eq_true rfl) fl_X3_22 rfl rfl tyX3_ok nmX3 hp rfl rfl rfl (by decide +kernel) dX3_add_63 (fun V hp => ?_)
  exact pv_vret C rfl hp hr dX3_add_66
def q_X3_add (N : Nat) (x1 : Int) (x2 : Int) (x3 : Int) (V : pvM) : Option pvO :=
  gR V 17 4 fun v9 =>
  gR V 17 0 fun v10 =>
  if v9 ≠ v10 then
    q_X3_add_b16 N x1 x2 x3 V
  else
  cL (q_X3_grow N V) fun _ V =>
  q_X3_add_b16 N x1 x2 x3 V
set_option maxHeartbeats 4000000 in
set_option maxRecDepth 100000 in
theorem c_X3_add (l : Launch) (D : va_G) (cy : Nat → ClassId) {N : Nat} {x1 : Int32} {x2 : Int32} {x3 : Int32} {V : pvM} {q : pvO} (hp : q_X3_add N x1.toInt x2.toInt x3.toInt V = some q) : pv_Met l yX3_add cX3_add 4 none 3 83 D cy V [.ref 17, .int x1, .int x2, .int x3] 0 q := by
  unfold q_X3_add at hp
  refine pv_ofW (by decide) (Nat.le_of_ble_eq_true rfl) (fun p e s m args below meth c ad A n0 σ C hr => ?_)
  refine pv_aload_n C 0 dX3_add_0 rfl ?_
  refine pv_getI C (ci := 2) (k := 4) gwX3 rfl (Nat.le_of_ble_eq_true rfl) fl_X3_22 rfl rfl hp rfl rfl dX3_add_1 (fun v9 hp => ?_)
  refine pv_aload_n C 0 dX3_add_4 rfl ?_
  refine pv_getD C (ci := 2) (r := 0) gwX3 rfl (Nat.le_of_ble_eq_true rfl) fl_X3_7 (by decide) rfl rfl dX3_add_5 ?_
  refine pv_alenD (r := 0) C hp (by decide) dX3_add_8 (fun v10 hp => ?_)
  refine pv_icmp_ne (tgt := 16) C hp dX3_add_9 (by decide) (fun hp => ?_) (fun hp => ?_)
  · exact w_X3_add_b16 C hr hp
  · refine pv_aload_n C 0 dX3_add_12 rfl ?_
    refine pv_callV C (As := []) (rest := []) (b := 17) (kd1 := 0) hp (fun q1 h9 => c_X3_grow l D cy h9) wB_yX3_grow ml_X3_26 im_yX3_grow se_yX3_grow (ci := 2) rfl rfl rfl rfl rfl (Nat.le_of_ble_eq_true rfl) ⟨(Nat.le_of_ble_eq_true rfl), (Nat.le_of_ble_eq_true rfl)⟩ dX3_add_13 rfl rfl (fun _ σ V hp => ?_)
    exact w_X3_add_b16 C hr hp
def q_X3_markStep (N : Nat) (x1 : Int) (V : pvM) : Option pvO :=
  lI (1) fun v1 =>
  aW V 21 (V 17 0).toNat x1 v1 fun V =>
  rT V 0
set_option maxHeartbeats 4000000 in
set_option maxRecDepth 100000 in
theorem c_X3_markStep (l : Launch) (D : va_G) (cy : Nat → ClassId) {N : Nat} {x1 : Int32} {V : pvM} {q : pvO} (hp : q_X3_markStep N x1.toInt V = some q) : pv_Met l yX3_markStep cX3_markStep 2 none 0 0 D cy V [.ref 17, .int x1] 0 q := by
  unfold q_X3_markStep at hp
  refine pv_ofW (by decide) (Nat.le_of_ble_eq_true rfl) (fun p e s m args below meth c ad A n0 σ C hr => ?_)
  refine pv_aload_n C 0 dX3_markStep_0 rfl ?_
  refine pv_getD C (ci := 2) (r := 3) gwX3 rfl (Nat.le_of_ble_eq_true rfl) fl_X3_19 (by decide) rfl rfl dX3_markStep_1 ?_
  refine pv_iload_n C 1 dX3_markStep_4 rfl ?_
  refine pv_iconst C hp dX3_markStep_5 (by decide) (fun v1 hp => ?_)
  refine pv_iastD (r := 3) C hp (by decide) dX3_markStep_6 (fun V hp => ?_)
  exact pv_vret C rfl hp hr dX3_markStep_7
def q_X3_setFirstNumber (N : Nat) (x1 : Int) (x2 : Int) (V : pvM) : Option pvO :=
  aW V 19 (V 17 0).toNat x1 x2 fun V =>
  rT V 0
set_option maxHeartbeats 4000000 in
set_option maxRecDepth 100000 in
theorem c_X3_setFirstNumber (l : Launch) (D : va_G) (cy : Nat → ClassId) {N : Nat} {x1 : Int32} {x2 : Int32} {V : pvM} {q : pvO} (hp : q_X3_setFirstNumber N x1.toInt x2.toInt V = some q) : pv_Met l yX3_setFirstNumber cX3_setFirstNumber 3 none 0 0 D cy V [.ref 17, .int x1, .int x2] 0 q := by
  unfold q_X3_setFirstNumber at hp
  refine pv_ofW (by decide) (Nat.le_of_ble_eq_true rfl) (fun p e s m args below meth c ad A n0 σ C hr => ?_)
  refine pv_aload_n C 0 dX3_setFirstNumber_0 rfl ?_
  refine pv_getD C (ci := 2) (r := 1) gwX3 rfl (Nat.le_of_ble_eq_true rfl) fl_X3_13 (by decide) rfl rfl dX3_setFirstNumber_1 ?_
  refine pv_iload_n C 1 dX3_setFirstNumber_4 rfl ?_
  refine pv_iload_n C 2 dX3_setFirstNumber_5 rfl ?_
  refine pv_iastD (r := 1) C hp (by decide) dX3_setFirstNumber_6 (fun V hp => ?_)
  exact pv_vret C rfl hp hr dX3_setFirstNumber_7
def q_X3_word (N : Nat) (x1 : Int) (V : pvM) : Option pvO :=
  aR V 18 (V 17 0).toNat x1 fun v1 =>
  rT V v1
set_option maxHeartbeats 4000000 in
set_option maxRecDepth 100000 in
theorem c_X3_word (l : Launch) (D : va_G) (cy : Nat → ClassId) {N : Nat} {x1 : Int32} {V : pvM} {q : pvO} (hp : q_X3_word N x1.toInt V = some q) : pv_Met l yX3_word cX3_word 2 (some .int) 0 0 D cy V [.ref 17, .int x1] 1 q := by
  unfold q_X3_word at hp
  refine pv_ofW (by decide) (Nat.le_of_ble_eq_true rfl) (fun p e s m args below meth c ad A n0 σ C hr => ?_)
  refine pv_aload_n C 0 dX3_word_0 rfl ?_
  refine pv_getD C (ci := 2) (r := 0) gwX3 rfl (Nat.le_of_ble_eq_true rfl) fl_X3_7 (by decide) rfl rfl dX3_word_1 ?_
  refine pv_iload_n C 1 dX3_word_4 rfl ?_
  refine pv_ialdD (r := 0) C hp (by decide) dX3_word_5 (fun v1 hp => ?_)
  exact pv_iret C rfl hp hr dX3_word_6
def q_X3_firstNumber (N : Nat) (x1 : Int) (V : pvM) : Option pvO :=
  aR V 19 (V 17 0).toNat x1 fun v1 =>
  rT V v1
set_option maxHeartbeats 4000000 in
set_option maxRecDepth 100000 in
theorem c_X3_firstNumber (l : Launch) (D : va_G) (cy : Nat → ClassId) {N : Nat} {x1 : Int32} {V : pvM} {q : pvO} (hp : q_X3_firstNumber N x1.toInt V = some q) : pv_Met l yX3_firstNumber cX3_firstNumber 2 (some .int) 0 0 D cy V [.ref 17, .int x1] 1 q := by
  unfold q_X3_firstNumber at hp
  refine pv_ofW (by decide) (Nat.le_of_ble_eq_true rfl) (fun p e s m args below meth c ad A n0 σ C hr => ?_)
  refine pv_aload_n C 0 dX3_firstNumber_0 rfl ?_
  refine pv_getD C (ci := 2) (r := 1) gwX3 rfl (Nat.le_of_ble_eq_true rfl) fl_X3_13 (by decide) rfl rfl dX3_firstNumber_1 ?_
  refine pv_iload_n C 1 dX3_firstNumber_4 rfl ?_
  refine pv_ialdD (r := 1) C hp (by decide) dX3_firstNumber_5 (fun v1 hp => ?_)
  exact pv_iret C rfl hp hr dX3_firstNumber_6
def q_X3_secondNumber (N : Nat) (x1 : Int) (V : pvM) : Option pvO :=
  aR V 20 (V 17 0).toNat x1 fun v1 =>
  rT V v1
set_option maxHeartbeats 4000000 in
set_option maxRecDepth 100000 in
theorem c_X3_secondNumber (l : Launch) (D : va_G) (cy : Nat → ClassId) {N : Nat} {x1 : Int32} {V : pvM} {q : pvO} (hp : q_X3_secondNumber N x1.toInt V = some q) : pv_Met l yX3_secondNumber cX3_secondNumber 2 (some .int) 0 0 D cy V [.ref 17, .int x1] 1 q := by
  unfold q_X3_secondNumber at hp
  refine pv_ofW (by decide) (Nat.le_of_ble_eq_true rfl) (fun p e s m args below meth c ad A n0 σ C hr => ?_)
  refine pv_aload_n C 0 dX3_secondNumber_0 rfl ?_
  refine pv_getD C (ci := 2) (r := 2) gwX3 rfl (Nat.le_of_ble_eq_true rfl) fl_X3_16 (by decide) rfl rfl dX3_secondNumber_1 ?_
  refine pv_iload_n C 1 dX3_secondNumber_4 rfl ?_
  refine pv_ialdD (r := 2) C hp (by decide) dX3_secondNumber_5 (fun v1 hp => ?_)
  exact pv_iret C rfl hp hr dX3_secondNumber_6
def q_X3_isStep (N : Nat) (x1 : Int) (V : pvM) : Option pvO :=
  aR V 21 (V 17 0).toNat x1 fun v1 =>
  lI (1) fun v2 =>
  if v1 ≠ v2 then
    lI (0) fun v3 =>
    bT v3 (rT V v3)
  else
  lI (1) fun v4 =>
  bT v4 (rT V v4)
set_option maxHeartbeats 4000000 in
set_option maxRecDepth 100000 in
theorem c_X3_isStep (l : Launch) (D : va_G) (cy : Nat → ClassId) {N : Nat} {x1 : Int32} {V : pvM} {q : pvO} (hp : q_X3_isStep N x1.toInt V = some q) : pv_Met l yX3_isStep cX3_isStep 2 (some .boolean) 0 0 D cy V [.ref 17, .int x1] 1 q := by
  unfold q_X3_isStep at hp
  refine pv_ofW (by decide) (Nat.le_of_ble_eq_true rfl) (fun p e s m args below meth c ad A n0 σ C hr => ?_)
  refine pv_aload_n C 0 dX3_isStep_0 rfl ?_
  refine pv_getD C (ci := 2) (r := 3) gwX3 rfl (Nat.le_of_ble_eq_true rfl) fl_X3_19 (by decide) rfl rfl dX3_isStep_1 ?_
  refine pv_iload_n C 1 dX3_isStep_4 rfl ?_
  refine pv_ialdD (r := 3) C hp (by decide) dX3_isStep_5 (fun v1 hp => ?_)
  refine pv_iconst C hp dX3_isStep_6 (by decide) (fun v2 hp => ?_)
  refine pv_icmp_ne (tgt := 14) C hp dX3_isStep_7 (by decide) (fun hp => ?_) (fun hp => ?_)
  · refine pv_iconst C hp dX3_isStep_14 (by decide) (fun v3 hp => ?_)
    exact pv_zret C rfl hp hr dX3_isStep_15
  · refine pv_iconst C hp dX3_isStep_10 (by decide) (fun v4 hp => ?_)
    refine pv_goto (tgt := 15) C dX3_isStep_11 (by decide) ?_
    exact pv_zret C rfl hp hr dX3_isStep_15
