def q_X6_recipes (N : Nat) (V : pvM) : Option pvO :=
  rT V 0
set_option maxHeartbeats 4000000 in
set_option maxRecDepth 100000 in
theorem c_X6_recipes (l : Launch) (D : va_G) (cy : Nat → ClassId) {N : Nat} {V : pvM} {q : pvO} (hp : q_X6_recipes N V = some q) : pv_Met l yX6_recipes cX6_recipes 1 (some (.object "FeatureDesugarer$Recipes")) 0 0 D cy V [.ref 1] 5 q := by
  unfold q_X6_recipes at hp
  refine pv_ofW (by decide) (Nat.le_of_ble_eq_true rfl) (fun p e s m args below meth c ad A n0 σ C hr => ?_)
  refine pv_aload_n C 0 dX6_recipes_0 rfl ?_
  refine pv_getR C (ci := 5) (k := 0) gwX6 rfl (Nat.le_of_ble_eq_true rfl) fl_X6_12 rfl rfl rfl (j := 2) rfl rfl dX6_recipes_1 ?_
  exact pv_aret C rfl hp hr (Or.inl ⟨_, rfl⟩) dX6_recipes_4
def q_X6_addFunction (N : Nat) (x1 : Int) (V : pvM) : Option pvO :=
  gR V 1 6 fun v1 =>
  aW V 8 12 v1 x1 fun V =>
  gR V 1 6 fun v2 =>
  lI (1) fun v3 =>
  lI (pv_w (v2 + v3)) fun v4 =>
  gW V 1 6 v4 fun V =>
  gR V 1 6 fun v5 =>
  lI (1) fun v6 =>
  lI (pv_w (v5 - v6)) fun v7 =>
  rT V v7
set_option maxHeartbeats 4000000 in
set_option maxRecDepth 100000 in
theorem c_X6_addFunction (l : Launch) (D : va_G) (cy : Nat → ClassId) {N : Nat} {x1 : Int32} {V : pvM} {q : pvO} (hp : q_X6_addFunction N x1.toInt V = some q) : pv_Met l yX6_addFunction cX6_addFunction 2 (some .int) 0 0 D cy V [.ref 1, .int x1] 1 q := by
  unfold q_X6_addFunction at hp
  refine pv_ofW (by decide) (Nat.le_of_ble_eq_true rfl) (fun p e s m args below meth c ad A n0 σ C hr => ?_)
  refine pv_aload_n C 0 dX6_addFunction_0 rfl ?_
  refine pv_getR C (ci := 5) (k := 1) gwX6 rfl (Nat.le_of_ble_eq_true rfl) fl_X6_18 rfl rfl rfl (j := 8) rfl rfl dX6_addFunction_1 ?_
  refine pv_aload_n C 0 dX6_addFunction_4 rfl ?_
  refine pv_getI C (ci := 5) (k := 6) gwX6 rfl (Nat.le_of_ble_eq_true rfl) fl_X6_34 rfl rfl hp rfl rfl dX6_addFunction_5 (fun v1 hp => ?_)
  refine pv_iload_n C 1 dX6_addFunction_8 rfl ?_
  refine pv_iast C hp rfl rfl rfl (fun _ => rfl) dX6_addFunction_9 (fun V hp => ?_)
  refine pv_aload_n C 0 dX6_addFunction_10 rfl ?_
  refine pv_dup C dX6_addFunction_11 rfl ?_
  refine pv_getI C (ci := 5) (k := 6) gwX6 rfl (Nat.le_of_ble_eq_true rfl) fl_X6_34 rfl rfl hp rfl rfl dX6_addFunction_12 (fun v2 hp => ?_)
  refine pv_iconst C hp dX6_addFunction_15 (by decide) (fun v3 hp => ?_)
  refine pv_iadd C hp dX6_addFunction_16 (fun v4 hp => ?_)
  refine pv_putI C (ci := 5) (k := 6) gwX6 rfl (Nat.le_of_ble_eq_true rfl) fl_X6_34 rfl rfl tyX6_ok nmX6 hp rfl rfl rfl (by decide +kernel) dX6_addFunction_17 (fun V hp => ?_)
  refine pv_aload_n C 0 dX6_addFunction_20 rfl ?_
  refine pv_getI C (ci := 5) (k := 6) gwX6 rfl (Nat.le_of_ble_eq_true rfl) fl_X6_34 rfl rfl hp rfl rfl dX6_addFunction_21 (fun v5 hp => ?_)
  refine pv_iconst C hp dX6_addFunction_24 (by decide) (fun v6 hp => ?_)
  refine pv_isub C hp dX6_addFunction_25 (fun v7 hp => ?_)
  exact pv_iret C rfl hp hr dX6_addFunction_26
def q_X6_hasFunction (N : Nat) (x1 : Int) (V : pvM) : Option pvO :=
  if x1 < 0 then
    lI (0) fun v1 =>
    bT v1 (rT V v1)
  else
  gR V 1 6 fun v2 =>
  if v2 ≤ x1 then
    lI (0) fun v3 =>
    bT v3 (rT V v3)
  else
  lI (1) fun v4 =>
  bT v4 (rT V v4)
set_option maxHeartbeats 4000000 in
set_option maxRecDepth 100000 in
theorem c_X6_hasFunction (l : Launch) (D : va_G) (cy : Nat → ClassId) {N : Nat} {x1 : Int32} {V : pvM} {q : pvO} (hp : q_X6_hasFunction N x1.toInt V = some q) : pv_Met l yX6_hasFunction cX6_hasFunction 2 (some .boolean) 0 0 D cy V [.ref 1, .int x1] 1 q := by
  unfold q_X6_hasFunction at hp
  refine pv_ofW (by decide) (Nat.le_of_ble_eq_true rfl) (fun p e s m args below meth c ad A n0 σ C hr => ?_)
  refine pv_iload_n C 1 dX6_hasFunction_0 rfl ?_
  refine pv_if_lt (tgt := 16) C hp dX6_hasFunction_1 (by decide) (fun hp => ?_) (fun hp => ?_)
  · refine pv_iconst C hp dX6_hasFunction_16 (by decide) (fun v1 hp => ?_)
    exact pv_zret C rfl hp hr dX6_hasFunction_17
  · refine pv_iload_n C 1 dX6_hasFunction_4 rfl ?_
    refine pv_aload_n C 0 dX6_hasFunction_5 rfl ?_
    refine pv_getI C (ci := 5) (k := 6) gwX6 rfl (Nat.le_of_ble_eq_true rfl) fl_X6_34 rfl rfl hp rfl rfl dX6_hasFunction_6 (fun v2 hp => ?_)
    refine pv_icmp_ge (tgt := 16) C hp dX6_hasFunction_9 (by decide) (fun hp => ?_) (fun hp => ?_)
    · refine pv_iconst C hp dX6_hasFunction_16 (by decide) (fun v3 hp => ?_)
      exact pv_zret C rfl hp hr dX6_hasFunction_17
    · refine pv_iconst C hp dX6_hasFunction_12 (by decide) (fun v4 hp => ?_)
      refine pv_goto (tgt := 17) C dX6_hasFunction_13 (by decide) ?_
      exact pv_zret C rfl hp hr dX6_hasFunction_17
def q_X6_functionTotal (N : Nat) (V : pvM) : Option pvO :=
  gR V 1 6 fun v1 =>
  rT V v1
set_option maxHeartbeats 4000000 in
set_option maxRecDepth 100000 in
theorem c_X6_functionTotal (l : Launch) (D : va_G) (cy : Nat → ClassId) {N : Nat} {V : pvM} {q : pvO} (hp : q_X6_functionTotal N V = some q) : pv_Met l yX6_functionTotal cX6_functionTotal 1 (some .int) 0 0 D cy V [.ref 1] 1 q := by
  unfold q_X6_functionTotal at hp
  refine pv_ofW (by decide) (Nat.le_of_ble_eq_true rfl) (fun p e s m args below meth c ad A n0 σ C hr => ?_)
  refine pv_aload_n C 0 dX6_functionTotal_0 rfl ?_
  refine pv_getI C (ci := 5) (k := 6) gwX6 rfl (Nat.le_of_ble_eq_true rfl) fl_X6_34 rfl rfl hp rfl rfl dX6_functionTotal_1 (fun v1 hp => ?_)
  exact pv_iret C rfl hp hr dX6_functionTotal_4
def q_X6_parametersOf (N : Nat) (x1 : Int) (V : pvM) : Option pvO :=
  aR V 8 12 x1 fun v1 =>
  rT V v1
set_option maxHeartbeats 4000000 in
set_option maxRecDepth 100000 in
theorem c_X6_parametersOf (l : Launch) (D : va_G) (cy : Nat → ClassId) {N : Nat} {x1 : Int32} {V : pvM} {q : pvO} (hp : q_X6_parametersOf N x1.toInt V = some q) : pv_Met l yX6_parametersOf cX6_parametersOf 2 (some .int) 0 0 D cy V [.ref 1, .int x1] 1 q := by
  unfold q_X6_parametersOf at hp
  refine pv_ofW (by decide) (Nat.le_of_ble_eq_true rfl) (fun p e s m args below meth c ad A n0 σ C hr => ?_)
  refine pv_aload_n C 0 dX6_parametersOf_0 rfl ?_
  refine pv_getR C (ci := 5) (k := 1) gwX6 rfl (Nat.le_of_ble_eq_true rfl) fl_X6_18 rfl rfl rfl (j := 8) rfl rfl dX6_parametersOf_1 ?_
  refine pv_iload_n C 1 dX6_parametersOf_4 rfl ?_
  refine pv_iald C hp rfl rfl rfl (fun _ => rfl) dX6_parametersOf_5 (fun v1 hp => ?_)
  exact pv_iret C rfl hp hr dX6_parametersOf_6
def q_X6_lengthOf (N : Nat) (x1 : Int) (V : pvM) : Option pvO :=
  aR V 9 12 x1 fun v1 =>
  rT V v1
set_option maxHeartbeats 4000000 in
set_option maxRecDepth 100000 in
theorem c_X6_lengthOf (l : Launch) (D : va_G) (cy : Nat → ClassId) {N : Nat} {x1 : Int32} {V : pvM} {q : pvO} (hp : q_X6_lengthOf N x1.toInt V = some q) : pv_Met l yX6_lengthOf cX6_lengthOf 2 (some .int) 0 0 D cy V [.ref 1, .int x1] 1 q := by
  unfold q_X6_lengthOf at hp
  refine pv_ofW (by decide) (Nat.le_of_ble_eq_true rfl) (fun p e s m args below meth c ad A n0 σ C hr => ?_)
  refine pv_aload_n C 0 dX6_lengthOf_0 rfl ?_
  refine pv_getR C (ci := 5) (k := 2) gwX6 rfl (Nat.le_of_ble_eq_true rfl) fl_X6_22 rfl rfl rfl (j := 9) rfl rfl dX6_lengthOf_1 ?_
  refine pv_iload_n C 1 dX6_lengthOf_4 rfl ?_
  refine pv_iald C hp rfl rfl rfl (fun _ => rfl) dX6_lengthOf_5 (fun v1 hp => ?_)
  exact pv_iret C rfl hp hr dX6_lengthOf_6
def q_X6_wordAt (N : Nat) (x1 : Int) (x2 : Int) (V : pvM) : Option pvO :=
  lI (40) fun v1 =>
  lI (pv_w (x1 * v1)) fun v2 =>
  lI (pv_w (v2 + x2)) fun v3 =>
  aR V 10 480 v3 fun v4 =>
  rT V v4
set_option maxHeartbeats 4000000 in
set_option maxRecDepth 100000 in
theorem c_X6_wordAt (l : Launch) (D : va_G) (cy : Nat → ClassId) {N : Nat} {x1 : Int32} {x2 : Int32} {V : pvM} {q : pvO} (hp : q_X6_wordAt N x1.toInt x2.toInt V = some q) : pv_Met l yX6_wordAt cX6_wordAt 3 (some .int) 0 0 D cy V [.ref 1, .int x1, .int x2] 1 q := by
  unfold q_X6_wordAt at hp
  refine pv_ofW (by decide) (Nat.le_of_ble_eq_true rfl) (fun p e s m args below meth c ad A n0 σ C hr => ?_)
  refine pv_aload_n C 0 dX6_wordAt_0 rfl ?_
  refine pv_getR C (ci := 5) (k := 3) gwX6 rfl (Nat.le_of_ble_eq_true rfl) fl_X6_25 rfl rfl rfl (j := 10) rfl rfl dX6_wordAt_1 ?_
  refine pv_iload_n C 1 dX6_wordAt_4 rfl ?_
  refine pv_bipush C hp dX6_wordAt_5 (by decide) (fun v1 hp => ?_)
  refine pv_imul C hp dX6_wordAt_7 (fun v2 hp => ?_)
  refine pv_iload_n C 2 dX6_wordAt_8 rfl ?_
  refine pv_iadd C hp dX6_wordAt_9 (fun v3 hp => ?_)
  refine pv_iald C hp rfl rfl rfl (fun _ => rfl) dX6_wordAt_10 (fun v4 hp => ?_)
  exact pv_iret C rfl hp hr dX6_wordAt_11
def q_X6_firstNumberAt (N : Nat) (x1 : Int) (x2 : Int) (V : pvM) : Option pvO :=
  lI (40) fun v1 =>
  lI (pv_w (x1 * v1)) fun v2 =>
  lI (pv_w (v2 + x2)) fun v3 =>
  aR V 11 480 v3 fun v4 =>
  rT V v4
set_option maxHeartbeats 4000000 in
set_option maxRecDepth 100000 in
theorem c_X6_firstNumberAt (l : Launch) (D : va_G) (cy : Nat → ClassId) {N : Nat} {x1 : Int32} {x2 : Int32} {V : pvM} {q : pvO} (hp : q_X6_firstNumberAt N x1.toInt x2.toInt V = some q) : pv_Met l yX6_firstNumberAt cX6_firstNumberAt 3 (some .int) 0 0 D cy V [.ref 1, .int x1, .int x2] 1 q := by
  unfold q_X6_firstNumberAt at hp
  refine pv_ofW (by decide) (Nat.le_of_ble_eq_true rfl) (fun p e s m args below meth c ad A n0 σ C hr => ?_)
  refine pv_aload_n C 0 dX6_firstNumberAt_0 rfl ?_
  refine pv_getR C (ci := 5) (k := 4) gwX6 rfl (Nat.le_of_ble_eq_true rfl) fl_X6_28 rfl rfl rfl (j := 11) rfl rfl dX6_firstNumberAt_1 ?_
  refine pv_iload_n C 1 dX6_firstNumberAt_4 rfl ?_
  refine pv_bipush C hp dX6_firstNumberAt_5 (by decide) (fun v1 hp => ?_)
  refine pv_imul C hp dX6_firstNumberAt_7 (fun v2 hp => ?_)
  refine pv_iload_n C 2 dX6_firstNumberAt_8 rfl ?_
  refine pv_iadd C hp dX6_firstNumberAt_9 (fun v3 hp => ?_)
  refine pv_iald C hp rfl rfl rfl (fun _ => rfl) dX6_firstNumberAt_10 (fun v4 hp => ?_)
  exact pv_iret C rfl hp hr dX6_firstNumberAt_11
def q_X6_secondNumberAt (N : Nat) (x1 : Int) (x2 : Int) (V : pvM) : Option pvO :=
  lI (40) fun v1 =>
  lI (pv_w (x1 * v1)) fun v2 =>
  lI (pv_w (v2 + x2)) fun v3 =>
  aR V 12 480 v3 fun v4 =>
  rT V v4
set_option maxHeartbeats 4000000 in
set_option maxRecDepth 100000 in
theorem c_X6_secondNumberAt (l : Launch) (D : va_G) (cy : Nat → ClassId) {N : Nat} {x1 : Int32} {x2 : Int32} {V : pvM} {q : pvO} (hp : q_X6_secondNumberAt N x1.toInt x2.toInt V = some q) : pv_Met l yX6_secondNumberAt cX6_secondNumberAt 3 (some .int) 0 0 D cy V [.ref 1, .int x1, .int x2] 1 q := by
  unfold q_X6_secondNumberAt at hp
  refine pv_ofW (by decide) (Nat.le_of_ble_eq_true rfl) (fun p e s m args below meth c ad A n0 σ C hr => ?_)
  refine pv_aload_n C 0 dX6_secondNumberAt_0 rfl ?_
  refine pv_getR C (ci := 5) (k := 5) gwX6 rfl (Nat.le_of_ble_eq_true rfl) fl_X6_31 rfl rfl rfl (j := 12) rfl rfl dX6_secondNumberAt_1 ?_
  refine pv_iload_n C 1 dX6_secondNumberAt_4 rfl ?_
  refine pv_bipush C hp dX6_secondNumberAt_5 (by decide) (fun v1 hp => ?_)
  refine pv_imul C hp dX6_secondNumberAt_7 (fun v2 hp => ?_)
  refine pv_iload_n C 2 dX6_secondNumberAt_8 rfl ?_
  refine pv_iadd C hp dX6_secondNumberAt_9 (fun v3 hp => ?_)
  refine pv_iald C hp rfl rfl rfl (fun _ => rfl) dX6_secondNumberAt_10 (fun v4 hp => ?_)
  exact pv_iret C rfl hp hr dX6_secondNumberAt_11
def q_X6_isStepAt (N : Nat) (x1 : Int) (x2 : Int) (V : pvM) : Option pvO :=
  lI (1) fun v1 =>
  bT v1 (rT V v1)
set_option maxHeartbeats 4000000 in
set_option maxRecDepth 100000 in
theorem c_X6_isStepAt (l : Launch) (D : va_G) (cy : Nat → ClassId) {N : Nat} {x1 : Int32} {x2 : Int32} {V : pvM} {q : pvO} (hp : q_X6_isStepAt N x1.toInt x2.toInt V = some q) : pv_Met l yX6_isStepAt cX6_isStepAt 3 (some .boolean) 0 0 D cy V [.ref 1, .int x1, .int x2] 1 q := by
  unfold q_X6_isStepAt at hp
  refine pv_ofW (by decide) (Nat.le_of_ble_eq_true rfl) (fun p e s m args below meth c ad A n0 σ C hr => ?_)
  refine pv_iconst C hp dX6_isStepAt_0 (by decide) (fun v1 hp => ?_)
  exact pv_zret C rfl hp hr dX6_isStepAt_1
def q_X6_addInstruction (N : Nat) (x1 : Int) (x2 : Int) (x3 : Int) (x4 : Int) (V : pvM) : Option pvO :=
  aR V 9 12 x1 fun v1 =>
  lI (40) fun v2 =>
  lI (pv_w (x1 * v2)) fun v3 =>
  lI (pv_w (v3 + v1)) fun v4 =>
  aW V 10 480 v4 x2 fun V =>
  aW V 11 480 v4 x3 fun V =>
  aW V 12 480 v4 x4 fun V =>
  aR V 9 12 x1 fun v5 =>
  lI (1) fun v6 =>
  lI (pv_w (v5 + v6)) fun v7 =>
  aW V 9 12 x1 v7 fun V =>
  rT V v1
set_option maxHeartbeats 4000000 in
set_option maxRecDepth 100000 in
theorem c_X6_addInstruction (l : Launch) (D : va_G) (cy : Nat → ClassId) {N : Nat} {x1 : Int32} {x2 : Int32} {x3 : Int32} {x4 : Int32} {V : pvM} {q : pvO} (hp : q_X6_addInstruction N x1.toInt x2.toInt x3.toInt x4.toInt V = some q) : pv_Met l yX6_addInstruction cX6_addInstruction 7 (some .int) 0 0 D cy V [.ref 1, .int x1, .int x2, .int x3, .int x4] 1 q := by
  unfold q_X6_addInstruction at hp
  refine pv_ofW (by decide) (Nat.le_of_ble_eq_true rfl) (fun p e s m args below meth c ad A n0 σ C hr => ?_)
  refine pv_aload_n C 0 dX6_addInstruction_0 rfl ?_
  refine pv_getR C (ci := 5) (k := 2) gwX6 rfl (Nat.le_of_ble_eq_true rfl) fl_X6_22 rfl rfl rfl (j := 9) rfl rfl dX6_addInstruction_1 ?_
  refine pv_iload_n C 1 dX6_addInstruction_4 rfl ?_
  refine pv_iald C hp rfl rfl rfl (fun _ => rfl) dX6_addInstruction_5 (fun v1 hp => ?_)
  refine pv_istore (loc' := [(5, .int v1), (0, .ref 1), (1, .int x1), (2, .int x2), (3, .int x3), (4, .int x4)]) C dX6_addInstruction_6 (by decide) rfl ?_
  refine pv_iload_n C 2 dX6_addInstruction_8 rfl ?_
  refine pv_bipush C hp dX6_addInstruction_9 (by decide) (fun v2 hp => ?_)
  refine pv_imul C hp dX6_addInstruction_11 (fun v3 hp => ?_)
  refine pv_iload C 0 dX6_addInstruction_12 rfl ?_
  refine pv_iadd C hp dX6_addInstruction_14 (fun v4 hp => ?_)
  refine pv_istore (loc' := [(6, .int v4), (5, .int v1), (0, .ref 1), (1, .int x1), (2, .int x2), (3, .int x3), (4, .int x4)]) C dX6_addInstruction_15 (by decide) rfl ?_
  refine pv_aload_n C 2 dX6_addInstruction_17 rfl ?_
  refine pv_getR C (ci := 5) (k := 3) gwX6 rfl (Nat.le_of_ble_eq_true rfl) fl_X6_25 rfl rfl rfl (j := 10) rfl rfl dX6_addInstruction_18 ?_
  refine pv_iload C 0 dX6_addInstruction_21 rfl ?_
  refine pv_iload_n C 4 dX6_addInstruction_23 rfl ?_
  refine pv_iast C hp rfl rfl rfl (fun _ => rfl) dX6_addInstruction_24 (fun V hp => ?_)
  refine pv_aload_n C 2 dX6_addInstruction_25 rfl ?_
  refine pv_getR C (ci := 5) (k := 4) gwX6 rfl (Nat.le_of_ble_eq_true rfl) fl_X6_28 rfl rfl rfl (j := 11) rfl rfl dX6_addInstruction_26 ?_
  refine pv_iload C 0 dX6_addInstruction_29 rfl ?_
  refine pv_iload_n C 5 dX6_addInstruction_31 rfl ?_
  refine pv_iast C hp rfl rfl rfl (fun _ => rfl) dX6_addInstruction_32 (fun V hp => ?_)
  refine pv_aload_n C 2 dX6_addInstruction_33 rfl ?_
  refine pv_getR C (ci := 5) (k := 5) gwX6 rfl (Nat.le_of_ble_eq_true rfl) fl_X6_31 rfl rfl rfl (j := 12) rfl rfl dX6_addInstruction_34 ?_
  refine pv_iload C 0 dX6_addInstruction_37 rfl ?_
  refine pv_iload C 6 dX6_addInstruction_39 rfl ?_
  refine pv_iast C hp rfl rfl rfl (fun _ => rfl) dX6_addInstruction_41 (fun V hp => ?_)
  refine pv_aload_n C 2 dX6_addInstruction_42 rfl ?_
  refine pv_getR C (ci := 5) (k := 2) gwX6 rfl (Nat.le_of_ble_eq_true rfl) fl_X6_22 rfl rfl rfl (j := 9) rfl rfl dX6_addInstruction_43 ?_
  refine pv_iload_n C 3 dX6_addInstruction_46 rfl ?_
  refine pv_dup2 C dX6_addInstruction_47 rfl rfl ?_
  refine pv_iald C hp rfl rfl rfl (fun _ => rfl) dX6_addInstruction_48 (fun v5 hp => ?_)
  refine pv_iconst C hp dX6_addInstruction_49 (by decide) (fun v6 hp => ?_)
  refine pv_iadd C hp dX6_addInstruction_50 (fun v7 hp => ?_)
  refine pv_iast C hp rfl rfl rfl (fun _ => rfl) dX6_addInstruction_51 (fun V hp => ?_)
  refine pv_iload C 1 dX6_addInstruction_52 rfl ?_
  exact pv_iret C rfl hp hr dX6_addInstruction_54
def q_X6_hasNumbersInBounds (N : Nat) (x1 : Int) (x2 : Int) (V : pvM) : Option pvO :=
  cL (q_X6_firstNumberAt N x1 x2 V) fun v1 V =>
  cL (q_X6_secondNumberAt N x1 x2 V) fun v2 V =>
  cL (q_X6_wordAt N x1 x2 V) fun v3 V =>
  if v3 = 1 then
    if v1 < 0 then
      lI (0) fun v4 =>
      bT v4 (rT V v4)
    else
    lI (8) fun v5 =>
    if v5 ≤ v1 then
      lI (0) fun v6 =>
      bT v6 (rT V v6)
    else
    lI (1) fun v7 =>
    bT v7 (rT V v7)
  else
  if v3 = 2 then
    if v1 < 0 then
      lI (0) fun v8 =>
      bT v8 (rT V v8)
    else
    lI (8) fun v9 =>
    if v9 ≤ v1 then
      lI (0) fun v10 =>
      bT v10 (rT V v10)
    else
    lI (1) fun v11 =>
    bT v11 (rT V v11)
  else
  if v3 = 3 then
    lI (1) fun v12 =>
    bT v12 (rT V v12)
  else
  if v3 = 4 then
    lI (1) fun v13 =>
    bT v13 (rT V v13)
  else
  if v3 = 5 then
    lI (1) fun v14 =>
    bT v14 (rT V v14)
  else
  if v3 = 6 then
    lI (1) fun v15 =>
    bT v15 (rT V v15)
  else
  if v3 = 7 then
    lI (1) fun v16 =>
    bT v16 (rT V v16)
  else
  if v3 = 8 then
    if v1 < 0 then
      lI (0) fun v17 =>
      bT v17 (rT V v17)
    else
    aR V 9 12 x1 fun v18 =>
    if v18 ≤ v1 then
      lI (0) fun v19 =>
      bT v19 (rT V v19)
    else
    lI (1) fun v20 =>
    bT v20 (rT V v20)
  else
  if v3 = 9 then
    if v1 < 0 then
      lI (0) fun v21 =>
      bT v21 (rT V v21)
    else
    aR V 9 12 x1 fun v22 =>
    if v22 ≤ v1 then
      lI (0) fun v23 =>
      bT v23 (rT V v23)
    else
    lI (1) fun v24 =>
    bT v24 (rT V v24)
  else
  if v3 = 10 then
    cL (q_X6_hasFunction N v1 V) fun v25 V =>
    bT v25 (rT V v25)
  else
  if v3 = 11 then
    lI (1) fun v26 =>
    bT v26 (rT V v26)
  else
  if v3 = 12 then
    lI (1) fun v27 =>
    bT v27 (rT V v27)
  else
  if v3 = 13 then
    cL (q_X6_hasFunction N v1 V) fun v28 V =>
    if v28 = 0 then
      lI (0) fun v29 =>
      bT v29 (rT V v29)
    else
    if v2 < 0 then
      lI (0) fun v30 =>
      bT v30 (rT V v30)
    else
    aR V 8 12 v1 fun v31 =>
    if v31 < v2 then
      lI (0) fun v32 =>
      bT v32 (rT V v32)
    else
    lI (1) fun v33 =>
    bT v33 (rT V v33)
  else
  if v3 = 14 then
    if v1 < 0 then
      lI (0) fun v34 =>
      bT v34 (rT V v34)
    else
    lI (3) fun v35 =>
    if v35 < v1 then
      lI (0) fun v36 =>
      bT v36 (rT V v36)
    else
    lI (1) fun v37 =>
    bT v37 (rT V v37)
  else
  if v3 = 15 then
    cL (q_X7_has N v1 V) fun v38 V =>
    bT v38 (rT V v38)
  else
  lI (1) fun v39 =>
  bT v39 (rT V v39)
set_option maxHeartbeats 4000000 in
set_option maxRecDepth 100000 in
theorem c_X6_hasNumbersInBounds (l : Launch) (D : va_G) (cy : Nat → ClassId) {N : Nat} {x1 : Int32} {x2 : Int32} {V : pvM} {q : pvO} (hp : q_X6_hasNumbersInBounds N x1.toInt x2.toInt V = some q) : pv_Met l yX6_hasNumbersInBounds cX6_hasNumbersInBounds 5 (some .boolean) 1 22 D cy V [.ref 1, .int x1, .int x2] 1 q := by
  unfold q_X6_hasNumbersInBounds at hp
  refine pv_ofW (by decide) (Nat.le_of_ble_eq_true rfl) (fun p e s m args below meth c ad A n0 σ C hr => ?_)
  refine pv_aload_n C 0 dX6_hasNumbersInBounds_0 rfl ?_
  refine pv_iload_n C 1 dX6_hasNumbersInBounds_1 rfl ?_
  refine pv_iload_n C 2 dX6_hasNumbersInBounds_2 rfl ?_
  refine pv_callV C (As := [.int x1, .int x2]) (rest := []) (b := 1) (kd1 := 1) hp (fun q1 h9 => c_X6_firstNumberAt l D cy h9) wB_yX6_firstNumberAt ml_X6_38 im_yX6_firstNumberAt se_yX6_firstNumberAt (ci := 5) rfl rfl rfl rfl rfl (Nat.le_of_ble_eq_true rfl) ⟨(Nat.le_of_ble_eq_true rfl), (Nat.le_of_ble_eq_true rfl)⟩ dX6_hasNumbersInBounds_3 rfl rfl (fun v1 σ V hp => ?_)
  refine pv_istore_n (loc' := [(3, .int v1), (0, .ref 1), (1, .int x1), (2, .int x2)]) C dX6_hasNumbersInBounds_6 (by decide) rfl ?_
  refine pv_aload_n C 1 dX6_hasNumbersInBounds_7 rfl ?_
  refine pv_iload_n C 2 dX6_hasNumbersInBounds_8 rfl ?_
  refine pv_iload_n C 3 dX6_hasNumbersInBounds_9 rfl ?_
  refine pv_callV C (As := [.int x1, .int x2]) (rest := []) (b := 1) (kd1 := 1) hp (fun q1 h9 => c_X6_secondNumberAt l D cy h9) wB_yX6_secondNumberAt ml_X6_42 im_yX6_secondNumberAt se_yX6_secondNumberAt (ci := 5) rfl rfl rfl rfl rfl (Nat.le_of_ble_eq_true rfl) ⟨(Nat.le_of_ble_eq_true rfl), (Nat.le_of_ble_eq_true rfl)⟩ dX6_hasNumbersInBounds_10 rfl rfl (fun v2 σ V hp => ?_)
  refine pv_istore (loc' := [(4, .int v2), (3, .int v1), (0, .ref 1), (1, .int x1), (2, .int x2)]) C dX6_hasNumbersInBounds_13 (by decide) rfl ?_
  refine pv_aload_n C 2 dX6_hasNumbersInBounds_15 rfl ?_
  refine pv_iload_n C 3 dX6_hasNumbersInBounds_16 rfl ?_
  refine pv_iload_n C 4 dX6_hasNumbersInBounds_17 rfl ?_
  refine pv_callV C (As := [.int x1, .int x2]) (rest := []) (b := 1) (kd1 := 1) hp (fun q1 h9 => c_X6_wordAt l D cy h9) wB_yX6_wordAt ml_X6_45 im_yX6_wordAt se_yX6_wordAt (ci := 5) rfl rfl rfl rfl rfl (Nat.le_of_ble_eq_true rfl) ⟨(Nat.le_of_ble_eq_true rfl), (Nat.le_of_ble_eq_true rfl)⟩ dX6_hasNumbersInBounds_18 rfl rfl (fun v3 σ V hp => ?_)
  refine pv_case (x := v3) (v := 1) hp (fun hx hp => ?_) (fun h21_1 hp => ?_)
  · refine pv_tableIn (tgt := 96) C hx dX6_hasNumbersInBounds_21 (by decide) (by decide) (off := 75) rfl (by decide) ?_
    refine pv_iload_n C 1 dX6_hasNumbersInBounds_96 rfl ?_
    refine pv_if_lt (tgt := 110) C hp dX6_hasNumbersInBounds_97 (by decide) (fun hp => ?_) (fun hp => ?_)
    · refine pv_iconst C hp dX6_hasNumbersInBounds_110 (by decide) (fun v4 hp => ?_)
      exact pv_zret C rfl hp hr dX6_hasNumbersInBounds_111
    · refine pv_iload_n C 1 dX6_hasNumbersInBounds_100 rfl ?_
      refine pv_bipush C hp dX6_hasNumbersInBounds_101 (by decide) (fun v5 hp => ?_)
      refine pv_icmp_ge (tgt := 110) C hp dX6_hasNumbersInBounds_103 (by decide) (fun hp => ?_) (fun hp => ?_)
      · refine pv_iconst C hp dX6_hasNumbersInBounds_110 (by decide) (fun v6 hp => ?_)
        exact pv_zret C rfl hp hr dX6_hasNumbersInBounds_111
      · refine pv_iconst C hp dX6_hasNumbersInBounds_106 (by decide) (fun v7 hp => ?_)
        refine pv_goto (tgt := 111) C dX6_hasNumbersInBounds_107 (by decide) ?_
        exact pv_zret C rfl hp hr dX6_hasNumbersInBounds_111
  refine pv_case (x := v3) (v := 2) hp (fun hx hp => ?_) (fun h21_2 hp => ?_)
  · refine pv_tableIn (tgt := 96) C hx dX6_hasNumbersInBounds_21 (by decide) (by decide) (off := 75) rfl (by decide) ?_
    refine pv_iload_n C 1 dX6_hasNumbersInBounds_96 rfl ?_
    refine pv_if_lt (tgt := 110) C hp dX6_hasNumbersInBounds_97 (by decide) (fun hp => ?_) (fun hp => ?_)
    · refine pv_iconst C hp dX6_hasNumbersInBounds_110 (by decide) (fun v8 hp => ?_)
      exact pv_zret C rfl hp hr dX6_hasNumbersInBounds_111
    · refine pv_iload_n C 1 dX6_hasNumbersInBounds_100 rfl ?_
      refine pv_bipush C hp dX6_hasNumbersInBounds_101 (by decide) (fun v9 hp => ?_)
      refine pv_icmp_ge (tgt := 110) C hp dX6_hasNumbersInBounds_103 (by decide) (fun hp => ?_) (fun hp => ?_)
      · refine pv_iconst C hp dX6_hasNumbersInBounds_110 (by decide) (fun v10 hp => ?_)
        exact pv_zret C rfl hp hr dX6_hasNumbersInBounds_111
      · refine pv_iconst C hp dX6_hasNumbersInBounds_106 (by decide) (fun v11 hp => ?_)
        refine pv_goto (tgt := 111) C dX6_hasNumbersInBounds_107 (by decide) ?_
        exact pv_zret C rfl hp hr dX6_hasNumbersInBounds_111
  refine pv_case (x := v3) (v := 3) hp (fun hx hp => ?_) (fun h21_3 hp => ?_)
  · refine pv_tableIn (tgt := 192) C hx dX6_hasNumbersInBounds_21 (by decide) (by decide) (off := 171) rfl (by decide) ?_
    refine pv_iconst C hp dX6_hasNumbersInBounds_192 (by decide) (fun v12 hp => ?_)
    exact pv_zret C rfl hp hr dX6_hasNumbersInBounds_193
  refine pv_case (x := v3) (v := 4) hp (fun hx hp => ?_) (fun h21_4 hp => ?_)
  · refine pv_tableIn (tgt := 192) C hx dX6_hasNumbersInBounds_21 (by decide) (by decide) (off := 171) rfl (by decide) ?_
    refine pv_iconst C hp dX6_hasNumbersInBounds_192 (by decide) (fun v13 hp => ?_)
    exact pv_zret C rfl hp hr dX6_hasNumbersInBounds_193
  refine pv_case (x := v3) (v := 5) hp (fun hx hp => ?_) (fun h21_5 hp => ?_)
  · refine pv_tableIn (tgt := 192) C hx dX6_hasNumbersInBounds_21 (by decide) (by decide) (off := 171) rfl (by decide) ?_
    refine pv_iconst C hp dX6_hasNumbersInBounds_192 (by decide) (fun v14 hp => ?_)
    exact pv_zret C rfl hp hr dX6_hasNumbersInBounds_193
  refine pv_case (x := v3) (v := 6) hp (fun hx hp => ?_) (fun h21_6 hp => ?_)
  · refine pv_tableIn (tgt := 192) C hx dX6_hasNumbersInBounds_21 (by decide) (by decide) (off := 171) rfl (by decide) ?_
    refine pv_iconst C hp dX6_hasNumbersInBounds_192 (by decide) (fun v15 hp => ?_)
    exact pv_zret C rfl hp hr dX6_hasNumbersInBounds_193
  refine pv_case (x := v3) (v := 7) hp (fun hx hp => ?_) (fun h21_7 hp => ?_)
  · refine pv_tableIn (tgt := 192) C hx dX6_hasNumbersInBounds_21 (by decide) (by decide) (off := 171) rfl (by decide) ?_
    refine pv_iconst C hp dX6_hasNumbersInBounds_192 (by decide) (fun v16 hp => ?_)
    exact pv_zret C rfl hp hr dX6_hasNumbersInBounds_193
  refine pv_case (x := v3) (v := 8) hp (fun hx hp => ?_) (fun h21_8 hp => ?_)
  · refine pv_tableIn (tgt := 112) C hx dX6_hasNumbersInBounds_21 (by decide) (by decide) (off := 91) rfl (by decide) ?_
    refine pv_iload_n C 1 dX6_hasNumbersInBounds_112 rfl ?_
    refine pv_if_lt (tgt := 130) C hp dX6_hasNumbersInBounds_113 (by decide) (fun hp => ?_) (fun hp => ?_)
    · refine pv_iconst C hp dX6_hasNumbersInBounds_130 (by decide) (fun v17 hp => ?_)
      exact pv_zret C rfl hp hr dX6_hasNumbersInBounds_131
    · refine pv_iload_n C 1 dX6_hasNumbersInBounds_116 rfl ?_
      refine pv_aload_n C 2 dX6_hasNumbersInBounds_117 rfl ?_
      refine pv_getR C (ci := 5) (k := 2) gwX6 rfl (Nat.le_of_ble_eq_true rfl) fl_X6_22 rfl rfl rfl (j := 9) rfl rfl dX6_hasNumbersInBounds_118 ?_
      refine pv_iload_n C 3 dX6_hasNumbersInBounds_121 rfl ?_
      refine pv_iald C hp rfl rfl rfl (fun _ => rfl) dX6_hasNumbersInBounds_122 (fun v18 hp => ?_)
      refine pv_icmp_ge (tgt := 130) C hp dX6_hasNumbersInBounds_123 (by decide) (fun hp => ?_) (fun hp => ?_)
      · refine pv_iconst C hp dX6_hasNumbersInBounds_130 (by decide) (fun v19 hp => ?_)
        exact pv_zret C rfl hp hr dX6_hasNumbersInBounds_131
      · refine pv_iconst C hp dX6_hasNumbersInBounds_126 (by decide) (fun v20 hp => ?_)
        refine pv_goto (tgt := 131) C dX6_hasNumbersInBounds_127 (by decide) ?_
        exact pv_zret C rfl hp hr dX6_hasNumbersInBounds_131
  refine pv_case (x := v3) (v := 9) hp (fun hx hp => ?_) (fun h21_9 hp => ?_)
  · refine pv_tableIn (tgt := 112) C hx dX6_hasNumbersInBounds_21 (by decide) (by decide) (off := 91) rfl (by decide) ?_
    refine pv_iload_n C 1 dX6_hasNumbersInBounds_112 rfl ?_
    refine pv_if_lt (tgt := 130) C hp dX6_hasNumbersInBounds_113 (by decide) (fun hp => ?_) (fun hp => ?_)
    · refine pv_iconst C hp dX6_hasNumbersInBounds_130 (by decide) (fun v21 hp => ?_)
      exact pv_zret C rfl hp hr dX6_hasNumbersInBounds_131
    · refine pv_iload_n C 1 dX6_hasNumbersInBounds_116 rfl ?_
      refine pv_aload_n C 2 dX6_hasNumbersInBounds_117 rfl ?_
      refine pv_getR C (ci := 5) (k := 2) gwX6 rfl (Nat.le_of_ble_eq_true rfl) fl_X6_22 rfl rfl rfl (j := 9) rfl rfl dX6_hasNumbersInBounds_118 ?_
      refine pv_iload_n C 3 dX6_hasNumbersInBounds_121 rfl ?_
      refine pv_iald C hp rfl rfl rfl (fun _ => rfl) dX6_hasNumbersInBounds_122 (fun v22 hp => ?_)
      refine pv_icmp_ge (tgt := 130) C hp dX6_hasNumbersInBounds_123 (by decide) (fun hp => ?_) (fun hp => ?_)
      · refine pv_iconst C hp dX6_hasNumbersInBounds_130 (by decide) (fun v23 hp => ?_)
        exact pv_zret C rfl hp hr dX6_hasNumbersInBounds_131
      · refine pv_iconst C hp dX6_hasNumbersInBounds_126 (by decide) (fun v24 hp => ?_)
        refine pv_goto (tgt := 131) C dX6_hasNumbersInBounds_127 (by decide) ?_
        exact pv_zret C rfl hp hr dX6_hasNumbersInBounds_131
  refine pv_case (x := v3) (v := 10) hp (fun hx hp => ?_) (fun h21_10 hp => ?_)
  · refine pv_tableIn (tgt := 132) C hx dX6_hasNumbersInBounds_21 (by decide) (by decide) (off := 111) rfl (by decide) ?_
    refine pv_aload_n C 2 dX6_hasNumbersInBounds_132 rfl ?_
    refine pv_iload_n C 1 dX6_hasNumbersInBounds_133 rfl ?_
    refine pv_callV C (As := [.int v1]) (rest := []) (b := 1) (kd1 := 1) hp (fun q1 h9 => c_X6_hasFunction l D cy h9) wB_yX6_hasFunction ml_X6_48 im_yX6_hasFunction se_yX6_hasFunction (ci := 5) rfl rfl rfl rfl rfl (Nat.le_of_ble_eq_true rfl) ⟨(Nat.le_of_ble_eq_true rfl), (Nat.le_of_ble_eq_true rfl)⟩ dX6_hasNumbersInBounds_134 rfl rfl (fun v25 σ V hp => ?_)
    exact pv_zret C rfl hp hr dX6_hasNumbersInBounds_137
  refine pv_case (x := v3) (v := 11) hp (fun hx hp => ?_) (fun h21_11 hp => ?_)
  · refine pv_tableIn (tgt := 192) C hx dX6_hasNumbersInBounds_21 (by decide) (by decide) (off := 171) rfl (by decide) ?_
    refine pv_iconst C hp dX6_hasNumbersInBounds_192 (by decide) (fun v26 hp => ?_)
    exact pv_zret C rfl hp hr dX6_hasNumbersInBounds_193
  refine pv_case (x := v3) (v := 12) hp (fun hx hp => ?_) (fun h21_12 hp => ?_)
  · refine pv_tableIn (tgt := 192) C hx dX6_hasNumbersInBounds_21 (by decide) (by decide) (off := 171) rfl (by decide) ?_
    refine pv_iconst C hp dX6_hasNumbersInBounds_192 (by decide) (fun v27 hp => ?_)
    exact pv_zret C rfl hp hr dX6_hasNumbersInBounds_193
  refine pv_case (x := v3) (v := 13) hp (fun hx hp => ?_) (fun h21_13 hp => ?_)
  · refine pv_tableIn (tgt := 138) C hx dX6_hasNumbersInBounds_21 (by decide) (by decide) (off := 117) rfl (by decide) ?_
    refine pv_aload_n C 2 dX6_hasNumbersInBounds_138 rfl ?_
    refine pv_iload_n C 1 dX6_hasNumbersInBounds_139 rfl ?_
    refine pv_callV C (As := [.int v1]) (rest := []) (b := 1) (kd1 := 1) hp (fun q1 h9 => c_X6_hasFunction l D cy h9) wB_yX6_hasFunction ml_X6_48 im_yX6_hasFunction se_yX6_hasFunction (ci := 5) rfl rfl rfl rfl rfl (Nat.le_of_ble_eq_true rfl) ⟨(Nat.le_of_ble_eq_true rfl), (Nat.le_of_ble_eq_true rfl)⟩ dX6_hasNumbersInBounds_140 rfl rfl (fun v28 σ V hp => ?_)
    refine pv_if_eq (tgt := 166) C hp dX6_hasNumbersInBounds_143 (by decide) (fun hp => ?_) (fun hp => ?_)
    · refine pv_iconst C hp dX6_hasNumbersInBounds_166 (by decide) (fun v29 hp => ?_)
      exact pv_zret C rfl hp hr dX6_hasNumbersInBounds_167
    · refine pv_iload C 0 dX6_hasNumbersInBounds_146 rfl ?_
      refine pv_if_lt (tgt := 166) C hp dX6_hasNumbersInBounds_148 (by decide) (fun hp => ?_) (fun hp => ?_)
      · refine pv_iconst C hp dX6_hasNumbersInBounds_166 (by decide) (fun v30 hp => ?_)
        exact pv_zret C rfl hp hr dX6_hasNumbersInBounds_167
      · refine pv_iload C 0 dX6_hasNumbersInBounds_151 rfl ?_
        refine pv_aload_n C 2 dX6_hasNumbersInBounds_153 rfl ?_
        refine pv_getR C (ci := 5) (k := 1) gwX6 rfl (Nat.le_of_ble_eq_true rfl) fl_X6_18 rfl rfl rfl (j := 8) rfl rfl dX6_hasNumbersInBounds_154 ?_
        refine pv_iload_n C 1 dX6_hasNumbersInBounds_157 rfl ?_
        refine pv_iald C hp rfl rfl rfl (fun _ => rfl) dX6_hasNumbersInBounds_158 (fun v31 hp => ?_)
        refine pv_icmp_gt (tgt := 166) C hp dX6_hasNumbersInBounds_159 (by decide) (fun hp => ?_) (fun hp => ?_)
        · refine pv_iconst C hp dX6_hasNumbersInBounds_166 (by decide) (fun v32 hp => ?_)
          exact pv_zret C rfl hp hr dX6_hasNumbersInBounds_167
        · refine pv_iconst C hp dX6_hasNumbersInBounds_162 (by decide) (fun v33 hp => ?_)
          refine pv_goto (tgt := 167) C dX6_hasNumbersInBounds_163 (by decide) ?_
          exact pv_zret C rfl hp hr dX6_hasNumbersInBounds_167
  refine pv_case (x := v3) (v := 14) hp (fun hx hp => ?_) (fun h21_14 hp => ?_)
  · refine pv_tableIn (tgt := 168) C hx dX6_hasNumbersInBounds_21 (by decide) (by decide) (off := 147) rfl (by decide) ?_
    refine pv_iload_n C 1 dX6_hasNumbersInBounds_168 rfl ?_
    refine pv_if_lt (tgt := 181) C hp dX6_hasNumbersInBounds_169 (by decide) (fun hp => ?_) (fun hp => ?_)
    · refine pv_iconst C hp dX6_hasNumbersInBounds_181 (by decide) (fun v34 hp => ?_)
      exact pv_zret C rfl hp hr dX6_hasNumbersInBounds_182
    · refine pv_iload_n C 1 dX6_hasNumbersInBounds_172 rfl ?_
      refine pv_iconst C hp dX6_hasNumbersInBounds_173 (by decide) (fun v35 hp => ?_)
      refine pv_icmp_gt (tgt := 181) C hp dX6_hasNumbersInBounds_174 (by decide) (fun hp => ?_) (fun hp => ?_)
      · refine pv_iconst C hp dX6_hasNumbersInBounds_181 (by decide) (fun v36 hp => ?_)
        exact pv_zret C rfl hp hr dX6_hasNumbersInBounds_182
      · refine pv_iconst C hp dX6_hasNumbersInBounds_177 (by decide) (fun v37 hp => ?_)
        refine pv_goto (tgt := 182) C dX6_hasNumbersInBounds_178 (by decide) ?_
        exact pv_zret C rfl hp hr dX6_hasNumbersInBounds_182
  refine pv_case (x := v3) (v := 15) hp (fun hx hp => ?_) (fun h21_15 hp => ?_)
  · refine pv_tableIn (tgt := 183) C hx dX6_hasNumbersInBounds_21 (by decide) (by decide) (off := 162) rfl (by decide) ?_
    refine pv_aload_n C 2 dX6_hasNumbersInBounds_183 rfl ?_
    refine pv_getR C (ci := 5) (k := 0) gwX6 rfl (Nat.le_of_ble_eq_true rfl) fl_X6_12 rfl rfl rfl (j := 2) rfl rfl dX6_hasNumbersInBounds_184 ?_
    refine pv_iload_n C 1 dX6_hasNumbersInBounds_187 rfl ?_
    refine pv_callV C (As := [.int v1]) (rest := []) (b := 2) (kd1 := 1) hp (fun q1 h9 => c_X7_has l D cy h9) wB_yX7_has ml_X6_52 im_yX7_has se_yX7_has (ci := 6) rfl rfl rfl rfl rfl (Nat.le_of_ble_eq_true rfl) ⟨(Nat.le_of_ble_eq_true rfl), (Nat.le_of_ble_eq_true rfl)⟩ dX6_hasNumbersInBounds_188 rfl rfl (fun v38 σ V hp => ?_)
    exact pv_zret C rfl hp hr dX6_hasNumbersInBounds_191
  refine pv_tableOut (tgt := 192) C (by omega) dX6_hasNumbersInBounds_21 (by decide) ?_
  refine pv_iconst C hp dX6_hasNumbersInBounds_192 (by decide) (fun v39 hp => ?_)
  exact pv_zret C rfl hp hr dX6_hasNumbersInBounds_193
def q_X6_popsOf (N : Nat) (x1 : Int) (x2 : Int) (x3 : Int) (V : pvM) : Option pvO :=
  if x1 = 2 then
    lI (1) fun v1 =>
    rT V v1
  else
  if x1 = 3 then
    lI (2) fun v2 =>
    rT V v2
  else
  if x1 = 4 then
    lI (2) fun v3 =>
    rT V v3
  else
  if x1 = 5 then
    lI (2) fun v4 =>
    rT V v4
  else
  if x1 = 6 then
    lI (1) fun v5 =>
    rT V v5
  else
  if x1 = 7 then
    lI (1) fun v6 =>
    rT V v6
  else
  if x1 = 8 then
    lI (0) fun v7 =>
    rT V v7
  else
  if x1 = 9 then
    lI (1) fun v8 =>
    rT V v8
  else
  if x1 = 10 then
    aR V 8 12 x2 fun v9 =>
    rT V v9
  else
  if x1 = 11 then
    lI (1) fun v10 =>
    rT V v10
  else
  if x1 = 12 then
    lI (1) fun v11 =>
    rT V v11
  else
  if x1 = 13 then
    rT V x3
  else
  if x1 = 14 then
    lI (1) fun v12 =>
    lI (pv_w (x2 + v12)) fun v13 =>
    rT V v13
  else
  if x1 = 15 then
    cL (q_X7_holesOf N x2 V) fun v14 V =>
    rT V v14
  else
  if x1 = 16 then
    lI (0) fun v15 =>
    rT V v15
  else
  if x1 = 17 then
    lI (0) fun v16 =>
    rT V v16
  else
  if x1 = 18 then
    lI (0) fun v17 =>
    rT V v17
  else
  if x1 = 19 then
    lI (0) fun v18 =>
    rT V v18
  else
  if x1 = 20 then
    lI (0) fun v19 =>
    rT V v19
  else
  if x1 = 21 then
    lI (2) fun v20 =>
    rT V v20
  else
  if x1 = 22 then
    lI (1) fun v21 =>
    lI (pv_w (x2 + v21)) fun v22 =>
    rT V v22
  else
  if x1 = 23 then
    lI (0) fun v23 =>
    rT V v23
  else
  if x1 = 24 then
    lI (0) fun v24 =>
    rT V v24
  else
  if x1 = 25 then
    lI (1) fun v25 =>
    rT V v25
  else
  if x1 = 26 then
    lI (2) fun v26 =>
    rT V v26
  else
  lI (0) fun v27 =>
  rT V v27
set_option maxHeartbeats 4000000 in
set_option maxRecDepth 100000 in
theorem c_X6_popsOf (l : Launch) (D : va_G) (cy : Nat → ClassId) {N : Nat} {x1 : Int32} {x2 : Int32} {x3 : Int32} {V : pvM} {q : pvO} (hp : q_X6_popsOf N x1.toInt x2.toInt x3.toInt V = some q) : pv_Met l yX6_popsOf cX6_popsOf 4 (some .int) 1 21 D cy V [.ref 1, .int x1, .int x2, .int x3] 1 q := by
  unfold q_X6_popsOf at hp
  refine pv_ofW (by decide) (Nat.le_of_ble_eq_true rfl) (fun p e s m args below meth c ad A n0 σ C hr => ?_)
  refine pv_iload_n C 1 dX6_popsOf_0 rfl ?_
  refine pv_case (x := x1) (v := 2) hp (fun hx hp => ?_) (fun h1_2 hp => ?_)
  · refine pv_tableIn (tgt := 118) C hx dX6_popsOf_1 (by decide) (by decide) (off := 117) rfl (by decide) ?_
    refine pv_iconst C hp dX6_popsOf_118 (by decide) (fun v1 hp => ?_)
    exact pv_iret C rfl hp hr dX6_popsOf_119
  refine pv_case (x := x1) (v := 3) hp (fun hx hp => ?_) (fun h1_3 hp => ?_)
  · refine pv_tableIn (tgt := 116) C hx dX6_popsOf_1 (by decide) (by decide) (off := 115) rfl (by decide) ?_
    refine pv_iconst C hp dX6_popsOf_116 (by decide) (fun v2 hp => ?_)
    exact pv_iret C rfl hp hr dX6_popsOf_117
  refine pv_case (x := x1) (v := 4) hp (fun hx hp => ?_) (fun h1_4 hp => ?_)
  · refine pv_tableIn (tgt := 116) C hx dX6_popsOf_1 (by decide) (by decide) (off := 115) rfl (by decide) ?_
    refine pv_iconst C hp dX6_popsOf_116 (by decide) (fun v3 hp => ?_)
    exact pv_iret C rfl hp hr dX6_popsOf_117
  refine pv_case (x := x1) (v := 5) hp (fun hx hp => ?_) (fun h1_5 hp => ?_)
  · refine pv_tableIn (tgt := 116) C hx dX6_popsOf_1 (by decide) (by decide) (off := 115) rfl (by decide) ?_
    refine pv_iconst C hp dX6_popsOf_116 (by decide) (fun v4 hp => ?_)
    exact pv_iret C rfl hp hr dX6_popsOf_117
  refine pv_case (x := x1) (v := 6) hp (fun hx hp => ?_) (fun h1_6 hp => ?_)
  · refine pv_tableIn (tgt := 118) C hx dX6_popsOf_1 (by decide) (by decide) (off := 117) rfl (by decide) ?_
    refine pv_iconst C hp dX6_popsOf_118 (by decide) (fun v5 hp => ?_)
    exact pv_iret C rfl hp hr dX6_popsOf_119
  refine pv_case (x := x1) (v := 7) hp (fun hx hp => ?_) (fun h1_7 hp => ?_)
  · refine pv_tableIn (tgt := 118) C hx dX6_popsOf_1 (by decide) (by decide) (off := 117) rfl (by decide) ?_
    refine pv_iconst C hp dX6_popsOf_118 (by decide) (fun v6 hp => ?_)
    exact pv_iret C rfl hp hr dX6_popsOf_119
  refine pv_case (x := x1) (v := 8) hp (fun hx hp => ?_) (fun h1_8 hp => ?_)
  · refine pv_tableIn (tgt := 142) C hx dX6_popsOf_1 (by decide) (by decide) (off := 141) rfl (by decide) ?_
    refine pv_iconst C hp dX6_popsOf_142 (by decide) (fun v7 hp => ?_)
    exact pv_iret C rfl hp hr dX6_popsOf_143
  refine pv_case (x := x1) (v := 9) hp (fun hx hp => ?_) (fun h1_9 hp => ?_)
  · refine pv_tableIn (tgt := 118) C hx dX6_popsOf_1 (by decide) (by decide) (off := 117) rfl (by decide) ?_
    refine pv_iconst C hp dX6_popsOf_118 (by decide) (fun v8 hp => ?_)
    exact pv_iret C rfl hp hr dX6_popsOf_119
  refine pv_case (x := x1) (v := 10) hp (fun hx hp => ?_) (fun h1_10 hp => ?_)
  · refine pv_tableIn (tgt := 120) C hx dX6_popsOf_1 (by decide) (by decide) (off := 119) rfl (by decide) ?_
    refine pv_aload_n C 0 dX6_popsOf_120 rfl ?_
    refine pv_getR C (ci := 5) (k := 1) gwX6 rfl (Nat.le_of_ble_eq_true rfl) fl_X6_18 rfl rfl rfl (j := 8) rfl rfl dX6_popsOf_121 ?_
    refine pv_iload_n C 2 dX6_popsOf_124 rfl ?_
    refine pv_iald C hp rfl rfl rfl (fun _ => rfl) dX6_popsOf_125 (fun v9 hp => ?_)
    exact pv_iret C rfl hp hr dX6_popsOf_126
  refine pv_case (x := x1) (v := 11) hp (fun hx hp => ?_) (fun h1_11 hp => ?_)
  · refine pv_tableIn (tgt := 118) C hx dX6_popsOf_1 (by decide) (by decide) (off := 117) rfl (by decide) ?_
    refine pv_iconst C hp dX6_popsOf_118 (by decide) (fun v10 hp => ?_)
    exact pv_iret C rfl hp hr dX6_popsOf_119
  refine pv_case (x := x1) (v := 12) hp (fun hx hp => ?_) (fun h1_12 hp => ?_)
  · refine pv_tableIn (tgt := 118) C hx dX6_popsOf_1 (by decide) (by decide) (off := 117) rfl (by decide) ?_
    refine pv_iconst C hp dX6_popsOf_118 (by decide) (fun v11 hp => ?_)
    exact pv_iret C rfl hp hr dX6_popsOf_119
  refine pv_case (x := x1) (v := 13) hp (fun hx hp => ?_) (fun h1_13 hp => ?_)
  · refine pv_tableIn (tgt := 127) C hx dX6_popsOf_1 (by decide) (by decide) (off := 126) rfl (by decide) ?_
    refine pv_iload_n C 3 dX6_popsOf_127 rfl ?_
    exact pv_iret C rfl hp hr dX6_popsOf_128
  refine pv_case (x := x1) (v := 14) hp (fun hx hp => ?_) (fun h1_14 hp => ?_)
  · refine pv_tableIn (tgt := 129) C hx dX6_popsOf_1 (by decide) (by decide) (off := 128) rfl (by decide) ?_
    refine pv_iload_n C 2 dX6_popsOf_129 rfl ?_
    refine pv_iconst C hp dX6_popsOf_130 (by decide) (fun v12 hp => ?_)
    refine pv_iadd C hp dX6_popsOf_131 (fun v13 hp => ?_)
    exact pv_iret C rfl hp hr dX6_popsOf_132
  refine pv_case (x := x1) (v := 15) hp (fun hx hp => ?_) (fun h1_15 hp => ?_)
  · refine pv_tableIn (tgt := 133) C hx dX6_popsOf_1 (by decide) (by decide) (off := 132) rfl (by decide) ?_
    refine pv_aload_n C 0 dX6_popsOf_133 rfl ?_
    refine pv_getR C (ci := 5) (k := 0) gwX6 rfl (Nat.le_of_ble_eq_true rfl) fl_X6_12 rfl rfl rfl (j := 2) rfl rfl dX6_popsOf_134 ?_
    refine pv_iload_n C 2 dX6_popsOf_137 rfl ?_
    refine pv_callV C (As := [.int x2]) (rest := []) (b := 2) (kd1 := 1) hp (fun q1 h9 => c_X7_holesOf l D cy h9) wB_yX7_holesOf ml_X6_55 im_yX7_holesOf se_yX7_holesOf (ci := 6) rfl rfl rfl rfl rfl (Nat.le_of_ble_eq_true rfl) ⟨(Nat.le_of_ble_eq_true rfl), (Nat.le_of_ble_eq_true rfl)⟩ dX6_popsOf_138 rfl rfl (fun v14 σ V hp => ?_)
    exact pv_iret C rfl hp hr dX6_popsOf_141
  refine pv_case (x := x1) (v := 16) hp (fun hx hp => ?_) (fun h1_16 hp => ?_)
  · refine pv_tableIn (tgt := 142) C hx dX6_popsOf_1 (by decide) (by decide) (off := 141) rfl (by decide) ?_
    refine pv_iconst C hp dX6_popsOf_142 (by decide) (fun v15 hp => ?_)
    exact pv_iret C rfl hp hr dX6_popsOf_143
  refine pv_case (x := x1) (v := 17) hp (fun hx hp => ?_) (fun h1_17 hp => ?_)
  · refine pv_tableIn (tgt := 142) C hx dX6_popsOf_1 (by decide) (by decide) (off := 141) rfl (by decide) ?_
    refine pv_iconst C hp dX6_popsOf_142 (by decide) (fun v16 hp => ?_)
    exact pv_iret C rfl hp hr dX6_popsOf_143
  refine pv_case (x := x1) (v := 18) hp (fun hx hp => ?_) (fun h1_18 hp => ?_)
  · refine pv_tableIn (tgt := 142) C hx dX6_popsOf_1 (by decide) (by decide) (off := 141) rfl (by decide) ?_
    refine pv_iconst C hp dX6_popsOf_142 (by decide) (fun v17 hp => ?_)
    exact pv_iret C rfl hp hr dX6_popsOf_143
  refine pv_case (x := x1) (v := 19) hp (fun hx hp => ?_) (fun h1_19 hp => ?_)
  · refine pv_tableIn (tgt := 142) C hx dX6_popsOf_1 (by decide) (by decide) (off := 141) rfl (by decide) ?_
    refine pv_iconst C hp dX6_popsOf_142 (by decide) (fun v18 hp => ?_)
    exact pv_iret C rfl hp hr dX6_popsOf_143
  refine pv_case (x := x1) (v := 20) hp (fun hx hp => ?_) (fun h1_20 hp => ?_)
  · refine pv_tableIn (tgt := 142) C hx dX6_popsOf_1 (by decide) (by decide) (off := 141) rfl (by decide) ?_
    refine pv_iconst C hp dX6_popsOf_142 (by decide) (fun v19 hp => ?_)
    exact pv_iret C rfl hp hr dX6_popsOf_143
  refine pv_case (x := x1) (v := 21) hp (fun hx hp => ?_) (fun h1_21 hp => ?_)
  · refine pv_tableIn (tgt := 116) C hx dX6_popsOf_1 (by decide) (by decide) (off := 115) rfl (by decide) ?_
    refine pv_iconst C hp dX6_popsOf_116 (by decide) (fun v20 hp => ?_)
    exact pv_iret C rfl hp hr dX6_popsOf_117
  refine pv_case (x := x1) (v := 22) hp (fun hx hp => ?_) (fun h1_22 hp => ?_)
  · refine pv_tableIn (tgt := 129) C hx dX6_popsOf_1 (by decide) (by decide) (off := 128) rfl (by decide) ?_
    refine pv_iload_n C 2 dX6_popsOf_129 rfl ?_
    refine pv_iconst C hp dX6_popsOf_130 (by decide) (fun v21 hp => ?_)
    refine pv_iadd C hp dX6_popsOf_131 (fun v22 hp => ?_)
    exact pv_iret C rfl hp hr dX6_popsOf_132
  refine pv_case (x := x1) (v := 23) hp (fun hx hp => ?_) (fun h1_23 hp => ?_)
  · refine pv_tableIn (tgt := 142) C hx dX6_popsOf_1 (by decide) (by decide) (off := 141) rfl (by decide) ?_
    refine pv_iconst C hp dX6_popsOf_142 (by decide) (fun v23 hp => ?_)
    exact pv_iret C rfl hp hr dX6_popsOf_143
  refine pv_case (x := x1) (v := 24) hp (fun hx hp => ?_) (fun h1_24 hp => ?_)
  · refine pv_tableIn (tgt := 142) C hx dX6_popsOf_1 (by decide) (by decide) (off := 141) rfl (by decide) ?_
    refine pv_iconst C hp dX6_popsOf_142 (by decide) (fun v24 hp => ?_)
    exact pv_iret C rfl hp hr dX6_popsOf_143
  refine pv_case (x := x1) (v := 25) hp (fun hx hp => ?_) (fun h1_25 hp => ?_)
  · refine pv_tableIn (tgt := 118) C hx dX6_popsOf_1 (by decide) (by decide) (off := 117) rfl (by decide) ?_
    refine pv_iconst C hp dX6_popsOf_118 (by decide) (fun v25 hp => ?_)
    exact pv_iret C rfl hp hr dX6_popsOf_119
  refine pv_case (x := x1) (v := 26) hp (fun hx hp => ?_) (fun h1_26 hp => ?_)
  · refine pv_tableIn (tgt := 116) C hx dX6_popsOf_1 (by decide) (by decide) (off := 115) rfl (by decide) ?_
    refine pv_iconst C hp dX6_popsOf_116 (by decide) (fun v26 hp => ?_)
    exact pv_iret C rfl hp hr dX6_popsOf_117
  refine pv_tableOut (tgt := 142) C (by omega) dX6_popsOf_1 (by decide) ?_
  refine pv_iconst C hp dX6_popsOf_142 (by decide) (fun v27 hp => ?_)
  exact pv_iret C rfl hp hr dX6_popsOf_143
def q_X6_pushesOf (N : Nat) (x1 : Int) (V : pvM) : Option pvO :=
  if x1 = 2 then
    lI (0) fun v1 =>
    rT V v1
  else
  if x1 = 3 then
    lI (1) fun v2 =>
    rT V v2
  else
  if x1 = 4 then
    lI (1) fun v3 =>
    rT V v3
  else
  if x1 = 5 then
    lI (1) fun v4 =>
    rT V v4
  else
  if x1 = 6 then
    lI (2) fun v5 =>
    rT V v5
  else
  if x1 = 7 then
    lI (0) fun v6 =>
    rT V v6
  else
  if x1 = 8 then
    lI (0) fun v7 =>
    rT V v7
  else
  if x1 = 9 then
    lI (0) fun v8 =>
    rT V v8
  else
  if x1 = 10 then
    lI (1) fun v9 =>
    rT V v9
  else
  if x1 = 11 then
    lI (0) fun v10 =>
    rT V v10
  else
  if x1 = 12 then
    lI (0) fun v11 =>
    rT V v11
  else
  lI (1) fun v12 =>
  rT V v12
set_option maxHeartbeats 4000000 in
set_option maxRecDepth 100000 in
theorem c_X6_pushesOf (l : Launch) (D : va_G) (cy : Nat → ClassId) {N : Nat} {x1 : Int32} {V : pvM} {q : pvO} (hp : q_X6_pushesOf N x1.toInt V = some q) : pv_Met l yX6_pushesOf cX6_pushesOf 2 (some .int) 0 0 D cy V [.ref 1, .int x1] 1 q := by
  unfold q_X6_pushesOf at hp
  refine pv_ofW (by decide) (Nat.le_of_ble_eq_true rfl) (fun p e s m args below meth c ad A n0 σ C hr => ?_)
  refine pv_iload_n C 1 dX6_pushesOf_0 rfl ?_
  refine pv_case (x := x1) (v := 2) hp (fun hx hp => ?_) (fun h1_2 hp => ?_)
  · refine pv_tableIn (tgt := 60) C hx dX6_pushesOf_1 (by decide) (by decide) (off := 59) rfl (by decide) ?_
    refine pv_iconst C hp dX6_pushesOf_60 (by decide) (fun v1 hp => ?_)
    exact pv_iret C rfl hp hr dX6_pushesOf_61
  refine pv_case (x := x1) (v := 3) hp (fun hx hp => ?_) (fun h1_3 hp => ?_)
  · refine pv_tableIn (tgt := 64) C hx dX6_pushesOf_1 (by decide) (by decide) (off := 63) rfl (by decide) ?_
    refine pv_iconst C hp dX6_pushesOf_64 (by decide) (fun v2 hp => ?_)
    exact pv_iret C rfl hp hr dX6_pushesOf_65
  refine pv_case (x := x1) (v := 4) hp (fun hx hp => ?_) (fun h1_4 hp => ?_)
  · refine pv_tableIn (tgt := 64) C hx dX6_pushesOf_1 (by decide) (by decide) (off := 63) rfl (by decide) ?_
    refine pv_iconst C hp dX6_pushesOf_64 (by decide) (fun v3 hp => ?_)
    exact pv_iret C rfl hp hr dX6_pushesOf_65
  refine pv_case (x := x1) (v := 5) hp (fun hx hp => ?_) (fun h1_5 hp => ?_)
  · refine pv_tableIn (tgt := 64) C hx dX6_pushesOf_1 (by decide) (by decide) (off := 63) rfl (by decide) ?_
    refine pv_iconst C hp dX6_pushesOf_64 (by decide) (fun v4 hp => ?_)
    exact pv_iret C rfl hp hr dX6_pushesOf_65
  refine pv_case (x := x1) (v := 6) hp (fun hx hp => ?_) (fun h1_6 hp => ?_)
  · refine pv_tableIn (tgt := 62) C hx dX6_pushesOf_1 (by decide) (by decide) (off := 61) rfl (by decide) ?_
    refine pv_iconst C hp dX6_pushesOf_62 (by decide) (fun v5 hp => ?_)
    exact pv_iret C rfl hp hr dX6_pushesOf_63
  refine pv_case (x := x1) (v := 7) hp (fun hx hp => ?_) (fun h1_7 hp => ?_)
  · refine pv_tableIn (tgt := 60) C hx dX6_pushesOf_1 (by decide) (by decide) (off := 59) rfl (by decide) ?_
    refine pv_iconst C hp dX6_pushesOf_60 (by decide) (fun v6 hp => ?_)
    exact pv_iret C rfl hp hr dX6_pushesOf_61
  refine pv_case (x := x1) (v := 8) hp (fun hx hp => ?_) (fun h1_8 hp => ?_)
  · refine pv_tableIn (tgt := 60) C hx dX6_pushesOf_1 (by decide) (by decide) (off := 59) rfl (by decide) ?_
    refine pv_iconst C hp dX6_pushesOf_60 (by decide) (fun v7 hp => ?_)
    exact pv_iret C rfl hp hr dX6_pushesOf_61
  refine pv_case (x := x1) (v := 9) hp (fun hx hp => ?_) (fun h1_9 hp => ?_)
  · refine pv_tableIn (tgt := 60) C hx dX6_pushesOf_1 (by decide) (by decide) (off := 59) rfl (by decide) ?_
    refine pv_iconst C hp dX6_pushesOf_60 (by decide) (fun v8 hp => ?_)
    exact pv_iret C rfl hp hr dX6_pushesOf_61
  refine pv_case (x := x1) (v := 10) hp (fun hx hp => ?_) (fun h1_10 hp => ?_)
  · refine pv_tableIn (tgt := 64) C hx dX6_pushesOf_1 (by decide) (by decide) (off := 63) rfl (by decide) ?_
    refine pv_iconst C hp dX6_pushesOf_64 (by decide) (fun v9 hp => ?_)
    exact pv_iret C rfl hp hr dX6_pushesOf_65
  refine pv_case (x := x1) (v := 11) hp (fun hx hp => ?_) (fun h1_11 hp => ?_)
  · refine pv_tableIn (tgt := 60) C hx dX6_pushesOf_1 (by decide) (by decide) (off := 59) rfl (by decide) ?_
    refine pv_iconst C hp dX6_pushesOf_60 (by decide) (fun v10 hp => ?_)
    exact pv_iret C rfl hp hr dX6_pushesOf_61
  refine pv_case (x := x1) (v := 12) hp (fun hx hp => ?_) (fun h1_12 hp => ?_)
  · refine pv_tableIn (tgt := 60) C hx dX6_pushesOf_1 (by decide) (by decide) (off := 59) rfl (by decide) ?_
    refine pv_iconst C hp dX6_pushesOf_60 (by decide) (fun v11 hp => ?_)
    exact pv_iret C rfl hp hr dX6_pushesOf_61
  refine pv_tableOut (tgt := 64) C (by omega) dX6_pushesOf_1 (by decide) ?_
  refine pv_iconst C hp dX6_pushesOf_64 (by decide) (fun v12 hp => ?_)
  exact pv_iret C rfl hp hr dX6_pushesOf_65
