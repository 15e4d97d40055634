def q_X5_forget (N : Nat) (V : pvM) : Option pvO :=
  lI (0) fun v1 =>
  bT v1 <| gW V 16 10 v1 fun V =>
  rT V 0
set_option maxHeartbeats 4000000 in
set_option maxRecDepth 100000 in
theorem c_X5_forget (l : Launch) (D : va_G) (cy : Nat → ClassId) {N : Nat} {V : pvM} {q : pvO} (hp : q_X5_forget N V = some q) : pv_Met l yX5_forget cX5_forget 1 none 0 0 D cy V [.ref 16] 0 q := by
  unfold q_X5_forget at hp
  refine pv_ofW (by decide) (Nat.le_of_ble_eq_true rfl) (fun p e s m args below meth c ad A n0 σ C hr => ?_)
  refine pv_aload_n C 0 dX5_forget_0 rfl ?_
  refine pv_iconst C hp dX5_forget_1 (by decide) (fun v1 hp => ?_)
  refine pv_putZ C (ci := 4) (k := 10) gwX5 rfl (Nat.le_of_ble_eq_true rfl) fl_X5_45 rfl rfl tyX5_ok nmX5 hp rfl rfl rfl (by decide +kernel) dX5_forget_2 (fun V hp => ?_)
  exact pv_vret C rfl hp hr dX5_forget_5
def q_X5_isMade (N : Nat) (V : pvM) : Option pvO :=
  gR V 16 10 fun v1 =>
  bT v1 (rT V v1)
set_option maxHeartbeats 4000000 in
set_option maxRecDepth 100000 in
theorem c_X5_isMade (l : Launch) (D : va_G) (cy : Nat → ClassId) {N : Nat} {V : pvM} {q : pvO} (hp : q_X5_isMade N V = some q) : pv_Met l yX5_isMade cX5_isMade 1 (some .boolean) 0 0 D cy V [.ref 16] 1 q := by
  unfold q_X5_isMade at hp
  refine pv_ofW (by decide) (Nat.le_of_ble_eq_true rfl) (fun p e s m args below meth c ad A n0 σ C hr => ?_)
  refine pv_aload_n C 0 dX5_isMade_0 rfl ?_
  refine pv_getI C (ci := 4) (k := 10) gwX5 rfl (Nat.le_of_ble_eq_true rfl) fl_X5_45 rfl rfl hp rfl rfl dX5_isMade_1 (fun v1 hp => ?_)
  exact pv_zret C rfl hp hr dX5_isMade_4
def q_X5_classTotal (N : Nat) (V : pvM) : Option pvO :=
  gR V 16 9 fun v1 =>
  rT V v1
set_option maxHeartbeats 4000000 in
set_option maxRecDepth 100000 in
theorem c_X5_classTotal (l : Launch) (D : va_G) (cy : Nat → ClassId) {N : Nat} {V : pvM} {q : pvO} (hp : q_X5_classTotal N V = some q) : pv_Met l yX5_classTotal cX5_classTotal 1 (some .int) 0 0 D cy V [.ref 16] 1 q := by
  unfold q_X5_classTotal at hp
  refine pv_ofW (by decide) (Nat.le_of_ble_eq_true rfl) (fun p e s m args below meth c ad A n0 σ C hr => ?_)
  refine pv_aload_n C 0 dX5_classTotal_0 rfl ?_
  refine pv_getI C (ci := 4) (k := 9) gwX5 rfl (Nat.le_of_ble_eq_true rfl) fl_X5_49 rfl rfl hp rfl rfl dX5_classTotal_1 (fun v1 hp => ?_)
  exact pv_iret C rfl hp hr dX5_classTotal_4
def q_X5_valuesOfClass (N : Nat) (x1 : Int) (V : pvM) : Option pvO :=
  aR V 24 480 x1 fun v1 =>
  rT V v1
set_option maxHeartbeats 4000000 in
set_option maxRecDepth 100000 in
theorem c_X5_valuesOfClass (l : Launch) (D : va_G) (cy : Nat → ClassId) {N : Nat} {x1 : Int32} {V : pvM} {q : pvO} (hp : q_X5_valuesOfClass N x1.toInt V = some q) : pv_Met l yX5_valuesOfClass cX5_valuesOfClass 2 (some .int) 0 0 D cy V [.ref 16, .int x1] 1 q := by
  unfold q_X5_valuesOfClass at hp
  refine pv_ofW (by decide) (Nat.le_of_ble_eq_true rfl) (fun p e s m args below meth c ad A n0 σ C hr => ?_)
  refine pv_aload_n C 0 dX5_valuesOfClass_0 rfl ?_
  refine pv_getR C (ci := 4) (k := 5) gwX5 rfl (Nat.le_of_ble_eq_true rfl) fl_X5_25 rfl rfl rfl (j := 24) rfl rfl dX5_valuesOfClass_1 ?_
  refine pv_iload_n C 1 dX5_valuesOfClass_4 rfl ?_
  refine pv_iald C hp rfl rfl rfl (fun _ => rfl) dX5_valuesOfClass_5 (fun v1 hp => ?_)
  exact pv_iret C rfl hp hr dX5_valuesOfClass_6
def q_X5_functionOfClass (N : Nat) (x1 : Int) (V : pvM) : Option pvO :=
  aR V 23 480 x1 fun v1 =>
  rT V v1
set_option maxHeartbeats 4000000 in
set_option maxRecDepth 100000 in
theorem c_X5_functionOfClass (l : Launch) (D : va_G) (cy : Nat → ClassId) {N : Nat} {x1 : Int32} {V : pvM} {q : pvO} (hp : q_X5_functionOfClass N x1.toInt V = some q) : pv_Met l yX5_functionOfClass cX5_functionOfClass 2 (some .int) 0 0 D cy V [.ref 16, .int x1] 1 q := by
  unfold q_X5_functionOfClass at hp
  refine pv_ofW (by decide) (Nat.le_of_ble_eq_true rfl) (fun p e s m args below meth c ad A n0 σ C hr => ?_)
  refine pv_aload_n C 0 dX5_functionOfClass_0 rfl ?_
  refine pv_getR C (ci := 4) (k := 4) gwX5 rfl (Nat.le_of_ble_eq_true rfl) fl_X5_22 rfl rfl rfl (j := 23) rfl rfl dX5_functionOfClass_1 ?_
  refine pv_iload_n C 1 dX5_functionOfClass_4 rfl ?_
  refine pv_iald C hp rfl rfl rfl (fun _ => rfl) dX5_functionOfClass_5 (fun v1 hp => ?_)
  exact pv_iret C rfl hp hr dX5_functionOfClass_6
def q_X5_methodOfClass (N : Nat) (x1 : Int) (V : pvM) : Option pvO :=
  cL (q_X6_functionTotal N V) fun v1 V =>
  lI (pv_w (v1 + x1)) fun v2 =>
  rT V v2
set_option maxHeartbeats 4000000 in
set_option maxRecDepth 100000 in
theorem c_X5_methodOfClass (l : Launch) (D : va_G) (cy : Nat → ClassId) {N : Nat} {x1 : Int32} {V : pvM} {q : pvO} (hp : q_X5_methodOfClass N x1.toInt V = some q) : pv_Met l yX5_methodOfClass cX5_methodOfClass 2 (some .int) 1 20 D cy V [.ref 16, .int x1] 1 q := by
  unfold q_X5_methodOfClass at hp
  refine pv_ofW (by decide) (Nat.le_of_ble_eq_true rfl) (fun p e s m args below meth c ad A n0 σ C hr => ?_)
  refine pv_aload_n C 0 dX5_methodOfClass_0 rfl ?_
  refine pv_getR C (ci := 4) (k := 0) gwX5 rfl (Nat.le_of_ble_eq_true rfl) fl_X5_37 rfl rfl rfl (j := 1) rfl rfl dX5_methodOfClass_1 ?_
  refine pv_callV C (As := []) (rest := []) (b := 1) (kd1 := 1) hp (fun q1 h9 => c_X6_functionTotal l D cy h9) wB_yX6_functionTotal ml_X5_53 im_yX6_functionTotal se_yX6_functionTotal (ci := 5) rfl rfl rfl rfl rfl (Nat.le_of_ble_eq_true rfl) ⟨(Nat.le_of_ble_eq_true rfl), (Nat.le_of_ble_eq_true rfl)⟩ dX5_methodOfClass_4 rfl rfl (fun v1 σ V hp => ?_)
  refine pv_iload_n C 1 dX5_methodOfClass_7 rfl ?_
  refine pv_iadd C hp dX5_methodOfClass_8 (fun v2 hp => ?_)
  exact pv_iret C rfl hp hr dX5_methodOfClass_9
def q_X5_isMethod (N : Nat) (x1 : Int) (V : pvM) : Option pvO :=
  cL (q_X6_functionTotal N V) fun v1 V =>
  if x1 < v1 then
    lI (0) fun v2 =>
    bT v2 (rT V v2)
  else
  lI (1) fun v3 =>
  bT v3 (rT V v3)
set_option maxHeartbeats 4000000 in
set_option maxRecDepth 100000 in
theorem c_X5_isMethod (l : Launch) (D : va_G) (cy : Nat → ClassId) {N : Nat} {x1 : Int32} {V : pvM} {q : pvO} (hp : q_X5_isMethod N x1.toInt V = some q) : pv_Met l yX5_isMethod cX5_isMethod 2 (some .boolean) 1 20 D cy V [.ref 16, .int x1] 1 q := by
  unfold q_X5_isMethod at hp
  refine pv_ofW (by decide) (Nat.le_of_ble_eq_true rfl) (fun p e s m args below meth c ad A n0 σ C hr => ?_)
  refine pv_iload_n C 1 dX5_isMethod_0 rfl ?_
  refine pv_aload_n C 0 dX5_isMethod_1 rfl ?_
  refine pv_getR C (ci := 4) (k := 0) gwX5 rfl (Nat.le_of_ble_eq_true rfl) fl_X5_37 rfl rfl rfl (j := 1) rfl rfl dX5_isMethod_2 ?_
  refine pv_callV C (As := []) (rest := [.int x1]) (b := 1) (kd1 := 1) hp (fun q1 h9 => c_X6_functionTotal l D cy h9) wB_yX6_functionTotal ml_X5_53 im_yX6_functionTotal se_yX6_functionTotal (ci := 5) rfl rfl rfl rfl rfl (Nat.le_of_ble_eq_true rfl) ⟨(Nat.le_of_ble_eq_true rfl), (Nat.le_of_ble_eq_true rfl)⟩ dX5_isMethod_5 rfl rfl (fun v1 σ V hp => ?_)
  refine pv_icmp_lt (tgt := 15) C hp dX5_isMethod_8 (by decide) (fun hp => ?_) (fun hp => ?_)
  · refine pv_iconst C hp dX5_isMethod_15 (by decide) (fun v2 hp => ?_)
    exact pv_zret C rfl hp hr dX5_isMethod_16
  · refine pv_iconst C hp dX5_isMethod_11 (by decide) (fun v3 hp => ?_)
    refine pv_goto (tgt := 16) C dX5_isMethod_12 (by decide) ?_
    exact pv_zret C rfl hp hr dX5_isMethod_16
def q_X5_sourceHeightOf (N : Nat) (x1 : Int) (V : pvM) : Option pvO :=
  aR V 25 12 x1 fun v1 =>
  rT V v1
set_option maxHeartbeats 4000000 in
set_option maxRecDepth 100000 in
theorem c_X5_sourceHeightOf (l : Launch) (D : va_G) (cy : Nat → ClassId) {N : Nat} {x1 : Int32} {V : pvM} {q : pvO} (hp : q_X5_sourceHeightOf N x1.toInt V = some q) : pv_Met l yX5_sourceHeightOf cX5_sourceHeightOf 2 (some .int) 0 0 D cy V [.ref 16, .int x1] 1 q := by
  unfold q_X5_sourceHeightOf at hp
  refine pv_ofW (by decide) (Nat.le_of_ble_eq_true rfl) (fun p e s m args below meth c ad A n0 σ C hr => ?_)
  refine pv_aload_n C 0 dX5_sourceHeightOf_0 rfl ?_
  refine pv_getR C (ci := 4) (k := 6) gwX5 rfl (Nat.le_of_ble_eq_true rfl) fl_X5_28 rfl rfl rfl (j := 25) rfl rfl dX5_sourceHeightOf_1 ?_
  refine pv_iload_n C 1 dX5_sourceHeightOf_4 rfl ?_
  refine pv_iald C hp rfl rfl rfl (fun _ => rfl) dX5_sourceHeightOf_5 (fun v1 hp => ?_)
  exact pv_iret C rfl hp hr dX5_sourceHeightOf_6
def q_X5_plainHeightOf (N : Nat) (x1 : Int) (V : pvM) : Option pvO :=
  aR V 26 12 x1 fun v1 =>
  rT V v1
set_option maxHeartbeats 4000000 in
set_option maxRecDepth 100000 in
theorem c_X5_plainHeightOf (l : Launch) (D : va_G) (cy : Nat → ClassId) {N : Nat} {x1 : Int32} {V : pvM} {q : pvO} (hp : q_X5_plainHeightOf N x1.toInt V = some q) : pv_Met l yX5_plainHeightOf cX5_plainHeightOf 2 (some .int) 0 0 D cy V [.ref 16, .int x1] 1 q := by
  unfold q_X5_plainHeightOf at hp
  refine pv_ofW (by decide) (Nat.le_of_ble_eq_true rfl) (fun p e s m args below meth c ad A n0 σ C hr => ?_)
  refine pv_aload_n C 0 dX5_plainHeightOf_0 rfl ?_
  refine pv_getR C (ci := 4) (k := 7) gwX5 rfl (Nat.le_of_ble_eq_true rfl) fl_X5_31 rfl rfl rfl (j := 26) rfl rfl dX5_plainHeightOf_1 ?_
  refine pv_iload_n C 1 dX5_plainHeightOf_4 rfl ?_
  refine pv_iald C hp rfl rfl rfl (fun _ => rfl) dX5_plainHeightOf_5 (fun v1 hp => ?_)
  exact pv_iret C rfl hp hr dX5_plainHeightOf_6
def q_X5_lengthOf (N : Nat) (x1 : Int) (V : pvM) : Option pvO :=
  lI (1) fun v1 =>
  lI (pv_w (x1 + v1)) fun v2 =>
  aR V 22 493 v2 fun v3 =>
  aR V 22 493 x1 fun v4 =>
  lI (pv_w (v3 - v4)) fun v5 =>
  rT V v5
set_option maxHeartbeats 4000000 in
set_option maxRecDepth 100000 in
theorem c_X5_lengthOf (l : Launch) (D : va_G) (cy : Nat → ClassId) {N : Nat} {x1 : Int32} {V : pvM} {q : pvO} (hp : q_X5_lengthOf N x1.toInt V = some q) : pv_Met l yX5_lengthOf cX5_lengthOf 2 (some .int) 0 0 D cy V [.ref 16, .int x1] 1 q := by
  unfold q_X5_lengthOf at hp
  refine pv_ofW (by decide) (Nat.le_of_ble_eq_true rfl) (fun p e s m args below meth c ad A n0 σ C hr => ?_)
  refine pv_aload_n C 0 dX5_lengthOf_0 rfl ?_
  refine pv_getR C (ci := 4) (k := 3) gwX5 rfl (Nat.le_of_ble_eq_true rfl) fl_X5_18 rfl rfl rfl (j := 22) rfl rfl dX5_lengthOf_1 ?_
  refine pv_iload_n C 1 dX5_lengthOf_4 rfl ?_
  refine pv_iconst C hp dX5_lengthOf_5 (by decide) (fun v1 hp => ?_)
  refine pv_iadd C hp dX5_lengthOf_6 (fun v2 hp => ?_)
  refine pv_iald C hp rfl rfl rfl (fun _ => rfl) dX5_lengthOf_7 (fun v3 hp => ?_)
  refine pv_aload_n C 0 dX5_lengthOf_8 rfl ?_
  refine pv_getR C (ci := 4) (k := 3) gwX5 rfl (Nat.le_of_ble_eq_true rfl) fl_X5_18 rfl rfl rfl (j := 22) rfl rfl dX5_lengthOf_9 ?_
  refine pv_iload_n C 1 dX5_lengthOf_12 rfl ?_
  refine pv_iald C hp rfl rfl rfl (fun _ => rfl) dX5_lengthOf_13 (fun v4 hp => ?_)
  refine pv_isub C hp dX5_lengthOf_14 (fun v5 hp => ?_)
  exact pv_iret C rfl hp hr dX5_lengthOf_15
def q_X5_wordAt (N : Nat) (x1 : Int) (x2 : Int) (V : pvM) : Option pvO :=
  aR V 22 493 x1 fun v1 =>
  lI (pv_w (v1 + x2)) fun v2 =>
  cL (q_X3_word N v2 V) fun v3 V =>
  rT V v3
set_option maxHeartbeats 4000000 in
set_option maxRecDepth 100000 in
theorem c_X5_wordAt (l : Launch) (D : va_G) (cy : Nat → ClassId) {N : Nat} {x1 : Int32} {x2 : Int32} {V : pvM} {q : pvO} (hp : q_X5_wordAt N x1.toInt x2.toInt V = some q) : pv_Met l yX5_wordAt cX5_wordAt 3 (some .int) 1 21 D cy V [.ref 16, .int x1, .int x2] 1 q := by
  unfold q_X5_wordAt at hp
  refine pv_ofW (by decide) (Nat.le_of_ble_eq_true rfl) (fun p e s m args below meth c ad A n0 σ C hr => ?_)
  refine pv_aload_n C 0 dX5_wordAt_0 rfl ?_
  refine pv_getR C (ci := 4) (k := 2) gwX5 rfl (Nat.le_of_ble_eq_true rfl) fl_X5_12 rfl rfl rfl (j := 17) rfl rfl dX5_wordAt_1 ?_
  refine pv_aload_n C 0 dX5_wordAt_4 rfl ?_
  refine pv_getR C (ci := 4) (k := 3) gwX5 rfl (Nat.le_of_ble_eq_true rfl) fl_X5_18 rfl rfl rfl (j := 22) rfl rfl dX5_wordAt_5 ?_
  refine pv_iload_n C 1 dX5_wordAt_8 rfl ?_
  refine pv_iald C hp rfl rfl rfl (fun _ => rfl) dX5_wordAt_9 (fun v1 hp => ?_)
  refine pv_iload_n C 2 dX5_wordAt_10 rfl ?_
  refine pv_iadd C hp dX5_wordAt_11 (fun v2 hp => ?_)
  refine pv_callV C (As := [.int v2]) (rest := []) (b := 17) (kd1 := 1) hp (fun q1 h9 => c_X3_word l D cy h9) wB_yX3_word ml_X5_59 im_yX3_word se_yX3_word (ci := 2) rfl rfl rfl rfl rfl (Nat.le_of_ble_eq_true rfl) ⟨(Nat.le_of_ble_eq_true rfl), (Nat.le_of_ble_eq_true rfl)⟩ dX5_wordAt_12 rfl rfl (fun v3 σ V hp => ?_)
  exact pv_iret C rfl hp hr dX5_wordAt_15
def q_X5_firstNumberAt (N : Nat) (x1 : Int) (x2 : Int) (V : pvM) : Option pvO :=
  aR V 22 493 x1 fun v1 =>
  lI (pv_w (v1 + x2)) fun v2 =>
  cL (q_X3_firstNumber N v2 V) fun v3 V =>
  rT V v3
set_option maxHeartbeats 4000000 in
set_option maxRecDepth 100000 in
theorem c_X5_firstNumberAt (l : Launch) (D : va_G) (cy : Nat → ClassId) {N : Nat} {x1 : Int32} {x2 : Int32} {V : pvM} {q : pvO} (hp : q_X5_firstNumberAt N x1.toInt x2.toInt V = some q) : pv_Met l yX5_firstNumberAt cX5_firstNumberAt 3 (some .int) 1 21 D cy V [.ref 16, .int x1, .int x2] 1 q := by
  unfold q_X5_firstNumberAt at hp
  refine pv_ofW (by decide) (Nat.le_of_ble_eq_true rfl) (fun p e s m args below meth c ad A n0 σ C hr => ?_)
  refine pv_aload_n C 0 dX5_firstNumberAt_0 rfl ?_
  refine pv_getR C (ci := 4) (k := 2) gwX5 rfl (Nat.le_of_ble_eq_true rfl) fl_X5_12 rfl rfl rfl (j := 17) rfl rfl dX5_firstNumberAt_1 ?_
  refine pv_aload_n C 0 dX5_firstNumberAt_4 rfl ?_
  refine pv_getR C (ci := 4) (k := 3) gwX5 rfl (Nat.le_of_ble_eq_true rfl) fl_X5_18 rfl rfl rfl (j := 22) rfl rfl dX5_firstNumberAt_5 ?_
  refine pv_iload_n C 1 dX5_firstNumberAt_8 rfl ?_
  refine pv_iald C hp rfl rfl rfl (fun _ => rfl) dX5_firstNumberAt_9 (fun v1 hp => ?_)
  refine pv_iload_n C 2 dX5_firstNumberAt_10 rfl ?_
  refine pv_iadd C hp dX5_firstNumberAt_11 (fun v2 hp => ?_)
  refine pv_callV C (As := [.int v2]) (rest := []) (b := 17) (kd1 := 1) hp (fun q1 h9 => c_X3_firstNumber l D cy h9) wB_yX3_firstNumber ml_X5_63 im_yX3_firstNumber se_yX3_firstNumber (ci := 2) rfl rfl rfl rfl rfl (Nat.le_of_ble_eq_true rfl) ⟨(Nat.le_of_ble_eq_true rfl), (Nat.le_of_ble_eq_true rfl)⟩ dX5_firstNumberAt_12 rfl rfl (fun v3 σ V hp => ?_)
  exact pv_iret C rfl hp hr dX5_firstNumberAt_15
def q_X5_secondNumberAt (N : Nat) (x1 : Int) (x2 : Int) (V : pvM) : Option pvO :=
  aR V 22 493 x1 fun v1 =>
  lI (pv_w (v1 + x2)) fun v2 =>
  cL (q_X3_secondNumber N v2 V) fun v3 V =>
  rT V v3
set_option maxHeartbeats 4000000 in
set_option maxRecDepth 100000 in
theorem c_X5_secondNumberAt (l : Launch) (D : va_G) (cy : Nat → ClassId) {N : Nat} {x1 : Int32} {x2 : Int32} {V : pvM} {q : pvO} (hp : q_X5_secondNumberAt N x1.toInt x2.toInt V = some q) : pv_Met l yX5_secondNumberAt cX5_secondNumberAt 3 (some .int) 1 21 D cy V [.ref 16, .int x1, .int x2] 1 q := by
  unfold q_X5_secondNumberAt at hp
  refine pv_ofW (by decide) (Nat.le_of_ble_eq_true rfl) (fun p e s m args below meth c ad A n0 σ C hr => ?_)
  refine pv_aload_n C 0 dX5_secondNumberAt_0 rfl ?_
  refine pv_getR C (ci := 4) (k := 2) gwX5 rfl (Nat.le_of_ble_eq_true rfl) fl_X5_12 rfl rfl rfl (j := 17) rfl rfl dX5_secondNumberAt_1 ?_
  refine pv_aload_n C 0 dX5_secondNumberAt_4 rfl ?_
  refine pv_getR C (ci := 4) (k := 3) gwX5 rfl (Nat.le_of_ble_eq_true rfl) fl_X5_18 rfl rfl rfl (j := 22) rfl rfl dX5_secondNumberAt_5 ?_
  refine pv_iload_n C 1 dX5_secondNumberAt_8 rfl ?_
  refine pv_iald C hp rfl rfl rfl (fun _ => rfl) dX5_secondNumberAt_9 (fun v1 hp => ?_)
  refine pv_iload_n C 2 dX5_secondNumberAt_10 rfl ?_
  refine pv_iadd C hp dX5_secondNumberAt_11 (fun v2 hp => ?_)
  refine pv_callV C (As := [.int v2]) (rest := []) (b := 17) (kd1 := 1) hp (fun q1 h9 => c_X3_secondNumber l D cy h9) wB_yX3_secondNumber ml_X5_66 im_yX3_secondNumber se_yX3_secondNumber (ci := 2) rfl rfl rfl rfl rfl (Nat.le_of_ble_eq_true rfl) ⟨(Nat.le_of_ble_eq_true rfl), (Nat.le_of_ble_eq_true rfl)⟩ dX5_secondNumberAt_12 rfl rfl (fun v3 σ V hp => ?_)
  exact pv_iret C rfl hp hr dX5_secondNumberAt_15
def q_X5_isStepAt (N : Nat) (x1 : Int) (x2 : Int) (V : pvM) : Option pvO :=
  aR V 22 493 x1 fun v1 =>
  lI (pv_w (v1 + x2)) fun v2 =>
  cL (q_X3_isStep N v2 V) fun v3 V =>
  bT v3 (rT V v3)
set_option maxHeartbeats 4000000 in
set_option maxRecDepth 100000 in
theorem c_X5_isStepAt (l : Launch) (D : va_G) (cy : Nat → ClassId) {N : Nat} {x1 : Int32} {x2 : Int32} {V : pvM} {q : pvO} (hp : q_X5_isStepAt N x1.toInt x2.toInt V = some q) : pv_Met l yX5_isStepAt cX5_isStepAt 3 (some .boolean) 1 21 D cy V [.ref 16, .int x1, .int x2] 1 q := by
  unfold q_X5_isStepAt at hp
  refine pv_ofW (by decide) (Nat.le_of_ble_eq_true rfl) (fun p e s m args below meth c ad A n0 σ C hr => ?_)
  refine pv_aload_n C 0 dX5_isStepAt_0 rfl ?_
  refine pv_getR C (ci := 4) (k := 2) gwX5 rfl (Nat.le_of_ble_eq_true rfl) fl_X5_12 rfl rfl rfl (j := 17) rfl rfl dX5_isStepAt_1 ?_
  refine pv_aload_n C 0 dX5_isStepAt_4 rfl ?_
  refine pv_getR C (ci := 4) (k := 3) gwX5 rfl (Nat.le_of_ble_eq_true rfl) fl_X5_18 rfl rfl rfl (j := 22) rfl rfl dX5_isStepAt_5 ?_
  refine pv_iload_n C 1 dX5_isStepAt_8 rfl ?_
  refine pv_iald C hp rfl rfl rfl (fun _ => rfl) dX5_isStepAt_9 (fun v1 hp => ?_)
  refine pv_iload_n C 2 dX5_isStepAt_10 rfl ?_
  refine pv_iadd C hp dX5_isStepAt_11 (fun v2 hp => ?_)
  refine pv_callV C (As := [.int v2]) (rest := []) (b := 17) (kd1 := 1) hp (fun q1 h9 => c_X3_isStep l D cy h9) wB_yX3_isStep ml_X5_69 im_yX3_isStep se_yX3_isStep (ci := 2) rfl rfl rfl rfl rfl (Nat.le_of_ble_eq_true rfl) ⟨(Nat.le_of_ble_eq_true rfl), (Nat.le_of_ble_eq_true rfl)⟩ dX5_isStepAt_12 rfl rfl (fun v3 σ V hp => ?_)
  exact pv_zret C rfl hp hr dX5_isStepAt_15
def q_X5_risesBy (N : Nat) (x1 : Int) (x2 : Int) (x3 : Int) (V : pvM) : Option pvO :=
  cL (q_X6_pushesOf N x1 V) fun v1 V =>
  cL (q_X6_popsOf N x1 x2 x3 V) fun v2 V =>
  lI (pv_w (v1 - v2)) fun v3 =>
  rT V v3
set_option maxHeartbeats 4000000 in
set_option maxRecDepth 100000 in
theorem c_X5_risesBy (l : Launch) (D : va_G) (cy : Nat → ClassId) {N : Nat} {x1 : Int32} {x2 : Int32} {x3 : Int32} {V : pvM} {q : pvO} (hp : q_X5_risesBy N x1.toInt x2.toInt x3.toInt V = some q) : pv_Met l yX5_risesBy cX5_risesBy 4 (some .int) 2 44 D cy V [.ref 16, .int x1, .int x2, .int x3] 1 q := by
  unfold q_X5_risesBy at hp
  refine pv_ofW (by decide) (Nat.le_of_ble_eq_true rfl) (fun p e s m args below meth c ad A n0 σ C hr => ?_)
  refine pv_aload_n C 0 dX5_risesBy_0 rfl ?_
  refine pv_getR C (ci := 4) (k := 0) gwX5 rfl (Nat.le_of_ble_eq_true rfl) fl_X5_37 rfl rfl rfl (j := 1) rfl rfl dX5_risesBy_1 ?_
  refine pv_iload_n C 1 dX5_risesBy_4 rfl ?_
  refine pv_callV C (As := [.int x1]) (rest := []) (b := 1) (kd1 := 1) hp (fun q1 h9 => c_X6_pushesOf l D cy h9) wB_yX6_pushesOf ml_X5_166 im_yX6_pushesOf se_yX6_pushesOf (ci := 5) rfl rfl rfl rfl rfl (Nat.le_of_ble_eq_true rfl) ⟨(Nat.le_of_ble_eq_true rfl), (Nat.le_of_ble_eq_true rfl)⟩ dX5_risesBy_5 rfl rfl (fun v1 σ V hp => ?_)
  refine pv_aload_n C 0 dX5_risesBy_8 rfl ?_
  refine pv_getR C (ci := 4) (k := 0) gwX5 rfl (Nat.le_of_ble_eq_true rfl) fl_X5_37 rfl rfl rfl (j := 1) rfl rfl dX5_risesBy_9 ?_
  refine pv_iload_n C 1 dX5_risesBy_12 rfl ?_
  refine pv_iload_n C 2 dX5_risesBy_13 rfl ?_
  refine pv_iload_n C 3 dX5_risesBy_14 rfl ?_
  refine pv_callV C (As := [.int x1, .int x2, .int x3]) (rest := [.int v1]) (b := 1) (kd1 := 1) hp (fun q1 h9 => c_X6_popsOf l D cy h9) wB_yX6_popsOf ml_X5_169 im_yX6_popsOf se_yX6_popsOf (ci := 5) rfl rfl rfl rfl rfl (Nat.le_of_ble_eq_true rfl) ⟨(Nat.le_of_ble_eq_true rfl), (Nat.le_of_ble_eq_true rfl)⟩ dX5_risesBy_15 rfl rfl (fun v2 σ V hp => ?_)
  refine pv_isub C hp dX5_risesBy_18 (fun v3 hp => ?_)
  exact pv_iret C rfl hp hr dX5_risesBy_19
def q_X5_makeNew_b98 (N : Nat) : Nat → Int → Int → pvM → Option pvO
  | 0 => fun _ _ _ => none
  | n + 1 => fun x2 x3 V =>
    if x2 ≤ x3 then
      rT V 0
    else
    lI (1) fun v1 =>
    lI (9) fun v2 =>
    lI (pv_w (v2 + x3)) fun v3 =>
    lI (0) fun v4 =>
    cL (q_X3_add N v1 v3 v4 V) fun _ V =>
    lI (21) fun v5 =>
    lI (0) fun v6 =>
    cL (q_X3_add N v5 x3 v6 V) fun _ V =>
    lI (pv_w (x3 + (1))) fun v7 =>
    q_X5_makeNew_b98 N n x2 v7 V
set_option maxHeartbeats 4000000 in
set_option maxRecDepth 100000 in
theorem w_X5_makeNew_b98 {p : Program} {l : Launch} {e : Env} {s : State} {m : MethodId} {args : Array Value} {below : List Frame} {meth : Method} {c : Code} {D : va_G} {cy : Nat → ClassId} {A : Nat → Prop} {n0 : Nat} {ad0 : Nat → Nat} {V0 : pvM} {q : pvO} (C : pz_C p s m args meth c cX5_makeNew 4 yX5_makeNew.cls D cy A) (hr : meth.sig.returnType = none) {N : Nat} : ∀ (n : Nat) (x2 : Int32) (x3 : Int32) (σ : pzS) (V : pvM), q_X5_makeNew_b98 N n x2.toInt x3.toInt V = some q → pv_W p l e 4 106 s m args below meth c 4 D cy A n0 ad0 (pv_Q below D cy n0 ad0 0 V0 q A args s) V0 σ V 98 [(0, .ref 16), (2, .int x2), (3, .int x3)] [] := by
  intro n
  induction n with
  | zero =>
    intro x2 x3 σ V hp
    simp only [q_X5_makeNew_b98] at hp
    cases hp
  | succ n ih =>
    intro x2 x3 σ V hp
    simp only [q_X5_makeNew_b98] at hp
    refine pv_iload_n C 2 dX5_makeNew_98 rfl ?_
    refine pv_iload_n C 1 dX5_makeNew_99 rfl ?_
    refine pv_icmp_ge (tgt := 133) C hp dX5_makeNew_100 (by decide) (fun hp => ?_) (fun hp => ?_)
    · exact pv_vret C rfl hp hr dX5_makeNew_133
    · refine pv_aload_n C 0 dX5_makeNew_103 rfl ?_
      refine pv_getR C (ci := 4) (k := 2) gwX5 rfl (Nat.le_of_ble_eq_true rfl) fl_X5_12 rfl rfl rfl (j := 17) rfl rfl dX5_makeNew_104 ?_
      refine pv_iconst C hp dX5_makeNew_107 (by decide) (fun v1 hp => ?_)
      refine pv_bipush C hp dX5_makeNew_108 (by decide) (fun v2 hp => ?_)
      refine pv_iload_n C 2 dX5_makeNew_110 rfl ?_
      refine pv_iadd C hp dX5_makeNew_111 (fun v3 hp => ?_)
      refine pv_iconst C hp dX5_makeNew_112 (by decide) (fun v4 hp => ?_)
      refine pv_callV C (As := [.int v1, .int v3, .int v4]) (rest := []) (b := 17) (kd1 := 0) hp (fun q1 h9 => c_X3_add l D cy h9) wB_yX3_add ml_X5_124 im_yX3_add se_yX3_add (ci := 2) rfl rfl rfl rfl rfl (Nat.le_of_ble_eq_true rfl) ⟨(Nat.le_of_ble_eq_true rfl), (Nat.le_of_ble_eq_true rfl)⟩ dX5_makeNew_113 rfl rfl (fun _ σ V hp => ?_)
      refine pv_aload_n C 0 dX5_makeNew_116 rfl ?_
      refine pv_getR C (ci := 4) (k := 2) gwX5 rfl (Nat.le_of_ble_eq_true rfl) fl_X5_12 rfl rfl rfl (j := 17) rfl rfl dX5_makeNew_117 ?_
      refine pv_bipush C hp dX5_makeNew_120 (by decide) (fun v5 hp => ?_)
      refine pv_iload_n C 2 dX5_makeNew_122 rfl ?_
      refine pv_iconst C hp dX5_makeNew_123 (by decide) (fun v6 hp => ?_)
      refine pv_callV C (As := [.int v5, .int x3, .int v6]) (rest := []) (b := 17) (kd1 := 0) hp (fun q1 h9 => c_X3_add l D cy h9) wB_yX3_add ml_X5_124 im_yX3_add se_yX3_add (ci := 2) rfl rfl rfl rfl rfl (Nat.le_of_ble_eq_true rfl) ⟨(Nat.le_of_ble_eq_true rfl), (Nat.le_of_ble_eq_true rfl)⟩ dX5_makeNew_124 rfl rfl (fun _ σ V hp => ?_)
      refine pv_iinc (L := fun v7 => [(3, .int v7), (0, .ref 16), (2, .int x2)]) C 2 hp dX5_makeNew_127 (by decide) rfl (by decide) (fun _ => rfl) (fun v7 hp => ?_)
      refine pv_goto (tgt := 98) C dX5_makeNew_130 (by decide) ?_
      refine pv_sub [1, 2, 0] rfl ?_
      exact ih _ _ _ _ hp
def q_X5_makeNew_b62 (N : Nat) : Nat → Int → Int → pvM → Option pvO
  | 0 => fun _ _ _ => none
  | n + 1 => fun x2 x3 V =>
    if x3 ≤ 0 then
      lI (1) fun v8 =>
      lI (8) fun v9 =>
      lI (0) fun v10 =>
      cL (q_X3_add N v8 v9 v10 V) fun _ V =>
      lI (0) fun v11 =>
      q_X5_makeNew_b98 N N x2 v11 V
    else
    lI (2) fun v12 =>
    lI (8) fun v13 =>
    lI (pv_w (v13 + x3)) fun v14 =>
    lI (0) fun v15 =>
    cL (q_X3_add N v12 v14 v15 V) fun _ V =>
    lI (pv_w (x3 + (-1))) fun v16 =>
    q_X5_makeNew_b62 N n x2 v16 V
set_option maxHeartbeats 4000000 in
set_option maxRecDepth 100000 in
theorem w_X5_makeNew_b62 {p : Program} {l : Launch} {e : Env} {s : State} {m : MethodId} {args : Array Value} {below : List Frame} {meth : Method} {c : Code} {D : va_G} {cy : Nat → ClassId} {A : Nat → Prop} {n0 : Nat} {ad0 : Nat → Nat} {V0 : pvM} {q : pvO} (C : pz_C p s m args meth c cX5_makeNew 4 yX5_makeNew.cls D cy A) (hr : meth.sig.returnType = none) {N : Nat} : ∀ (n : Nat) (x2 : Int32) (x3 : Int32) (σ : pzS) (V : pvM), q_X5_makeNew_b62 N n x2.toInt x3.toInt V = some q → pv_W p l e 4 106 s m args below meth c 4 D cy A n0 ad0 (pv_Q below D cy n0 ad0 0 V0 q A args s) V0 σ V 62 [(0, .ref 16), (2, .int x2), (3, .int x3)] [] := by
  intro n
  induction n with
  | zero =>
    intro x2 x3 σ V hp
    simp only [q_X5_makeNew_b62] at hp
    cases hp
  | succ n ih =>
    intro x2 x3 σ V hp
    simp only [q_X5_makeNew_b62] at hp
    refine pv_iload_n C 2 dX5_makeNew_62 rfl ?_
    refine pv_if_le (tgt := 85) C hp dX5_makeNew_63 (by decide) (fun hp => ?_) (fun hp => ?_)
    · refine pv_aload_n C 0 dX5_makeNew_85 rfl ?_
      refine pv_getR C (ci := 4) (k := 2) gwX5 rfl (Nat.le_of_ble_eq_true rfl) fl_X5_12 rfl rfl rfl (j := 17) rfl rfl dX5_makeNew_86 ?_
      refine pv_iconst C hp dX5_makeNew_89 (by decide) (fun v8 hp => ?_)
      refine pv_bipush C hp dX5_makeNew_90 (by decide) (fun v9 hp => ?_)
      refine pv_iconst C hp dX5_makeNew_92 (by decide) (fun v10 hp => ?_)
      refine pv_callV C (As := [.int v8, .int v9, .int v10]) (rest := []) (b := 17) (kd1 := 0) hp (fun q1 h9 => c_X3_add l D cy h9) wB_yX3_add ml_X5_124 im_yX3_add se_yX3_add (ci := 2) rfl rfl rfl rfl rfl (Nat.le_of_ble_eq_true rfl) ⟨(Nat.le_of_ble_eq_true rfl), (Nat.le_of_ble_eq_true rfl)⟩ dX5_makeNew_93 rfl rfl (fun _ σ V hp => ?_)
      refine pv_iconst C hp dX5_makeNew_96 (by decide) (fun v11 hp => ?_)
      refine pv_istore_n (loc' := [(3, .int v11), (0, .ref 16), (2, .int x2)]) C dX5_makeNew_97 (by decide) rfl ?_
      refine pv_sub [1, 2, 0] rfl ?_
      exact w_X5_makeNew_b98 C hr N _ _ _ _ hp
    · refine pv_aload_n C 0 dX5_makeNew_66 rfl ?_
      refine pv_getR C (ci := 4) (k := 2) gwX5 rfl (Nat.le_of_ble_eq_true rfl) fl_X5_12 rfl rfl rfl (j := 17) rfl rfl dX5_makeNew_67 ?_
      refine pv_iconst C hp dX5_makeNew_70 (by decide) (fun v12 hp => ?_)
      refine pv_bipush C hp dX5_makeNew_71 (by decide) (fun v13 hp => ?_)
      refine pv_iload_n C 2 dX5_makeNew_73 rfl ?_
      refine pv_iadd C hp dX5_makeNew_74 (fun v14 hp => ?_)
      refine pv_iconst C hp dX5_makeNew_75 (by decide) (fun v15 hp => ?_)
      refine pv_callV C (As := [.int v12, .int v14, .int v15]) (rest := []) (b := 17) (kd1 := 0) hp (fun q1 h9 => c_X3_add l D cy h9) wB_yX3_add ml_X5_124 im_yX3_add se_yX3_add (ci := 2) rfl rfl rfl rfl rfl (Nat.le_of_ble_eq_true rfl) ⟨(Nat.le_of_ble_eq_true rfl), (Nat.le_of_ble_eq_true rfl)⟩ dX5_makeNew_76 rfl rfl (fun _ σ V hp => ?_)
      refine pv_iinc (L := fun v16 => [(3, .int v16), (0, .ref 16), (2, .int x2)]) C 2 hp dX5_makeNew_79 (by decide) rfl (by decide) (fun _ => rfl) (fun v16 hp => ?_)
      refine pv_goto (tgt := 62) C dX5_makeNew_82 (by decide) ?_
      refine pv_sub [1, 2, 0] rfl ?_
      exact ih _ _ _ _ hp
def q_X5_makeNew (N : Nat) (x1 : Int) (x2 : Int) (V : pvM) : Option pvO :=
  gR V 16 9 fun v17 =>
  aW V 23 480 v17 x1 fun V =>
  gR V 16 9 fun v18 =>
  aW V 24 480 v18 x2 fun V =>
  lI (20) fun v19 =>
  gR V 16 9 fun v20 =>
  lI (0) fun v21 =>
  cL (q_X3_add N v19 v20 v21 V) fun _ V =>
  gR V 16 9 fun v22 =>
  lI (1) fun v23 =>
  lI (pv_w (v22 + v23)) fun v24 =>
  gW V 16 9 v24 fun V =>
  if x2 ≠ 0 then
    lI (2) fun v25 =>
    lI (8) fun v26 =>
    lI (0) fun v27 =>
    cL (q_X3_add N v25 v26 v27 V) fun _ V =>
    q_X5_makeNew_b62 N N x2 x2 V
  else
  rT V 0
set_option maxHeartbeats 4000000 in
set_option maxRecDepth 100000 in
theorem c_X5_makeNew (l : Launch) (D : va_G) (cy : Nat → ClassId) {N : Nat} {x1 : Int32} {x2 : Int32} {V : pvM} {q : pvO} (hp : q_X5_makeNew N x1.toInt x2.toInt V = some q) : pv_Met l yX5_makeNew cX5_makeNew 4 none 4 106 D cy V [.ref 16, .int x1, .int x2] 0 q := by
  unfold q_X5_makeNew at hp
  refine pv_ofW (by decide) (Nat.le_of_ble_eq_true rfl) (fun p e s m args below meth c ad A n0 σ C hr => ?_)
  refine pv_aload_n C 0 dX5_makeNew_0 rfl ?_
  refine pv_getR C (ci := 4) (k := 4) gwX5 rfl (Nat.le_of_ble_eq_true rfl) fl_X5_22 rfl rfl rfl (j := 23) rfl rfl dX5_makeNew_1 ?_
  refine pv_aload_n C 0 dX5_makeNew_4 rfl ?_
  refine pv_getI C (ci := 4) (k := 9) gwX5 rfl (Nat.le_of_ble_eq_true rfl) fl_X5_49 rfl rfl hp rfl rfl dX5_makeNew_5 (fun v17 hp => ?_)
  refine pv_iload_n C 1 dX5_makeNew_8 rfl ?_
  refine pv_iast C hp rfl rfl rfl (fun _ => rfl) dX5_makeNew_9 (fun V hp => ?_)
  refine pv_aload_n C 0 dX5_makeNew_10 rfl ?_
  refine pv_getR C (ci := 4) (k := 5) gwX5 rfl (Nat.le_of_ble_eq_true rfl) fl_X5_25 rfl rfl rfl (j := 24) rfl rfl dX5_makeNew_11 ?_
  refine pv_aload_n C 0 dX5_makeNew_14 rfl ?_
  refine pv_getI C (ci := 4) (k := 9) gwX5 rfl (Nat.le_of_ble_eq_true rfl) fl_X5_49 rfl rfl hp rfl rfl dX5_makeNew_15 (fun v18 hp => ?_)
  refine pv_iload_n C 2 dX5_makeNew_18 rfl ?_
  refine pv_iast C hp rfl rfl rfl (fun _ => rfl) dX5_makeNew_19 (fun V hp => ?_)
  refine pv_aload_n C 0 dX5_makeNew_20 rfl ?_
  refine pv_getR C (ci := 4) (k := 2) gwX5 rfl (Nat.le_of_ble_eq_true rfl) fl_X5_12 rfl rfl rfl (j := 17) rfl rfl dX5_makeNew_21 ?_
  refine pv_bipush C hp dX5_makeNew_24 (by decide) (fun v19 hp => ?_)
  refine pv_aload_n C 0 dX5_makeNew_26 rfl ?_
  refine pv_getI C (ci := 4) (k := 9) gwX5 rfl (Nat.le_of_ble_eq_true rfl) fl_X5_49 rfl rfl hp rfl rfl dX5_makeNew_27 (fun v20 hp => ?_)
  refine pv_iconst C hp dX5_makeNew_30 (by decide) (fun v21 hp => ?_)
  refine pv_callV C (As := [.int v19, .int v20, .int v21]) (rest := []) (b := 17) (kd1 := 0) hp (fun q1 h9 => c_X3_add l D cy h9) wB_yX3_add ml_X5_124 im_yX3_add se_yX3_add (ci := 2) rfl rfl rfl rfl rfl (Nat.le_of_ble_eq_true rfl) ⟨(Nat.le_of_ble_eq_true rfl), (Nat.le_of_ble_eq_true rfl)⟩ dX5_makeNew_31 rfl rfl (fun _ σ V hp => ?_)
  refine pv_aload_n C 0 dX5_makeNew_34 rfl ?_
  refine pv_dup C dX5_makeNew_35 rfl ?_
  refine pv_getI C (ci := 4) (k := 9) gwX5 rfl (Nat.le_of_ble_eq_true rfl) fl_X5_49 rfl rfl hp rfl rfl dX5_makeNew_36 (fun v22 hp => ?_)
  refine pv_iconst C hp dX5_makeNew_39 (by decide) (fun v23 hp => ?_)
  refine pv_iadd C hp dX5_makeNew_40 (fun v24 hp => ?_)
  refine pv_putI C (ci := 4) (k := 9) gwX5 rfl (Nat.le_of_ble_eq_true rfl) fl_X5_49 rfl rfl tyX5_ok nmX5 hp rfl rfl rfl (by decide +kernel) dX5_makeNew_41 (fun V hp => ?_)
  refine pv_iload_n C 2 dX5_makeNew_44 rfl ?_
  refine pv_if_ne (tgt := 49) C hp dX5_makeNew_45 (by decide) (fun hp => ?_) (fun hp => ?_)
  · refine pv_aload_n C 0 dX5_makeNew_49 rfl ?_
    refine pv_getR C (ci := 4) (k := 2) gwX5 rfl (Nat.le_of_ble_eq_true rfl) fl_X5_12 rfl rfl rfl (j := 17) rfl rfl dX5_makeNew_50 ?_
    refine pv_iconst C hp dX5_makeNew_53 (by decide) (fun v25 hp => ?_)
    refine pv_bipush C hp dX5_makeNew_54 (by decide) (fun v26 hp => ?_)
    refine pv_iconst C hp dX5_makeNew_56 (by decide) (fun v27 hp => ?_)
    refine pv_callV C (As := [.int v25, .int v26, .int v27]) (rest := []) (b := 17) (kd1 := 0) hp (fun q1 h9 => c_X3_add l D cy h9) wB_yX3_add ml_X5_124 im_yX3_add se_yX3_add (ci := 2) rfl rfl rfl rfl rfl (Nat.le_of_ble_eq_true rfl) ⟨(Nat.le_of_ble_eq_true rfl), (Nat.le_of_ble_eq_true rfl)⟩ dX5_makeNew_57 rfl rfl (fun _ σ V hp => ?_)
    refine pv_iload_n C 2 dX5_makeNew_60 rfl ?_
    refine pv_istore_n (loc' := [(3, .int x2), (0, .ref 16), (1, .int x1), (2, .int x2)]) C dX5_makeNew_61 (by decide) rfl ?_
    refine pv_sub [1, 3, 0] rfl ?_
    exact w_X5_makeNew_b62 C hr N _ _ _ _ hp
  · exact pv_vret C rfl hp hr dX5_makeNew_48
def q_X5_makeJoin_b138 (N : Nat) (r57 : Int → Int → Int → Int → Int → pvM → Option pvO) (x1 : Int) (x3 : Int) (x4 : Int) (x5 : Int) (x6 : Int) (V : pvM) : Option pvO :=
  lI (pv_w (x6 + (1))) fun v1 =>
  r57 x1 x3 x4 x5 v1 V
set_option maxHeartbeats 4000000 in
set_option maxRecDepth 100000 in
theorem w_X5_makeJoin_b138 {p : Program} {l : Launch} {e : Env} {s : State} {m : MethodId} {args : Array Value} {below : List Frame} {meth : Method} {c : Code} {D : va_G} {cy : Nat → ClassId} {A : Nat → Prop} {n0 : Nat} {ad0 : Nat → Nat} {V0 : pvM} {q : pvO} (C : pz_C p s m args meth c cX5_makeJoin 7 yX5_makeJoin.cls D cy A) (hr : meth.sig.returnType = none) {N : Nat} {r57 : Int → Int → Int → Int → Int → pvM → Option pvO} (H57 : ∀ (x1 : Int32) (x3 : Int32) (x4 : Int32) (x5 : Int32) (x6 : Int32) (σ : pzS) (V : pvM), r57 x1.toInt x3.toInt x4.toInt x5.toInt x6.toInt V = some q → pv_W p l e 4 106 s m args below meth c 7 D cy A n0 ad0 (pv_Q below D cy n0 ad0 0 V0 q A args s) V0 σ V 57 [(0, .ref 16), (1, .int x1), (2, .ref 2), (3, .int x3), (4, .int x4), (5, .int x5), (6, .int x6)] []) {x1 : Int32} {x3 : Int32} {x4 : Int32} {x5 : Int32} {x6 : Int32} {σ : pzS} {V : pvM} (hp : q_X5_makeJoin_b138 N r57 x1.toInt x3.toInt x4.toInt x5.toInt x6.toInt V = some q) : pv_W p l e 4 106 s m args below meth c 7 D cy A n0 ad0 (pv_Q below D cy n0 ad0 0 V0 q A args s) V0 σ V 138 [(0, .ref 16), (1, .int x1), (2, .ref 2), (3, .int x3), (4, .int x4), (5, .int x5), (6, .int x6)] [] := by
  unfold q_X5_makeJoin_b138 at hp
  refine pv_iinc (L := fun v1 => [(6, .int v1), (0, .ref 16), (1, .int x1), (2, .ref 2), (3, .int x3), (4, .int x4), (5, .int x5)]) C 6 hp dX5_makeJoin_138 (by decide) rfl (by decide) (fun _ => rfl) (fun v1 hp => ?_)
  refine pv_goto (tgt := 57) C dX5_makeJoin_141 (by decide) ?_
  refine pv_sub [1, 2, 3, 4, 5, 6, 0] rfl ?_
  exact H57 _ _ _ _ _ _ _ hp
def q_X5_makeJoin_b111 (N : Nat) (r57 : Int → Int → Int → Int → Int → pvM → Option pvO) (x1 : Int) (x3 : Int) (x4 : Int) (x5 : Int) (x6 : Int) (V : pvM) : Option pvO :=
  lI (1) fun v2 =>
  lI (8) fun v3 =>
  lI (pv_w (v3 + x3)) fun v4 =>
  lI (0) fun v5 =>
  cL (q_X3_add N v2 v4 v5 V) fun _ V =>
  lI (26) fun v6 =>
  lI (0) fun v7 =>
  lI (0) fun v8 =>
  cL (q_X3_add N v6 v7 v8 V) fun _ V =>
  lI (pv_w (x3 + (1))) fun v9 =>
  q_X5_makeJoin_b138 N r57 x1 v9 x4 x5 x6 V
set_option maxHeartbeats 4000000 in
set_option maxRecDepth 100000 in
theorem w_X5_makeJoin_b111 {p : Program} {l : Launch} {e : Env} {s : State} {m : MethodId} {args : Array Value} {below : List Frame} {meth : Method} {c : Code} {D : va_G} {cy : Nat → ClassId} {A : Nat → Prop} {n0 : Nat} {ad0 : Nat → Nat} {V0 : pvM} {q : pvO} (C : pz_C p s m args meth c cX5_makeJoin 7 yX5_makeJoin.cls D cy A) (hr : meth.sig.returnType = none) {N : Nat} {r57 : Int → Int → Int → Int → Int → pvM → Option pvO} (H57 : ∀ (x1 : Int32) (x3 : Int32) (x4 : Int32) (x5 : Int32) (x6 : Int32) (σ : pzS) (V : pvM), r57 x1.toInt x3.toInt x4.toInt x5.toInt x6.toInt V = some q → pv_W p l e 4 106 s m args below meth c 7 D cy A n0 ad0 (pv_Q below D cy n0 ad0 0 V0 q A args s) V0 σ V 57 [(0, .ref 16), (1, .int x1), (2, .ref 2), (3, .int x3), (4, .int x4), (5, .int x5), (6, .int x6)] []) {x1 : Int32} {x3 : Int32} {x4 : Int32} {x5 : Int32} {x6 : Int32} {σ : pzS} {V : pvM} (hp : q_X5_makeJoin_b111 N r57 x1.toInt x3.toInt x4.toInt x5.toInt x6.toInt V = some q) : pv_W p l e 4 106 s m args below meth c 7 D cy A n0 ad0 (pv_Q below D cy n0 ad0 0 V0 q A args s) V0 σ V 111 [(0, .ref 16), (1, .int x1), (2, .ref 2), (3, .int x3), (4, .int x4), (5, .int x5), (6, .int x6)] [] := by
  unfold q_X5_makeJoin_b111 at hp
  refine pv_aload_n C 0 dX5_makeJoin_111 rfl ?_
  refine pv_getR C (ci := 4) (k := 2) gwX5 rfl (Nat.le_of_ble_eq_true rfl) fl_X5_12 rfl rfl rfl (j := 17) rfl rfl dX5_makeJoin_112 ?_
  refine pv_iconst C hp dX5_makeJoin_115 (by decide) (fun v2 hp => ?_)
  refine pv_bipush C hp dX5_makeJoin_116 (by decide) (fun v3 hp => ?_)
  refine pv_iload_n C 3 dX5_makeJoin_118 rfl ?_
  refine pv_iadd C hp dX5_makeJoin_119 (fun v4 hp => ?_)
  refine pv_iconst C hp dX5_makeJoin_120 (by decide) (fun v5 hp => ?_)
  refine pv_callV C (As := [.int v2, .int v4, .int v5]) (rest := []) (b := 17) (kd1 := 0) hp (fun q1 h9 => c_X3_add l D cy h9) wB_yX3_add ml_X5_124 im_yX3_add se_yX3_add (ci := 2) rfl rfl rfl rfl rfl (Nat.le_of_ble_eq_true rfl) ⟨(Nat.le_of_ble_eq_true rfl), (Nat.le_of_ble_eq_true rfl)⟩ dX5_makeJoin_121 rfl rfl (fun _ σ V hp => ?_)
  refine pv_aload_n C 0 dX5_makeJoin_124 rfl ?_
  refine pv_getR C (ci := 4) (k := 2) gwX5 rfl (Nat.le_of_ble_eq_true rfl) fl_X5_12 rfl rfl rfl (j := 17) rfl rfl dX5_makeJoin_125 ?_
  refine pv_bipush C hp dX5_makeJoin_128 (by decide) (fun v6 hp => ?_)
  refine pv_iconst C hp dX5_makeJoin_130 (by decide) (fun v7 hp => ?_)
  refine pv_iconst C hp dX5_makeJoin_131 (by decide) (fun v8 hp => ?_)
  refine pv_callV C (As := [.int v6, .int v7, .int v8]) (rest := []) (b := 17) (kd1 := 0) hp (fun q1 h9 => c_X3_add l D cy h9) wB_yX3_add ml_X5_124 im_yX3_add se_yX3_add (ci := 2) rfl rfl rfl rfl rfl (Nat.le_of_ble_eq_true rfl) ⟨(Nat.le_of_ble_eq_true rfl), (Nat.le_of_ble_eq_true rfl)⟩ dX5_makeJoin_132 rfl rfl (fun _ σ V hp => ?_)
  refine pv_iinc (L := fun v9 => [(3, .int v9), (0, .ref 16), (1, .int x1), (2, .ref 2), (4, .int x4), (5, .int x5), (6, .int x6)]) C 3 hp dX5_makeJoin_135 (by decide) rfl (by decide) (fun _ => rfl) (fun v9 hp => ?_)
  refine pv_sub [1, 2, 3, 0, 4, 5, 6] rfl ?_
  exact w_X5_makeJoin_b138 C hr H57 hp
def q_X5_makeJoin_b57 (N : Nat) : Nat → Int → Int → Int → Int → Int → pvM → Option pvO
  | 0 => fun _ _ _ _ _ _ => none
  | n + 1 => fun x1 x3 x4 x5 x6 V =>
    cL (q_X7_lengthOf N x1 V) fun v10 V =>
    if v10 ≤ x6 then
      if x5 ≤ 0 then
        rT V 0
      else
      lI (25) fun v11 =>
      cL (q_X3_add N v11 x4 x5 V) fun _ V =>
      rT V 0
    else
    cL (q_X7_isHole N x1 x6 V) fun v12 V =>
    if v12 ≠ 0 then
      if x5 ≤ 0 then
        q_X5_makeJoin_b111 N (q_X5_makeJoin_b57 N n) x1 x3 x4 x5 x6 V
      else
      lI (25) fun v13 =>
      cL (q_X3_add N v13 x4 x5 V) fun _ V =>
      lI (pv_w (x4 + x5)) fun v14 =>
      lI (0) fun v15 =>
      q_X5_makeJoin_b111 N (q_X5_makeJoin_b57 N n) x1 x3 v14 v15 x6 V
    else
    lI (pv_w (x5 + (1))) fun v16 =>
    q_X5_makeJoin_b138 N (q_X5_makeJoin_b57 N n) x1 x3 x4 v16 x6 V
set_option maxHeartbeats 4000000 in
set_option maxRecDepth 100000 in
theorem w_X5_makeJoin_b57 {p : Program} {l : Launch} {e : Env} {s : State} {m : MethodId} {args : Array Value} {below : List Frame} {meth : Method} {c : Code} {D : va_G} {cy : Nat → ClassId} {A : Nat → Prop} {n0 : Nat} {ad0 : Nat → Nat} {V0 : pvM} {q : pvO} (C : pz_C p s m args meth c cX5_makeJoin 7 yX5_makeJoin.cls D cy A) (hr : meth.sig.returnType = none) {N : Nat} : ∀ (n : Nat) (x1 : Int32) (x3 : Int32) (x4 : Int32) (x5 : Int32) (x6 : Int32) (σ : pzS) (V : pvM), q_X5_makeJoin_b57 N n x1.toInt x3.toInt x4.toInt x5.toInt x6.toInt V = some q → pv_W p l e 4 106 s m args below meth c 7 D cy A n0 ad0 (pv_Q below D cy n0 ad0 0 V0 q A args s) V0 σ V 57 [(0, .ref 16), (1, .int x1), (2, .ref 2), (3, .int x3), (4, .int x4), (5, .int x5), (6, .int x6)] [] := by
  intro n
  induction n with
  | zero =>
    intro x1 x3 x4 x5 x6 σ V hp
    simp only [q_X5_makeJoin_b57] at hp
    cases hp
  | succ n ih =>
    intro x1 x3 x4 x5 x6 σ V hp
    simp only [q_X5_makeJoin_b57] at hp
    refine pv_iload C 6 dX5_makeJoin_57 rfl ?_
    refine pv_aload_n C 2 dX5_makeJoin_59 rfl ?_
    refine pv_iload_n C 1 dX5_makeJoin_60 rfl ?_
    refine pv_callV C (As := [.int x1]) (rest := [.int x6]) (b := 2) (kd1 := 1) hp (fun q1 h9 => c_X7_lengthOf l D cy h9) wB_yX7_lengthOf ml_X5_143 im_yX7_lengthOf se_yX7_lengthOf (ci := 6) rfl rfl rfl rfl rfl (Nat.le_of_ble_eq_true rfl) ⟨(Nat.le_of_ble_eq_true rfl), (Nat.le_of_ble_eq_true rfl)⟩ dX5_makeJoin_61 rfl rfl (fun v10 σ V hp => ?_)
    refine pv_icmp_ge (tgt := 144) C hp dX5_makeJoin_64 (by decide) (fun hp => ?_) (fun hp => ?_)
    · refine pv_iload C 5 dX5_makeJoin_144 rfl ?_
      refine pv_if_le (tgt := 162) C hp dX5_makeJoin_146 (by decide) (fun hp => ?_) (fun hp => ?_)
      · exact pv_vret C rfl hp hr dX5_makeJoin_162
      · refine pv_aload_n C 0 dX5_makeJoin_149 rfl ?_
        refine pv_getR C (ci := 4) (k := 2) gwX5 rfl (Nat.le_of_ble_eq_true rfl) fl_X5_12 rfl rfl rfl (j := 17) rfl rfl dX5_makeJoin_150 ?_
        refine pv_bipush C hp dX5_makeJoin_153 (by decide) (fun v11 hp => ?_)
        refine pv_iload C 4 dX5_makeJoin_155 rfl ?_
        refine pv_iload C 5 dX5_makeJoin_157 rfl ?_
        refine pv_callV C (As := [.int v11, .int x4, .int x5]) (rest := []) (b := 17) (kd1 := 0) hp (fun q1 h9 => c_X3_add l D cy h9) wB_yX3_add ml_X5_124 im_yX3_add se_yX3_add (ci := 2) rfl rfl rfl rfl rfl (Nat.le_of_ble_eq_true rfl) ⟨(Nat.le_of_ble_eq_true rfl), (Nat.le_of_ble_eq_true rfl)⟩ dX5_makeJoin_159 rfl rfl (fun _ σ V hp => ?_)
        exact pv_vret C rfl hp hr dX5_makeJoin_162
    · refine pv_aload_n C 2 dX5_makeJoin_67 rfl ?_
      refine pv_iload_n C 1 dX5_makeJoin_68 rfl ?_
      refine pv_iload C 6 dX5_makeJoin_69 rfl ?_
      refine pv_callV C (As := [.int x1, .int x6]) (rest := []) (b := 2) (kd1 := 1) hp (fun q1 h9 => c_X7_isHole l D cy h9) wB_yX7_isHole ml_X5_144 im_yX7_isHole se_yX7_isHole (ci := 6) rfl rfl rfl rfl rfl (Nat.le_of_ble_eq_true rfl) ⟨(Nat.le_of_ble_eq_true rfl), (Nat.le_of_ble_eq_true rfl)⟩ dX5_makeJoin_71 rfl rfl (fun v12 σ V hp => ?_)
      refine pv_if_ne (tgt := 83) C hp dX5_makeJoin_74 (by decide) (fun hp => ?_) (fun hp => ?_)
      · refine pv_iload C 5 dX5_makeJoin_83 rfl ?_
        refine pv_if_le (tgt := 111) C hp dX5_makeJoin_85 (by decide) (fun hp => ?_) (fun hp => ?_)
        · exact w_X5_makeJoin_b111 C hr ih hp
        · refine pv_aload_n C 0 dX5_makeJoin_88 rfl ?_
          refine pv_getR C (ci := 4) (k := 2) gwX5 rfl (Nat.le_of_ble_eq_true rfl) fl_X5_12 rfl rfl rfl (j := 17) rfl rfl dX5_makeJoin_89 ?_
          refine pv_bipush C hp dX5_makeJoin_92 (by decide) (fun v13 hp => ?_)
          refine pv_iload C 4 dX5_makeJoin_94 rfl ?_
          refine pv_iload C 5 dX5_makeJoin_96 rfl ?_
          refine pv_callV C (As := [.int v13, .int x4, .int x5]) (rest := []) (b := 17) (kd1 := 0) hp (fun q1 h9 => c_X3_add l D cy h9) wB_yX3_add ml_X5_124 im_yX3_add se_yX3_add (ci := 2) rfl rfl rfl rfl rfl (Nat.le_of_ble_eq_true rfl) ⟨(Nat.le_of_ble_eq_true rfl), (Nat.le_of_ble_eq_true rfl)⟩ dX5_makeJoin_98 rfl rfl (fun _ σ V hp => ?_)
          refine pv_iload C 4 dX5_makeJoin_101 rfl ?_
          refine pv_iload C 5 dX5_makeJoin_103 rfl ?_
          refine pv_iadd C hp dX5_makeJoin_105 (fun v14 hp => ?_)
          refine pv_istore (loc' := [(4, .int v14), (0, .ref 16), (1, .int x1), (2, .ref 2), (3, .int x3), (5, .int x5), (6, .int x6)]) C dX5_makeJoin_106 (by decide) rfl ?_
          refine pv_iconst C hp dX5_makeJoin_108 (by decide) (fun v15 hp => ?_)
          refine pv_istore (loc' := [(5, .int v15), (4, .int v14), (0, .ref 16), (1, .int x1), (2, .ref 2), (3, .int x3), (6, .int x6)]) C dX5_makeJoin_109 (by decide) rfl ?_
          refine pv_sub [2, 3, 4, 5, 1, 0, 6] rfl ?_
          exact w_X5_makeJoin_b111 C hr ih hp
      · refine pv_iinc (L := fun v16 => [(5, .int v16), (0, .ref 16), (1, .int x1), (2, .ref 2), (3, .int x3), (4, .int x4), (6, .int x6)]) C 5 hp dX5_makeJoin_77 (by decide) rfl (by decide) (fun _ => rfl) (fun v16 hp => ?_)
        refine pv_goto (tgt := 138) C dX5_makeJoin_80 (by decide) ?_
        refine pv_sub [1, 2, 3, 4, 5, 0, 6] rfl ?_
        exact w_X5_makeJoin_b138 C hr ih hp
def q_X5_makeJoin_b8 (N : Nat) : Nat → Int → Int → pvM → Option pvO
  | 0 => fun _ _ _ => none
  | n + 1 => fun x1 x3 V =>
    if x3 < 0 then
      lI (24) fun v17 =>
      lI (0) fun v18 =>
      lI (0) fun v19 =>
      cL (q_X3_add N v17 v18 v19 V) fun _ V =>
      lI (0) fun v20 =>
      cL (q_X7_firstLetterOf N x1 V) fun v21 V =>
      lI (0) fun v22 =>
      lI (0) fun v23 =>
      q_X5_makeJoin_b57 N N x1 v20 v21 v22 v23 V
    else
    lI (2) fun v24 =>
    lI (8) fun v25 =>
    lI (pv_w (v25 + x3)) fun v26 =>
    lI (0) fun v27 =>
    cL (q_X3_add N v24 v26 v27 V) fun _ V =>
    lI (pv_w (x3 + (-1))) fun v28 =>
    q_X5_makeJoin_b8 N n x1 v28 V
set_option maxHeartbeats 4000000 in
set_option maxRecDepth 100000 in
theorem w_X5_makeJoin_b8 {p : Program} {l : Launch} {e : Env} {s : State} {m : MethodId} {args : Array Value} {below : List Frame} {meth : Method} {c : Code} {D : va_G} {cy : Nat → ClassId} {A : Nat → Prop} {n0 : Nat} {ad0 : Nat → Nat} {V0 : pvM} {q : pvO} (C : pz_C p s m args meth c cX5_makeJoin 7 yX5_makeJoin.cls D cy A) (hr : meth.sig.returnType = none) {N : Nat} : ∀ (n : Nat) (x1 : Int32) (x3 : Int32) (σ : pzS) (V : pvM), q_X5_makeJoin_b8 N n x1.toInt x3.toInt V = some q → pv_W p l e 4 106 s m args below meth c 7 D cy A n0 ad0 (pv_Q below D cy n0 ad0 0 V0 q A args s) V0 σ V 8 [(0, .ref 16), (1, .int x1), (2, .ref 2), (3, .int x3)] [] := by
  intro n
  induction n with
  | zero =>
    intro x1 x3 σ V hp
    simp only [q_X5_makeJoin_b8] at hp
    cases hp
  | succ n ih =>
    intro x1 x3 σ V hp
    simp only [q_X5_makeJoin_b8] at hp
    refine pv_iload_n C 3 dX5_makeJoin_8 rfl ?_
    refine pv_if_lt (tgt := 31) C hp dX5_makeJoin_9 (by decide) (fun hp => ?_) (fun hp => ?_)
    · refine pv_aload_n C 0 dX5_makeJoin_31 rfl ?_
      refine pv_getR C (ci := 4) (k := 2) gwX5 rfl (Nat.le_of_ble_eq_true rfl) fl_X5_12 rfl rfl rfl (j := 17) rfl rfl dX5_makeJoin_32 ?_
      refine pv_bipush C hp dX5_makeJoin_35 (by decide) (fun v17 hp => ?_)
      refine pv_iconst C hp dX5_makeJoin_37 (by decide) (fun v18 hp => ?_)
      refine pv_iconst C hp dX5_makeJoin_38 (by decide) (fun v19 hp => ?_)
      refine pv_callV C (As := [.int v17, .int v18, .int v19]) (rest := []) (b := 17) (kd1 := 0) hp (fun q1 h9 => c_X3_add l D cy h9) wB_yX3_add ml_X5_124 im_yX3_add se_yX3_add (ci := 2) rfl rfl rfl rfl rfl (Nat.le_of_ble_eq_true rfl) ⟨(Nat.le_of_ble_eq_true rfl), (Nat.le_of_ble_eq_true rfl)⟩ dX5_makeJoin_39 rfl rfl (fun _ σ V hp => ?_)
      refine pv_iconst C hp dX5_makeJoin_42 (by decide) (fun v20 hp => ?_)
      refine pv_istore_n (loc' := [(3, .int v20), (0, .ref 16), (1, .int x1), (2, .ref 2)]) C dX5_makeJoin_43 (by decide) rfl ?_
      refine pv_aload_n C 3 dX5_makeJoin_44 rfl ?_
      refine pv_iload_n C 2 dX5_makeJoin_45 rfl ?_
      refine pv_callV C (As := [.int x1]) (rest := []) (b := 2) (kd1 := 1) hp (fun q1 h9 => c_X7_firstLetterOf l D cy h9) wB_yX7_firstLetterOf ml_X5_140 im_yX7_firstLetterOf se_yX7_firstLetterOf (ci := 6) rfl rfl rfl rfl rfl (Nat.le_of_ble_eq_true rfl) ⟨(Nat.le_of_ble_eq_true rfl), (Nat.le_of_ble_eq_true rfl)⟩ dX5_makeJoin_46 rfl rfl (fun v21 σ V hp => ?_)
      refine pv_istore (loc' := [(4, .int v21), (3, .int v20), (0, .ref 16), (1, .int x1), (2, .ref 2)]) C dX5_makeJoin_49 (by decide) rfl ?_
      refine pv_iconst C hp dX5_makeJoin_51 (by decide) (fun v22 hp => ?_)
      refine pv_istore (loc' := [(5, .int v22), (4, .int v21), (3, .int v20), (0, .ref 16), (1, .int x1), (2, .ref 2)]) C dX5_makeJoin_52 (by decide) rfl ?_
      refine pv_iconst C hp dX5_makeJoin_54 (by decide) (fun v23 hp => ?_)
      refine pv_istore (loc' := [(6, .int v23), (5, .int v22), (4, .int v21), (3, .int v20), (0, .ref 16), (1, .int x1), (2, .ref 2)]) C dX5_makeJoin_55 (by decide) rfl ?_
      refine pv_sub [4, 5, 6, 3, 2, 1, 0] rfl ?_
      exact w_X5_makeJoin_b57 C hr N _ _ _ _ _ _ _ hp
    · refine pv_aload_n C 0 dX5_makeJoin_12 rfl ?_
      refine pv_getR C (ci := 4) (k := 2) gwX5 rfl (Nat.le_of_ble_eq_true rfl) fl_X5_12 rfl rfl rfl (j := 17) rfl rfl dX5_makeJoin_13 ?_
      refine pv_iconst C hp dX5_makeJoin_16 (by decide) (fun v24 hp => ?_)
      refine pv_bipush C hp dX5_makeJoin_17 (by decide) (fun v25 hp => ?_)
      refine pv_iload_n C 3 dX5_makeJoin_19 rfl ?_
      refine pv_iadd C hp dX5_makeJoin_20 (fun v26 hp => ?_)
      refine pv_iconst C hp dX5_makeJoin_21 (by decide) (fun v27 hp => ?_)
      refine pv_callV C (As := [.int v24, .int v26, .int v27]) (rest := []) (b := 17) (kd1 := 0) hp (fun q1 h9 => c_X3_add l D cy h9) wB_yX3_add ml_X5_124 im_yX3_add se_yX3_add (ci := 2) rfl rfl rfl rfl rfl (Nat.le_of_ble_eq_true rfl) ⟨(Nat.le_of_ble_eq_true rfl), (Nat.le_of_ble_eq_true rfl)⟩ dX5_makeJoin_22 rfl rfl (fun _ σ V hp => ?_)
      refine pv_iinc (L := fun v28 => [(3, .int v28), (0, .ref 16), (1, .int x1), (2, .ref 2)]) C 3 hp dX5_makeJoin_25 (by decide) rfl (by decide) (fun _ => rfl) (fun v28 hp => ?_)
      refine pv_goto (tgt := 8) C dX5_makeJoin_28 (by decide) ?_
      refine pv_sub [1, 2, 3, 0] rfl ?_
      exact ih _ _ _ _ hp
def q_X5_makeJoin (N : Nat) (x1 : Int) (V : pvM) : Option pvO :=
  cL (q_X7_holesOf N x1 V) fun v29 V =>
  lI (1) fun v30 =>
  lI (pv_w (v29 - v30)) fun v31 =>
  q_X5_makeJoin_b8 N N x1 v31 V
set_option maxHeartbeats 4000000 in
set_option maxRecDepth 100000 in
theorem c_X5_makeJoin (l : Launch) (D : va_G) (cy : Nat → ClassId) {N : Nat} {x1 : Int32} {V : pvM} {q : pvO} (hp : q_X5_makeJoin N x1.toInt V = some q) : pv_Met l yX5_makeJoin cX5_makeJoin 7 none 4 106 D cy V [.ref 16, .int x1, .ref 2] 0 q := by
  unfold q_X5_makeJoin at hp
  refine pv_ofW (by decide) (Nat.le_of_ble_eq_true rfl) (fun p e s m args below meth c ad A n0 σ C hr => ?_)
  refine pv_aload_n C 2 dX5_makeJoin_0 rfl ?_
  refine pv_iload_n C 1 dX5_makeJoin_1 rfl ?_
  refine pv_callV C (As := [.int x1]) (rest := []) (b := 2) (kd1 := 1) hp (fun q1 h9 => c_X7_holesOf l D cy h9) wB_yX7_holesOf ml_X5_135 im_yX7_holesOf se_yX7_holesOf (ci := 6) rfl rfl rfl rfl rfl (Nat.le_of_ble_eq_true rfl) ⟨(Nat.le_of_ble_eq_true rfl), (Nat.le_of_ble_eq_true rfl)⟩ dX5_makeJoin_2 rfl rfl (fun v29 σ V hp => ?_)
  refine pv_iconst C hp dX5_makeJoin_5 (by decide) (fun v30 hp => ?_)
  refine pv_isub C hp dX5_makeJoin_6 (fun v31 hp => ?_)
  refine pv_istore_n (loc' := [(3, .int v31), (0, .ref 16), (1, .int x1), (2, .ref 2)]) C dX5_makeJoin_7 (by decide) rfl ?_
  refine pv_sub [1, 2, 3, 0] rfl ?_
  exact w_X5_makeJoin_b8 C hr N _ _ _ _ hp
def q_X5_makeGroup (N : Nat) (x1 : Int) (x2 : Int) (V : pvM) : Option pvO :=
  cL (q_X6_wordAt N x1 x2 V) fun v1 V =>
  cL (q_X6_firstNumberAt N x1 x2 V) fun v2 V =>
  lI (13) fun v3 =>
  if v1 ≠ v3 then
    lI (14) fun v4 =>
    if v1 ≠ v4 then
      lI (15) fun v5 =>
      if v1 ≠ v5 then
        lI (0) fun v6 =>
        cL (q_X3_add N v1 v2 v6 V) fun _ V =>
        rT V 0
      else
      cL (q_X6_recipes N V) fun _ V =>
      cL (q_X5_makeJoin N v2 V) fun _ V =>
      rT V 0
    else
    lI (22) fun v7 =>
    lI (0) fun v8 =>
    cL (q_X3_add N v7 v2 v8 V) fun _ V =>
    rT V 0
  else
  cL (q_X6_secondNumberAt N x1 x2 V) fun v9 V =>
  cL (q_X5_makeNew N v2 v9 V) fun _ V =>
  rT V 0
set_option maxHeartbeats 4000000 in
set_option maxRecDepth 100000 in
theorem c_X5_makeGroup (l : Launch) (D : va_G) (cy : Nat → ClassId) {N : Nat} {x1 : Int32} {x2 : Int32} {V : pvM} {q : pvO} (hp : q_X5_makeGroup N x1.toInt x2.toInt V = some q) : pv_Met l yX5_makeGroup cX5_makeGroup 5 none 5 132 D cy V [.ref 16, .int x1, .int x2] 0 q := by
  unfold q_X5_makeGroup at hp
  refine pv_ofW (by decide) (Nat.le_of_ble_eq_true rfl) (fun p e s m args below meth c ad A n0 σ C hr => ?_)
  refine pv_aload_n C 0 dX5_makeGroup_0 rfl ?_
  refine pv_getR C (ci := 4) (k := 0) gwX5 rfl (Nat.le_of_ble_eq_true rfl) fl_X5_37 rfl rfl rfl (j := 1) rfl rfl dX5_makeGroup_1 ?_
  refine pv_iload_n C 1 dX5_makeGroup_4 rfl ?_
  refine pv_iload_n C 2 dX5_makeGroup_5 rfl ?_
  refine pv_callV C (As := [.int x1, .int x2]) (rest := []) (b := 1) (kd1 := 1) hp (fun q1 h9 => c_X6_wordAt l D cy h9) wB_yX6_wordAt ml_X5_111 im_yX6_wordAt se_yX6_wordAt (ci := 5) rfl rfl rfl rfl rfl (Nat.le_of_ble_eq_true rfl) ⟨(Nat.le_of_ble_eq_true rfl), (Nat.le_of_ble_eq_true rfl)⟩ dX5_makeGroup_6 rfl rfl (fun v1 σ V hp => ?_)
  refine pv_istore_n (loc' := [(3, .int v1), (0, .ref 16), (1, .int x1), (2, .int x2)]) C dX5_makeGroup_9 (by decide) rfl ?_
  refine pv_aload_n C 1 dX5_makeGroup_10 rfl ?_
  refine pv_getR C (ci := 4) (k := 0) gwX5 rfl (Nat.le_of_ble_eq_true rfl) fl_X5_37 rfl rfl rfl (j := 1) rfl rfl dX5_makeGroup_11 ?_
  refine pv_iload_n C 2 dX5_makeGroup_14 rfl ?_
  refine pv_iload_n C 3 dX5_makeGroup_15 rfl ?_
  refine pv_callV C (As := [.int x1, .int x2]) (rest := []) (b := 1) (kd1 := 1) hp (fun q1 h9 => c_X6_firstNumberAt l D cy h9) wB_yX6_firstNumberAt ml_X5_115 im_yX6_firstNumberAt se_yX6_firstNumberAt (ci := 5) rfl rfl rfl rfl rfl (Nat.le_of_ble_eq_true rfl) ⟨(Nat.le_of_ble_eq_true rfl), (Nat.le_of_ble_eq_true rfl)⟩ dX5_makeGroup_16 rfl rfl (fun v2 σ V hp => ?_)
  refine pv_istore (loc' := [(4, .int v2), (3, .int v1), (0, .ref 16), (1, .int x1), (2, .int x2)]) C dX5_makeGroup_19 (by decide) rfl ?_
  refine pv_iload_n C 1 dX5_makeGroup_21 rfl ?_
  refine pv_bipush C hp dX5_makeGroup_22 (by decide) (fun v3 hp => ?_)
  refine pv_icmp_ne (tgt := 45) C hp dX5_makeGroup_24 (by decide) (fun hp => ?_) (fun hp => ?_)
  · refine pv_iload_n C 1 dX5_makeGroup_45 rfl ?_
    refine pv_bipush C hp dX5_makeGroup_46 (by decide) (fun v4 hp => ?_)
    refine pv_icmp_ne (tgt := 66) C hp dX5_makeGroup_48 (by decide) (fun hp => ?_) (fun hp => ?_)
    · refine pv_iload_n C 1 dX5_makeGroup_66 rfl ?_
      refine pv_bipush C hp dX5_makeGroup_67 (by decide) (fun v5 hp => ?_)
      refine pv_icmp_ne (tgt := 88) C hp dX5_makeGroup_69 (by decide) (fun hp => ?_) (fun hp => ?_)
      · refine pv_aload_n C 2 dX5_makeGroup_88 rfl ?_
        refine pv_getR C (ci := 4) (k := 2) gwX5 rfl (Nat.le_of_ble_eq_true rfl) fl_X5_12 rfl rfl rfl (j := 17) rfl rfl dX5_makeGroup_89 ?_
        refine pv_iload_n C 1 dX5_makeGroup_92 rfl ?_
        refine pv_iload C 0 dX5_makeGroup_93 rfl ?_
        refine pv_iconst C hp dX5_makeGroup_95 (by decide) (fun v6 hp => ?_)
        refine pv_callV C (As := [.int v1, .int v2, .int v6]) (rest := []) (b := 17) (kd1 := 0) hp (fun q1 h9 => c_X3_add l D cy h9) wB_yX3_add ml_X5_124 im_yX3_add se_yX3_add (ci := 2) rfl rfl rfl rfl rfl (Nat.le_of_ble_eq_true rfl) ⟨(Nat.le_of_ble_eq_true rfl), (Nat.le_of_ble_eq_true rfl)⟩ dX5_makeGroup_96 rfl rfl (fun _ σ V hp => ?_)
        exact pv_vret C rfl hp hr dX5_makeGroup_99
      · refine pv_aload_n C 2 dX5_makeGroup_72 rfl ?_
        refine pv_iload C 0 dX5_makeGroup_73 rfl ?_
        refine pv_aload_n C 2 dX5_makeGroup_75 rfl ?_
        refine pv_getR C (ci := 4) (k := 0) gwX5 rfl (Nat.le_of_ble_eq_true rfl) fl_X5_37 rfl rfl rfl (j := 1) rfl rfl dX5_makeGroup_76 ?_
        refine pv_callV C (As := []) (rest := [.int v2, .ref 16]) (b := 1) (kd1 := 5) hp (fun q1 h9 => c_X6_recipes l D cy h9) wB_yX6_recipes ml_X5_127 im_yX6_recipes se_yX6_recipes (ci := 5) rfl rfl rfl rfl rfl (Nat.le_of_ble_eq_true rfl) ⟨(Nat.le_of_ble_eq_true rfl), (Nat.le_of_ble_eq_true rfl)⟩ dX5_makeGroup_79 rfl rfl (fun _ σ V hp => ?_)
        refine pv_callV C (As := [.int v2, .ref 2]) (rest := []) (b := 16) (kd1 := 0) hp (fun q1 h9 => c_X5_makeJoin l D cy h9) wB_yX5_makeJoin ml_X5_131 im_yX5_makeJoin se_yX5_makeJoin (ci := 4) rfl rfl rfl rfl rfl (Nat.le_of_ble_eq_true rfl) ⟨(Nat.le_of_ble_eq_true rfl), (Nat.le_of_ble_eq_true rfl)⟩ dX5_makeGroup_82 rfl rfl (fun _ σ V hp => ?_)
        refine pv_goto (tgt := 99) C dX5_makeGroup_85 (by decide) ?_
        exact pv_vret C rfl hp hr dX5_makeGroup_99
    · refine pv_aload_n C 2 dX5_makeGroup_51 rfl ?_
      refine pv_getR C (ci := 4) (k := 2) gwX5 rfl (Nat.le_of_ble_eq_true rfl) fl_X5_12 rfl rfl rfl (j := 17) rfl rfl dX5_makeGroup_52 ?_
      refine pv_bipush C hp dX5_makeGroup_55 (by decide) (fun v7 hp => ?_)
      refine pv_iload C 0 dX5_makeGroup_57 rfl ?_
      refine pv_iconst C hp dX5_makeGroup_59 (by decide) (fun v8 hp => ?_)
      refine pv_callV C (As := [.int v7, .int v2, .int v8]) (rest := []) (b := 17) (kd1 := 0) hp (fun q1 h9 => c_X3_add l D cy h9) wB_yX3_add ml_X5_124 im_yX3_add se_yX3_add (ci := 2) rfl rfl rfl rfl rfl (Nat.le_of_ble_eq_true rfl) ⟨(Nat.le_of_ble_eq_true rfl), (Nat.le_of_ble_eq_true rfl)⟩ dX5_makeGroup_60 rfl rfl (fun _ σ V hp => ?_)
      refine pv_goto (tgt := 99) C dX5_makeGroup_63 (by decide) ?_
      exact pv_vret C rfl hp hr dX5_makeGroup_99
  · refine pv_aload_n C 2 dX5_makeGroup_27 rfl ?_
    refine pv_iload C 0 dX5_makeGroup_28 rfl ?_
    refine pv_aload_n C 2 dX5_makeGroup_30 rfl ?_
    refine pv_getR C (ci := 4) (k := 0) gwX5 rfl (Nat.le_of_ble_eq_true rfl) fl_X5_37 rfl rfl rfl (j := 1) rfl rfl dX5_makeGroup_31 ?_
    refine pv_iload_n C 3 dX5_makeGroup_34 rfl ?_
    refine pv_iload_n C 4 dX5_makeGroup_35 rfl ?_
    refine pv_callV C (As := [.int x1, .int x2]) (rest := [.int v2, .ref 16]) (b := 1) (kd1 := 1) hp (fun q1 h9 => c_X6_secondNumberAt l D cy h9) wB_yX6_secondNumberAt ml_X5_118 im_yX6_secondNumberAt se_yX6_secondNumberAt (ci := 5) rfl rfl rfl rfl rfl (Nat.le_of_ble_eq_true rfl) ⟨(Nat.le_of_ble_eq_true rfl), (Nat.le_of_ble_eq_true rfl)⟩ dX5_makeGroup_36 rfl rfl (fun v9 σ V hp => ?_)
    refine pv_callV C (As := [.int v2, .int v9]) (rest := []) (b := 16) (kd1 := 0) hp (fun q1 h9 => c_X5_makeNew l D cy h9) wB_yX5_makeNew ml_X5_121 im_yX5_makeNew se_yX5_makeNew (ci := 4) rfl rfl rfl rfl rfl (Nat.le_of_ble_eq_true rfl) ⟨(Nat.le_of_ble_eq_true rfl), (Nat.le_of_ble_eq_true rfl)⟩ dX5_makeGroup_39 rfl rfl (fun _ σ V hp => ?_)
    refine pv_goto (tgt := 99) C dX5_makeGroup_42 (by decide) ?_
    exact pv_vret C rfl hp hr dX5_makeGroup_99
def q_X5_measure_b78 (N : Nat) : Nat → Int → Int → Int → pvM → Option pvO
  | 0 => fun _ _ _ _ => none
  | n + 1 => fun x1 x8 x9 V =>
    cL (q_X3_length N V) fun v1 V =>
    if v1 ≤ x9 then
      rT V 0
    else
    cL (q_X3_word N x9 V) fun v2 V =>
    cL (q_X3_firstNumber N x9 V) fun v3 V =>
    cL (q_X3_secondNumber N x9 V) fun v4 V =>
    cL (q_X5_risesBy N v2 v3 v4 V) fun v5 V =>
    lI (pv_w (x8 + v5)) fun v6 =>
    aR V 26 12 x1 fun v7 =>
    lI (if v7 < v6 then v6 else v7) fun v8 =>
    aW V 26 12 x1 v8 fun V =>
    lI (pv_w (x9 + (1))) fun v9 =>
    q_X5_measure_b78 N n x1 v6 v9 V
set_option maxHeartbeats 4000000 in
set_option maxRecDepth 100000 in
theorem w_X5_measure_b78 {p : Program} {l : Launch} {e : Env} {s : State} {m : MethodId} {args : Array Value} {below : List Frame} {meth : Method} {c : Code} {D : va_G} {cy : Nat → ClassId} {A : Nat → Prop} {n0 : Nat} {ad0 : Nat → Nat} {V0 : pvM} {q : pvO} (C : pz_C p s m args meth c cX5_measure 10 yX5_measure.cls D cy A) (hr : meth.sig.returnType = none) {N : Nat} : ∀ (n : Nat) (x1 : Int32) (x8 : Int32) (x9 : Int32) (σ : pzS) (V : pvM), q_X5_measure_b78 N n x1.toInt x8.toInt x9.toInt V = some q → pv_W p l e 3 67 s m args below meth c 10 D cy A n0 ad0 (pv_Q below D cy n0 ad0 0 V0 q A args s) V0 σ V 78 [(0, .ref 16), (1, .int x1), (8, .int x8), (9, .int x9)] [] := by
  intro n
  induction n with
  | zero =>
    intro x1 x8 x9 σ V hp
    simp only [q_X5_measure_b78] at hp
    cases hp
  | succ n ih =>
    intro x1 x8 x9 σ V hp
    simp only [q_X5_measure_b78] at hp
    refine pv_iload C 3 dX5_measure_78 rfl ?_
    refine pv_aload_n C 0 dX5_measure_80 rfl ?_
    refine pv_getR C (ci := 4) (k := 2) gwX5 rfl (Nat.le_of_ble_eq_true rfl) fl_X5_12 rfl rfl rfl (j := 17) rfl rfl dX5_measure_81 ?_
    refine pv_callV C (As := []) (rest := [.int x9]) (b := 17) (kd1 := 1) hp (fun q1 h9 => c_X3_length l D cy h9) wB_yX3_length ml_X5_80 im_yX3_length se_yX3_length (ci := 2) rfl rfl rfl rfl rfl (Nat.le_of_ble_eq_true rfl) ⟨(Nat.le_of_ble_eq_true rfl), (Nat.le_of_ble_eq_true rfl)⟩ dX5_measure_84 rfl rfl (fun v1 σ V hp => ?_)
    refine pv_icmp_ge (tgt := 149) C hp dX5_measure_87 (by decide) (fun hp => ?_) (fun hp => ?_)
    · exact pv_vret C rfl hp hr dX5_measure_149
    · refine pv_iload C 2 dX5_measure_90 rfl ?_
      refine pv_aload_n C 0 dX5_measure_92 rfl ?_
      refine pv_aload_n C 0 dX5_measure_93 rfl ?_
      refine pv_getR C (ci := 4) (k := 2) gwX5 rfl (Nat.le_of_ble_eq_true rfl) fl_X5_12 rfl rfl rfl (j := 17) rfl rfl dX5_measure_94 ?_
      refine pv_iload C 3 dX5_measure_97 rfl ?_
      refine pv_callV C (As := [.int x9]) (rest := [.ref 16, .int x8]) (b := 17) (kd1 := 1) hp (fun q1 h9 => c_X3_word l D cy h9) wB_yX3_word ml_X5_59 im_yX3_word se_yX3_word (ci := 2) rfl rfl rfl rfl rfl (Nat.le_of_ble_eq_true rfl) ⟨(Nat.le_of_ble_eq_true rfl), (Nat.le_of_ble_eq_true rfl)⟩ dX5_measure_99 rfl rfl (fun v2 σ V hp => ?_)
      refine pv_aload_n C 0 dX5_measure_102 rfl ?_
      refine pv_getR C (ci := 4) (k := 2) gwX5 rfl (Nat.le_of_ble_eq_true rfl) fl_X5_12 rfl rfl rfl (j := 17) rfl rfl dX5_measure_103 ?_
      refine pv_iload C 3 dX5_measure_106 rfl ?_
      refine pv_callV C (As := [.int x9]) (rest := [.int v2, .ref 16, .int x8]) (b := 17) (kd1 := 1) hp (fun q1 h9 => c_X3_firstNumber l D cy h9) wB_yX3_firstNumber ml_X5_63 im_yX3_firstNumber se_yX3_firstNumber (ci := 2) rfl rfl rfl rfl rfl (Nat.le_of_ble_eq_true rfl) ⟨(Nat.le_of_ble_eq_true rfl), (Nat.le_of_ble_eq_true rfl)⟩ dX5_measure_108 rfl rfl (fun v3 σ V hp => ?_)
      refine pv_aload_n C 0 dX5_measure_111 rfl ?_
      refine pv_getR C (ci := 4) (k := 2) gwX5 rfl (Nat.le_of_ble_eq_true rfl) fl_X5_12 rfl rfl rfl (j := 17) rfl rfl dX5_measure_112 ?_
      refine pv_iload C 3 dX5_measure_115 rfl ?_
      refine pv_callV C (As := [.int x9]) (rest := [.int v3, .int v2, .ref 16, .int x8]) (b := 17) (kd1 := 1) hp (fun q1 h9 => c_X3_secondNumber l D cy h9) wB_yX3_secondNumber ml_X5_66 im_yX3_secondNumber se_yX3_secondNumber (ci := 2) rfl rfl rfl rfl rfl (Nat.le_of_ble_eq_true rfl) ⟨(Nat.le_of_ble_eq_true rfl), (Nat.le_of_ble_eq_true rfl)⟩ dX5_measure_117 rfl rfl (fun v4 σ V hp => ?_)
      refine pv_callV C (As := [.int v2, .int v3, .int v4]) (rest := [.int x8]) (b := 16) (kd1 := 1) hp (fun q1 h9 => c_X5_risesBy l D cy h9) wB_yX5_risesBy ml_X5_157 im_yX5_risesBy se_yX5_risesBy (ci := 4) rfl rfl rfl rfl rfl (Nat.le_of_ble_eq_true rfl) ⟨(Nat.le_of_ble_eq_true rfl), (Nat.le_of_ble_eq_true rfl)⟩ dX5_measure_120 rfl rfl (fun v5 σ V hp => ?_)
      refine pv_iadd C hp dX5_measure_123 (fun v6 hp => ?_)
      refine pv_istore (loc' := [(8, .int v6), (0, .ref 16), (1, .int x1), (9, .int x9)]) C dX5_measure_124 (by decide) rfl ?_
      refine pv_aload_n C 1 dX5_measure_126 rfl ?_
      refine pv_getR C (ci := 4) (k := 7) gwX5 rfl (Nat.le_of_ble_eq_true rfl) fl_X5_31 rfl rfl rfl (j := 26) rfl rfl dX5_measure_127 ?_
      refine pv_iload_n C 2 dX5_measure_130 rfl ?_
      refine pv_aload_n C 1 dX5_measure_131 rfl ?_
      refine pv_getR C (ci := 4) (k := 7) gwX5 rfl (Nat.le_of_ble_eq_true rfl) fl_X5_31 rfl rfl rfl (j := 26) rfl rfl dX5_measure_132 ?_
      refine pv_iload_n C 2 dX5_measure_135 rfl ?_
      refine pv_iald C hp rfl rfl rfl (fun _ => rfl) dX5_measure_136 (fun v7 hp => ?_)
      refine pv_iload C 0 dX5_measure_137 rfl ?_
      refine pv_mmax C hp ml_X5_161 (Nat.le_of_ble_eq_true rfl) (Nat.le_of_ble_eq_true rfl) dX5_measure_139 (fun v8 hp => ?_)
      refine pv_iast C hp rfl rfl rfl (fun _ => rfl) dX5_measure_142 (fun V hp => ?_)
      refine pv_iinc (L := fun v9 => [(9, .int v9), (8, .int v6), (0, .ref 16), (1, .int x1)]) C 3 hp dX5_measure_143 (by decide) rfl (by decide) (fun _ => rfl) (fun v9 hp => ?_)
      refine pv_goto (tgt := 78) C dX5_measure_146 (by decide) ?_
      refine pv_sub [2, 3, 1, 0] rfl ?_
      exact ih _ _ _ _ _ hp
def q_X5_measure (N : Nat) (x1 : Int) (x2 : Int) (x3 : Int) (V : pvM) : Option pvO :=
  cL (q_X9_heightAt N x2 V) fun v10 V =>
  cL (q_X6_firstNumberAt N x1 x2 V) fun v11 V =>
  cL (q_X6_secondNumberAt N x1 x2 V) fun v12 V =>
  cL (q_X6_wordAt N x1 x2 V) fun v13 V =>
  cL (q_X5_risesBy N v13 v11 v12 V) fun v14 V =>
  lI (pv_w (v10 + v14)) fun v15 =>
  aR V 25 12 x1 fun v16 =>
  lI (if v16 < v15 then v15 else v16) fun v17 =>
  aW V 25 12 x1 v17 fun V =>
  q_X5_measure_b78 N N x1 v10 x3 V
set_option maxHeartbeats 4000000 in
set_option maxRecDepth 100000 in
theorem c_X5_measure (l : Launch) (D : va_G) (cy : Nat → ClassId) {N : Nat} {x1 : Int32} {x2 : Int32} {x3 : Int32} {V : pvM} {q : pvO} (hp : q_X5_measure N x1.toInt x2.toInt x3.toInt V = some q) : pv_Met l yX5_measure cX5_measure 10 none 3 67 D cy V [.ref 16, .int x1, .int x2, .int x3] 0 q := by
  unfold q_X5_measure at hp
  refine pv_ofW (by decide) (Nat.le_of_ble_eq_true rfl) (fun p e s m args below meth c ad A n0 σ C hr => ?_)
  refine pv_aload_n C 0 dX5_measure_0 rfl ?_
  refine pv_getR C (ci := 4) (k := 1) gwX5 rfl (Nat.le_of_ble_eq_true rfl) fl_X5_41 rfl rfl rfl (j := 13) rfl rfl dX5_measure_1 ?_
  refine pv_iload_n C 2 dX5_measure_4 rfl ?_
  refine pv_callV C (As := [.int x2]) (rest := []) (b := 13) (kd1 := 1) hp (fun q1 h9 => c_X9_heightAt l D cy h9) wB_yX9_heightAt ml_X5_154 im_yX9_heightAt se_yX9_heightAt (ci := 8) rfl rfl rfl rfl rfl (Nat.le_of_ble_eq_true rfl) ⟨(Nat.le_of_ble_eq_true rfl), (Nat.le_of_ble_eq_true rfl)⟩ dX5_measure_5 rfl rfl (fun v10 σ V hp => ?_)
  refine pv_istore (loc' := [(4, .int v10), (0, .ref 16), (1, .int x1), (2, .int x2), (3, .int x3)]) C dX5_measure_8 (by decide) rfl ?_
  refine pv_aload_n C 1 dX5_measure_10 rfl ?_
  refine pv_getR C (ci := 4) (k := 0) gwX5 rfl (Nat.le_of_ble_eq_true rfl) fl_X5_37 rfl rfl rfl (j := 1) rfl rfl dX5_measure_11 ?_
  refine pv_iload_n C 2 dX5_measure_14 rfl ?_
  refine pv_iload_n C 3 dX5_measure_15 rfl ?_
  refine pv_callV C (As := [.int x1, .int x2]) (rest := []) (b := 1) (kd1 := 1) hp (fun q1 h9 => c_X6_firstNumberAt l D cy h9) wB_yX6_firstNumberAt ml_X5_115 im_yX6_firstNumberAt se_yX6_firstNumberAt (ci := 5) rfl rfl rfl rfl rfl (Nat.le_of_ble_eq_true rfl) ⟨(Nat.le_of_ble_eq_true rfl), (Nat.le_of_ble_eq_true rfl)⟩ dX5_measure_16 rfl rfl (fun v11 σ V hp => ?_)
  refine pv_istore (loc' := [(5, .int v11), (4, .int v10), (0, .ref 16), (1, .int x1), (2, .int x2), (3, .int x3)]) C dX5_measure_19 (by decide) rfl ?_
  refine pv_aload_n C 2 dX5_measure_21 rfl ?_
  refine pv_getR C (ci := 4) (k := 0) gwX5 rfl (Nat.le_of_ble_eq_true rfl) fl_X5_37 rfl rfl rfl (j := 1) rfl rfl dX5_measure_22 ?_
  refine pv_iload_n C 3 dX5_measure_25 rfl ?_
  refine pv_iload_n C 4 dX5_measure_26 rfl ?_
  refine pv_callV C (As := [.int x1, .int x2]) (rest := []) (b := 1) (kd1 := 1) hp (fun q1 h9 => c_X6_secondNumberAt l D cy h9) wB_yX6_secondNumberAt ml_X5_118 im_yX6_secondNumberAt se_yX6_secondNumberAt (ci := 5) rfl rfl rfl rfl rfl (Nat.le_of_ble_eq_true rfl) ⟨(Nat.le_of_ble_eq_true rfl), (Nat.le_of_ble_eq_true rfl)⟩ dX5_measure_27 rfl rfl (fun v12 σ V hp => ?_)
  refine pv_istore (loc' := [(6, .int v12), (5, .int v11), (4, .int v10), (0, .ref 16), (1, .int x1), (2, .int x2), (3, .int x3)]) C dX5_measure_30 (by decide) rfl ?_
  refine pv_iload C 2 dX5_measure_32 rfl ?_
  refine pv_aload_n C 3 dX5_measure_34 rfl ?_
  refine pv_aload_n C 3 dX5_measure_35 rfl ?_
  refine pv_getR C (ci := 4) (k := 0) gwX5 rfl (Nat.le_of_ble_eq_true rfl) fl_X5_37 rfl rfl rfl (j := 1) rfl rfl dX5_measure_36 ?_
  refine pv_iload_n C 4 dX5_measure_39 rfl ?_
  refine pv_iload_n C 5 dX5_measure_40 rfl ?_
  refine pv_callV C (As := [.int x1, .int x2]) (rest := [.ref 16, .int v10]) (b := 1) (kd1 := 1) hp (fun q1 h9 => c_X6_wordAt l D cy h9) wB_yX6_wordAt ml_X5_111 im_yX6_wordAt se_yX6_wordAt (ci := 5) rfl rfl rfl rfl rfl (Nat.le_of_ble_eq_true rfl) ⟨(Nat.le_of_ble_eq_true rfl), (Nat.le_of_ble_eq_true rfl)⟩ dX5_measure_41 rfl rfl (fun v13 σ V hp => ?_)
  refine pv_iload C 1 dX5_measure_44 rfl ?_
  refine pv_iload C 0 dX5_measure_46 rfl ?_
  refine pv_callV C (As := [.int v13, .int v11, .int v12]) (rest := [.int v10]) (b := 16) (kd1 := 1) hp (fun q1 h9 => c_X5_risesBy l D cy h9) wB_yX5_risesBy ml_X5_157 im_yX5_risesBy se_yX5_risesBy (ci := 4) rfl rfl rfl rfl rfl (Nat.le_of_ble_eq_true rfl) ⟨(Nat.le_of_ble_eq_true rfl), (Nat.le_of_ble_eq_true rfl)⟩ dX5_measure_48 rfl rfl (fun v14 σ V hp => ?_)
  refine pv_iadd C hp dX5_measure_51 (fun v15 hp => ?_)
  refine pv_istore (loc' := [(7, .int v15), (6, .int v12), (5, .int v11), (4, .int v10), (0, .ref 16), (1, .int x1), (2, .int x2), (3, .int x3)]) C dX5_measure_52 (by decide) rfl ?_
  refine pv_aload_n C 4 dX5_measure_54 rfl ?_
  refine pv_getR C (ci := 4) (k := 6) gwX5 rfl (Nat.le_of_ble_eq_true rfl) fl_X5_28 rfl rfl rfl (j := 25) rfl rfl dX5_measure_55 ?_
  refine pv_iload_n C 5 dX5_measure_58 rfl ?_
  refine pv_aload_n C 4 dX5_measure_59 rfl ?_
  refine pv_getR C (ci := 4) (k := 6) gwX5 rfl (Nat.le_of_ble_eq_true rfl) fl_X5_28 rfl rfl rfl (j := 25) rfl rfl dX5_measure_60 ?_
  refine pv_iload_n C 5 dX5_measure_63 rfl ?_
  refine pv_iald C hp rfl rfl rfl (fun _ => rfl) dX5_measure_64 (fun v16 hp => ?_)
  refine pv_iload C 0 dX5_measure_65 rfl ?_
  refine pv_mmax C hp ml_X5_161 (Nat.le_of_ble_eq_true rfl) (Nat.le_of_ble_eq_true rfl) dX5_measure_67 (fun v17 hp => ?_)
  refine pv_iast C hp rfl rfl rfl (fun _ => rfl) dX5_measure_70 (fun V hp => ?_)
  refine pv_iload C 3 dX5_measure_71 rfl ?_
  refine pv_istore (loc' := [(8, .int v10), (7, .int v15), (6, .int v12), (5, .int v11), (4, .int v10), (0, .ref 16), (1, .int x1), (2, .int x2), (3, .int x3)]) C dX5_measure_73 (by decide) rfl ?_
  refine pv_iload_n C 8 dX5_measure_75 rfl ?_
  refine pv_istore (loc' := [(9, .int x3), (8, .int v10), (7, .int v15), (6, .int v12), (5, .int v11), (4, .int v10), (0, .ref 16), (1, .int x1), (2, .int x2), (3, .int x3)]) C dX5_measure_76 (by decide) rfl ?_
  refine pv_sub [6, 7, 1, 0] rfl ?_
  exact w_X5_measure_b78 C hr N _ _ _ _ _ hp
def q_X5_movePlaces_b55 (N : Nat) (r2 : Int → pvM → Option pvO) (x2 : Int) (V : pvM) : Option pvO :=
  lI (pv_w (x2 + (1))) fun v1 =>
  r2 v1 V
set_option maxHeartbeats 4000000 in
set_option maxRecDepth 100000 in
theorem w_X5_movePlaces_b55 {p : Program} {l : Launch} {e : Env} {s : State} {m : MethodId} {args : Array Value} {below : List Frame} {meth : Method} {c : Code} {D : va_G} {cy : Nat → ClassId} {A : Nat → Prop} {n0 : Nat} {ad0 : Nat → Nat} {V0 : pvM} {q : pvO} (C : pz_C p s m args meth c cX5_movePlaces 4 yX5_movePlaces.cls D cy A) (hr : meth.sig.returnType = none) {N : Nat} {r2 : Int → pvM → Option pvO} (H2 : ∀ (x2 : Int32) (σ : pzS) (V : pvM), r2 x2.toInt V = some q → pv_W p l e 1 22 s m args below meth c 4 D cy A n0 ad0 (pv_Q below D cy n0 ad0 0 V0 q A args s) V0 σ V 2 [(0, .ref 16), (2, .int x2)] []) {x2 : Int32} {σ : pzS} {V : pvM} (hp : q_X5_movePlaces_b55 N r2 x2.toInt V = some q) : pv_W p l e 1 22 s m args below meth c 4 D cy A n0 ad0 (pv_Q below D cy n0 ad0 0 V0 q A args s) V0 σ V 55 [(0, .ref 16), (2, .int x2)] [] := by
  unfold q_X5_movePlaces_b55 at hp
  refine pv_iinc (L := fun v1 => [(2, .int v1), (0, .ref 16)]) C 1 hp dX5_movePlaces_55 (by decide) rfl (by decide) (fun _ => rfl) (fun v1 hp => ?_)
  refine pv_goto (tgt := 2) C dX5_movePlaces_58 (by decide) ?_
  refine pv_sub [1, 0] rfl ?_
  exact H2 _ _ _ hp
def q_X5_movePlaces_b34 (N : Nat) (r2 : Int → pvM → Option pvO) (x2 : Int) (V : pvM) : Option pvO :=
  cL (q_X3_firstNumber N x2 V) fun v2 V =>
  aR V 27 40 v2 fun v3 =>
  cL (q_X3_setFirstNumber N x2 v3 V) fun _ V =>
  q_X5_movePlaces_b55 N r2 x2 V
set_option maxHeartbeats 4000000 in
set_option maxRecDepth 100000 in
theorem w_X5_movePlaces_b34 {p : Program} {l : Launch} {e : Env} {s : State} {m : MethodId} {args : Array Value} {below : List Frame} {meth : Method} {c : Code} {D : va_G} {cy : Nat → ClassId} {A : Nat → Prop} {n0 : Nat} {ad0 : Nat → Nat} {V0 : pvM} {q : pvO} (C : pz_C p s m args meth c cX5_movePlaces 4 yX5_movePlaces.cls D cy A) (hr : meth.sig.returnType = none) {N : Nat} {r2 : Int → pvM → Option pvO} (H2 : ∀ (x2 : Int32) (σ : pzS) (V : pvM), r2 x2.toInt V = some q → pv_W p l e 1 22 s m args below meth c 4 D cy A n0 ad0 (pv_Q below D cy n0 ad0 0 V0 q A args s) V0 σ V 2 [(0, .ref 16), (2, .int x2)] []) {x2 : Int32} {σ : pzS} {V : pvM} (hp : q_X5_movePlaces_b34 N r2 x2.toInt V = some q) : pv_W p l e 1 22 s m args below meth c 4 D cy A n0 ad0 (pv_Q below D cy n0 ad0 0 V0 q A args s) V0 σ V 34 [(0, .ref 16), (2, .int x2)] [] := by
  unfold q_X5_movePlaces_b34 at hp
  refine pv_aload_n C 0 dX5_movePlaces_34 rfl ?_
  refine pv_getR C (ci := 4) (k := 2) gwX5 rfl (Nat.le_of_ble_eq_true rfl) fl_X5_12 rfl rfl rfl (j := 17) rfl rfl dX5_movePlaces_35 ?_
  refine pv_iload_n C 1 dX5_movePlaces_38 rfl ?_
  refine pv_aload_n C 0 dX5_movePlaces_39 rfl ?_
  refine pv_getR C (ci := 4) (k := 8) gwX5 rfl (Nat.le_of_ble_eq_true rfl) fl_X5_34 rfl rfl rfl (j := 27) rfl rfl dX5_movePlaces_40 ?_
  refine pv_aload_n C 0 dX5_movePlaces_43 rfl ?_
  refine pv_getR C (ci := 4) (k := 2) gwX5 rfl (Nat.le_of_ble_eq_true rfl) fl_X5_12 rfl rfl rfl (j := 17) rfl rfl dX5_movePlaces_44 ?_
  refine pv_iload_n C 1 dX5_movePlaces_47 rfl ?_
  refine pv_callV C (As := [.int x2]) (rest := [.ref 27, .int x2, .ref 17]) (b := 17) (kd1 := 1) hp (fun q1 h9 => c_X3_firstNumber l D cy h9) wB_yX3_firstNumber ml_X5_63 im_yX3_firstNumber se_yX3_firstNumber (ci := 2) rfl rfl rfl rfl rfl (Nat.le_of_ble_eq_true rfl) ⟨(Nat.le_of_ble_eq_true rfl), (Nat.le_of_ble_eq_true rfl)⟩ dX5_movePlaces_48 rfl rfl (fun v2 σ V hp => ?_)
  refine pv_iald C hp rfl rfl rfl (fun _ => rfl) dX5_movePlaces_51 (fun v3 hp => ?_)
  refine pv_callV C (As := [.int x2, .int v3]) (rest := []) (b := 17) (kd1 := 0) hp (fun q1 h9 => c_X3_setFirstNumber l D cy h9) wB_yX3_setFirstNumber ml_X5_172 im_yX3_setFirstNumber se_yX3_setFirstNumber (ci := 2) rfl rfl rfl rfl rfl (Nat.le_of_ble_eq_true rfl) ⟨(Nat.le_of_ble_eq_true rfl), (Nat.le_of_ble_eq_true rfl)⟩ dX5_movePlaces_52 rfl rfl (fun _ σ V hp => ?_)
  exact w_X5_movePlaces_b55 C hr H2 hp
def q_X5_movePlaces_b2 (N : Nat) : Nat → Int → pvM → Option pvO
  | 0 => fun _ _ => none
  | n + 1 => fun x2 V =>
    cL (q_X3_length N V) fun v4 V =>
    if v4 ≤ x2 then
      rT V 0
    else
    cL (q_X3_word N x2 V) fun v5 V =>
    lI (8) fun v6 =>
    if v5 = v6 then
      q_X5_movePlaces_b34 N (q_X5_movePlaces_b2 N n) x2 V
    else
    lI (9) fun v7 =>
    if v5 ≠ v7 then
      q_X5_movePlaces_b55 N (q_X5_movePlaces_b2 N n) x2 V
    else
    q_X5_movePlaces_b34 N (q_X5_movePlaces_b2 N n) x2 V
set_option maxHeartbeats 4000000 in
set_option maxRecDepth 100000 in
theorem w_X5_movePlaces_b2 {p : Program} {l : Launch} {e : Env} {s : State} {m : MethodId} {args : Array Value} {below : List Frame} {meth : Method} {c : Code} {D : va_G} {cy : Nat → ClassId} {A : Nat → Prop} {n0 : Nat} {ad0 : Nat → Nat} {V0 : pvM} {q : pvO} (C : pz_C p s m args meth c cX5_movePlaces 4 yX5_movePlaces.cls D cy A) (hr : meth.sig.returnType = none) {N : Nat} : ∀ (n : Nat) (x2 : Int32) (σ : pzS) (V : pvM), q_X5_movePlaces_b2 N n x2.toInt V = some q → pv_W p l e 1 22 s m args below meth c 4 D cy A n0 ad0 (pv_Q below D cy n0 ad0 0 V0 q A args s) V0 σ V 2 [(0, .ref 16), (2, .int x2)] [] := by
  intro n
  induction n with
  | zero =>
    intro x2 σ V hp
    simp only [q_X5_movePlaces_b2] at hp
    cases hp
  | succ n ih =>
    intro x2 σ V hp
    simp only [q_X5_movePlaces_b2] at hp
    refine pv_iload_n C 1 dX5_movePlaces_2 rfl ?_
    refine pv_aload_n C 0 dX5_movePlaces_3 rfl ?_
    refine pv_getR C (ci := 4) (k := 2) gwX5 rfl (Nat.le_of_ble_eq_true rfl) fl_X5_12 rfl rfl rfl (j := 17) rfl rfl dX5_movePlaces_4 ?_
    refine pv_callV C (As := []) (rest := [.int x2]) (b := 17) (kd1 := 1) hp (fun q1 h9 => c_X3_length l D cy h9) wB_yX3_length ml_X5_80 im_yX3_length se_yX3_length (ci := 2) rfl rfl rfl rfl rfl (Nat.le_of_ble_eq_true rfl) ⟨(Nat.le_of_ble_eq_true rfl), (Nat.le_of_ble_eq_true rfl)⟩ dX5_movePlaces_7 rfl rfl (fun v4 σ V hp => ?_)
    refine pv_icmp_ge (tgt := 61) C hp dX5_movePlaces_10 (by decide) (fun hp => ?_) (fun hp => ?_)
    · exact pv_vret C rfl hp hr dX5_movePlaces_61
    · refine pv_aload_n C 0 dX5_movePlaces_13 rfl ?_
      refine pv_getR C (ci := 4) (k := 2) gwX5 rfl (Nat.le_of_ble_eq_true rfl) fl_X5_12 rfl rfl rfl (j := 17) rfl rfl dX5_movePlaces_14 ?_
      refine pv_iload_n C 1 dX5_movePlaces_17 rfl ?_
      refine pv_callV C (As := [.int x2]) (rest := []) (b := 17) (kd1 := 1) hp (fun q1 h9 => c_X3_word l D cy h9) wB_yX3_word ml_X5_59 im_yX3_word se_yX3_word (ci := 2) rfl rfl rfl rfl rfl (Nat.le_of_ble_eq_true rfl) ⟨(Nat.le_of_ble_eq_true rfl), (Nat.le_of_ble_eq_true rfl)⟩ dX5_movePlaces_18 rfl rfl (fun v5 σ V hp => ?_)
      refine pv_istore_n (loc' := [(3, .int v5), (0, .ref 16), (2, .int x2)]) C dX5_movePlaces_21 (by decide) rfl ?_
      refine pv_iload_n C 0 dX5_movePlaces_22 rfl ?_
      refine pv_bipush C hp dX5_movePlaces_23 (by decide) (fun v6 hp => ?_)
      refine pv_icmp_eq (tgt := 34) C hp dX5_movePlaces_25 (by decide) (fun hp => ?_) (fun hp => ?_)
      · refine pv_sub [1, 2] rfl ?_
        exact w_X5_movePlaces_b34 C hr ih hp
      · refine pv_iload_n C 0 dX5_movePlaces_28 rfl ?_
        refine pv_bipush C hp dX5_movePlaces_29 (by decide) (fun v7 hp => ?_)
        refine pv_icmp_ne (tgt := 55) C hp dX5_movePlaces_31 (by decide) (fun hp => ?_) (fun hp => ?_)
        · refine pv_sub [1, 2] rfl ?_
          exact w_X5_movePlaces_b55 C hr ih hp
        · refine pv_sub [1, 2] rfl ?_
          exact w_X5_movePlaces_b34 C hr ih hp
def q_X5_movePlaces (N : Nat) (x1 : Int) (V : pvM) : Option pvO :=
  q_X5_movePlaces_b2 N N x1 V
set_option maxHeartbeats 4000000 in
set_option maxRecDepth 100000 in
theorem c_X5_movePlaces (l : Launch) (D : va_G) (cy : Nat → ClassId) {N : Nat} {x1 : Int32} {V : pvM} {q : pvO} (hp : q_X5_movePlaces N x1.toInt V = some q) : pv_Met l yX5_movePlaces cX5_movePlaces 4 none 1 22 D cy V [.ref 16, .int x1] 0 q := by
  unfold q_X5_movePlaces at hp
  refine pv_ofW (by decide) (Nat.le_of_ble_eq_true rfl) (fun p e s m args below meth c ad A n0 σ C hr => ?_)
  refine pv_iload_n C 1 dX5_movePlaces_0 rfl ?_
  refine pv_istore_n (loc' := [(2, .int x1), (0, .ref 16), (1, .int x1)]) C dX5_movePlaces_1 (by decide) rfl ?_
  refine pv_sub [1, 0] rfl ?_
  exact w_X5_movePlaces_b2 C hr N _ _ _ hp
def q_X5_makeFunction_b105 (N : Nat) (r40 : Int → Int → Int → pvM → Option pvO) (x1 : Int) (x2 : Int) (x3 : Int) (V : pvM) : Option pvO :=
  lI (pv_w (x3 + (1))) fun v1 =>
  r40 x1 x2 v1 V
set_option maxHeartbeats 4000000 in
set_option maxRecDepth 100000 in
theorem w_X5_makeFunction_b105 {p : Program} {l : Launch} {e : Env} {s : State} {m : MethodId} {args : Array Value} {below : List Frame} {meth : Method} {c : Code} {D : va_G} {cy : Nat → ClassId} {A : Nat → Prop} {n0 : Nat} {ad0 : Nat → Nat} {V0 : pvM} {q : pvO} (C : pz_C p s m args meth c cX5_makeFunction 5 yX5_makeFunction.cls D cy A) (hr : meth.sig.returnType = none) {N : Nat} {r40 : Int → Int → Int → pvM → Option pvO} (H40 : ∀ (x1 : Int32) (x2 : Int32) (x3 : Int32) (σ : pzS) (V : pvM), r40 x1.toInt x2.toInt x3.toInt V = some q → pv_W p l e 6 156 s m args below meth c 5 D cy A n0 ad0 (pv_Q below D cy n0 ad0 0 V0 q A args s) V0 σ V 40 [(0, .ref 16), (1, .int x1), (2, .int x2), (3, .int x3)] []) {x1 : Int32} {x2 : Int32} {x3 : Int32} {σ : pzS} {V : pvM} (hp : q_X5_makeFunction_b105 N r40 x1.toInt x2.toInt x3.toInt V = some q) : pv_W p l e 6 156 s m args below meth c 5 D cy A n0 ad0 (pv_Q below D cy n0 ad0 0 V0 q A args s) V0 σ V 105 [(0, .ref 16), (1, .int x1), (2, .int x2), (3, .int x3)] [] := by
  unfold q_X5_makeFunction_b105 at hp
  refine pv_iinc (L := fun v1 => [(3, .int v1), (0, .ref 16), (1, .int x1), (2, .int x2)]) C 3 hp dX5_makeFunction_105 (by decide) rfl (by decide) (fun _ => rfl) (fun v1 hp => ?_)
  refine pv_goto (tgt := 40) C dX5_makeFunction_108 (by decide) ?_
  refine pv_sub [1, 2, 3, 0] rfl ?_
  exact H40 _ _ _ _ _ hp
def q_X5_makeFunction_b40 (N : Nat) : Nat → Int → Int → Int → pvM → Option pvO
  | 0 => fun _ _ _ _ => none
  | n + 1 => fun x1 x2 x3 V =>
    cL (q_X6_lengthOf N x1 V) fun v2 V =>
    if v2 ≤ x3 then
      lI (1) fun v3 =>
      lI (pv_w (x1 + v3)) fun v4 =>
      cL (q_X3_length N V) fun v5 V =>
      aW V 22 493 v4 v5 fun V =>
      cL (q_X5_movePlaces N x2 V) fun _ V =>
      rT V 0
    else
    cL (q_X3_length N V) fun v6 V =>
    lI (pv_w (v6 - x2)) fun v7 =>
    aW V 27 40 x3 v7 fun V =>
    cL (q_X5_makeGroup N x1 x3 V) fun _ V =>
    cL (q_X3_markStep N v6 V) fun _ V =>
    cL (q_X9_isMet N x3 V) fun v8 V =>
    if v8 = 0 then
      q_X5_makeFunction_b105 N (q_X5_makeFunction_b40 N n) x1 x2 x3 V
    else
    cL (q_X5_measure N x1 x3 v6 V) fun _ V =>
    q_X5_makeFunction_b105 N (q_X5_makeFunction_b40 N n) x1 x2 x3 V
set_option maxHeartbeats 4000000 in
set_option maxRecDepth 100000 in
theorem w_X5_makeFunction_b40 {p : Program} {l : Launch} {e : Env} {s : State} {m : MethodId} {args : Array Value} {below : List Frame} {meth : Method} {c : Code} {D : va_G} {cy : Nat → ClassId} {A : Nat → Prop} {n0 : Nat} {ad0 : Nat → Nat} {V0 : pvM} {q : pvO} (C : pz_C p s m args meth c cX5_makeFunction 5 yX5_makeFunction.cls D cy A) (hr : meth.sig.returnType = none) {N : Nat} : ∀ (n : Nat) (x1 : Int32) (x2 : Int32) (x3 : Int32) (σ : pzS) (V : pvM), q_X5_makeFunction_b40 N n x1.toInt x2.toInt x3.toInt V = some q → pv_W p l e 6 156 s m args below meth c 5 D cy A n0 ad0 (pv_Q below D cy n0 ad0 0 V0 q A args s) V0 σ V 40 [(0, .ref 16), (1, .int x1), (2, .int x2), (3, .int x3)] [] := by
  intro n
  induction n with
  | zero =>
    intro x1 x2 x3 σ V hp
    simp only [q_X5_makeFunction_b40] at hp
    cases hp
  | succ n ih =>
    intro x1 x2 x3 σ V hp
    simp only [q_X5_makeFunction_b40] at hp
    refine pv_iload_n C 3 dX5_makeFunction_40 rfl ?_
    refine pv_aload_n C 0 dX5_makeFunction_41 rfl ?_
    refine pv_getR C (ci := 4) (k := 0) gwX5 rfl (Nat.le_of_ble_eq_true rfl) fl_X5_37 rfl rfl rfl (j := 1) rfl rfl dX5_makeFunction_42 ?_
    refine pv_iload_n C 1 dX5_makeFunction_45 rfl ?_
    refine pv_callV C (As := [.int x1]) (rest := [.int x3]) (b := 1) (kd1 := 1) hp (fun q1 h9 => c_X6_lengthOf l D cy h9) wB_yX6_lengthOf ml_X5_91 im_yX6_lengthOf se_yX6_lengthOf (ci := 5) rfl rfl rfl rfl rfl (Nat.le_of_ble_eq_true rfl) ⟨(Nat.le_of_ble_eq_true rfl), (Nat.le_of_ble_eq_true rfl)⟩ dX5_makeFunction_46 rfl rfl (fun v2 σ V hp => ?_)
    refine pv_icmp_ge (tgt := 111) C hp dX5_makeFunction_49 (by decide) (fun hp => ?_) (fun hp => ?_)
    · refine pv_aload_n C 0 dX5_makeFunction_111 rfl ?_
      refine pv_getR C (ci := 4) (k := 3) gwX5 rfl (Nat.le_of_ble_eq_true rfl) fl_X5_18 rfl rfl rfl (j := 22) rfl rfl dX5_makeFunction_112 ?_
      refine pv_iload_n C 1 dX5_makeFunction_115 rfl ?_
      refine pv_iconst C hp dX5_makeFunction_116 (by decide) (fun v3 hp => ?_)
      refine pv_iadd C hp dX5_makeFunction_117 (fun v4 hp => ?_)
      refine pv_aload_n C 0 dX5_makeFunction_118 rfl ?_
      refine pv_getR C (ci := 4) (k := 2) gwX5 rfl (Nat.le_of_ble_eq_true rfl) fl_X5_12 rfl rfl rfl (j := 17) rfl rfl dX5_makeFunction_119 ?_
      refine pv_callV C (As := []) (rest := [.int v4, .ref 22]) (b := 17) (kd1 := 1) hp (fun q1 h9 => c_X3_length l D cy h9) wB_yX3_length ml_X5_80 im_yX3_length se_yX3_length (ci := 2) rfl rfl rfl rfl rfl (Nat.le_of_ble_eq_true rfl) ⟨(Nat.le_of_ble_eq_true rfl), (Nat.le_of_ble_eq_true rfl)⟩ dX5_makeFunction_122 rfl rfl (fun v5 σ V hp => ?_)
      refine pv_iast C hp rfl rfl rfl (fun _ => rfl) dX5_makeFunction_125 (fun V hp => ?_)
      refine pv_aload_n C 0 dX5_makeFunction_126 rfl ?_
      refine pv_iload_n C 2 dX5_makeFunction_127 rfl ?_
      refine pv_callV C (As := [.int x2]) (rest := []) (b := 16) (kd1 := 0) hp (fun q1 h9 => c_X5_movePlaces l D cy h9) wB_yX5_movePlaces ml_X5_108 im_yX5_movePlaces se_yX5_movePlaces (ci := 4) rfl rfl rfl rfl rfl (Nat.le_of_ble_eq_true rfl) ⟨(Nat.le_of_ble_eq_true rfl), (Nat.le_of_ble_eq_true rfl)⟩ dX5_makeFunction_128 rfl rfl (fun _ σ V hp => ?_)
      exact pv_vret C rfl hp hr dX5_makeFunction_131
    · refine pv_aload_n C 0 dX5_makeFunction_52 rfl ?_
      refine pv_getR C (ci := 4) (k := 2) gwX5 rfl (Nat.le_of_ble_eq_true rfl) fl_X5_12 rfl rfl rfl (j := 17) rfl rfl dX5_makeFunction_53 ?_
      refine pv_callV C (As := []) (rest := []) (b := 17) (kd1 := 1) hp (fun q1 h9 => c_X3_length l D cy h9) wB_yX3_length ml_X5_80 im_yX3_length se_yX3_length (ci := 2) rfl rfl rfl rfl rfl (Nat.le_of_ble_eq_true rfl) ⟨(Nat.le_of_ble_eq_true rfl), (Nat.le_of_ble_eq_true rfl)⟩ dX5_makeFunction_56 rfl rfl (fun v6 σ V hp => ?_)
      refine pv_istore (loc' := [(4, .int v6), (0, .ref 16), (1, .int x1), (2, .int x2), (3, .int x3)]) C dX5_makeFunction_59 (by decide) rfl ?_
      refine pv_aload_n C 1 dX5_makeFunction_61 rfl ?_
      refine pv_getR C (ci := 4) (k := 8) gwX5 rfl (Nat.le_of_ble_eq_true rfl) fl_X5_34 rfl rfl rfl (j := 27) rfl rfl dX5_makeFunction_62 ?_
      refine pv_iload_n C 4 dX5_makeFunction_65 rfl ?_
      refine pv_iload C 0 dX5_makeFunction_66 rfl ?_
      refine pv_iload_n C 3 dX5_makeFunction_68 rfl ?_
      refine pv_isub C hp dX5_makeFunction_69 (fun v7 hp => ?_)
      refine pv_iast C hp rfl rfl rfl (fun _ => rfl) dX5_makeFunction_70 (fun V hp => ?_)
      refine pv_aload_n C 1 dX5_makeFunction_71 rfl ?_
      refine pv_iload_n C 2 dX5_makeFunction_72 rfl ?_
      refine pv_iload_n C 4 dX5_makeFunction_73 rfl ?_
      refine pv_callV C (As := [.int x1, .int x3]) (rest := []) (b := 16) (kd1 := 0) hp (fun q1 h9 => c_X5_makeGroup l D cy h9) wB_yX5_makeGroup ml_X5_94 im_yX5_makeGroup se_yX5_makeGroup (ci := 4) rfl rfl rfl rfl rfl (Nat.le_of_ble_eq_true rfl) ⟨(Nat.le_of_ble_eq_true rfl), (Nat.le_of_ble_eq_true rfl)⟩ dX5_makeFunction_74 rfl rfl (fun _ σ V hp => ?_)
      refine pv_aload_n C 1 dX5_makeFunction_77 rfl ?_
      refine pv_getR C (ci := 4) (k := 2) gwX5 rfl (Nat.le_of_ble_eq_true rfl) fl_X5_12 rfl rfl rfl (j := 17) rfl rfl dX5_makeFunction_78 ?_
      refine pv_iload C 0 dX5_makeFunction_81 rfl ?_
      refine pv_callV C (As := [.int v6]) (rest := []) (b := 17) (kd1 := 0) hp (fun q1 h9 => c_X3_markStep l D cy h9) wB_yX3_markStep ml_X5_98 im_yX3_markStep se_yX3_markStep (ci := 2) rfl rfl rfl rfl rfl (Nat.le_of_ble_eq_true rfl) ⟨(Nat.le_of_ble_eq_true rfl), (Nat.le_of_ble_eq_true rfl)⟩ dX5_makeFunction_83 rfl rfl (fun _ σ V hp => ?_)
      refine pv_aload_n C 1 dX5_makeFunction_86 rfl ?_
      refine pv_getR C (ci := 4) (k := 1) gwX5 rfl (Nat.le_of_ble_eq_true rfl) fl_X5_41 rfl rfl rfl (j := 13) rfl rfl dX5_makeFunction_87 ?_
      refine pv_iload_n C 4 dX5_makeFunction_90 rfl ?_
      refine pv_callV C (As := [.int x3]) (rest := []) (b := 13) (kd1 := 1) hp (fun q1 h9 => c_X9_isMet l D cy h9) wB_yX9_isMet ml_X5_101 im_yX9_isMet se_yX9_isMet (ci := 8) rfl rfl rfl rfl rfl (Nat.le_of_ble_eq_true rfl) ⟨(Nat.le_of_ble_eq_true rfl), (Nat.le_of_ble_eq_true rfl)⟩ dX5_makeFunction_91 rfl rfl (fun v8 σ V hp => ?_)
      refine pv_if_eq (tgt := 105) C hp dX5_makeFunction_94 (by decide) (fun hp => ?_) (fun hp => ?_)
      · refine pv_sub [1, 2, 3, 4] rfl ?_
        exact w_X5_makeFunction_b105 C hr ih hp
      · refine pv_aload_n C 1 dX5_makeFunction_97 rfl ?_
        refine pv_iload_n C 2 dX5_makeFunction_98 rfl ?_
        refine pv_iload_n C 4 dX5_makeFunction_99 rfl ?_
        refine pv_iload C 0 dX5_makeFunction_100 rfl ?_
        refine pv_callV C (As := [.int x1, .int x3, .int v6]) (rest := []) (b := 16) (kd1 := 0) hp (fun q1 h9 => c_X5_measure l D cy h9) wB_yX5_measure ml_X5_104 im_yX5_measure se_yX5_measure (ci := 4) rfl rfl rfl rfl rfl (Nat.le_of_ble_eq_true rfl) ⟨(Nat.le_of_ble_eq_true rfl), (Nat.le_of_ble_eq_true rfl)⟩ dX5_makeFunction_102 rfl rfl (fun _ σ V hp => ?_)
        refine pv_sub [1, 2, 3, 4] rfl ?_
        exact w_X5_makeFunction_b105 C hr ih hp
def q_X5_makeFunction (N : Nat) (x1 : Int) (V : pvM) : Option pvO :=
  cL (q_X3_length N V) fun v9 V =>
  aW V 22 493 x1 v9 fun V =>
  lI (0) fun v10 =>
  aW V 25 12 x1 v10 fun V =>
  lI (0) fun v11 =>
  aW V 26 12 x1 v11 fun V =>
  cL (q_X9_wrongPlace N x1 V) fun v12 V =>
  lI (0) fun v13 =>
  q_X5_makeFunction_b40 N N x1 v9 v13 V
set_option maxHeartbeats 4000000 in
set_option maxRecDepth 100000 in
theorem c_X5_makeFunction (l : Launch) (D : va_G) (cy : Nat → ClassId) {N : Nat} {x1 : Int32} {V : pvM} {q : pvO} (hp : q_X5_makeFunction N x1.toInt V = some q) : pv_Met l yX5_makeFunction cX5_makeFunction 5 none 6 156 D cy V [.ref 16, .int x1] 0 q := by
  unfold q_X5_makeFunction at hp
  refine pv_ofW (by decide) (Nat.le_of_ble_eq_true rfl) (fun p e s m args below meth c ad A n0 σ C hr => ?_)
  refine pv_aload_n C 0 dX5_makeFunction_0 rfl ?_
  refine pv_getR C (ci := 4) (k := 2) gwX5 rfl (Nat.le_of_ble_eq_true rfl) fl_X5_12 rfl rfl rfl (j := 17) rfl rfl dX5_makeFunction_1 ?_
  refine pv_callV C (As := []) (rest := []) (b := 17) (kd1 := 1) hp (fun q1 h9 => c_X3_length l D cy h9) wB_yX3_length ml_X5_80 im_yX3_length se_yX3_length (ci := 2) rfl rfl rfl rfl rfl (Nat.le_of_ble_eq_true rfl) ⟨(Nat.le_of_ble_eq_true rfl), (Nat.le_of_ble_eq_true rfl)⟩ dX5_makeFunction_4 rfl rfl (fun v9 σ V hp => ?_)
  refine pv_istore_n (loc' := [(2, .int v9), (0, .ref 16), (1, .int x1)]) C dX5_makeFunction_7 (by decide) rfl ?_
  refine pv_aload_n C 1 dX5_makeFunction_8 rfl ?_
  refine pv_getR C (ci := 4) (k := 3) gwX5 rfl (Nat.le_of_ble_eq_true rfl) fl_X5_18 rfl rfl rfl (j := 22) rfl rfl dX5_makeFunction_9 ?_
  refine pv_iload_n C 2 dX5_makeFunction_12 rfl ?_
  refine pv_iload_n C 0 dX5_makeFunction_13 rfl ?_
  refine pv_iast C hp rfl rfl rfl (fun _ => rfl) dX5_makeFunction_14 (fun V hp => ?_)
  refine pv_aload_n C 1 dX5_makeFunction_15 rfl ?_
  refine pv_getR C (ci := 4) (k := 6) gwX5 rfl (Nat.le_of_ble_eq_true rfl) fl_X5_28 rfl rfl rfl (j := 25) rfl rfl dX5_makeFunction_16 ?_
  refine pv_iload_n C 2 dX5_makeFunction_19 rfl ?_
  refine pv_iconst C hp dX5_makeFunction_20 (by decide) (fun v10 hp => ?_)
  refine pv_iast C hp rfl rfl rfl (fun _ => rfl) dX5_makeFunction_21 (fun V hp => ?_)
  refine pv_aload_n C 1 dX5_makeFunction_22 rfl ?_
  refine pv_getR C (ci := 4) (k := 7) gwX5 rfl (Nat.le_of_ble_eq_true rfl) fl_X5_31 rfl rfl rfl (j := 26) rfl rfl dX5_makeFunction_23 ?_
  refine pv_iload_n C 2 dX5_makeFunction_26 rfl ?_
  refine pv_iconst C hp dX5_makeFunction_27 (by decide) (fun v11 hp => ?_)
  refine pv_iast C hp rfl rfl rfl (fun _ => rfl) dX5_makeFunction_28 (fun V hp => ?_)
  refine pv_aload_n C 1 dX5_makeFunction_29 rfl ?_
  refine pv_getR C (ci := 4) (k := 1) gwX5 rfl (Nat.le_of_ble_eq_true rfl) fl_X5_41 rfl rfl rfl (j := 13) rfl rfl dX5_makeFunction_30 ?_
  refine pv_iload_n C 2 dX5_makeFunction_33 rfl ?_
  refine pv_callV C (As := [.int x1]) (rest := []) (b := 13) (kd1 := 1) hp (fun q1 h9 => c_X9_wrongPlace l D cy h9) wB_yX9_wrongPlace ml_X5_86 im_yX9_wrongPlace se_yX9_wrongPlace (ci := 8) rfl rfl rfl rfl rfl (Nat.le_of_ble_eq_true rfl) ⟨(Nat.le_of_ble_eq_true rfl), (Nat.le_of_ble_eq_true rfl)⟩ dX5_makeFunction_34 rfl rfl (fun v12 σ V hp => ?_)
  refine pv_pop C dX5_makeFunction_37 rfl ?_
  refine pv_iconst C hp dX5_makeFunction_38 (by decide) (fun v13 hp => ?_)
  refine pv_istore_n (loc' := [(3, .int v13), (2, .int v9), (0, .ref 16), (1, .int x1)]) C dX5_makeFunction_39 (by decide) rfl ?_
  refine pv_sub [2, 3, 1, 0] rfl ?_
  exact w_X5_makeFunction_b40 C hr N _ _ _ _ _ hp
def q_X5_makeMethod_b73 (N : Nat) : Nat → Int → Int → Int → Int → pvM → Option pvO
  | 0 => fun _ _ _ _ _ => none
  | n + 1 => fun x1 x2 x4 x5 V =>
    if x4 < x5 then
      lI (10) fun v1 =>
      aR V 23 480 x1 fun v2 =>
      lI (0) fun v3 =>
      cL (q_X3_add N v1 v2 v3 V) fun _ V =>
      lI (11) fun v4 =>
      lI (0) fun v5 =>
      lI (0) fun v6 =>
      cL (q_X3_add N v4 v5 v6 V) fun _ V =>
      lI (1) fun v7 =>
      lI (pv_w (x2 + v7)) fun v8 =>
      cL (q_X3_length N V) fun v9 V =>
      aW V 22 493 v8 v9 fun V =>
      rT V 0
    else
    lI (1) fun v10 =>
    lI (0) fun v11 =>
    cL (q_X3_add N v10 x5 v11 V) fun _ V =>
    lI (pv_w (x5 + (1))) fun v12 =>
    q_X5_makeMethod_b73 N n x1 x2 x4 v12 V
set_option maxHeartbeats 4000000 in
set_option maxRecDepth 100000 in
theorem w_X5_makeMethod_b73 {p : Program} {l : Launch} {e : Env} {s : State} {m : MethodId} {args : Array Value} {below : List Frame} {meth : Method} {c : Code} {D : va_G} {cy : Nat → ClassId} {A : Nat → Prop} {n0 : Nat} {ad0 : Nat → Nat} {V0 : pvM} {q : pvO} (C : pz_C p s m args meth c cX5_makeMethod 6 yX5_makeMethod.cls D cy A) (hr : meth.sig.returnType = none) {N : Nat} : ∀ (n : Nat) (x1 : Int32) (x2 : Int32) (x4 : Int32) (x5 : Int32) (σ : pzS) (V : pvM), q_X5_makeMethod_b73 N n x1.toInt x2.toInt x4.toInt x5.toInt V = some q → pv_W p l e 4 106 s m args below meth c 6 D cy A n0 ad0 (pv_Q below D cy n0 ad0 0 V0 q A args s) V0 σ V 73 [(0, .ref 16), (1, .int x1), (2, .int x2), (4, .int x4), (5, .int x5)] [] := by
  intro n
  induction n with
  | zero =>
    intro x1 x2 x4 x5 σ V hp
    simp only [q_X5_makeMethod_b73] at hp
    cases hp
  | succ n ih =>
    intro x1 x2 x4 x5 σ V hp
    simp only [q_X5_makeMethod_b73] at hp
    refine pv_iload C 4 dX5_makeMethod_73 rfl ?_
    refine pv_iload C 3 dX5_makeMethod_75 rfl ?_
    refine pv_icmp_gt (tgt := 97) C hp dX5_makeMethod_77 (by decide) (fun hp => ?_) (fun hp => ?_)
    · refine pv_aload_n C 0 dX5_makeMethod_97 rfl ?_
      refine pv_getR C (ci := 4) (k := 2) gwX5 rfl (Nat.le_of_ble_eq_true rfl) fl_X5_12 rfl rfl rfl (j := 17) rfl rfl dX5_makeMethod_98 ?_
      refine pv_bipush C hp dX5_makeMethod_101 (by decide) (fun v1 hp => ?_)
      refine pv_aload_n C 0 dX5_makeMethod_103 rfl ?_
      refine pv_getR C (ci := 4) (k := 4) gwX5 rfl (Nat.le_of_ble_eq_true rfl) fl_X5_22 rfl rfl rfl (j := 23) rfl rfl dX5_makeMethod_104 ?_
      refine pv_iload_n C 1 dX5_makeMethod_107 rfl ?_
      refine pv_iald C hp rfl rfl rfl (fun _ => rfl) dX5_makeMethod_108 (fun v2 hp => ?_)
      refine pv_iconst C hp dX5_makeMethod_109 (by decide) (fun v3 hp => ?_)
      refine pv_callV C (As := [.int v1, .int v2, .int v3]) (rest := []) (b := 17) (kd1 := 0) hp (fun q1 h9 => c_X3_add l D cy h9) wB_yX3_add ml_X5_124 im_yX3_add se_yX3_add (ci := 2) rfl rfl rfl rfl rfl (Nat.le_of_ble_eq_true rfl) ⟨(Nat.le_of_ble_eq_true rfl), (Nat.le_of_ble_eq_true rfl)⟩ dX5_makeMethod_110 rfl rfl (fun _ σ V hp => ?_)
      refine pv_aload_n C 0 dX5_makeMethod_113 rfl ?_
      refine pv_getR C (ci := 4) (k := 2) gwX5 rfl (Nat.le_of_ble_eq_true rfl) fl_X5_12 rfl rfl rfl (j := 17) rfl rfl dX5_makeMethod_114 ?_
      refine pv_bipush C hp dX5_makeMethod_117 (by decide) (fun v4 hp => ?_)
      refine pv_iconst C hp dX5_makeMethod_119 (by decide) (fun v5 hp => ?_)
      refine pv_iconst C hp dX5_makeMethod_120 (by decide) (fun v6 hp => ?_)
      refine pv_callV C (As := [.int v4, .int v5, .int v6]) (rest := []) (b := 17) (kd1 := 0) hp (fun q1 h9 => c_X3_add l D cy h9) wB_yX3_add ml_X5_124 im_yX3_add se_yX3_add (ci := 2) rfl rfl rfl rfl rfl (Nat.le_of_ble_eq_true rfl) ⟨(Nat.le_of_ble_eq_true rfl), (Nat.le_of_ble_eq_true rfl)⟩ dX5_makeMethod_121 rfl rfl (fun _ σ V hp => ?_)
      refine pv_aload_n C 0 dX5_makeMethod_124 rfl ?_
      refine pv_getR C (ci := 4) (k := 3) gwX5 rfl (Nat.le_of_ble_eq_true rfl) fl_X5_18 rfl rfl rfl (j := 22) rfl rfl dX5_makeMethod_125 ?_
      refine pv_iload_n C 2 dX5_makeMethod_128 rfl ?_
      refine pv_iconst C hp dX5_makeMethod_129 (by decide) (fun v7 hp => ?_)
      refine pv_iadd C hp dX5_makeMethod_130 (fun v8 hp => ?_)
      refine pv_aload_n C 0 dX5_makeMethod_131 rfl ?_
      refine pv_getR C (ci := 4) (k := 2) gwX5 rfl (Nat.le_of_ble_eq_true rfl) fl_X5_12 rfl rfl rfl (j := 17) rfl rfl dX5_makeMethod_132 ?_
      refine pv_callV C (As := []) (rest := [.int v8, .ref 22]) (b := 17) (kd1 := 1) hp (fun q1 h9 => c_X3_length l D cy h9) wB_yX3_length ml_X5_80 im_yX3_length se_yX3_length (ci := 2) rfl rfl rfl rfl rfl (Nat.le_of_ble_eq_true rfl) ⟨(Nat.le_of_ble_eq_true rfl), (Nat.le_of_ble_eq_true rfl)⟩ dX5_makeMethod_135 rfl rfl (fun v9 σ V hp => ?_)
      refine pv_iast C hp rfl rfl rfl (fun _ => rfl) dX5_makeMethod_138 (fun V hp => ?_)
      exact pv_vret C rfl hp hr dX5_makeMethod_139
    · refine pv_aload_n C 0 dX5_makeMethod_80 rfl ?_
      refine pv_getR C (ci := 4) (k := 2) gwX5 rfl (Nat.le_of_ble_eq_true rfl) fl_X5_12 rfl rfl rfl (j := 17) rfl rfl dX5_makeMethod_81 ?_
      refine pv_iconst C hp dX5_makeMethod_84 (by decide) (fun v10 hp => ?_)
      refine pv_iload C 4 dX5_makeMethod_85 rfl ?_
      refine pv_iconst C hp dX5_makeMethod_87 (by decide) (fun v11 hp => ?_)
      refine pv_callV C (As := [.int v10, .int x5, .int v11]) (rest := []) (b := 17) (kd1 := 0) hp (fun q1 h9 => c_X3_add l D cy h9) wB_yX3_add ml_X5_124 im_yX3_add se_yX3_add (ci := 2) rfl rfl rfl rfl rfl (Nat.le_of_ble_eq_true rfl) ⟨(Nat.le_of_ble_eq_true rfl), (Nat.le_of_ble_eq_true rfl)⟩ dX5_makeMethod_88 rfl rfl (fun _ σ V hp => ?_)
      refine pv_iinc (L := fun v12 => [(5, .int v12), (0, .ref 16), (1, .int x1), (2, .int x2), (4, .int x4)]) C 4 hp dX5_makeMethod_91 (by decide) rfl (by decide) (fun _ => rfl) (fun v12 hp => ?_)
      refine pv_goto (tgt := 73) C dX5_makeMethod_94 (by decide) ?_
      refine pv_sub [1, 2, 3, 4, 0] rfl ?_
      exact ih _ _ _ _ _ _ hp
def q_X5_makeMethod_b29 (N : Nat) : Nat → Int → Int → Int → Int → pvM → Option pvO
  | 0 => fun _ _ _ _ _ => none
  | n + 1 => fun x1 x2 x3 x4 V =>
    if x3 ≤ x4 then
      aR V 23 480 x1 fun v13 =>
      cL (q_X6_parametersOf N v13 V) fun v14 V =>
      lI (pv_w (v14 - x3)) fun v15 =>
      lI (1) fun v16 =>
      q_X5_makeMethod_b73 N N x1 x2 v15 v16 V
    else
    lI (23) fun v17 =>
    lI (0) fun v18 =>
    cL (q_X3_add N v17 x4 v18 V) fun _ V =>
    lI (pv_w (x4 + (1))) fun v19 =>
    q_X5_makeMethod_b29 N n x1 x2 x3 v19 V
set_option maxHeartbeats 4000000 in
set_option maxRecDepth 100000 in
theorem w_X5_makeMethod_b29 {p : Program} {l : Launch} {e : Env} {s : State} {m : MethodId} {args : Array Value} {below : List Frame} {meth : Method} {c : Code} {D : va_G} {cy : Nat → ClassId} {A : Nat → Prop} {n0 : Nat} {ad0 : Nat → Nat} {V0 : pvM} {q : pvO} (C : pz_C p s m args meth c cX5_makeMethod 6 yX5_makeMethod.cls D cy A) (hr : meth.sig.returnType = none) {N : Nat} : ∀ (n : Nat) (x1 : Int32) (x2 : Int32) (x3 : Int32) (x4 : Int32) (σ : pzS) (V : pvM), q_X5_makeMethod_b29 N n x1.toInt x2.toInt x3.toInt x4.toInt V = some q → pv_W p l e 4 106 s m args below meth c 6 D cy A n0 ad0 (pv_Q below D cy n0 ad0 0 V0 q A args s) V0 σ V 29 [(0, .ref 16), (1, .int x1), (2, .int x2), (3, .int x3), (4, .int x4)] [] := by
  intro n
  induction n with
  | zero =>
    intro x1 x2 x3 x4 σ V hp
    simp only [q_X5_makeMethod_b29] at hp
    cases hp
  | succ n ih =>
    intro x1 x2 x3 x4 σ V hp
    simp only [q_X5_makeMethod_b29] at hp
    refine pv_iload C 4 dX5_makeMethod_29 rfl ?_
    refine pv_iload_n C 3 dX5_makeMethod_31 rfl ?_
    refine pv_icmp_ge (tgt := 53) C hp dX5_makeMethod_32 (by decide) (fun hp => ?_) (fun hp => ?_)
    · refine pv_aload_n C 0 dX5_makeMethod_53 rfl ?_
      refine pv_getR C (ci := 4) (k := 0) gwX5 rfl (Nat.le_of_ble_eq_true rfl) fl_X5_37 rfl rfl rfl (j := 1) rfl rfl dX5_makeMethod_54 ?_
      refine pv_aload_n C 0 dX5_makeMethod_57 rfl ?_
      refine pv_getR C (ci := 4) (k := 4) gwX5 rfl (Nat.le_of_ble_eq_true rfl) fl_X5_22 rfl rfl rfl (j := 23) rfl rfl dX5_makeMethod_58 ?_
      refine pv_iload_n C 1 dX5_makeMethod_61 rfl ?_
      refine pv_iald C hp rfl rfl rfl (fun _ => rfl) dX5_makeMethod_62 (fun v13 hp => ?_)
      refine pv_callV C (As := [.int v13]) (rest := []) (b := 1) (kd1 := 1) hp (fun q1 h9 => c_X6_parametersOf l D cy h9) wB_yX6_parametersOf ml_X5_151 im_yX6_parametersOf se_yX6_parametersOf (ci := 5) rfl rfl rfl rfl rfl (Nat.le_of_ble_eq_true rfl) ⟨(Nat.le_of_ble_eq_true rfl), (Nat.le_of_ble_eq_true rfl)⟩ dX5_makeMethod_63 rfl rfl (fun v14 σ V hp => ?_)
      refine pv_iload_n C 3 dX5_makeMethod_66 rfl ?_
      refine pv_isub C hp dX5_makeMethod_67 (fun v15 hp => ?_)
      refine pv_istore (loc' := [(4, .int v15), (0, .ref 16), (1, .int x1), (2, .int x2), (3, .int x3)]) C dX5_makeMethod_68 (by decide) rfl ?_
      refine pv_iconst C hp dX5_makeMethod_70 (by decide) (fun v16 hp => ?_)
      refine pv_istore (loc' := [(5, .int v16), (4, .int v15), (0, .ref 16), (1, .int x1), (2, .int x2), (3, .int x3)]) C dX5_makeMethod_71 (by decide) rfl ?_
      refine pv_sub [2, 3, 4, 1, 0] rfl ?_
      exact w_X5_makeMethod_b73 C hr N _ _ _ _ _ _ hp
    · refine pv_aload_n C 0 dX5_makeMethod_35 rfl ?_
      refine pv_getR C (ci := 4) (k := 2) gwX5 rfl (Nat.le_of_ble_eq_true rfl) fl_X5_12 rfl rfl rfl (j := 17) rfl rfl dX5_makeMethod_36 ?_
      refine pv_bipush C hp dX5_makeMethod_39 (by decide) (fun v17 hp => ?_)
      refine pv_iload C 4 dX5_makeMethod_41 rfl ?_
      refine pv_iconst C hp dX5_makeMethod_43 (by decide) (fun v18 hp => ?_)
      refine pv_callV C (As := [.int v17, .int x4, .int v18]) (rest := []) (b := 17) (kd1 := 0) hp (fun q1 h9 => c_X3_add l D cy h9) wB_yX3_add ml_X5_124 im_yX3_add se_yX3_add (ci := 2) rfl rfl rfl rfl rfl (Nat.le_of_ble_eq_true rfl) ⟨(Nat.le_of_ble_eq_true rfl), (Nat.le_of_ble_eq_true rfl)⟩ dX5_makeMethod_44 rfl rfl (fun _ σ V hp => ?_)
      refine pv_iinc (L := fun v19 => [(4, .int v19), (0, .ref 16), (1, .int x1), (2, .int x2), (3, .int x3)]) C 4 hp dX5_makeMethod_47 (by decide) rfl (by decide) (fun _ => rfl) (fun v19 hp => ?_)
      refine pv_goto (tgt := 29) C dX5_makeMethod_50 (by decide) ?_
      refine pv_sub [1, 2, 3, 4, 0] rfl ?_
      exact ih _ _ _ _ _ _ hp
def q_X5_makeMethod (N : Nat) (x1 : Int) (V : pvM) : Option pvO :=
  cL (q_X5_methodOfClass N x1 V) fun v20 V =>
  cL (q_X3_length N V) fun v21 V =>
  aW V 22 493 v20 v21 fun V =>
  aR V 24 480 x1 fun v22 =>
  lI (0) fun v23 =>
  q_X5_makeMethod_b29 N N x1 v20 v22 v23 V
set_option maxHeartbeats 4000000 in
set_option maxRecDepth 100000 in
theorem c_X5_makeMethod (l : Launch) (D : va_G) (cy : Nat → ClassId) {N : Nat} {x1 : Int32} {V : pvM} {q : pvO} (hp : q_X5_makeMethod N x1.toInt V = some q) : pv_Met l yX5_makeMethod cX5_makeMethod 6 none 4 106 D cy V [.ref 16, .int x1] 0 q := by
  unfold q_X5_makeMethod at hp
  refine pv_ofW (by decide) (Nat.le_of_ble_eq_true rfl) (fun p e s m args below meth c ad A n0 σ C hr => ?_)
  refine pv_aload_n C 0 dX5_makeMethod_0 rfl ?_
  refine pv_iload_n C 1 dX5_makeMethod_1 rfl ?_
  refine pv_callV C (As := [.int x1]) (rest := []) (b := 16) (kd1 := 1) hp (fun q1 h9 => c_X5_methodOfClass l D cy h9) wB_yX5_methodOfClass ml_X5_148 im_yX5_methodOfClass se_yX5_methodOfClass (ci := 4) rfl rfl rfl rfl rfl (Nat.le_of_ble_eq_true rfl) ⟨(Nat.le_of_ble_eq_true rfl), (Nat.le_of_ble_eq_true rfl)⟩ dX5_makeMethod_2 rfl rfl (fun v20 σ V hp => ?_)
  refine pv_istore_n (loc' := [(2, .int v20), (0, .ref 16), (1, .int x1)]) C dX5_makeMethod_5 (by decide) rfl ?_
  refine pv_aload_n C 1 dX5_makeMethod_6 rfl ?_
  refine pv_getR C (ci := 4) (k := 3) gwX5 rfl (Nat.le_of_ble_eq_true rfl) fl_X5_18 rfl rfl rfl (j := 22) rfl rfl dX5_makeMethod_7 ?_
  refine pv_iload_n C 0 dX5_makeMethod_10 rfl ?_
  refine pv_aload_n C 1 dX5_makeMethod_11 rfl ?_
  refine pv_getR C (ci := 4) (k := 2) gwX5 rfl (Nat.le_of_ble_eq_true rfl) fl_X5_12 rfl rfl rfl (j := 17) rfl rfl dX5_makeMethod_12 ?_
  refine pv_callV C (As := []) (rest := [.int v20, .ref 22]) (b := 17) (kd1 := 1) hp (fun q1 h9 => c_X3_length l D cy h9) wB_yX3_length ml_X5_80 im_yX3_length se_yX3_length (ci := 2) rfl rfl rfl rfl rfl (Nat.le_of_ble_eq_true rfl) ⟨(Nat.le_of_ble_eq_true rfl), (Nat.le_of_ble_eq_true rfl)⟩ dX5_makeMethod_15 rfl rfl (fun v21 σ V hp => ?_)
  refine pv_iast C hp rfl rfl rfl (fun _ => rfl) dX5_makeMethod_18 (fun V hp => ?_)
  refine pv_aload_n C 1 dX5_makeMethod_19 rfl ?_
  refine pv_getR C (ci := 4) (k := 5) gwX5 rfl (Nat.le_of_ble_eq_true rfl) fl_X5_25 rfl rfl rfl (j := 24) rfl rfl dX5_makeMethod_20 ?_
  refine pv_iload_n C 2 dX5_makeMethod_23 rfl ?_
  refine pv_iald C hp rfl rfl rfl (fun _ => rfl) dX5_makeMethod_24 (fun v22 hp => ?_)
  refine pv_istore_n (loc' := [(3, .int v22), (2, .int v20), (0, .ref 16), (1, .int x1)]) C dX5_makeMethod_25 (by decide) rfl ?_
  refine pv_iconst C hp dX5_makeMethod_26 (by decide) (fun v23 hp => ?_)
  refine pv_istore (loc' := [(4, .int v23), (3, .int v22), (2, .int v20), (0, .ref 16), (1, .int x1)]) C dX5_makeMethod_27 (by decide) rfl ?_
  refine pv_sub [3, 4, 2, 1, 0] rfl ?_
  exact w_X5_makeMethod_b29 C hr N _ _ _ _ _ _ hp
def q_X5_make_b46 (N : Nat) : Nat → Int → Int → pvM → Option pvO
  | 0 => fun _ _ _ => none
  | n + 1 => fun x1 x2 V =>
    gR V 16 9 fun v1 =>
    if v1 ≤ x2 then
      lI (1) fun v2 =>
      bT v2 <| gW V 16 10 v2 fun V =>
      rT V x1
    else
    cL (q_X5_makeMethod N x2 V) fun _ V =>
    lI (pv_w (x2 + (1))) fun v3 =>
    q_X5_make_b46 N n x1 v3 V
set_option maxHeartbeats 4000000 in
set_option maxRecDepth 100000 in
theorem w_X5_make_b46 {p : Program} {l : Launch} {e : Env} {s : State} {m : MethodId} {args : Array Value} {below : List Frame} {meth : Method} {c : Code} {D : va_G} {cy : Nat → ClassId} {A : Nat → Prop} {n0 : Nat} {ad0 : Nat → Nat} {V0 : pvM} {q : pvO} (C : pz_C p s m args meth c cX5_make 3 yX5_make.cls D cy A) (hr : meth.sig.returnType = (some .int)) {N : Nat} : ∀ (n : Nat) (x1 : Int32) (x2 : Int32) (σ : pzS) (V : pvM), q_X5_make_b46 N n x1.toInt x2.toInt V = some q → pv_W p l e 7 180 s m args below meth c 3 D cy A n0 ad0 (pv_Q below D cy n0 ad0 1 V0 q A args s) V0 σ V 46 [(0, .ref 16), (1, .int x1), (2, .int x2)] [] := by
  intro n
  induction n with
  | zero =>
    intro x1 x2 σ V hp
    simp only [q_X5_make_b46] at hp
    cases hp
  | succ n ih =>
    intro x1 x2 σ V hp
    simp only [q_X5_make_b46] at hp
    refine pv_iload_n C 2 dX5_make_46 rfl ?_
    refine pv_aload_n C 0 dX5_make_47 rfl ?_
    refine pv_getI C (ci := 4) (k := 9) gwX5 rfl (Nat.le_of_ble_eq_true rfl) fl_X5_49 rfl rfl hp rfl rfl dX5_make_48 (fun v1 hp => ?_)
    refine pv_icmp_ge (tgt := 65) C hp dX5_make_51 (by decide) (fun hp => ?_) (fun hp => ?_)
    · refine pv_aload_n C 0 dX5_make_65 rfl ?_
      refine pv_iconst C hp dX5_make_66 (by decide) (fun v2 hp => ?_)
      refine pv_putZ C (ci := 4) (k := 10) gwX5 rfl (Nat.le_of_ble_eq_true rfl) fl_X5_45 rfl rfl tyX5_ok nmX5 hp rfl rfl rfl (by decide +kernel) dX5_make_67 (fun V hp => ?_)
      refine pv_iload_n C 1 dX5_make_70 rfl ?_
      exact pv_iret C rfl hp hr dX5_make_71
    · refine pv_aload_n C 0 dX5_make_54 rfl ?_
      refine pv_iload_n C 2 dX5_make_55 rfl ?_
      refine pv_callV C (As := [.int x2]) (rest := []) (b := 16) (kd1 := 0) hp (fun q1 h9 => c_X5_makeMethod l D cy h9) wB_yX5_makeMethod ml_X5_83 im_yX5_makeMethod se_yX5_makeMethod (ci := 4) rfl rfl rfl rfl rfl (Nat.le_of_ble_eq_true rfl) ⟨(Nat.le_of_ble_eq_true rfl), (Nat.le_of_ble_eq_true rfl)⟩ dX5_make_56 rfl rfl (fun _ σ V hp => ?_)
      refine pv_iinc (L := fun v3 => [(2, .int v3), (0, .ref 16), (1, .int x1)]) C 2 hp dX5_make_59 (by decide) rfl (by decide) (fun _ => rfl) (fun v3 hp => ?_)
      refine pv_goto (tgt := 46) C dX5_make_62 (by decide) ?_
      refine pv_sub [1, 2, 0] rfl ?_
      exact ih _ _ _ _ hp
def q_X5_make_b14 (N : Nat) : Nat → Int → pvM → Option pvO
  | 0 => fun _ _ => none
  | n + 1 => fun x1 V =>
    cL (q_X6_functionTotal N V) fun v4 V =>
    if v4 ≤ x1 then
      cL (q_X3_length N V) fun v5 V =>
      lI (0) fun v6 =>
      q_X5_make_b46 N N v5 v6 V
    else
    cL (q_X5_makeFunction N x1 V) fun _ V =>
    lI (pv_w (x1 + (1))) fun v7 =>
    q_X5_make_b14 N n v7 V
set_option maxHeartbeats 4000000 in
set_option maxRecDepth 100000 in
theorem w_X5_make_b14 {p : Program} {l : Launch} {e : Env} {s : State} {m : MethodId} {args : Array Value} {below : List Frame} {meth : Method} {c : Code} {D : va_G} {cy : Nat → ClassId} {A : Nat → Prop} {n0 : Nat} {ad0 : Nat → Nat} {V0 : pvM} {q : pvO} (C : pz_C p s m args meth c cX5_make 3 yX5_make.cls D cy A) (hr : meth.sig.returnType = (some .int)) {N : Nat} : ∀ (n : Nat) (x1 : Int32) (σ : pzS) (V : pvM), q_X5_make_b14 N n x1.toInt V = some q → pv_W p l e 7 180 s m args below meth c 3 D cy A n0 ad0 (pv_Q below D cy n0 ad0 1 V0 q A args s) V0 σ V 14 [(0, .ref 16), (1, .int x1)] [] := by
  intro n
  induction n with
  | zero =>
    intro x1 σ V hp
    simp only [q_X5_make_b14] at hp
    cases hp
  | succ n ih =>
    intro x1 σ V hp
    simp only [q_X5_make_b14] at hp
    refine pv_iload_n C 1 dX5_make_14 rfl ?_
    refine pv_aload_n C 0 dX5_make_15 rfl ?_
    refine pv_getR C (ci := 4) (k := 0) gwX5 rfl (Nat.le_of_ble_eq_true rfl) fl_X5_37 rfl rfl rfl (j := 1) rfl rfl dX5_make_16 ?_
    refine pv_callV C (As := []) (rest := [.int x1]) (b := 1) (kd1 := 1) hp (fun q1 h9 => c_X6_functionTotal l D cy h9) wB_yX6_functionTotal ml_X5_53 im_yX6_functionTotal se_yX6_functionTotal (ci := 5) rfl rfl rfl rfl rfl (Nat.le_of_ble_eq_true rfl) ⟨(Nat.le_of_ble_eq_true rfl), (Nat.le_of_ble_eq_true rfl)⟩ dX5_make_19 rfl rfl (fun v4 σ V hp => ?_)
    refine pv_icmp_ge (tgt := 36) C hp dX5_make_22 (by decide) (fun hp => ?_) (fun hp => ?_)
    · refine pv_aload_n C 0 dX5_make_36 rfl ?_
      refine pv_getR C (ci := 4) (k := 2) gwX5 rfl (Nat.le_of_ble_eq_true rfl) fl_X5_12 rfl rfl rfl (j := 17) rfl rfl dX5_make_37 ?_
      refine pv_callV C (As := []) (rest := []) (b := 17) (kd1 := 1) hp (fun q1 h9 => c_X3_length l D cy h9) wB_yX3_length ml_X5_80 im_yX3_length se_yX3_length (ci := 2) rfl rfl rfl rfl rfl (Nat.le_of_ble_eq_true rfl) ⟨(Nat.le_of_ble_eq_true rfl), (Nat.le_of_ble_eq_true rfl)⟩ dX5_make_40 rfl rfl (fun v5 σ V hp => ?_)
      refine pv_istore_n (loc' := [(1, .int v5), (0, .ref 16)]) C dX5_make_43 (by decide) rfl ?_
      refine pv_iconst C hp dX5_make_44 (by decide) (fun v6 hp => ?_)
      refine pv_istore_n (loc' := [(2, .int v6), (1, .int v5), (0, .ref 16)]) C dX5_make_45 (by decide) rfl ?_
      refine pv_sub [2, 1, 0] rfl ?_
      exact w_X5_make_b46 C hr N _ _ _ _ hp
    · refine pv_aload_n C 0 dX5_make_25 rfl ?_
      refine pv_iload_n C 1 dX5_make_26 rfl ?_
      refine pv_callV C (As := [.int x1]) (rest := []) (b := 16) (kd1 := 0) hp (fun q1 h9 => c_X5_makeFunction l D cy h9) wB_yX5_makeFunction ml_X5_76 im_yX5_makeFunction se_yX5_makeFunction (ci := 4) rfl rfl rfl rfl rfl (Nat.le_of_ble_eq_true rfl) ⟨(Nat.le_of_ble_eq_true rfl), (Nat.le_of_ble_eq_true rfl)⟩ dX5_make_27 rfl rfl (fun _ σ V hp => ?_)
      refine pv_iinc (L := fun v7 => [(1, .int v7), (0, .ref 16)]) C 1 hp dX5_make_30 (by decide) rfl (by decide) (fun _ => rfl) (fun v7 hp => ?_)
      refine pv_goto (tgt := 14) C dX5_make_33 (by decide) ?_
      refine pv_sub [1, 0] rfl ?_
      exact ih _ _ _ hp
def q_X5_make (N : Nat) (V : pvM) : Option pvO :=
  cL (q_X3_clear N V) fun _ V =>
  lI (0) fun v8 =>
  gW V 16 9 v8 fun V =>
  lI (0) fun v9 =>
  q_X5_make_b14 N N v9 V
set_option maxHeartbeats 4000000 in
set_option maxRecDepth 100000 in
theorem c_X5_make (l : Launch) (D : va_G) (cy : Nat → ClassId) {N : Nat} {V : pvM} {q : pvO} (hp : q_X5_make N V = some q) : pv_Met l yX5_make cX5_make 3 (some .int) 7 180 D cy V [.ref 16] 1 q := by
  unfold q_X5_make at hp
  refine pv_ofW (by decide) (Nat.le_of_ble_eq_true rfl) (fun p e s m args below meth c ad A n0 σ C hr => ?_)
  refine pv_aload_n C 0 dX5_make_0 rfl ?_
  refine pv_getR C (ci := 4) (k := 2) gwX5 rfl (Nat.le_of_ble_eq_true rfl) fl_X5_12 rfl rfl rfl (j := 17) rfl rfl dX5_make_1 ?_
  refine pv_callV C (As := []) (rest := []) (b := 17) (kd1 := 0) hp (fun q1 h9 => c_X3_clear l D cy h9) wB_yX3_clear ml_X5_73 im_yX3_clear se_yX3_clear (ci := 2) rfl rfl rfl rfl rfl (Nat.le_of_ble_eq_true rfl) ⟨(Nat.le_of_ble_eq_true rfl), (Nat.le_of_ble_eq_true rfl)⟩ dX5_make_4 rfl rfl (fun _ σ V hp => ?_)
  refine pv_aload_n C 0 dX5_make_7 rfl ?_
  refine pv_iconst C hp dX5_make_8 (by decide) (fun v8 hp => ?_)
  refine pv_putI C (ci := 4) (k := 9) gwX5 rfl (Nat.le_of_ble_eq_true rfl) fl_X5_49 rfl rfl tyX5_ok nmX5 hp rfl rfl rfl (by decide +kernel) dX5_make_9 (fun V hp => ?_)
  refine pv_iconst C hp dX5_make_12 (by decide) (fun v9 hp => ?_)
  refine pv_istore_n (loc' := [(1, .int v9), (0, .ref 16)]) C dX5_make_13 (by decide) rfl ?_
  refine pv_sub [1, 0] rfl ?_
  exact w_X5_make_b14 C hr N _ _ _ hp
