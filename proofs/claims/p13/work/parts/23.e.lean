def q_X7_has (N : Nat) (x1 : Int) (V : pvM) : Option pvO :=
  if x1 < 0 then
    lI (0) fun v1 =>
    bT v1 (rT V v1)
  else
  gR V 2 5 fun v2 =>
  if v2 ≤ x1 then
    lI (0) fun v3 =>
    bT v3 (rT V v3)
  else
  lI (1) fun v4 =>
  bT v4 (rT V v4)
set_option maxHeartbeats 4000000 in
set_option maxRecDepth 100000 in
theorem c_X7_has (l : Launch) (D : va_G) (cy : Nat → ClassId) {N : Nat} {x1 : Int32} {V : pvM} {q : pvO} (hp : q_X7_has N x1.toInt V = some q) : pv_Met l yX7_has cX7_has 2 (some .boolean) 0 0 D cy V [.ref 2, .int x1] 1 q := by
  unfold q_X7_has at hp
  refine pv_ofW (by decide) (Nat.le_of_ble_eq_true rfl) (fun p e s m args below meth c ad A n0 σ C hr => ?_)
  refine pv_iload_n C 1 dX7_has_0 rfl ?_
  refine pv_if_lt (tgt := 16) C hp dX7_has_1 (by decide) (fun hp => ?_) (fun hp => ?_)
  · refine pv_iconst C hp dX7_has_16 (by decide) (fun v1 hp => ?_)
    exact pv_zret C rfl hp hr dX7_has_17
  · refine pv_iload_n C 1 dX7_has_4 rfl ?_
    refine pv_aload_n C 0 dX7_has_5 rfl ?_
    refine pv_getI C (ci := 6) (k := 5) gwX7 rfl (Nat.le_of_ble_eq_true rfl) fl_X7_29 rfl rfl hp rfl rfl dX7_has_6 (fun v2 hp => ?_)
    refine pv_icmp_ge (tgt := 16) C hp dX7_has_9 (by decide) (fun hp => ?_) (fun hp => ?_)
    · refine pv_iconst C hp dX7_has_16 (by decide) (fun v3 hp => ?_)
      exact pv_zret C rfl hp hr dX7_has_17
    · refine pv_iconst C hp dX7_has_12 (by decide) (fun v4 hp => ?_)
      refine pv_goto (tgt := 17) C dX7_has_13 (by decide) ?_
      exact pv_zret C rfl hp hr dX7_has_17
def q_X7_total (N : Nat) (V : pvM) : Option pvO :=
  gR V 2 5 fun v1 =>
  rT V v1
set_option maxHeartbeats 4000000 in
set_option maxRecDepth 100000 in
theorem c_X7_total (l : Launch) (D : va_G) (cy : Nat → ClassId) {N : Nat} {V : pvM} {q : pvO} (hp : q_X7_total N V = some q) : pv_Met l yX7_total cX7_total 1 (some .int) 0 0 D cy V [.ref 2] 1 q := by
  unfold q_X7_total at hp
  refine pv_ofW (by decide) (Nat.le_of_ble_eq_true rfl) (fun p e s m args below meth c ad A n0 σ C hr => ?_)
  refine pv_aload_n C 0 dX7_total_0 rfl ?_
  refine pv_getI C (ci := 6) (k := 5) gwX7 rfl (Nat.le_of_ble_eq_true rfl) fl_X7_29 rfl rfl hp rfl rfl dX7_total_1 (fun v1 hp => ?_)
  exact pv_iret C rfl hp hr dX7_total_4
def q_X7_lengthOf (N : Nat) (x1 : Int) (V : pvM) : Option pvO :=
  aR V 3 8 x1 fun v1 =>
  rT V v1
set_option maxHeartbeats 4000000 in
set_option maxRecDepth 100000 in
theorem c_X7_lengthOf (l : Launch) (D : va_G) (cy : Nat → ClassId) {N : Nat} {x1 : Int32} {V : pvM} {q : pvO} (hp : q_X7_lengthOf N x1.toInt V = some q) : pv_Met l yX7_lengthOf cX7_lengthOf 2 (some .int) 0 0 D cy V [.ref 2, .int x1] 1 q := by
  unfold q_X7_lengthOf at hp
  refine pv_ofW (by decide) (Nat.le_of_ble_eq_true rfl) (fun p e s m args below meth c ad A n0 σ C hr => ?_)
  refine pv_aload_n C 0 dX7_lengthOf_0 rfl ?_
  refine pv_getR C (ci := 6) (k := 0) gwX7 rfl (Nat.le_of_ble_eq_true rfl) fl_X7_9 rfl rfl rfl (j := 3) rfl rfl dX7_lengthOf_1 ?_
  refine pv_iload_n C 1 dX7_lengthOf_4 rfl ?_
  refine pv_iald C hp rfl rfl rfl (fun _ => rfl) dX7_lengthOf_5 (fun v1 hp => ?_)
  exact pv_iret C rfl hp hr dX7_lengthOf_6
def q_X7_holesOf (N : Nat) (x1 : Int) (V : pvM) : Option pvO :=
  aR V 4 8 x1 fun v1 =>
  rT V v1
set_option maxHeartbeats 4000000 in
set_option maxRecDepth 100000 in
theorem c_X7_holesOf (l : Launch) (D : va_G) (cy : Nat → ClassId) {N : Nat} {x1 : Int32} {V : pvM} {q : pvO} (hp : q_X7_holesOf N x1.toInt V = some q) : pv_Met l yX7_holesOf cX7_holesOf 2 (some .int) 0 0 D cy V [.ref 2, .int x1] 1 q := by
  unfold q_X7_holesOf at hp
  refine pv_ofW (by decide) (Nat.le_of_ble_eq_true rfl) (fun p e s m args below meth c ad A n0 σ C hr => ?_)
  refine pv_aload_n C 0 dX7_holesOf_0 rfl ?_
  refine pv_getR C (ci := 6) (k := 1) gwX7 rfl (Nat.le_of_ble_eq_true rfl) fl_X7_15 rfl rfl rfl (j := 4) rfl rfl dX7_holesOf_1 ?_
  refine pv_iload_n C 1 dX7_holesOf_4 rfl ?_
  refine pv_iald C hp rfl rfl rfl (fun _ => rfl) dX7_holesOf_5 (fun v1 hp => ?_)
  exact pv_iret C rfl hp hr dX7_holesOf_6
def q_X7_isHole (N : Nat) (x1 : Int) (x2 : Int) (V : pvM) : Option pvO :=
  lI (12) fun v1 =>
  lI (pv_w (x1 * v1)) fun v2 =>
  lI (pv_w (v2 + x2)) fun v3 =>
  aR V 6 96 v3 fun v4 =>
  lI (27) fun v5 =>
  if v4 ≠ v5 then
    lI (0) fun v6 =>
    bT v6 (rT V v6)
  else
  lI (1) fun v7 =>
  bT v7 (rT V v7)
set_option maxHeartbeats 4000000 in
set_option maxRecDepth 100000 in
theorem c_X7_isHole (l : Launch) (D : va_G) (cy : Nat → ClassId) {N : Nat} {x1 : Int32} {x2 : Int32} {V : pvM} {q : pvO} (hp : q_X7_isHole N x1.toInt x2.toInt V = some q) : pv_Met l yX7_isHole cX7_isHole 3 (some .boolean) 0 0 D cy V [.ref 2, .int x1, .int x2] 1 q := by
  unfold q_X7_isHole at hp
  refine pv_ofW (by decide) (Nat.le_of_ble_eq_true rfl) (fun p e s m args below meth c ad A n0 σ C hr => ?_)
  refine pv_aload_n C 0 dX7_isHole_0 rfl ?_
  refine pv_getR C (ci := 6) (k := 3) gwX7 rfl (Nat.le_of_ble_eq_true rfl) fl_X7_21 rfl rfl rfl (j := 6) rfl rfl dX7_isHole_1 ?_
  refine pv_iload_n C 1 dX7_isHole_4 rfl ?_
  refine pv_bipush C hp dX7_isHole_5 (by decide) (fun v1 hp => ?_)
  refine pv_imul C hp dX7_isHole_7 (fun v2 hp => ?_)
  refine pv_iload_n C 2 dX7_isHole_8 rfl ?_
  refine pv_iadd C hp dX7_isHole_9 (fun v3 hp => ?_)
  refine pv_iald C hp rfl rfl rfl (fun _ => rfl) dX7_isHole_10 (fun v4 hp => ?_)
  refine pv_bipush C hp dX7_isHole_11 (by decide) (fun v5 hp => ?_)
  refine pv_icmp_ne (tgt := 20) C hp dX7_isHole_13 (by decide) (fun hp => ?_) (fun hp => ?_)
  · refine pv_iconst C hp dX7_isHole_20 (by decide) (fun v6 hp => ?_)
    exact pv_zret C rfl hp hr dX7_isHole_21
  · refine pv_iconst C hp dX7_isHole_16 (by decide) (fun v7 hp => ?_)
    refine pv_goto (tgt := 21) C dX7_isHole_17 (by decide) ?_
    exact pv_zret C rfl hp hr dX7_isHole_21
def q_X7_firstLetterOf (N : Nat) (x1 : Int) (V : pvM) : Option pvO :=
  aR V 5 8 x1 fun v1 =>
  rT V v1
set_option maxHeartbeats 4000000 in
set_option maxRecDepth 100000 in
theorem c_X7_firstLetterOf (l : Launch) (D : va_G) (cy : Nat → ClassId) {N : Nat} {x1 : Int32} {V : pvM} {q : pvO} (hp : q_X7_firstLetterOf N x1.toInt V = some q) : pv_Met l yX7_firstLetterOf cX7_firstLetterOf 2 (some .int) 0 0 D cy V [.ref 2, .int x1] 1 q := by
  unfold q_X7_firstLetterOf at hp
  refine pv_ofW (by decide) (Nat.le_of_ble_eq_true rfl) (fun p e s m args below meth c ad A n0 σ C hr => ?_)
  refine pv_aload_n C 0 dX7_firstLetterOf_0 rfl ?_
  refine pv_getR C (ci := 6) (k := 2) gwX7 rfl (Nat.le_of_ble_eq_true rfl) fl_X7_18 rfl rfl rfl (j := 5) rfl rfl dX7_firstLetterOf_1 ?_
  refine pv_iload_n C 1 dX7_firstLetterOf_4 rfl ?_
  refine pv_iald C hp rfl rfl rfl (fun _ => rfl) dX7_firstLetterOf_5 (fun v1 hp => ?_)
  exact pv_iret C rfl hp hr dX7_firstLetterOf_6
def q_X7_letterTotal (N : Nat) (V : pvM) : Option pvO :=
  gR V 2 6 fun v1 =>
  rT V v1
set_option maxHeartbeats 4000000 in
set_option maxRecDepth 100000 in
theorem c_X7_letterTotal (l : Launch) (D : va_G) (cy : Nat → ClassId) {N : Nat} {V : pvM} {q : pvO} (hp : q_X7_letterTotal N V = some q) : pv_Met l yX7_letterTotal cX7_letterTotal 1 (some .int) 0 0 D cy V [.ref 2] 1 q := by
  unfold q_X7_letterTotal at hp
  refine pv_ofW (by decide) (Nat.le_of_ble_eq_true rfl) (fun p e s m args below meth c ad A n0 σ C hr => ?_)
  refine pv_aload_n C 0 dX7_letterTotal_0 rfl ?_
  refine pv_getI C (ci := 6) (k := 6) gwX7 rfl (Nat.le_of_ble_eq_true rfl) fl_X7_33 rfl rfl hp rfl rfl dX7_letterTotal_1 (fun v1 hp => ?_)
  exact pv_iret C rfl hp hr dX7_letterTotal_4
def q_X7_letterAt (N : Nat) (x1 : Int) (V : pvM) : Option pvO :=
  aR V 7 96 x1 fun v1 =>
  rT V v1
set_option maxHeartbeats 4000000 in
set_option maxRecDepth 100000 in
theorem c_X7_letterAt (l : Launch) (D : va_G) (cy : Nat → ClassId) {N : Nat} {x1 : Int32} {V : pvM} {q : pvO} (hp : q_X7_letterAt N x1.toInt V = some q) : pv_Met l yX7_letterAt cX7_letterAt 2 (some .int) 0 0 D cy V [.ref 2, .int x1] 1 q := by
  unfold q_X7_letterAt at hp
  refine pv_ofW (by decide) (Nat.le_of_ble_eq_true rfl) (fun p e s m args below meth c ad A n0 σ C hr => ?_)
  refine pv_aload_n C 0 dX7_letterAt_0 rfl ?_
  refine pv_getR C (ci := 6) (k := 4) gwX7 rfl (Nat.le_of_ble_eq_true rfl) fl_X7_24 rfl rfl rfl (j := 7) rfl rfl dX7_letterAt_1 ?_
  refine pv_iload_n C 1 dX7_letterAt_4 rfl ?_
  refine pv_iald C hp rfl rfl rfl (fun _ => rfl) dX7_letterAt_5 (fun v1 hp => ?_)
  exact pv_iret C rfl hp hr dX7_letterAt_6
def q_X7_addDigit (N : Nat) (x1 : Int) (x2 : Int) (V : pvM) : Option pvO :=
  lI (12) fun v1 =>
  lI (pv_w (x1 * v1)) fun v2 =>
  aR V 3 8 x1 fun v3 =>
  lI (pv_w (v2 + v3)) fun v4 =>
  aW V 6 96 v4 x2 fun V =>
  aR V 3 8 x1 fun v5 =>
  lI (1) fun v6 =>
  lI (pv_w (v5 + v6)) fun v7 =>
  aW V 3 8 x1 v7 fun V =>
  lI (27) fun v8 =>
  if x2 ≠ v8 then
    gR V 2 6 fun v9 =>
    lI (1) fun v10 =>
    lI (pv_w (x2 - v10)) fun v11 =>
    aW V 7 96 v9 v11 fun V =>
    gR V 2 6 fun v12 =>
    lI (1) fun v13 =>
    lI (pv_w (v12 + v13)) fun v14 =>
    gW V 2 6 v14 fun V =>
    rT V 0
  else
  aR V 4 8 x1 fun v15 =>
  lI (1) fun v16 =>
  lI (pv_w (v15 + v16)) fun v17 =>
  aW V 4 8 x1 v17 fun V =>
  rT V 0
set_option maxHeartbeats 4000000 in
set_option maxRecDepth 100000 in
theorem c_X7_addDigit (l : Launch) (D : va_G) (cy : Nat → ClassId) {N : Nat} {x1 : Int32} {x2 : Int32} {V : pvM} {q : pvO} (hp : q_X7_addDigit N x1.toInt x2.toInt V = some q) : pv_Met l yX7_addDigit cX7_addDigit 3 none 0 0 D cy V [.ref 2, .int x1, .int x2] 0 q := by
  unfold q_X7_addDigit at hp
  refine pv_ofW (by decide) (Nat.le_of_ble_eq_true rfl) (fun p e s m args below meth c ad A n0 σ C hr => ?_)
  refine pv_aload_n C 0 dX7_addDigit_0 rfl ?_
  refine pv_getR C (ci := 6) (k := 3) gwX7 rfl (Nat.le_of_ble_eq_true rfl) fl_X7_21 rfl rfl rfl (j := 6) rfl rfl dX7_addDigit_1 ?_
  refine pv_iload_n C 1 dX7_addDigit_4 rfl ?_
  refine pv_bipush C hp dX7_addDigit_5 (by decide) (fun v1 hp => ?_)
  refine pv_imul C hp dX7_addDigit_7 (fun v2 hp => ?_)
  refine pv_aload_n C 0 dX7_addDigit_8 rfl ?_
  refine pv_getR C (ci := 6) (k := 0) gwX7 rfl (Nat.le_of_ble_eq_true rfl) fl_X7_9 rfl rfl rfl (j := 3) rfl rfl dX7_addDigit_9 ?_
  refine pv_iload_n C 1 dX7_addDigit_12 rfl ?_
  refine pv_iald C hp rfl rfl rfl (fun _ => rfl) dX7_addDigit_13 (fun v3 hp => ?_)
  refine pv_iadd C hp dX7_addDigit_14 (fun v4 hp => ?_)
  refine pv_iload_n C 2 dX7_addDigit_15 rfl ?_
  refine pv_iast C hp rfl rfl rfl (fun _ => rfl) dX7_addDigit_16 (fun V hp => ?_)
  refine pv_aload_n C 0 dX7_addDigit_17 rfl ?_
  refine pv_getR C (ci := 6) (k := 0) gwX7 rfl (Nat.le_of_ble_eq_true rfl) fl_X7_9 rfl rfl rfl (j := 3) rfl rfl dX7_addDigit_18 ?_
  refine pv_iload_n C 1 dX7_addDigit_21 rfl ?_
  refine pv_dup2 C dX7_addDigit_22 rfl rfl ?_
  refine pv_iald C hp rfl rfl rfl (fun _ => rfl) dX7_addDigit_23 (fun v5 hp => ?_)
  refine pv_iconst C hp dX7_addDigit_24 (by decide) (fun v6 hp => ?_)
  refine pv_iadd C hp dX7_addDigit_25 (fun v7 hp => ?_)
  refine pv_iast C hp rfl rfl rfl (fun _ => rfl) dX7_addDigit_26 (fun V hp => ?_)
  refine pv_iload_n C 2 dX7_addDigit_27 rfl ?_
  refine pv_bipush C hp dX7_addDigit_28 (by decide) (fun v8 hp => ?_)
  refine pv_icmp_ne (tgt := 46) C hp dX7_addDigit_30 (by decide) (fun hp => ?_) (fun hp => ?_)
  · refine pv_aload_n C 0 dX7_addDigit_46 rfl ?_
    refine pv_getR C (ci := 6) (k := 4) gwX7 rfl (Nat.le_of_ble_eq_true rfl) fl_X7_24 rfl rfl rfl (j := 7) rfl rfl dX7_addDigit_47 ?_
    refine pv_aload_n C 0 dX7_addDigit_50 rfl ?_
    refine pv_getI C (ci := 6) (k := 6) gwX7 rfl (Nat.le_of_ble_eq_true rfl) fl_X7_33 rfl rfl hp rfl rfl dX7_addDigit_51 (fun v9 hp => ?_)
    refine pv_iload_n C 2 dX7_addDigit_54 rfl ?_
    refine pv_iconst C hp dX7_addDigit_55 (by decide) (fun v10 hp => ?_)
    refine pv_isub C hp dX7_addDigit_56 (fun v11 hp => ?_)
    refine pv_iast C hp rfl rfl rfl (fun _ => rfl) dX7_addDigit_57 (fun V hp => ?_)
    refine pv_aload_n C 0 dX7_addDigit_58 rfl ?_
    refine pv_dup C dX7_addDigit_59 rfl ?_
    refine pv_getI C (ci := 6) (k := 6) gwX7 rfl (Nat.le_of_ble_eq_true rfl) fl_X7_33 rfl rfl hp rfl rfl dX7_addDigit_60 (fun v12 hp => ?_)
    refine pv_iconst C hp dX7_addDigit_63 (by decide) (fun v13 hp => ?_)
    refine pv_iadd C hp dX7_addDigit_64 (fun v14 hp => ?_)
    refine pv_putI C (ci := 6) (k := 6) gwX7 rfl (Nat.le_of_ble_eq_true rfl) fl_X7_33 rfl rfl tyX7_ok nmX7 hp rfl rfl rfl (by decide +kernel) dX7_addDigit_65 (fun V hp => ?_)
    exact pv_vret C rfl hp hr dX7_addDigit_68
  · refine pv_aload_n C 0 dX7_addDigit_33 rfl ?_
    refine pv_getR C (ci := 6) (k := 1) gwX7 rfl (Nat.le_of_ble_eq_true rfl) fl_X7_15 rfl rfl rfl (j := 4) rfl rfl dX7_addDigit_34 ?_
    refine pv_iload_n C 1 dX7_addDigit_37 rfl ?_
    refine pv_dup2 C dX7_addDigit_38 rfl rfl ?_
    refine pv_iald C hp rfl rfl rfl (fun _ => rfl) dX7_addDigit_39 (fun v15 hp => ?_)
    refine pv_iconst C hp dX7_addDigit_40 (by decide) (fun v16 hp => ?_)
    refine pv_iadd C hp dX7_addDigit_41 (fun v17 hp => ?_)
    refine pv_iast C hp rfl rfl rfl (fun _ => rfl) dX7_addDigit_42 (fun V hp => ?_)
    refine pv_goto (tgt := 68) C dX7_addDigit_43 (by decide) ?_
    exact pv_vret C rfl hp hr dX7_addDigit_68
def q_X7_add_b59 (N : Nat) (x3 : Int) (V : pvM) : Option pvO :=
  gR V 2 5 fun v1 =>
  lI (1) fun v2 =>
  lI (pv_w (v1 + v2)) fun v3 =>
  gW V 2 5 v3 fun V =>
  rT V x3
set_option maxHeartbeats 4000000 in
set_option maxRecDepth 100000 in
theorem w_X7_add_b59 {p : Program} {l : Launch} {e : Env} {s : State} {m : MethodId} {args : Array Value} {below : List Frame} {meth : Method} {c : Code} {D : va_G} {cy : Nat → ClassId} {A : Nat → Prop} {n0 : Nat} {ad0 : Nat → Nat} {V0 : pvM} {q : pvO} (C : pz_C p s m args meth c cX7_add 7 yX7_add.cls D cy A) (hr : meth.sig.returnType = (some .int)) {N : Nat} {x3 : Int32} {σ : pzS} {V : pvM} (hp : q_X7_add_b59 N x3.toInt V = some q) : pv_W p l e 1 22 s m args below meth c 7 D cy A n0 ad0 (pv_Q below D cy n0 ad0 1 V0 q A args s) V0 σ V 59 [(0, .ref 2), (3, .int x3)] [] := by
  unfold q_X7_add_b59 at hp
  refine pv_aload_n C 0 dX7_add_59 rfl ?_
  refine pv_dup C dX7_add_60 rfl ?_
  refine pv_getI C (ci := 6) (k := 5) gwX7 rfl (Nat.le_of_ble_eq_true rfl) fl_X7_29 rfl rfl hp rfl rfl dX7_add_61 (fun v1 hp => ?_)
  refine pv_iconst C hp dX7_add_64 (by decide) (fun v2 hp => ?_)
  refine pv_iadd C hp dX7_add_65 (fun v3 hp => ?_)
  refine pv_putI C (ci := 6) (k := 5) gwX7 rfl (Nat.le_of_ble_eq_true rfl) fl_X7_29 rfl rfl tyX7_ok nmX7 hp rfl rfl rfl (by decide +kernel) dX7_add_66 (fun V hp => ?_)
  refine pv_iload_n C 1 dX7_add_69 rfl ?_
  exact pv_iret C rfl hp hr dX7_add_70
def q_X7_add_b21 (N : Nat) : Nat → Int → Int → Int → pvM → Option pvO
  | 0 => fun _ _ _ _ => none
  | n + 1 => fun x3 x4 x6 V =>
    lI (12) fun v4 =>
    if v4 ≤ x6 then
      q_X7_add_b59 N x3 V
    else
    lI (0) fun v5 =>
    lI (pv_cmp x4 v5) fun v6 =>
    if v6 = 0 then
      q_X7_add_b59 N x3 V
    else
    lI (31) fun v7 =>
    lI (pv_andl x4 v7) fun v8 =>
    lI (pv_w v8) fun v9 =>
    cL (q_X7_addDigit N x3 v9 V) fun _ V =>
    lI (5) fun v10 =>
    lI (pv_shr x4 v10) fun v11 =>
    lI (pv_w (x6 + (1))) fun v12 =>
    q_X7_add_b21 N n x3 v11 v12 V
set_option maxHeartbeats 4000000 in
set_option maxRecDepth 100000 in
theorem w_X7_add_b21 {p : Program} {l : Launch} {e : Env} {s : State} {m : MethodId} {args : Array Value} {below : List Frame} {meth : Method} {c : Code} {D : va_G} {cy : Nat → ClassId} {A : Nat → Prop} {n0 : Nat} {ad0 : Nat → Nat} {V0 : pvM} {q : pvO} (C : pz_C p s m args meth c cX7_add 7 yX7_add.cls D cy A) (hr : meth.sig.returnType = (some .int)) {N : Nat} : ∀ (n : Nat) (x3 : Int32) (x4 : Int64) (x6 : Int32) (σ : pzS) (V : pvM), q_X7_add_b21 N n x3.toInt x4.toInt x6.toInt V = some q → pv_W p l e 1 22 s m args below meth c 7 D cy A n0 ad0 (pv_Q below D cy n0 ad0 1 V0 q A args s) V0 σ V 21 [(0, .ref 2), (3, .int x3), (4, .long x4), (6, .int x6)] [] := by
  intro n
  induction n with
  | zero =>
    intro x3 x4 x6 σ V hp
    simp only [q_X7_add_b21] at hp
    cases hp
  | succ n ih =>
    intro x3 x4 x6 σ V hp
    simp only [q_X7_add_b21] at hp
    refine pv_iload C 3 dX7_add_21 rfl ?_
    refine pv_bipush C hp dX7_add_23 (by decide) (fun v4 hp => ?_)
    refine pv_icmp_ge (tgt := 59) C hp dX7_add_25 (by decide) (fun hp => ?_) (fun hp => ?_)
    · refine pv_sub [0, 1] rfl ?_
      exact w_X7_add_b59 C hr hp
    · refine pv_lload C 2 dX7_add_28 rfl ?_
      refine pv_lconst C hp dX7_add_30 (by decide) (fun v5 hp => ?_)
      refine pv_lcmp C hp dX7_add_31 (fun v6 hp => ?_)
      refine pv_if_eq (tgt := 59) C hp dX7_add_32 (by decide) (fun hp => ?_) (fun hp => ?_)
      · refine pv_sub [0, 1] rfl ?_
        exact w_X7_add_b59 C hr hp
      · refine pv_aload_n C 0 dX7_add_35 rfl ?_
        refine pv_iload_n C 1 dX7_add_36 rfl ?_
        refine pv_lload C 2 dX7_add_37 rfl ?_
        refine pv_ldc2 C hp dX7_add_39 kl_X7_27 (by decide) (fun v7 hp => ?_)
        refine pv_land C hp dX7_add_42 (fun v8 hp => ?_)
        refine pv_l2i C hp dX7_add_43 (fun v9 hp => ?_)
        refine pv_callV C (As := [.int x3, .int v9]) (rest := []) (b := 2) (kd1 := 0) hp (fun q1 h9 => c_X7_addDigit l D cy h9) wB_yX7_addDigit ml_X7_36 im_yX7_addDigit se_yX7_addDigit (ci := 6) rfl rfl rfl rfl rfl (Nat.le_of_ble_eq_true rfl) ⟨(Nat.le_of_ble_eq_true rfl), (Nat.le_of_ble_eq_true rfl)⟩ dX7_add_44 rfl rfl (fun _ σ V hp => ?_)
        refine pv_lload C 2 dX7_add_47 rfl ?_
        refine pv_iconst C hp dX7_add_49 (by decide) (fun v10 hp => ?_)
        refine pv_lshr C hp dX7_add_50 (fun v11 hp => ?_)
        refine pv_lstore (loc' := [(4, .long v11), (0, .ref 2), (3, .int x3), (6, .int x6)]) C dX7_add_51 (by decide) rfl ?_
        refine pv_iinc (L := fun v12 => [(6, .int v12), (4, .long v11), (0, .ref 2), (3, .int x3)]) C 3 hp dX7_add_53 (by decide) rfl (by decide) (fun _ => rfl) (fun v12 hp => ?_)
        refine pv_goto (tgt := 21) C dX7_add_56 (by decide) ?_
        refine pv_sub [2, 3, 1, 0] rfl ?_
        exact ih _ _ _ _ _ hp
def q_X7_add (N : Nat) (x1 : Int) (V : pvM) : Option pvO :=
  gR V 2 5 fun v13 =>
  gR V 2 6 fun v14 =>
  aW V 5 8 v13 v14 fun V =>
  lI (0) fun v15 =>
  q_X7_add_b21 N N v13 x1 v15 V
set_option maxHeartbeats 4000000 in
set_option maxRecDepth 100000 in
theorem c_X7_add (l : Launch) (D : va_G) (cy : Nat → ClassId) {N : Nat} {x1 : Int64} {V : pvM} {q : pvO} (hp : q_X7_add N x1.toInt V = some q) : pv_Met l yX7_add cX7_add 7 (some .int) 1 22 D cy V [.ref 2, .long x1] 1 q := by
  unfold q_X7_add at hp
  refine pv_ofW (by decide) (Nat.le_of_ble_eq_true rfl) (fun p e s m args below meth c ad A n0 σ C hr => ?_)
  refine pv_aload_n C 0 dX7_add_0 rfl ?_
  refine pv_getI C (ci := 6) (k := 5) gwX7 rfl (Nat.le_of_ble_eq_true rfl) fl_X7_29 rfl rfl hp rfl rfl dX7_add_1 (fun v13 hp => ?_)
  refine pv_istore_n (loc' := [(3, .int v13), (0, .ref 2), (1, .long x1)]) C dX7_add_4 (by decide) rfl ?_
  refine pv_aload_n C 1 dX7_add_5 rfl ?_
  refine pv_getR C (ci := 6) (k := 2) gwX7 rfl (Nat.le_of_ble_eq_true rfl) fl_X7_18 rfl rfl rfl (j := 5) rfl rfl dX7_add_6 ?_
  refine pv_iload_n C 0 dX7_add_9 rfl ?_
  refine pv_aload_n C 1 dX7_add_10 rfl ?_
  refine pv_getI C (ci := 6) (k := 6) gwX7 rfl (Nat.le_of_ble_eq_true rfl) fl_X7_33 rfl rfl hp rfl rfl dX7_add_11 (fun v14 hp => ?_)
  refine pv_iast C hp rfl rfl rfl (fun _ => rfl) dX7_add_14 (fun V hp => ?_)
  refine pv_lload_n C 2 dX7_add_15 rfl ?_
  refine pv_lstore (loc' := [(4, .long x1), (3, .int v13), (0, .ref 2), (1, .long x1)]) C dX7_add_16 (by decide) rfl ?_
  refine pv_iconst C hp dX7_add_18 (by decide) (fun v15 hp => ?_)
  refine pv_istore (loc' := [(6, .int v15), (4, .long x1), (3, .int v13), (0, .ref 2), (1, .long x1)]) C dX7_add_19 (by decide) rfl ?_
  refine pv_sub [3, 2, 1, 0] rfl ?_
  exact w_X7_add_b21 C hr N _ _ _ _ _ hp
