def q_X1_clear (N : Nat) (V : pvM) : Option pvO :=
  lI (0) fun v1 =>
  gW V 29 5 v1 fun V =>
  lI (0) fun v2 =>
  gW V 29 6 v2 fun V =>
  rT V 0
set_option maxHeartbeats 4000000 in
set_option maxRecDepth 100000 in
theorem c_X1_clear (l : Launch) (D : va_G) (cy : Nat → ClassId) {N : Nat} {V : pvM} {q : pvO} (hp : q_X1_clear N V = some q) : pv_Met l yX1_clear cX1_clear 1 none 0 0 D cy V [.ref 29] 0 q := by
  unfold q_X1_clear at hp
  refine pv_ofW (by decide) (Nat.le_of_ble_eq_true rfl) (fun p e s m args below meth c ad A n0 σ C hr => ?_)
  refine pv_aload_n C 0 dX1_clear_0 rfl ?_
  refine pv_iconst C hp dX1_clear_1 (by decide) (fun v1 hp => ?_)
  refine pv_putI C (ci := 0) (k := 5) gwX1 rfl (Nat.le_of_ble_eq_true rfl) fl_X1_28 rfl rfl tyX1_ok nmX1 hp rfl rfl rfl (by decide +kernel) dX1_clear_2 (fun V hp => ?_)
  refine pv_aload_n C 0 dX1_clear_5 rfl ?_
  refine pv_iconst C hp dX1_clear_6 (by decide) (fun v2 hp => ?_)
  refine pv_putI C (ci := 0) (k := 6) gwX1 rfl (Nat.le_of_ble_eq_true rfl) fl_X1_32 rfl rfl tyX1_ok nmX1 hp rfl rfl rfl (by decide +kernel) dX1_clear_7 (fun V hp => ?_)
  exact pv_vret C rfl hp hr dX1_clear_10
def q_X1_areOpen (N : Nat) (V : pvM) : Option pvO :=
  gR V 29 5 fun v1 =>
  if v1 ≤ 0 then
    lI (0) fun v2 =>
    bT v2 (rT V v2)
  else
  lI (1) fun v3 =>
  bT v3 (rT V v3)
set_option maxHeartbeats 4000000 in
set_option maxRecDepth 100000 in
theorem c_X1_areOpen (l : Launch) (D : va_G) (cy : Nat → ClassId) {N : Nat} {V : pvM} {q : pvO} (hp : q_X1_areOpen N V = some q) : pv_Met l yX1_areOpen cX1_areOpen 1 (some .boolean) 0 0 D cy V [.ref 29] 1 q := by
  unfold q_X1_areOpen at hp
  refine pv_ofW (by decide) (Nat.le_of_ble_eq_true rfl) (fun p e s m args below meth c ad A n0 σ C hr => ?_)
  refine pv_aload_n C 0 dX1_areOpen_0 rfl ?_
  refine pv_getI C (ci := 0) (k := 5) gwX1 rfl (Nat.le_of_ble_eq_true rfl) fl_X1_28 rfl rfl hp rfl rfl dX1_areOpen_1 (fun v1 hp => ?_)
  refine pv_if_le (tgt := 11) C hp dX1_areOpen_4 (by decide) (fun hp => ?_) (fun hp => ?_)
  · refine pv_iconst C hp dX1_areOpen_11 (by decide) (fun v2 hp => ?_)
    exact pv_zret C rfl hp hr dX1_areOpen_12
  · refine pv_iconst C hp dX1_areOpen_7 (by decide) (fun v3 hp => ?_)
    refine pv_goto (tgt := 12) C dX1_areOpen_8 (by decide) ?_
    exact pv_zret C rfl hp hr dX1_areOpen_12
def q_X1_open_b57 (N : Nat) : Nat → Int → Int → pvM → Option pvO
  | 0 => fun _ _ _ => none
  | n + 1 => fun x2 x3 V =>
    lI (20) fun v1 =>
    if v1 ≤ x3 then
      gR V 29 6 fun v2 =>
      lI (20) fun v3 =>
      lI (pv_w (x2 + v3)) fun v4 =>
      aW V 33 60 v2 v4 fun V =>
      rT V 0
    else
    lI (pv_w (x2 + x3)) fun v5 =>
    lI (4294967296) fun v6 =>
    aW V 30 1980 v5 v6 fun V =>
    lI (pv_w (x3 + (1))) fun v7 =>
    q_X1_open_b57 N n x2 v7 V
set_option maxHeartbeats 4000000 in
set_option maxRecDepth 100000 in
theorem w_X1_open_b57 {p : Program} {l : Launch} {e : Env} {s : State} {m : MethodId} {args : Array Value} {below : List Frame} {meth : Method} {c : Code} {D : va_G} {cy : Nat → ClassId} {A : Nat → Prop} {n0 : Nat} {ad0 : Nat → Nat} {V0 : pvM} {q : pvO} (C : pz_C p s m args meth c cX1_open 4 yX1_open.cls D cy A) (hr : meth.sig.returnType = none) {N : Nat} : ∀ (n : Nat) (x2 : Int32) (x3 : Int32) (σ : pzS) (V : pvM), q_X1_open_b57 N n x2.toInt x3.toInt V = some q → pv_W p l e 0 0 s m args below meth c 4 D cy A n0 ad0 (pv_Q below D cy n0 ad0 0 V0 q A args s) V0 σ V 57 [(0, .ref 29), (2, .int x2), (3, .int x3)] [] := by
  intro n
  induction n with
  | zero =>
    intro x2 x3 σ V hp
    simp only [q_X1_open_b57] at hp
    cases hp
  | succ n ih =>
    intro x2 x3 σ V hp
    simp only [q_X1_open_b57] at hp
    refine pv_iload_n C 2 dX1_open_57 rfl ?_
    refine pv_bipush C hp dX1_open_58 (by decide) (fun v1 hp => ?_)
    refine pv_icmp_ge (tgt := 80) C hp dX1_open_60 (by decide) (fun hp => ?_) (fun hp => ?_)
    · refine pv_aload_n C 0 dX1_open_80 rfl ?_
      refine pv_getR C (ci := 0) (k := 3) gwX1 rfl (Nat.le_of_ble_eq_true rfl) fl_X1_22 rfl rfl rfl (j := 33) rfl rfl dX1_open_81 ?_
      refine pv_aload_n C 0 dX1_open_84 rfl ?_
      refine pv_getI C (ci := 0) (k := 6) gwX1 rfl (Nat.le_of_ble_eq_true rfl) fl_X1_32 rfl rfl hp rfl rfl dX1_open_85 (fun v2 hp => ?_)
      refine pv_iload_n C 1 dX1_open_88 rfl ?_
      refine pv_bipush C hp dX1_open_89 (by decide) (fun v3 hp => ?_)
      refine pv_iadd C hp dX1_open_91 (fun v4 hp => ?_)
      refine pv_iast C hp rfl rfl rfl (fun _ => rfl) dX1_open_92 (fun V hp => ?_)
      exact pv_vret C rfl hp hr dX1_open_93
    · refine pv_aload_n C 0 dX1_open_63 rfl ?_
      refine pv_getR C (ci := 0) (k := 0) gwX1 rfl (Nat.le_of_ble_eq_true rfl) fl_X1_11 rfl rfl rfl (j := 30) rfl rfl dX1_open_64 ?_
      refine pv_iload_n C 1 dX1_open_67 rfl ?_
      refine pv_iload_n C 2 dX1_open_68 rfl ?_
      refine pv_iadd C hp dX1_open_69 (fun v5 hp => ?_)
      refine pv_ldc2 C hp dX1_open_70 kl_X1_35 (by decide) (fun v6 hp => ?_)
      refine pv_last C hp rfl rfl rfl (fun _ => rfl) dX1_open_73 (fun V hp => ?_)
      refine pv_iinc (L := fun v7 => [(3, .int v7), (0, .ref 29), (2, .int x2)]) C 2 hp dX1_open_74 (by decide) rfl (by decide) (fun _ => rfl) (fun v7 hp => ?_)
      refine pv_goto (tgt := 57) C dX1_open_77 (by decide) ?_
      refine pv_sub [1, 2, 0] rfl ?_
      exact ih _ _ _ _ hp
def q_X1_open (N : Nat) (x1 : Int) (V : pvM) : Option pvO :=
  gR V 29 5 fun v8 =>
  lI (60) fun v9 =>
  if v9 ≤ v8 then
    rT V 0
  else
  gR V 29 5 fun v10 =>
  gW V 29 6 v10 fun V =>
  gR V 29 5 fun v11 =>
  lI (1) fun v12 =>
  lI (pv_w (v11 + v12)) fun v13 =>
  gW V 29 5 v13 fun V =>
  gR V 29 6 fun v14 =>
  aW V 31 60 v14 x1 fun V =>
  gR V 29 6 fun v15 =>
  lI (0) fun v16 =>
  aW V 32 60 v15 v16 fun V =>
  gR V 29 6 fun v17 =>
  lI (33) fun v18 =>
  lI (pv_w (v17 * v18)) fun v19 =>
  lI (0) fun v20 =>
  q_X1_open_b57 N N v19 v20 V
set_option maxHeartbeats 4000000 in
set_option maxRecDepth 100000 in
theorem c_X1_open (l : Launch) (D : va_G) (cy : Nat → ClassId) {N : Nat} {x1 : Int32} {V : pvM} {q : pvO} (hp : q_X1_open N x1.toInt V = some q) : pv_Met l yX1_open cX1_open 4 none 0 0 D cy V [.ref 29, .int x1] 0 q := by
  unfold q_X1_open at hp
  refine pv_ofW (by decide) (Nat.le_of_ble_eq_true rfl) (fun p e s m args below meth c ad A n0 σ C hr => ?_)
  refine pv_aload_n C 0 dX1_open_0 rfl ?_
  refine pv_getI C (ci := 0) (k := 5) gwX1 rfl (Nat.le_of_ble_eq_true rfl) fl_X1_28 rfl rfl hp rfl rfl dX1_open_1 (fun v8 hp => ?_)
  refine pv_bipush C hp dX1_open_4 (by decide) (fun v9 hp => ?_)
  refine pv_icmp_ge (tgt := 93) C hp dX1_open_6 (by decide) (fun hp => ?_) (fun hp => ?_)
  · exact pv_vret C rfl hp hr dX1_open_93
  · refine pv_aload_n C 0 dX1_open_9 rfl ?_
    refine pv_aload_n C 0 dX1_open_10 rfl ?_
    refine pv_getI C (ci := 0) (k := 5) gwX1 rfl (Nat.le_of_ble_eq_true rfl) fl_X1_28 rfl rfl hp rfl rfl dX1_open_11 (fun v10 hp => ?_)
    refine pv_putI C (ci := 0) (k := 6) gwX1 rfl (Nat.le_of_ble_eq_true rfl) fl_X1_32 rfl rfl tyX1_ok nmX1 hp rfl rfl rfl (by decide +kernel) dX1_open_14 (fun V hp => ?_)
    refine pv_aload_n C 0 dX1_open_17 rfl ?_
    refine pv_dup C dX1_open_18 rfl ?_
    refine pv_getI C (ci := 0) (k := 5) gwX1 rfl (Nat.le_of_ble_eq_true rfl) fl_X1_28 rfl rfl hp rfl rfl dX1_open_19 (fun v11 hp => ?_)
    refine pv_iconst C hp dX1_open_22 (by decide) (fun v12 hp => ?_)
    refine pv_iadd C hp dX1_open_23 (fun v13 hp => ?_)
    refine pv_putI C (ci := 0) (k := 5) gwX1 rfl (Nat.le_of_ble_eq_true rfl) fl_X1_28 rfl rfl tyX1_ok nmX1 hp rfl rfl rfl (by decide +kernel) dX1_open_24 (fun V hp => ?_)
    refine pv_aload_n C 0 dX1_open_27 rfl ?_
    refine pv_getR C (ci := 0) (k := 1) gwX1 rfl (Nat.le_of_ble_eq_true rfl) fl_X1_15 rfl rfl rfl (j := 31) rfl rfl dX1_open_28 ?_
    refine pv_aload_n C 0 dX1_open_31 rfl ?_
    refine pv_getI C (ci := 0) (k := 6) gwX1 rfl (Nat.le_of_ble_eq_true rfl) fl_X1_32 rfl rfl hp rfl rfl dX1_open_32 (fun v14 hp => ?_)
    refine pv_iload_n C 1 dX1_open_35 rfl ?_
    refine pv_iast C hp rfl rfl rfl (fun _ => rfl) dX1_open_36 (fun V hp => ?_)
    refine pv_aload_n C 0 dX1_open_37 rfl ?_
    refine pv_getR C (ci := 0) (k := 2) gwX1 rfl (Nat.le_of_ble_eq_true rfl) fl_X1_19 rfl rfl rfl (j := 32) rfl rfl dX1_open_38 ?_
    refine pv_aload_n C 0 dX1_open_41 rfl ?_
    refine pv_getI C (ci := 0) (k := 6) gwX1 rfl (Nat.le_of_ble_eq_true rfl) fl_X1_32 rfl rfl hp rfl rfl dX1_open_42 (fun v15 hp => ?_)
    refine pv_iconst C hp dX1_open_45 (by decide) (fun v16 hp => ?_)
    refine pv_iast C hp rfl rfl rfl (fun _ => rfl) dX1_open_46 (fun V hp => ?_)
    refine pv_aload_n C 0 dX1_open_47 rfl ?_
    refine pv_getI C (ci := 0) (k := 6) gwX1 rfl (Nat.le_of_ble_eq_true rfl) fl_X1_32 rfl rfl hp rfl rfl dX1_open_48 (fun v17 hp => ?_)
    refine pv_bipush C hp dX1_open_51 (by decide) (fun v18 hp => ?_)
    refine pv_imul C hp dX1_open_53 (fun v19 hp => ?_)
    refine pv_istore_n (loc' := [(2, .int v19), (0, .ref 29), (1, .int x1)]) C dX1_open_54 (by decide) rfl ?_
    refine pv_iconst C hp dX1_open_55 (by decide) (fun v20 hp => ?_)
    refine pv_istore_n (loc' := [(3, .int v20), (2, .int v19), (0, .ref 29), (1, .int x1)]) C dX1_open_56 (by decide) rfl ?_
    refine pv_sub [2, 1, 0] rfl ?_
    exact w_X1_open_b57 C hr N _ _ _ _ hp
def q_X1_close (N : Nat) (V : pvM) : Option pvO :=
  gR V 29 5 fun v1 =>
  lI (1) fun v2 =>
  lI (pv_w (v1 - v2)) fun v3 =>
  gW V 29 5 v3 fun V =>
  gR V 29 5 fun v4 =>
  lI (1) fun v5 =>
  lI (pv_w (v4 - v5)) fun v6 =>
  lI (0) fun v7 =>
  lI (if v6 < v7 then v7 else v6) fun v8 =>
  gW V 29 6 v8 fun V =>
  rT V 0
set_option maxHeartbeats 4000000 in
set_option maxRecDepth 100000 in
theorem c_X1_close (l : Launch) (D : va_G) (cy : Nat → ClassId) {N : Nat} {V : pvM} {q : pvO} (hp : q_X1_close N V = some q) : pv_Met l yX1_close cX1_close 1 none 1 24 D cy V [.ref 29] 0 q := by
  unfold q_X1_close at hp
  refine pv_ofW (by decide) (Nat.le_of_ble_eq_true rfl) (fun p e s m args below meth c ad A n0 σ C hr => ?_)
  refine pv_aload_n C 0 dX1_close_0 rfl ?_
  refine pv_dup C dX1_close_1 rfl ?_
  refine pv_getI C (ci := 0) (k := 5) gwX1 rfl (Nat.le_of_ble_eq_true rfl) fl_X1_28 rfl rfl hp rfl rfl dX1_close_2 (fun v1 hp => ?_)
  refine pv_iconst C hp dX1_close_5 (by decide) (fun v2 hp => ?_)
  refine pv_isub C hp dX1_close_6 (fun v3 hp => ?_)
  refine pv_putI C (ci := 0) (k := 5) gwX1 rfl (Nat.le_of_ble_eq_true rfl) fl_X1_28 rfl rfl tyX1_ok nmX1 hp rfl rfl rfl (by decide +kernel) dX1_close_7 (fun V hp => ?_)
  refine pv_aload_n C 0 dX1_close_10 rfl ?_
  refine pv_aload_n C 0 dX1_close_11 rfl ?_
  refine pv_getI C (ci := 0) (k := 5) gwX1 rfl (Nat.le_of_ble_eq_true rfl) fl_X1_28 rfl rfl hp rfl rfl dX1_close_12 (fun v4 hp => ?_)
  refine pv_iconst C hp dX1_close_15 (by decide) (fun v5 hp => ?_)
  refine pv_isub C hp dX1_close_16 (fun v6 hp => ?_)
  refine pv_iconst C hp dX1_close_17 (by decide) (fun v7 hp => ?_)
  refine pv_mmax C hp ml_X1_37 (Nat.le_of_ble_eq_true rfl) (Nat.le_of_ble_eq_true rfl) dX1_close_18 (fun v8 hp => ?_)
  refine pv_putI C (ci := 0) (k := 6) gwX1 rfl (Nat.le_of_ble_eq_true rfl) fl_X1_32 rfl rfl tyX1_ok nmX1 hp rfl rfl rfl (by decide +kernel) dX1_close_21 (fun V hp => ?_)
  exact pv_vret C rfl hp hr dX1_close_24
def q_X1_unit (N : Nat) (V : pvM) : Option pvO :=
  gR V 29 6 fun v1 =>
  aR V 31 60 v1 fun v2 =>
  rT V v2
set_option maxHeartbeats 4000000 in
set_option maxRecDepth 100000 in
theorem c_X1_unit (l : Launch) (D : va_G) (cy : Nat → ClassId) {N : Nat} {V : pvM} {q : pvO} (hp : q_X1_unit N V = some q) : pv_Met l yX1_unit cX1_unit 1 (some .int) 0 0 D cy V [.ref 29] 1 q := by
  unfold q_X1_unit at hp
  refine pv_ofW (by decide) (Nat.le_of_ble_eq_true rfl) (fun p e s m args below meth c ad A n0 σ C hr => ?_)
  refine pv_aload_n C 0 dX1_unit_0 rfl ?_
  refine pv_getR C (ci := 0) (k := 1) gwX1 rfl (Nat.le_of_ble_eq_true rfl) fl_X1_15 rfl rfl rfl (j := 31) rfl rfl dX1_unit_1 ?_
  refine pv_aload_n C 0 dX1_unit_4 rfl ?_
  refine pv_getI C (ci := 0) (k := 6) gwX1 rfl (Nat.le_of_ble_eq_true rfl) fl_X1_32 rfl rfl hp rfl rfl dX1_unit_5 (fun v1 hp => ?_)
  refine pv_iald C hp rfl rfl rfl (fun _ => rfl) dX1_unit_8 (fun v2 hp => ?_)
  exact pv_iret C rfl hp hr dX1_unit_9
def q_X1_place (N : Nat) (V : pvM) : Option pvO :=
  gR V 29 6 fun v1 =>
  aR V 32 60 v1 fun v2 =>
  rT V v2
set_option maxHeartbeats 4000000 in
set_option maxRecDepth 100000 in
theorem c_X1_place (l : Launch) (D : va_G) (cy : Nat → ClassId) {N : Nat} {V : pvM} {q : pvO} (hp : q_X1_place N V = some q) : pv_Met l yX1_place cX1_place 1 (some .int) 0 0 D cy V [.ref 29] 1 q := by
  unfold q_X1_place at hp
  refine pv_ofW (by decide) (Nat.le_of_ble_eq_true rfl) (fun p e s m args below meth c ad A n0 σ C hr => ?_)
  refine pv_aload_n C 0 dX1_place_0 rfl ?_
  refine pv_getR C (ci := 0) (k := 2) gwX1 rfl (Nat.le_of_ble_eq_true rfl) fl_X1_19 rfl rfl rfl (j := 32) rfl rfl dX1_place_1 ?_
  refine pv_aload_n C 0 dX1_place_4 rfl ?_
  refine pv_getI C (ci := 0) (k := 6) gwX1 rfl (Nat.le_of_ble_eq_true rfl) fl_X1_32 rfl rfl hp rfl rfl dX1_place_5 (fun v1 hp => ?_)
  refine pv_iald C hp rfl rfl rfl (fun _ => rfl) dX1_place_8 (fun v2 hp => ?_)
  exact pv_iret C rfl hp hr dX1_place_9
def q_X1_goTo (N : Nat) (x1 : Int) (V : pvM) : Option pvO :=
  gR V 29 6 fun v1 =>
  aW V 32 60 v1 x1 fun V =>
  rT V 0
set_option maxHeartbeats 4000000 in
set_option maxRecDepth 100000 in
theorem c_X1_goTo (l : Launch) (D : va_G) (cy : Nat → ClassId) {N : Nat} {x1 : Int32} {V : pvM} {q : pvO} (hp : q_X1_goTo N x1.toInt V = some q) : pv_Met l yX1_goTo cX1_goTo 2 none 0 0 D cy V [.ref 29, .int x1] 0 q := by
  unfold q_X1_goTo at hp
  refine pv_ofW (by decide) (Nat.le_of_ble_eq_true rfl) (fun p e s m args below meth c ad A n0 σ C hr => ?_)
  refine pv_aload_n C 0 dX1_goTo_0 rfl ?_
  refine pv_getR C (ci := 0) (k := 2) gwX1 rfl (Nat.le_of_ble_eq_true rfl) fl_X1_19 rfl rfl rfl (j := 32) rfl rfl dX1_goTo_1 ?_
  refine pv_aload_n C 0 dX1_goTo_4 rfl ?_
  refine pv_getI C (ci := 0) (k := 6) gwX1 rfl (Nat.le_of_ble_eq_true rfl) fl_X1_32 rfl rfl hp rfl rfl dX1_goTo_5 (fun v1 hp => ?_)
  refine pv_iload_n C 1 dX1_goTo_8 rfl ?_
  refine pv_iast C hp rfl rfl rfl (fun _ => rfl) dX1_goTo_9 (fun V hp => ?_)
  exact pv_vret C rfl hp hr dX1_goTo_10
def q_X1_local (N : Nat) (x1 : Int) (V : pvM) : Option pvO :=
  gR V 29 6 fun v1 =>
  lI (33) fun v2 =>
  lI (pv_w (v1 * v2)) fun v3 =>
  lI (pv_w (v3 + x1)) fun v4 =>
  aR V 30 1980 v4 fun v5 =>
  rT V v5
set_option maxHeartbeats 4000000 in
set_option maxRecDepth 100000 in
theorem c_X1_local (l : Launch) (D : va_G) (cy : Nat → ClassId) {N : Nat} {x1 : Int32} {V : pvM} {q : pvO} (hp : q_X1_local N x1.toInt V = some q) : pv_Met l yX1_local cX1_local 2 (some .long) 0 0 D cy V [.ref 29, .int x1] 2 q := by
  unfold q_X1_local at hp
  refine pv_ofW (by decide) (Nat.le_of_ble_eq_true rfl) (fun p e s m args below meth c ad A n0 σ C hr => ?_)
  refine pv_aload_n C 0 dX1_local_0 rfl ?_
  refine pv_getR C (ci := 0) (k := 0) gwX1 rfl (Nat.le_of_ble_eq_true rfl) fl_X1_11 rfl rfl rfl (j := 30) rfl rfl dX1_local_1 ?_
  refine pv_aload_n C 0 dX1_local_4 rfl ?_
  refine pv_getI C (ci := 0) (k := 6) gwX1 rfl (Nat.le_of_ble_eq_true rfl) fl_X1_32 rfl rfl hp rfl rfl dX1_local_5 (fun v1 hp => ?_)
  refine pv_bipush C hp dX1_local_8 (by decide) (fun v2 hp => ?_)
  refine pv_imul C hp dX1_local_10 (fun v3 hp => ?_)
  refine pv_iload_n C 1 dX1_local_11 rfl ?_
  refine pv_iadd C hp dX1_local_12 (fun v4 hp => ?_)
  refine pv_lald C hp rfl rfl rfl (fun _ => rfl) dX1_local_13 (fun v5 hp => ?_)
  exact pv_lret C rfl hp hr dX1_local_14
def q_X1_setLocal (N : Nat) (x1 : Int) (x2 : Int) (V : pvM) : Option pvO :=
  gR V 29 6 fun v1 =>
  lI (33) fun v2 =>
  lI (pv_w (v1 * v2)) fun v3 =>
  lI (pv_w (v3 + x1)) fun v4 =>
  aW V 30 1980 v4 x2 fun V =>
  rT V 0
set_option maxHeartbeats 4000000 in
set_option maxRecDepth 100000 in
theorem c_X1_setLocal (l : Launch) (D : va_G) (cy : Nat → ClassId) {N : Nat} {x1 : Int32} {x2 : Int64} {V : pvM} {q : pvO} (hp : q_X1_setLocal N x1.toInt x2.toInt V = some q) : pv_Met l yX1_setLocal cX1_setLocal 4 none 0 0 D cy V [.ref 29, .int x1, .long x2] 0 q := by
  unfold q_X1_setLocal at hp
  refine pv_ofW (by decide) (Nat.le_of_ble_eq_true rfl) (fun p e s m args below meth c ad A n0 σ C hr => ?_)
  refine pv_aload_n C 0 dX1_setLocal_0 rfl ?_
  refine pv_getR C (ci := 0) (k := 0) gwX1 rfl (Nat.le_of_ble_eq_true rfl) fl_X1_11 rfl rfl rfl (j := 30) rfl rfl dX1_setLocal_1 ?_
  refine pv_aload_n C 0 dX1_setLocal_4 rfl ?_
  refine pv_getI C (ci := 0) (k := 6) gwX1 rfl (Nat.le_of_ble_eq_true rfl) fl_X1_32 rfl rfl hp rfl rfl dX1_setLocal_5 (fun v1 hp => ?_)
  refine pv_bipush C hp dX1_setLocal_8 (by decide) (fun v2 hp => ?_)
  refine pv_imul C hp dX1_setLocal_10 (fun v3 hp => ?_)
  refine pv_iload_n C 1 dX1_setLocal_11 rfl ?_
  refine pv_iadd C hp dX1_setLocal_12 (fun v4 hp => ?_)
  refine pv_lload_n C 2 dX1_setLocal_13 rfl ?_
  refine pv_last C hp rfl rfl rfl (fun _ => rfl) dX1_setLocal_14 (fun V hp => ?_)
  exact pv_vret C rfl hp hr dX1_setLocal_15
def q_X1_push (N : Nat) (x1 : Int) (V : pvM) : Option pvO :=
  gR V 29 6 fun v1 =>
  aR V 33 60 v1 fun v2 =>
  gR V 29 6 fun v3 =>
  lI (1) fun v4 =>
  lI (pv_w (v3 + v4)) fun v5 =>
  lI (33) fun v6 =>
  lI (pv_w (v5 * v6)) fun v7 =>
  if v7 ≤ v2 then
    rT V 0
  else
  gR V 29 6 fun v8 =>
  aR V 33 60 v8 fun v9 =>
  aW V 30 1980 v9 x1 fun V =>
  gR V 29 6 fun v10 =>
  aR V 33 60 v10 fun v11 =>
  lI (1) fun v12 =>
  lI (pv_w (v11 + v12)) fun v13 =>
  aW V 33 60 v10 v13 fun V =>
  rT V 0
set_option maxHeartbeats 4000000 in
set_option maxRecDepth 100000 in
theorem c_X1_push (l : Launch) (D : va_G) (cy : Nat → ClassId) {N : Nat} {x1 : Int64} {V : pvM} {q : pvO} (hp : q_X1_push N x1.toInt V = some q) : pv_Met l yX1_push cX1_push 3 none 0 0 D cy V [.ref 29, .long x1] 0 q := by
  unfold q_X1_push at hp
  refine pv_ofW (by decide) (Nat.le_of_ble_eq_true rfl) (fun p e s m args below meth c ad A n0 σ C hr => ?_)
  refine pv_aload_n C 0 dX1_push_0 rfl ?_
  refine pv_getR C (ci := 0) (k := 3) gwX1 rfl (Nat.le_of_ble_eq_true rfl) fl_X1_22 rfl rfl rfl (j := 33) rfl rfl dX1_push_1 ?_
  refine pv_aload_n C 0 dX1_push_4 rfl ?_
  refine pv_getI C (ci := 0) (k := 6) gwX1 rfl (Nat.le_of_ble_eq_true rfl) fl_X1_32 rfl rfl hp rfl rfl dX1_push_5 (fun v1 hp => ?_)
  refine pv_iald C hp rfl rfl rfl (fun _ => rfl) dX1_push_8 (fun v2 hp => ?_)
  refine pv_aload_n C 0 dX1_push_9 rfl ?_
  refine pv_getI C (ci := 0) (k := 6) gwX1 rfl (Nat.le_of_ble_eq_true rfl) fl_X1_32 rfl rfl hp rfl rfl dX1_push_10 (fun v3 hp => ?_)
  refine pv_iconst C hp dX1_push_13 (by decide) (fun v4 hp => ?_)
  refine pv_iadd C hp dX1_push_14 (fun v5 hp => ?_)
  refine pv_bipush C hp dX1_push_15 (by decide) (fun v6 hp => ?_)
  refine pv_imul C hp dX1_push_17 (fun v7 hp => ?_)
  refine pv_icmp_ge (tgt := 49) C hp dX1_push_18 (by decide) (fun hp => ?_) (fun hp => ?_)
  · exact pv_vret C rfl hp hr dX1_push_49
  · refine pv_aload_n C 0 dX1_push_21 rfl ?_
    refine pv_getR C (ci := 0) (k := 0) gwX1 rfl (Nat.le_of_ble_eq_true rfl) fl_X1_11 rfl rfl rfl (j := 30) rfl rfl dX1_push_22 ?_
    refine pv_aload_n C 0 dX1_push_25 rfl ?_
    refine pv_getR C (ci := 0) (k := 3) gwX1 rfl (Nat.le_of_ble_eq_true rfl) fl_X1_22 rfl rfl rfl (j := 33) rfl rfl dX1_push_26 ?_
    refine pv_aload_n C 0 dX1_push_29 rfl ?_
    refine pv_getI C (ci := 0) (k := 6) gwX1 rfl (Nat.le_of_ble_eq_true rfl) fl_X1_32 rfl rfl hp rfl rfl dX1_push_30 (fun v8 hp => ?_)
    refine pv_iald C hp rfl rfl rfl (fun _ => rfl) dX1_push_33 (fun v9 hp => ?_)
    refine pv_lload_n C 1 dX1_push_34 rfl ?_
    refine pv_last C hp rfl rfl rfl (fun _ => rfl) dX1_push_35 (fun V hp => ?_)
    refine pv_aload_n C 0 dX1_push_36 rfl ?_
    refine pv_getR C (ci := 0) (k := 3) gwX1 rfl (Nat.le_of_ble_eq_true rfl) fl_X1_22 rfl rfl rfl (j := 33) rfl rfl dX1_push_37 ?_
    refine pv_aload_n C 0 dX1_push_40 rfl ?_
    refine pv_getI C (ci := 0) (k := 6) gwX1 rfl (Nat.le_of_ble_eq_true rfl) fl_X1_32 rfl rfl hp rfl rfl dX1_push_41 (fun v10 hp => ?_)
    refine pv_dup2 C dX1_push_44 rfl rfl ?_
    refine pv_iald C hp rfl rfl rfl (fun _ => rfl) dX1_push_45 (fun v11 hp => ?_)
    refine pv_iconst C hp dX1_push_46 (by decide) (fun v12 hp => ?_)
    refine pv_iadd C hp dX1_push_47 (fun v13 hp => ?_)
    refine pv_iast C hp rfl rfl rfl (fun _ => rfl) dX1_push_48 (fun V hp => ?_)
    exact pv_vret C rfl hp hr dX1_push_49
def q_X1_pop (N : Nat) (V : pvM) : Option pvO :=
  gR V 29 6 fun v1 =>
  aR V 33 60 v1 fun v2 =>
  gR V 29 6 fun v3 =>
  lI (33) fun v4 =>
  lI (pv_w (v3 * v4)) fun v5 =>
  lI (20) fun v6 =>
  lI (pv_w (v5 + v6)) fun v7 =>
  if v2 ≠ v7 then
    gR V 29 6 fun v8 =>
    aR V 33 60 v8 fun v9 =>
    lI (1) fun v10 =>
    lI (pv_w (v9 - v10)) fun v11 =>
    aW V 33 60 v8 v11 fun V =>
    gR V 29 6 fun v12 =>
    aR V 33 60 v12 fun v13 =>
    aR V 30 1980 v13 fun v14 =>
    rT V v14
  else
  lI (4294967296) fun v15 =>
  rT V v15
set_option maxHeartbeats 4000000 in
set_option maxRecDepth 100000 in
theorem c_X1_pop (l : Launch) (D : va_G) (cy : Nat → ClassId) {N : Nat} {V : pvM} {q : pvO} (hp : q_X1_pop N V = some q) : pv_Met l yX1_pop cX1_pop 1 (some .long) 0 0 D cy V [.ref 29] 2 q := by
  unfold q_X1_pop at hp
  refine pv_ofW (by decide) (Nat.le_of_ble_eq_true rfl) (fun p e s m args below meth c ad A n0 σ C hr => ?_)
  refine pv_aload_n C 0 dX1_pop_0 rfl ?_
  refine pv_getR C (ci := 0) (k := 3) gwX1 rfl (Nat.le_of_ble_eq_true rfl) fl_X1_22 rfl rfl rfl (j := 33) rfl rfl dX1_pop_1 ?_
  refine pv_aload_n C 0 dX1_pop_4 rfl ?_
  refine pv_getI C (ci := 0) (k := 6) gwX1 rfl (Nat.le_of_ble_eq_true rfl) fl_X1_32 rfl rfl hp rfl rfl dX1_pop_5 (fun v1 hp => ?_)
  refine pv_iald C hp rfl rfl rfl (fun _ => rfl) dX1_pop_8 (fun v2 hp => ?_)
  refine pv_aload_n C 0 dX1_pop_9 rfl ?_
  refine pv_getI C (ci := 0) (k := 6) gwX1 rfl (Nat.le_of_ble_eq_true rfl) fl_X1_32 rfl rfl hp rfl rfl dX1_pop_10 (fun v3 hp => ?_)
  refine pv_bipush C hp dX1_pop_13 (by decide) (fun v4 hp => ?_)
  refine pv_imul C hp dX1_pop_15 (fun v5 hp => ?_)
  refine pv_bipush C hp dX1_pop_16 (by decide) (fun v6 hp => ?_)
  refine pv_iadd C hp dX1_pop_18 (fun v7 hp => ?_)
  refine pv_icmp_ne (tgt := 26) C hp dX1_pop_19 (by decide) (fun hp => ?_) (fun hp => ?_)
  · refine pv_aload_n C 0 dX1_pop_26 rfl ?_
    refine pv_getR C (ci := 0) (k := 3) gwX1 rfl (Nat.le_of_ble_eq_true rfl) fl_X1_22 rfl rfl rfl (j := 33) rfl rfl dX1_pop_27 ?_
    refine pv_aload_n C 0 dX1_pop_30 rfl ?_
    refine pv_getI C (ci := 0) (k := 6) gwX1 rfl (Nat.le_of_ble_eq_true rfl) fl_X1_32 rfl rfl hp rfl rfl dX1_pop_31 (fun v8 hp => ?_)
    refine pv_dup2 C dX1_pop_34 rfl rfl ?_
    refine pv_iald C hp rfl rfl rfl (fun _ => rfl) dX1_pop_35 (fun v9 hp => ?_)
    refine pv_iconst C hp dX1_pop_36 (by decide) (fun v10 hp => ?_)
    refine pv_isub C hp dX1_pop_37 (fun v11 hp => ?_)
    refine pv_iast C hp rfl rfl rfl (fun _ => rfl) dX1_pop_38 (fun V hp => ?_)
    refine pv_aload_n C 0 dX1_pop_39 rfl ?_
    refine pv_getR C (ci := 0) (k := 0) gwX1 rfl (Nat.le_of_ble_eq_true rfl) fl_X1_11 rfl rfl rfl (j := 30) rfl rfl dX1_pop_40 ?_
    refine pv_aload_n C 0 dX1_pop_43 rfl ?_
    refine pv_getR C (ci := 0) (k := 3) gwX1 rfl (Nat.le_of_ble_eq_true rfl) fl_X1_22 rfl rfl rfl (j := 33) rfl rfl dX1_pop_44 ?_
    refine pv_aload_n C 0 dX1_pop_47 rfl ?_
    refine pv_getI C (ci := 0) (k := 6) gwX1 rfl (Nat.le_of_ble_eq_true rfl) fl_X1_32 rfl rfl hp rfl rfl dX1_pop_48 (fun v12 hp => ?_)
    refine pv_iald C hp rfl rfl rfl (fun _ => rfl) dX1_pop_51 (fun v13 hp => ?_)
    refine pv_lald C hp rfl rfl rfl (fun _ => rfl) dX1_pop_52 (fun v14 hp => ?_)
    exact pv_lret C rfl hp hr dX1_pop_53
  · refine pv_ldc2 C hp dX1_pop_22 kl_X1_35 (by decide) (fun v15 hp => ?_)
    exact pv_lret C rfl hp hr dX1_pop_25
def q_X1_take_b4 (N : Nat) : Nat → Int → pvM → Option pvO
  | 0 => fun _ _ => none
  | n + 1 => fun x2 V =>
    if x2 < 0 then
      rT V 0
    else
    cL (q_X1_pop N V) fun v1 V =>
    aW V 34 12 x2 v1 fun V =>
    lI (pv_w (x2 + (-1))) fun v2 =>
    q_X1_take_b4 N n v2 V
set_option maxHeartbeats 4000000 in
set_option maxRecDepth 100000 in
theorem w_X1_take_b4 {p : Program} {l : Launch} {e : Env} {s : State} {m : MethodId} {args : Array Value} {below : List Frame} {meth : Method} {c : Code} {D : va_G} {cy : Nat → ClassId} {A : Nat → Prop} {n0 : Nat} {ad0 : Nat → Nat} {V0 : pvM} {q : pvO} (C : pz_C p s m args meth c cX1_take 3 yX1_take.cls D cy A) (hr : meth.sig.returnType = none) {N : Nat} : ∀ (n : Nat) (x2 : Int32) (σ : pzS) (V : pvM), q_X1_take_b4 N n x2.toInt V = some q → pv_W p l e 1 20 s m args below meth c 3 D cy A n0 ad0 (pv_Q below D cy n0 ad0 0 V0 q A args s) V0 σ V 4 [(0, .ref 29), (2, .int x2)] [] := by
  intro n
  induction n with
  | zero =>
    intro x2 σ V hp
    simp only [q_X1_take_b4] at hp
    cases hp
  | succ n ih =>
    intro x2 σ V hp
    simp only [q_X1_take_b4] at hp
    refine pv_iload_n C 1 dX1_take_4 rfl ?_
    refine pv_if_lt (tgt := 24) C hp dX1_take_5 (by decide) (fun hp => ?_) (fun hp => ?_)
    · exact pv_vret C rfl hp hr dX1_take_24
    · refine pv_aload_n C 0 dX1_take_8 rfl ?_
      refine pv_getR C (ci := 0) (k := 4) gwX1 rfl (Nat.le_of_ble_eq_true rfl) fl_X1_25 rfl rfl rfl (j := 34) rfl rfl dX1_take_9 ?_
      refine pv_iload_n C 1 dX1_take_12 rfl ?_
      refine pv_aload_n C 0 dX1_take_13 rfl ?_
      refine pv_callV C (As := []) (rest := [.int x2, .ref 34]) (b := 29) (kd1 := 2) hp (fun q1 h9 => c_X1_pop l D cy h9) wB_yX1_pop ml_X1_43 im_yX1_pop se_yX1_pop (ci := 0) rfl rfl rfl rfl rfl (Nat.le_of_ble_eq_true rfl) ⟨(Nat.le_of_ble_eq_true rfl), (Nat.le_of_ble_eq_true rfl)⟩ dX1_take_14 rfl rfl (fun v1 σ V hp => ?_)
      refine pv_last C hp rfl rfl rfl (fun _ => rfl) dX1_take_17 (fun V hp => ?_)
      refine pv_iinc (L := fun v2 => [(2, .int v2), (0, .ref 29)]) C 1 hp dX1_take_18 (by decide) rfl (by decide) (fun _ => rfl) (fun v2 hp => ?_)
      refine pv_goto (tgt := 4) C dX1_take_21 (by decide) ?_
      refine pv_sub [1, 0] rfl ?_
      exact ih _ _ _ hp
def q_X1_take (N : Nat) (x1 : Int) (V : pvM) : Option pvO :=
  lI (1) fun v3 =>
  lI (pv_w (x1 - v3)) fun v4 =>
  q_X1_take_b4 N N v4 V
set_option maxHeartbeats 4000000 in
set_option maxRecDepth 100000 in
theorem c_X1_take (l : Launch) (D : va_G) (cy : Nat → ClassId) {N : Nat} {x1 : Int32} {V : pvM} {q : pvO} (hp : q_X1_take N x1.toInt V = some q) : pv_Met l yX1_take cX1_take 3 none 1 20 D cy V [.ref 29, .int x1] 0 q := by
  unfold q_X1_take at hp
  refine pv_ofW (by decide) (Nat.le_of_ble_eq_true rfl) (fun p e s m args below meth c ad A n0 σ C hr => ?_)
  refine pv_iload_n C 1 dX1_take_0 rfl ?_
  refine pv_iconst C hp dX1_take_1 (by decide) (fun v3 hp => ?_)
  refine pv_isub C hp dX1_take_2 (fun v4 hp => ?_)
  refine pv_istore_n (loc' := [(2, .int v4), (0, .ref 29), (1, .int x1)]) C dX1_take_3 (by decide) rfl ?_
  refine pv_sub [1, 0] rfl ?_
  exact w_X1_take_b4 C hr N _ _ _ hp
def q_X1_takenAt (N : Nat) (x1 : Int) (V : pvM) : Option pvO :=
  aR V 34 12 x1 fun v1 =>
  rT V v1
set_option maxHeartbeats 4000000 in
set_option maxRecDepth 100000 in
theorem c_X1_takenAt (l : Launch) (D : va_G) (cy : Nat → ClassId) {N : Nat} {x1 : Int32} {V : pvM} {q : pvO} (hp : q_X1_takenAt N x1.toInt V = some q) : pv_Met l yX1_takenAt cX1_takenAt 2 (some .long) 0 0 D cy V [.ref 29, .int x1] 2 q := by
  unfold q_X1_takenAt at hp
  refine pv_ofW (by decide) (Nat.le_of_ble_eq_true rfl) (fun p e s m args below meth c ad A n0 σ C hr => ?_)
  refine pv_aload_n C 0 dX1_takenAt_0 rfl ?_
  refine pv_getR C (ci := 0) (k := 4) gwX1 rfl (Nat.le_of_ble_eq_true rfl) fl_X1_25 rfl rfl rfl (j := 34) rfl rfl dX1_takenAt_1 ?_
  refine pv_iload_n C 1 dX1_takenAt_4 rfl ?_
  refine pv_lald C hp rfl rfl rfl (fun _ => rfl) dX1_takenAt_5 (fun v1 hp => ?_)
  exact pv_lret C rfl hp hr dX1_takenAt_6
def q_X1_setLocalsToTaken_b2 (N : Nat) : Nat → Int → Int → Int → pvM → Option pvO
  | 0 => fun _ _ _ _ => none
  | n + 1 => fun x1 x2 x3 V =>
    if x2 ≤ x3 then
      rT V 0
    else
    lI (pv_w (x1 + x3)) fun v1 =>
    aR V 34 12 x3 fun v2 =>
    cL (q_X1_setLocal N v1 v2 V) fun _ V =>
    lI (pv_w (x3 + (1))) fun v3 =>
    q_X1_setLocalsToTaken_b2 N n x1 x2 v3 V
set_option maxHeartbeats 4000000 in
set_option maxRecDepth 100000 in
theorem w_X1_setLocalsToTaken_b2 {p : Program} {l : Launch} {e : Env} {s : State} {m : MethodId} {args : Array Value} {below : List Frame} {meth : Method} {c : Code} {D : va_G} {cy : Nat → ClassId} {A : Nat → Prop} {n0 : Nat} {ad0 : Nat → Nat} {V0 : pvM} {q : pvO} (C : pz_C p s m args meth c cX1_setLocalsToTaken 4 yX1_setLocalsToTaken.cls D cy A) (hr : meth.sig.returnType = none) {N : Nat} : ∀ (n : Nat) (x1 : Int32) (x2 : Int32) (x3 : Int32) (σ : pzS) (V : pvM), q_X1_setLocalsToTaken_b2 N n x1.toInt x2.toInt x3.toInt V = some q → pv_W p l e 1 23 s m args below meth c 4 D cy A n0 ad0 (pv_Q below D cy n0 ad0 0 V0 q A args s) V0 σ V 2 [(0, .ref 29), (1, .int x1), (2, .int x2), (3, .int x3)] [] := by
  intro n
  induction n with
  | zero =>
    intro x1 x2 x3 σ V hp
    simp only [q_X1_setLocalsToTaken_b2] at hp
    cases hp
  | succ n ih =>
    intro x1 x2 x3 σ V hp
    simp only [q_X1_setLocalsToTaken_b2] at hp
    refine pv_iload_n C 3 dX1_setLocalsToTaken_2 rfl ?_
    refine pv_iload_n C 2 dX1_setLocalsToTaken_3 rfl ?_
    refine pv_icmp_ge (tgt := 26) C hp dX1_setLocalsToTaken_4 (by decide) (fun hp => ?_) (fun hp => ?_)
    · exact pv_vret C rfl hp hr dX1_setLocalsToTaken_26
    · refine pv_aload_n C 0 dX1_setLocalsToTaken_7 rfl ?_
      refine pv_iload_n C 1 dX1_setLocalsToTaken_8 rfl ?_
      refine pv_iload_n C 3 dX1_setLocalsToTaken_9 rfl ?_
      refine pv_iadd C hp dX1_setLocalsToTaken_10 (fun v1 hp => ?_)
      refine pv_aload_n C 0 dX1_setLocalsToTaken_11 rfl ?_
      refine pv_getR C (ci := 0) (k := 4) gwX1 rfl (Nat.le_of_ble_eq_true rfl) fl_X1_25 rfl rfl rfl (j := 34) rfl rfl dX1_setLocalsToTaken_12 ?_
      refine pv_iload_n C 3 dX1_setLocalsToTaken_15 rfl ?_
      refine pv_lald C hp rfl rfl rfl (fun _ => rfl) dX1_setLocalsToTaken_16 (fun v2 hp => ?_)
      refine pv_callV C (As := [.int v1, .long v2]) (rest := []) (b := 29) (kd1 := 0) hp (fun q1 h9 => c_X1_setLocal l D cy h9) wB_yX1_setLocal ml_X1_47 im_yX1_setLocal se_yX1_setLocal (ci := 0) rfl rfl rfl rfl rfl (Nat.le_of_ble_eq_true rfl) ⟨(Nat.le_of_ble_eq_true rfl), (Nat.le_of_ble_eq_true rfl)⟩ dX1_setLocalsToTaken_17 rfl rfl (fun _ σ V hp => ?_)
      refine pv_iinc (L := fun v3 => [(3, .int v3), (0, .ref 29), (1, .int x1), (2, .int x2)]) C 3 hp dX1_setLocalsToTaken_20 (by decide) rfl (by decide) (fun _ => rfl) (fun v3 hp => ?_)
      refine pv_goto (tgt := 2) C dX1_setLocalsToTaken_23 (by decide) ?_
      refine pv_sub [1, 2, 3, 0] rfl ?_
      exact ih _ _ _ _ _ hp
def q_X1_setLocalsToTaken (N : Nat) (x1 : Int) (x2 : Int) (V : pvM) : Option pvO :=
  lI (0) fun v4 =>
  q_X1_setLocalsToTaken_b2 N N x1 x2 v4 V
set_option maxHeartbeats 4000000 in
set_option maxRecDepth 100000 in
theorem c_X1_setLocalsToTaken (l : Launch) (D : va_G) (cy : Nat → ClassId) {N : Nat} {x1 : Int32} {x2 : Int32} {V : pvM} {q : pvO} (hp : q_X1_setLocalsToTaken N x1.toInt x2.toInt V = some q) : pv_Met l yX1_setLocalsToTaken cX1_setLocalsToTaken 4 none 1 23 D cy V [.ref 29, .int x1, .int x2] 0 q := by
  unfold q_X1_setLocalsToTaken at hp
  refine pv_ofW (by decide) (Nat.le_of_ble_eq_true rfl) (fun p e s m args below meth c ad A n0 σ C hr => ?_)
  refine pv_iconst C hp dX1_setLocalsToTaken_0 (by decide) (fun v4 hp => ?_)
  refine pv_istore_n (loc' := [(3, .int v4), (0, .ref 29), (1, .int x1), (2, .int x2)]) C dX1_setLocalsToTaken_1 (by decide) rfl ?_
  refine pv_sub [1, 2, 3, 0] rfl ?_
  exact w_X1_setLocalsToTaken_b2 C hr N _ _ _ _ _ hp
