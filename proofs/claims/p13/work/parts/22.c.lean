def q_X11_count_b32 (N : Nat) (x1 : Int) (s0 : Int) (s1 : Int) (V : pvM) : Option pvO :=
  cL (q_X11_goes N s1 s0 V) fun v1 V =>
  if v1 ≠ 0 then
    if x1 ≠ 0 then
      lI (1) fun v2 =>
      if x1 ≠ v2 then
        lI (2) fun v3 =>
        if x1 ≠ v3 then
          gR V 45 24 fun v4 =>
          rT V v4
        else
        gR V 45 21 fun v5 =>
        rT V v5
      else
      gR V 45 7 fun v6 =>
      rT V v6
    else
    gR V 45 1 fun v7 =>
    rT V v7
  else
  lI (0) fun v8 =>
  rT V v8
set_option maxHeartbeats 4000000 in
set_option maxRecDepth 100000 in
theorem w_X11_count_b32 {p : Program} {l : Launch} {e : Env} {s : State} {m : MethodId} {args : Array Value} {below : List Frame} {meth : Method} {c : Code} {D : va_G} {cy : Nat → ClassId} {A : Nat → Prop} {n0 : Nat} {ad0 : Nat → Nat} {V0 : pvM} {q : pvO} (C : pz_C p s m args meth c cX11_count 2 yX11_count.cls D cy A) (hr : meth.sig.returnType = (some .int)) {N : Nat} {x1 : Int32} {s0 : Int32} {s1 : Int32} {σ : pzS} {V : pvM} (hp : q_X11_count_b32 N x1.toInt s0.toInt s1.toInt V = some q) : pv_W p l e 1 22 s m args below meth c 2 D cy A n0 ad0 (pv_Q below D cy n0 ad0 1 V0 q A args s) V0 σ V 32 [(0, .ref 45), (1, .int x1)] [.int s0, .int s1, .ref 45] := by
  unfold q_X11_count_b32 at hp
  refine pv_callV C (As := [.int s1, .int s0]) (rest := []) (b := 45) (kd1 := 1) hp (fun q1 h9 => c_X11_goes l D cy h9) wB_yX11_goes ml_X11_130 im_yX11_goes se_yX11_goes (ci := 10) rfl rfl rfl rfl rfl (Nat.le_of_ble_eq_true rfl) ⟨(Nat.le_of_ble_eq_true rfl), (Nat.le_of_ble_eq_true rfl)⟩ dX11_count_32 rfl rfl (fun v1 σ V hp => ?_)
  refine pv_if_ne (tgt := 40) C hp dX11_count_35 (by decide) (fun hp => ?_) (fun hp => ?_)
  · refine pv_iload_n C 1 dX11_count_40 rfl ?_
    refine pv_if_ne (tgt := 51) C hp dX11_count_41 (by decide) (fun hp => ?_) (fun hp => ?_)
    · refine pv_iload_n C 1 dX11_count_51 rfl ?_
      refine pv_iconst C hp dX11_count_52 (by decide) (fun v2 hp => ?_)
      refine pv_icmp_ne (tgt := 63) C hp dX11_count_53 (by decide) (fun hp => ?_) (fun hp => ?_)
      · refine pv_iload_n C 1 dX11_count_63 rfl ?_
        refine pv_iconst C hp dX11_count_64 (by decide) (fun v3 hp => ?_)
        refine pv_icmp_ne (tgt := 75) C hp dX11_count_65 (by decide) (fun hp => ?_) (fun hp => ?_)
        · refine pv_aload_n C 0 dX11_count_75 rfl ?_
          refine pv_getI C (ci := 10) (k := 24) gwX11 rfl (Nat.le_of_ble_eq_true rfl) fl_X11_202 rfl rfl hp rfl rfl dX11_count_76 (fun v4 hp => ?_)
          exact pv_iret C rfl hp hr dX11_count_79
        · refine pv_aload_n C 0 dX11_count_68 rfl ?_
          refine pv_getI C (ci := 10) (k := 21) gwX11 rfl (Nat.le_of_ble_eq_true rfl) fl_X11_184 rfl rfl hp rfl rfl dX11_count_69 (fun v5 hp => ?_)
          refine pv_goto (tgt := 79) C dX11_count_72 (by decide) ?_
          exact pv_iret C rfl hp hr dX11_count_79
      · refine pv_aload_n C 0 dX11_count_56 rfl ?_
        refine pv_getI C (ci := 10) (k := 7) gwX11 rfl (Nat.le_of_ble_eq_true rfl) fl_X11_146 rfl rfl hp rfl rfl dX11_count_57 (fun v6 hp => ?_)
        refine pv_goto (tgt := 79) C dX11_count_60 (by decide) ?_
        exact pv_iret C rfl hp hr dX11_count_79
    · refine pv_aload_n C 0 dX11_count_44 rfl ?_
      refine pv_getI C (ci := 10) (k := 1) gwX11 rfl (Nat.le_of_ble_eq_true rfl) fl_X11_127 rfl rfl hp rfl rfl dX11_count_45 (fun v7 hp => ?_)
      refine pv_goto (tgt := 79) C dX11_count_48 (by decide) ?_
      exact pv_iret C rfl hp hr dX11_count_79
  · refine pv_iconst C hp dX11_count_38 (by decide) (fun v8 hp => ?_)
    exact pv_iret C rfl hp hr dX11_count_39
def q_X11_count_b15 (N : Nat) (x1 : Int) (s0 : Int) (V : pvM) : Option pvO :=
  lI (2) fun v9 =>
  if x1 < v9 then
    lI (1) fun v10 =>
    q_X11_count_b32 N x1 v10 s0 V
  else
  gR V 45 10 fun v11 =>
  if v11 = 0 then
    lI (0) fun v12 =>
    q_X11_count_b32 N x1 v12 s0 V
  else
  lI (1) fun v13 =>
  q_X11_count_b32 N x1 v13 s0 V
set_option maxHeartbeats 4000000 in
set_option maxRecDepth 100000 in
theorem w_X11_count_b15 {p : Program} {l : Launch} {e : Env} {s : State} {m : MethodId} {args : Array Value} {below : List Frame} {meth : Method} {c : Code} {D : va_G} {cy : Nat → ClassId} {A : Nat → Prop} {n0 : Nat} {ad0 : Nat → Nat} {V0 : pvM} {q : pvO} (C : pz_C p s m args meth c cX11_count 2 yX11_count.cls D cy A) (hr : meth.sig.returnType = (some .int)) {N : Nat} {x1 : Int32} {s0 : Int32} {σ : pzS} {V : pvM} (hp : q_X11_count_b15 N x1.toInt s0.toInt V = some q) : pv_W p l e 1 22 s m args below meth c 2 D cy A n0 ad0 (pv_Q below D cy n0 ad0 1 V0 q A args s) V0 σ V 15 [(0, .ref 45), (1, .int x1)] [.int s0, .ref 45] := by
  unfold q_X11_count_b15 at hp
  refine pv_iload_n C 1 dX11_count_15 rfl ?_
  refine pv_iconst C hp dX11_count_16 (by decide) (fun v9 hp => ?_)
  refine pv_icmp_lt (tgt := 27) C hp dX11_count_17 (by decide) (fun hp => ?_) (fun hp => ?_)
  · refine pv_iconst C hp dX11_count_27 (by decide) (fun v10 hp => ?_)
    refine pv_goto (tgt := 32) C dX11_count_28 (by decide) ?_
    exact w_X11_count_b32 C hr hp
  · refine pv_aload_n C 0 dX11_count_20 rfl ?_
    refine pv_getI C (ci := 10) (k := 10) gwX11 rfl (Nat.le_of_ble_eq_true rfl) fl_X11_134 rfl rfl hp rfl rfl dX11_count_21 (fun v11 hp => ?_)
    refine pv_if_eq (tgt := 31) C hp dX11_count_24 (by decide) (fun hp => ?_) (fun hp => ?_)
    · refine pv_iconst C hp dX11_count_31 (by decide) (fun v12 hp => ?_)
      exact w_X11_count_b32 C hr hp
    · refine pv_iconst C hp dX11_count_27 (by decide) (fun v13 hp => ?_)
      refine pv_goto (tgt := 32) C dX11_count_28 (by decide) ?_
      exact w_X11_count_b32 C hr hp
def q_X11_count (N : Nat) (x1 : Int) (V : pvM) : Option pvO :=
  if x1 < 0 then
    lI (0) fun v14 =>
    q_X11_count_b15 N x1 v14 V
  else
  lI (3) fun v15 =>
  if v15 < x1 then
    lI (0) fun v16 =>
    q_X11_count_b15 N x1 v16 V
  else
  lI (1) fun v17 =>
  q_X11_count_b15 N x1 v17 V
set_option maxHeartbeats 4000000 in
set_option maxRecDepth 100000 in
theorem c_X11_count (l : Launch) (D : va_G) (cy : Nat → ClassId) {N : Nat} {x1 : Int32} {V : pvM} {q : pvO} (hp : q_X11_count N x1.toInt V = some q) : pv_Met l yX11_count cX11_count 2 (some .int) 1 22 D cy V [.ref 45, .int x1] 1 q := by
  unfold q_X11_count at hp
  refine pv_ofW (by decide) (Nat.le_of_ble_eq_true rfl) (fun p e s m args below meth c ad A n0 σ C hr => ?_)
  refine pv_aload_n C 0 dX11_count_0 rfl ?_
  refine pv_iload_n C 1 dX11_count_1 rfl ?_
  refine pv_if_lt (tgt := 14) C hp dX11_count_2 (by decide) (fun hp => ?_) (fun hp => ?_)
  · refine pv_iconst C hp dX11_count_14 (by decide) (fun v14 hp => ?_)
    exact w_X11_count_b15 C hr hp
  · refine pv_iload_n C 1 dX11_count_5 rfl ?_
    refine pv_iconst C hp dX11_count_6 (by decide) (fun v15 hp => ?_)
    refine pv_icmp_gt (tgt := 14) C hp dX11_count_7 (by decide) (fun hp => ?_) (fun hp => ?_)
    · refine pv_iconst C hp dX11_count_14 (by decide) (fun v16 hp => ?_)
      exact w_X11_count_b15 C hr hp
    · refine pv_iconst C hp dX11_count_10 (by decide) (fun v17 hp => ?_)
      refine pv_goto (tgt := 15) C dX11_count_11 (by decide) ?_
      exact w_X11_count_b15 C hr hp
def q_X11_size_b39 (N : Nat) (x1 : Int) (x2 : Int) (s0 : Int) (s1 : Int) (V : pvM) : Option pvO :=
  cL (q_X11_goes N s1 s0 V) fun v1 V =>
  if v1 ≠ 0 then
    if x2 ≠ 0 then
      lI (1) fun v2 =>
      if x2 ≠ v2 then
        lI (2) fun v3 =>
        if x2 ≠ v3 then
          aR V 56 12 x1 fun v4 =>
          rT V v4
        else
        aR V 55 12 x1 fun v5 =>
        rT V v5
      else
      aR V 57 12 x1 fun v6 =>
      rT V v6
    else
    aR V 47 12 x1 fun v7 =>
    rT V v7
  else
  lI (0) fun v8 =>
  rT V v8
set_option maxHeartbeats 4000000 in
set_option maxRecDepth 100000 in
theorem w_X11_size_b39 {p : Program} {l : Launch} {e : Env} {s : State} {m : MethodId} {args : Array Value} {below : List Frame} {meth : Method} {c : Code} {D : va_G} {cy : Nat → ClassId} {A : Nat → Prop} {n0 : Nat} {ad0 : Nat → Nat} {V0 : pvM} {q : pvO} (C : pz_C p s m args meth c cX11_size 3 yX11_size.cls D cy A) (hr : meth.sig.returnType = (some .int)) {N : Nat} {x1 : Int32} {x2 : Int32} {s0 : Int32} {s1 : Int32} {σ : pzS} {V : pvM} (hp : q_X11_size_b39 N x1.toInt x2.toInt s0.toInt s1.toInt V = some q) : pv_W p l e 1 22 s m args below meth c 3 D cy A n0 ad0 (pv_Q below D cy n0 ad0 1 V0 q A args s) V0 σ V 39 [(0, .ref 45), (1, .int x1), (2, .int x2)] [.int s0, .int s1, .ref 45] := by
  unfold q_X11_size_b39 at hp
  refine pv_callV C (As := [.int s1, .int s0]) (rest := []) (b := 45) (kd1 := 1) hp (fun q1 h9 => c_X11_goes l D cy h9) wB_yX11_goes ml_X11_130 im_yX11_goes se_yX11_goes (ci := 10) rfl rfl rfl rfl rfl (Nat.le_of_ble_eq_true rfl) ⟨(Nat.le_of_ble_eq_true rfl), (Nat.le_of_ble_eq_true rfl)⟩ dX11_size_39 rfl rfl (fun v1 σ V hp => ?_)
  refine pv_if_ne (tgt := 47) C hp dX11_size_42 (by decide) (fun hp => ?_) (fun hp => ?_)
  · refine pv_iload_n C 2 dX11_size_47 rfl ?_
    refine pv_if_ne (tgt := 60) C hp dX11_size_48 (by decide) (fun hp => ?_) (fun hp => ?_)
    · refine pv_iload_n C 2 dX11_size_60 rfl ?_
      refine pv_iconst C hp dX11_size_61 (by decide) (fun v2 hp => ?_)
      refine pv_icmp_ne (tgt := 74) C hp dX11_size_62 (by decide) (fun hp => ?_) (fun hp => ?_)
      · refine pv_iload_n C 2 dX11_size_74 rfl ?_
        refine pv_iconst C hp dX11_size_75 (by decide) (fun v3 hp => ?_)
        refine pv_icmp_ne (tgt := 88) C hp dX11_size_76 (by decide) (fun hp => ?_) (fun hp => ?_)
        · refine pv_aload_n C 0 dX11_size_88 rfl ?_
          refine pv_getR C (ci := 10) (k := 15) gwX11 rfl (Nat.le_of_ble_eq_true rfl) fl_X11_41 rfl rfl rfl (j := 56) rfl rfl dX11_size_89 ?_
          refine pv_iload_n C 1 dX11_size_92 rfl ?_
          refine pv_iald C hp rfl rfl rfl (fun _ => rfl) dX11_size_93 (fun v4 hp => ?_)
          exact pv_iret C rfl hp hr dX11_size_94
        · refine pv_aload_n C 0 dX11_size_79 rfl ?_
          refine pv_getR C (ci := 10) (k := 14) gwX11 rfl (Nat.le_of_ble_eq_true rfl) fl_X11_38 rfl rfl rfl (j := 55) rfl rfl dX11_size_80 ?_
          refine pv_iload_n C 1 dX11_size_83 rfl ?_
          refine pv_iald C hp rfl rfl rfl (fun _ => rfl) dX11_size_84 (fun v5 hp => ?_)
          refine pv_goto (tgt := 94) C dX11_size_85 (by decide) ?_
          exact pv_iret C rfl hp hr dX11_size_94
      · refine pv_aload_n C 0 dX11_size_65 rfl ?_
        refine pv_getR C (ci := 10) (k := 16) gwX11 rfl (Nat.le_of_ble_eq_true rfl) fl_X11_44 rfl rfl rfl (j := 57) rfl rfl dX11_size_66 ?_
        refine pv_iload_n C 1 dX11_size_69 rfl ?_
        refine pv_iald C hp rfl rfl rfl (fun _ => rfl) dX11_size_70 (fun v6 hp => ?_)
        refine pv_goto (tgt := 94) C dX11_size_71 (by decide) ?_
        exact pv_iret C rfl hp hr dX11_size_94
    · refine pv_aload_n C 0 dX11_size_51 rfl ?_
      refine pv_getR C (ci := 10) (k := 3) gwX11 rfl (Nat.le_of_ble_eq_true rfl) fl_X11_13 rfl rfl rfl (j := 47) rfl rfl dX11_size_52 ?_
      refine pv_iload_n C 1 dX11_size_55 rfl ?_
      refine pv_iald C hp rfl rfl rfl (fun _ => rfl) dX11_size_56 (fun v7 hp => ?_)
      refine pv_goto (tgt := 94) C dX11_size_57 (by decide) ?_
      exact pv_iret C rfl hp hr dX11_size_94
  · refine pv_iconst C hp dX11_size_45 (by decide) (fun v8 hp => ?_)
    exact pv_iret C rfl hp hr dX11_size_46
def q_X11_size_b23 (N : Nat) (x1 : Int) (x2 : Int) (s0 : Int) (V : pvM) : Option pvO :=
  if x2 = 0 then
    lI (1) fun v9 =>
    q_X11_size_b39 N x1 x2 v9 s0 V
  else
  gR V 45 10 fun v10 =>
  if v10 = 0 then
    lI (0) fun v11 =>
    q_X11_size_b39 N x1 x2 v11 s0 V
  else
  lI (1) fun v12 =>
  q_X11_size_b39 N x1 x2 v12 s0 V
set_option maxHeartbeats 4000000 in
set_option maxRecDepth 100000 in
theorem w_X11_size_b23 {p : Program} {l : Launch} {e : Env} {s : State} {m : MethodId} {args : Array Value} {below : List Frame} {meth : Method} {c : Code} {D : va_G} {cy : Nat → ClassId} {A : Nat → Prop} {n0 : Nat} {ad0 : Nat → Nat} {V0 : pvM} {q : pvO} (C : pz_C p s m args meth c cX11_size 3 yX11_size.cls D cy A) (hr : meth.sig.returnType = (some .int)) {N : Nat} {x1 : Int32} {x2 : Int32} {s0 : Int32} {σ : pzS} {V : pvM} (hp : q_X11_size_b23 N x1.toInt x2.toInt s0.toInt V = some q) : pv_W p l e 1 22 s m args below meth c 3 D cy A n0 ad0 (pv_Q below D cy n0 ad0 1 V0 q A args s) V0 σ V 23 [(0, .ref 45), (1, .int x1), (2, .int x2)] [.int s0, .ref 45] := by
  unfold q_X11_size_b23 at hp
  refine pv_iload_n C 2 dX11_size_23 rfl ?_
  refine pv_if_eq (tgt := 34) C hp dX11_size_24 (by decide) (fun hp => ?_) (fun hp => ?_)
  · refine pv_iconst C hp dX11_size_34 (by decide) (fun v9 hp => ?_)
    refine pv_goto (tgt := 39) C dX11_size_35 (by decide) ?_
    exact w_X11_size_b39 C hr hp
  · refine pv_aload_n C 0 dX11_size_27 rfl ?_
    refine pv_getI C (ci := 10) (k := 10) gwX11 rfl (Nat.le_of_ble_eq_true rfl) fl_X11_134 rfl rfl hp rfl rfl dX11_size_28 (fun v10 hp => ?_)
    refine pv_if_eq (tgt := 38) C hp dX11_size_31 (by decide) (fun hp => ?_) (fun hp => ?_)
    · refine pv_iconst C hp dX11_size_38 (by decide) (fun v11 hp => ?_)
      exact w_X11_size_b39 C hr hp
    · refine pv_iconst C hp dX11_size_34 (by decide) (fun v12 hp => ?_)
      refine pv_goto (tgt := 39) C dX11_size_35 (by decide) ?_
      exact w_X11_size_b39 C hr hp
def q_X11_size (N : Nat) (x1 : Int) (x2 : Int) (V : pvM) : Option pvO :=
  cL (q_X11_isFunction N x1 V) fun v13 V =>
  if v13 = 0 then
    lI (0) fun v14 =>
    q_X11_size_b23 N x1 x2 v14 V
  else
  if x2 < 0 then
    lI (0) fun v15 =>
    q_X11_size_b23 N x1 x2 v15 V
  else
  lI (3) fun v16 =>
  if v16 < x2 then
    lI (0) fun v17 =>
    q_X11_size_b23 N x1 x2 v17 V
  else
  lI (1) fun v18 =>
  q_X11_size_b23 N x1 x2 v18 V
set_option maxHeartbeats 4000000 in
set_option maxRecDepth 100000 in
theorem c_X11_size (l : Launch) (D : va_G) (cy : Nat → ClassId) {N : Nat} {x1 : Int32} {x2 : Int32} {V : pvM} {q : pvO} (hp : q_X11_size N x1.toInt x2.toInt V = some q) : pv_Met l yX11_size cX11_size 3 (some .int) 1 22 D cy V [.ref 45, .int x1, .int x2] 1 q := by
  unfold q_X11_size at hp
  refine pv_ofW (by decide) (Nat.le_of_ble_eq_true rfl) (fun p e s m args below meth c ad A n0 σ C hr => ?_)
  refine pv_aload_n C 0 dX11_size_0 rfl ?_
  refine pv_aload_n C 0 dX11_size_1 rfl ?_
  refine pv_iload_n C 1 dX11_size_2 rfl ?_
  refine pv_callV C (As := [.int x1]) (rest := [.ref 45]) (b := 45) (kd1 := 1) hp (fun q1 h9 => c_X11_isFunction l D cy h9) wB_yX11_isFunction ml_X11_138 im_yX11_isFunction se_yX11_isFunction (ci := 10) rfl rfl rfl rfl rfl (Nat.le_of_ble_eq_true rfl) ⟨(Nat.le_of_ble_eq_true rfl), (Nat.le_of_ble_eq_true rfl)⟩ dX11_size_3 rfl rfl (fun v13 σ V hp => ?_)
  refine pv_if_eq (tgt := 22) C hp dX11_size_6 (by decide) (fun hp => ?_) (fun hp => ?_)
  · refine pv_iconst C hp dX11_size_22 (by decide) (fun v14 hp => ?_)
    exact w_X11_size_b23 C hr hp
  · refine pv_iload_n C 2 dX11_size_9 rfl ?_
    refine pv_if_lt (tgt := 22) C hp dX11_size_10 (by decide) (fun hp => ?_) (fun hp => ?_)
    · refine pv_iconst C hp dX11_size_22 (by decide) (fun v15 hp => ?_)
      exact w_X11_size_b23 C hr hp
    · refine pv_iload_n C 2 dX11_size_13 rfl ?_
      refine pv_iconst C hp dX11_size_14 (by decide) (fun v16 hp => ?_)
      refine pv_icmp_gt (tgt := 22) C hp dX11_size_15 (by decide) (fun hp => ?_) (fun hp => ?_)
      · refine pv_iconst C hp dX11_size_22 (by decide) (fun v17 hp => ?_)
        exact w_X11_size_b23 C hr hp
      · refine pv_iconst C hp dX11_size_18 (by decide) (fun v18 hp => ?_)
        refine pv_goto (tgt := 23) C dX11_size_19 (by decide) ?_
        exact w_X11_size_b23 C hr hp
def q_X11_plain_b56 (N : Nat) (x1 : Int) (x2 : Int) (x3 : Int) (s0 : Int) (V : pvM) : Option pvO :=
  gR V 45 10 fun v1 =>
  cL (q_X11_goes N s0 v1 V) fun v2 V =>
  if v2 ≠ 0 then
    lI (1500) fun v3 =>
    lI (pv_w (v3 * x1)) fun v4 =>
    lI (pv_w (v4 + x2)) fun v5 =>
    if x3 ≠ 0 then
      lI (1) fun v6 =>
      if x3 ≠ v6 then
        aR V 60 18000 v5 fun v7 =>
        rT V v7
      else
      aR V 59 18000 v5 fun v8 =>
      rT V v8
    else
    aR V 58 18000 v5 fun v9 =>
    rT V v9
  else
  lI (0) fun v10 =>
  rT V v10
set_option maxHeartbeats 4000000 in
set_option maxRecDepth 100000 in
theorem w_X11_plain_b56 {p : Program} {l : Launch} {e : Env} {s : State} {m : MethodId} {args : Array Value} {below : List Frame} {meth : Method} {c : Code} {D : va_G} {cy : Nat → ClassId} {A : Nat → Prop} {n0 : Nat} {ad0 : Nat → Nat} {V0 : pvM} {q : pvO} (C : pz_C p s m args meth c cX11_plain 6 yX11_plain.cls D cy A) (hr : meth.sig.returnType = (some .int)) {N : Nat} {x1 : Int32} {x2 : Int32} {x3 : Int32} {s0 : Int32} {σ : pzS} {V : pvM} (hp : q_X11_plain_b56 N x1.toInt x2.toInt x3.toInt s0.toInt V = some q) : pv_W p l e 1 22 s m args below meth c 6 D cy A n0 ad0 (pv_Q below D cy n0 ad0 1 V0 q A args s) V0 σ V 56 [(0, .ref 45), (1, .int x1), (2, .int x2), (3, .int x3)] [.int s0, .ref 45] := by
  unfold q_X11_plain_b56 at hp
  refine pv_aload_n C 0 dX11_plain_56 rfl ?_
  refine pv_getI C (ci := 10) (k := 10) gwX11 rfl (Nat.le_of_ble_eq_true rfl) fl_X11_134 rfl rfl hp rfl rfl dX11_plain_57 (fun v1 hp => ?_)
  refine pv_callV C (As := [.int s0, .int v1]) (rest := []) (b := 45) (kd1 := 1) hp (fun q1 h9 => c_X11_goes l D cy h9) wB_yX11_goes ml_X11_130 im_yX11_goes se_yX11_goes (ci := 10) rfl rfl rfl rfl rfl (Nat.le_of_ble_eq_true rfl) ⟨(Nat.le_of_ble_eq_true rfl), (Nat.le_of_ble_eq_true rfl)⟩ dX11_plain_60 rfl rfl (fun v2 σ V hp => ?_)
  refine pv_if_ne (tgt := 68) C hp dX11_plain_63 (by decide) (fun hp => ?_) (fun hp => ?_)
  · refine pv_sipush C hp dX11_plain_68 (by decide) (fun v3 hp => ?_)
    refine pv_iload_n C 1 dX11_plain_71 rfl ?_
    refine pv_imul C hp dX11_plain_72 (fun v4 hp => ?_)
    refine pv_iload_n C 2 dX11_plain_73 rfl ?_
    refine pv_iadd C hp dX11_plain_74 (fun v5 hp => ?_)
    refine pv_istore (loc' := [(5, .int v5), (0, .ref 45), (1, .int x1), (2, .int x2), (3, .int x3)]) C dX11_plain_75 (by decide) rfl ?_
    refine pv_iload_n C 4 dX11_plain_77 rfl ?_
    refine pv_if_ne (tgt := 91) C hp dX11_plain_78 (by decide) (fun hp => ?_) (fun hp => ?_)
    · refine pv_iload_n C 4 dX11_plain_91 rfl ?_
      refine pv_iconst C hp dX11_plain_92 (by decide) (fun v6 hp => ?_)
      refine pv_icmp_ne (tgt := 106) C hp dX11_plain_93 (by decide) (fun hp => ?_) (fun hp => ?_)
      · refine pv_aload_n C 1 dX11_plain_106 rfl ?_
        refine pv_getR C (ci := 10) (k := 19) gwX11 rfl (Nat.le_of_ble_eq_true rfl) fl_X11_53 rfl rfl rfl (j := 60) rfl rfl dX11_plain_107 ?_
        refine pv_iload C 0 dX11_plain_110 rfl ?_
        refine pv_iald C hp rfl rfl rfl (fun _ => rfl) dX11_plain_112 (fun v7 hp => ?_)
        exact pv_iret C rfl hp hr dX11_plain_113
      · refine pv_aload_n C 1 dX11_plain_96 rfl ?_
        refine pv_getR C (ci := 10) (k := 18) gwX11 rfl (Nat.le_of_ble_eq_true rfl) fl_X11_50 rfl rfl rfl (j := 59) rfl rfl dX11_plain_97 ?_
        refine pv_iload C 0 dX11_plain_100 rfl ?_
        refine pv_iald C hp rfl rfl rfl (fun _ => rfl) dX11_plain_102 (fun v8 hp => ?_)
        refine pv_goto (tgt := 113) C dX11_plain_103 (by decide) ?_
        exact pv_iret C rfl hp hr dX11_plain_113
    · refine pv_aload_n C 1 dX11_plain_81 rfl ?_
      refine pv_getR C (ci := 10) (k := 17) gwX11 rfl (Nat.le_of_ble_eq_true rfl) fl_X11_47 rfl rfl rfl (j := 58) rfl rfl dX11_plain_82 ?_
      refine pv_iload C 0 dX11_plain_85 rfl ?_
      refine pv_iald C hp rfl rfl rfl (fun _ => rfl) dX11_plain_87 (fun v9 hp => ?_)
      refine pv_goto (tgt := 113) C dX11_plain_88 (by decide) ?_
      exact pv_iret C rfl hp hr dX11_plain_113
  · refine pv_iconst C hp dX11_plain_66 (by decide) (fun v10 hp => ?_)
    exact pv_iret C rfl hp hr dX11_plain_67
def q_X11_plain_b26 (N : Nat) (x1 : Int) (x2 : Int) (x3 : Int) (s0 : Int) (V : pvM) : Option pvO :=
  if s0 = 0 then
    lI (0) fun v11 =>
    q_X11_plain_b56 N x1 x2 x3 v11 V
  else
  gR V 45 10 fun v12 =>
  if v12 = 0 then
    lI (1) fun v13 =>
    q_X11_plain_b56 N x1 x2 x3 v13 V
  else
  aR V 57 12 x1 fun v14 =>
  if v14 ≤ x2 then
    lI (0) fun v15 =>
    q_X11_plain_b56 N x1 x2 x3 v15 V
  else
  lI (1) fun v16 =>
  q_X11_plain_b56 N x1 x2 x3 v16 V
set_option maxHeartbeats 4000000 in
set_option maxRecDepth 100000 in
theorem w_X11_plain_b26 {p : Program} {l : Launch} {e : Env} {s : State} {m : MethodId} {args : Array Value} {below : List Frame} {meth : Method} {c : Code} {D : va_G} {cy : Nat → ClassId} {A : Nat → Prop} {n0 : Nat} {ad0 : Nat → Nat} {V0 : pvM} {q : pvO} (C : pz_C p s m args meth c cX11_plain 6 yX11_plain.cls D cy A) (hr : meth.sig.returnType = (some .int)) {N : Nat} {x1 : Int32} {x2 : Int32} {x3 : Int32} {s0 : Int32} {σ : pzS} {V : pvM} (hp : q_X11_plain_b26 N x1.toInt x2.toInt x3.toInt s0.toInt V = some q) : pv_W p l e 1 22 s m args below meth c 6 D cy A n0 ad0 (pv_Q below D cy n0 ad0 1 V0 q A args s) V0 σ V 26 [(0, .ref 45), (1, .int x1), (2, .int x2), (3, .int x3)] [.int s0] := by
  unfold q_X11_plain_b26 at hp
  refine pv_istore (loc' := [(4, .int s0), (0, .ref 45), (1, .int x1), (2, .int x2), (3, .int x3)]) C dX11_plain_26 (by decide) rfl ?_
  refine pv_aload_n C 1 dX11_plain_28 rfl ?_
  refine pv_iload C 0 dX11_plain_29 rfl ?_
  refine pv_if_eq (tgt := 55) C hp dX11_plain_31 (by decide) (fun hp => ?_) (fun hp => ?_)
  · refine pv_iconst C hp dX11_plain_55 (by decide) (fun v11 hp => ?_)
    refine pv_sub [1, 2, 3, 4] rfl ?_
    exact w_X11_plain_b56 C hr hp
  · refine pv_aload_n C 1 dX11_plain_34 rfl ?_
    refine pv_getI C (ci := 10) (k := 10) gwX11 rfl (Nat.le_of_ble_eq_true rfl) fl_X11_134 rfl rfl hp rfl rfl dX11_plain_35 (fun v12 hp => ?_)
    refine pv_if_eq (tgt := 51) C hp dX11_plain_38 (by decide) (fun hp => ?_) (fun hp => ?_)
    · refine pv_iconst C hp dX11_plain_51 (by decide) (fun v13 hp => ?_)
      refine pv_goto (tgt := 56) C dX11_plain_52 (by decide) ?_
      refine pv_sub [1, 2, 3, 4] rfl ?_
      exact w_X11_plain_b56 C hr hp
    · refine pv_iload_n C 3 dX11_plain_41 rfl ?_
      refine pv_aload_n C 1 dX11_plain_42 rfl ?_
      refine pv_getR C (ci := 10) (k := 16) gwX11 rfl (Nat.le_of_ble_eq_true rfl) fl_X11_44 rfl rfl rfl (j := 57) rfl rfl dX11_plain_43 ?_
      refine pv_iload_n C 2 dX11_plain_46 rfl ?_
      refine pv_iald C hp rfl rfl rfl (fun _ => rfl) dX11_plain_47 (fun v14 hp => ?_)
      refine pv_icmp_ge (tgt := 55) C hp dX11_plain_48 (by decide) (fun hp => ?_) (fun hp => ?_)
      · refine pv_iconst C hp dX11_plain_55 (by decide) (fun v15 hp => ?_)
        refine pv_sub [1, 2, 3, 4] rfl ?_
        exact w_X11_plain_b56 C hr hp
      · refine pv_iconst C hp dX11_plain_51 (by decide) (fun v16 hp => ?_)
        refine pv_goto (tgt := 56) C dX11_plain_52 (by decide) ?_
        refine pv_sub [1, 2, 3, 4] rfl ?_
        exact w_X11_plain_b56 C hr hp
def q_X11_plain (N : Nat) (x1 : Int) (x2 : Int) (x3 : Int) (V : pvM) : Option pvO :=
  cL (q_X11_isFunction N x1 V) fun v17 V =>
  if v17 = 0 then
    lI (0) fun v18 =>
    q_X11_plain_b26 N x1 x2 x3 v18 V
  else
  if x3 < 0 then
    lI (0) fun v19 =>
    q_X11_plain_b26 N x1 x2 x3 v19 V
  else
  lI (2) fun v20 =>
  if v20 < x3 then
    lI (0) fun v21 =>
    q_X11_plain_b26 N x1 x2 x3 v21 V
  else
  if x2 < 0 then
    lI (0) fun v22 =>
    q_X11_plain_b26 N x1 x2 x3 v22 V
  else
  lI (1) fun v23 =>
  q_X11_plain_b26 N x1 x2 x3 v23 V
set_option maxHeartbeats 4000000 in
set_option maxRecDepth 100000 in
theorem c_X11_plain (l : Launch) (D : va_G) (cy : Nat → ClassId) {N : Nat} {x1 : Int32} {x2 : Int32} {x3 : Int32} {V : pvM} {q : pvO} (hp : q_X11_plain N x1.toInt x2.toInt x3.toInt V = some q) : pv_Met l yX11_plain cX11_plain 6 (some .int) 1 22 D cy V [.ref 45, .int x1, .int x2, .int x3] 1 q := by
  unfold q_X11_plain at hp
  refine pv_ofW (by decide) (Nat.le_of_ble_eq_true rfl) (fun p e s m args below meth c ad A n0 σ C hr => ?_)
  refine pv_aload_n C 0 dX11_plain_0 rfl ?_
  refine pv_iload_n C 1 dX11_plain_1 rfl ?_
  refine pv_callV C (As := [.int x1]) (rest := []) (b := 45) (kd1 := 1) hp (fun q1 h9 => c_X11_isFunction l D cy h9) wB_yX11_isFunction ml_X11_138 im_yX11_isFunction se_yX11_isFunction (ci := 10) rfl rfl rfl rfl rfl (Nat.le_of_ble_eq_true rfl) ⟨(Nat.le_of_ble_eq_true rfl), (Nat.le_of_ble_eq_true rfl)⟩ dX11_plain_2 rfl rfl (fun v17 σ V hp => ?_)
  refine pv_if_eq (tgt := 25) C hp dX11_plain_5 (by decide) (fun hp => ?_) (fun hp => ?_)
  · refine pv_iconst C hp dX11_plain_25 (by decide) (fun v18 hp => ?_)
    exact w_X11_plain_b26 C hr hp
  · refine pv_iload_n C 3 dX11_plain_8 rfl ?_
    refine pv_if_lt (tgt := 25) C hp dX11_plain_9 (by decide) (fun hp => ?_) (fun hp => ?_)
    · refine pv_iconst C hp dX11_plain_25 (by decide) (fun v19 hp => ?_)
      exact w_X11_plain_b26 C hr hp
    · refine pv_iload_n C 3 dX11_plain_12 rfl ?_
      refine pv_iconst C hp dX11_plain_13 (by decide) (fun v20 hp => ?_)
      refine pv_icmp_gt (tgt := 25) C hp dX11_plain_14 (by decide) (fun hp => ?_) (fun hp => ?_)
      · refine pv_iconst C hp dX11_plain_25 (by decide) (fun v21 hp => ?_)
        exact w_X11_plain_b26 C hr hp
      · refine pv_iload_n C 2 dX11_plain_17 rfl ?_
        refine pv_if_lt (tgt := 25) C hp dX11_plain_18 (by decide) (fun hp => ?_) (fun hp => ?_)
        · refine pv_iconst C hp dX11_plain_25 (by decide) (fun v22 hp => ?_)
          exact w_X11_plain_b26 C hr hp
        · refine pv_iconst C hp dX11_plain_21 (by decide) (fun v23 hp => ?_)
          refine pv_goto (tgt := 26) C dX11_plain_22 (by decide) ?_
          exact w_X11_plain_b26 C hr hp
def q_X11_made_b34 (N : Nat) (x1 : Int) (x2 : Int) (s0 : Int) (V : pvM) : Option pvO :=
  gR V 45 10 fun v1 =>
  cL (q_X11_goes N s0 v1 V) fun v2 V =>
  if v2 ≠ 0 then
    if x2 ≠ 0 then
      lI (1) fun v3 =>
      if x2 ≠ v3 then
        aR V 63 480 x1 fun v4 =>
        aR V 46 12 v4 fun v5 =>
        lI (2) fun v6 =>
        lI (pv_w (v5 + v6)) fun v7 =>
        rT V v7
      else
      aR V 63 480 x1 fun v8 =>
      rT V v8
    else
    aR V 62 480 x1 fun v9 =>
    rT V v9
  else
  lI (0) fun v10 =>
  rT V v10
set_option maxHeartbeats 4000000 in
set_option maxRecDepth 100000 in
theorem w_X11_made_b34 {p : Program} {l : Launch} {e : Env} {s : State} {m : MethodId} {args : Array Value} {below : List Frame} {meth : Method} {c : Code} {D : va_G} {cy : Nat → ClassId} {A : Nat → Prop} {n0 : Nat} {ad0 : Nat → Nat} {V0 : pvM} {q : pvO} (C : pz_C p s m args meth c cX11_made 3 yX11_made.cls D cy A) (hr : meth.sig.returnType = (some .int)) {N : Nat} {x1 : Int32} {x2 : Int32} {s0 : Int32} {σ : pzS} {V : pvM} (hp : q_X11_made_b34 N x1.toInt x2.toInt s0.toInt V = some q) : pv_W p l e 1 22 s m args below meth c 3 D cy A n0 ad0 (pv_Q below D cy n0 ad0 1 V0 q A args s) V0 σ V 34 [(0, .ref 45), (1, .int x1), (2, .int x2)] [.int s0, .ref 45] := by
  unfold q_X11_made_b34 at hp
  refine pv_aload_n C 0 dX11_made_34 rfl ?_
  refine pv_getI C (ci := 10) (k := 10) gwX11 rfl (Nat.le_of_ble_eq_true rfl) fl_X11_134 rfl rfl hp rfl rfl dX11_made_35 (fun v1 hp => ?_)
  refine pv_callV C (As := [.int s0, .int v1]) (rest := []) (b := 45) (kd1 := 1) hp (fun q1 h9 => c_X11_goes l D cy h9) wB_yX11_goes ml_X11_130 im_yX11_goes se_yX11_goes (ci := 10) rfl rfl rfl rfl rfl (Nat.le_of_ble_eq_true rfl) ⟨(Nat.le_of_ble_eq_true rfl), (Nat.le_of_ble_eq_true rfl)⟩ dX11_made_38 rfl rfl (fun v2 σ V hp => ?_)
  refine pv_if_ne (tgt := 46) C hp dX11_made_41 (by decide) (fun hp => ?_) (fun hp => ?_)
  · refine pv_iload_n C 2 dX11_made_46 rfl ?_
    refine pv_if_ne (tgt := 59) C hp dX11_made_47 (by decide) (fun hp => ?_) (fun hp => ?_)
    · refine pv_iload_n C 2 dX11_made_59 rfl ?_
      refine pv_iconst C hp dX11_made_60 (by decide) (fun v3 hp => ?_)
      refine pv_icmp_ne (tgt := 73) C hp dX11_made_61 (by decide) (fun hp => ?_) (fun hp => ?_)
      · refine pv_aload_n C 0 dX11_made_73 rfl ?_
        refine pv_getR C (ci := 10) (k := 2) gwX11 rfl (Nat.le_of_ble_eq_true rfl) fl_X11_7 rfl rfl rfl (j := 46) rfl rfl dX11_made_74 ?_
        refine pv_aload_n C 0 dX11_made_77 rfl ?_
        refine pv_getR C (ci := 10) (k := 23) gwX11 rfl (Nat.le_of_ble_eq_true rfl) fl_X11_62 rfl rfl rfl (j := 63) rfl rfl dX11_made_78 ?_
        refine pv_iload_n C 1 dX11_made_81 rfl ?_
        refine pv_iald C hp rfl rfl rfl (fun _ => rfl) dX11_made_82 (fun v4 hp => ?_)
        refine pv_iald C hp rfl rfl rfl (fun _ => rfl) dX11_made_83 (fun v5 hp => ?_)
        refine pv_iconst C hp dX11_made_84 (by decide) (fun v6 hp => ?_)
        refine pv_iadd C hp dX11_made_85 (fun v7 hp => ?_)
        exact pv_iret C rfl hp hr dX11_made_86
      · refine pv_aload_n C 0 dX11_made_64 rfl ?_
        refine pv_getR C (ci := 10) (k := 23) gwX11 rfl (Nat.le_of_ble_eq_true rfl) fl_X11_62 rfl rfl rfl (j := 63) rfl rfl dX11_made_65 ?_
        refine pv_iload_n C 1 dX11_made_68 rfl ?_
        refine pv_iald C hp rfl rfl rfl (fun _ => rfl) dX11_made_69 (fun v8 hp => ?_)
        refine pv_goto (tgt := 86) C dX11_made_70 (by decide) ?_
        exact pv_iret C rfl hp hr dX11_made_86
    · refine pv_aload_n C 0 dX11_made_50 rfl ?_
      refine pv_getR C (ci := 10) (k := 22) gwX11 rfl (Nat.le_of_ble_eq_true rfl) fl_X11_59 rfl rfl rfl (j := 62) rfl rfl dX11_made_51 ?_
      refine pv_iload_n C 1 dX11_made_54 rfl ?_
      refine pv_iald C hp rfl rfl rfl (fun _ => rfl) dX11_made_55 (fun v9 hp => ?_)
      refine pv_goto (tgt := 86) C dX11_made_56 (by decide) ?_
      exact pv_iret C rfl hp hr dX11_made_86
  · refine pv_iconst C hp dX11_made_44 (by decide) (fun v10 hp => ?_)
    exact pv_iret C rfl hp hr dX11_made_45
def q_X11_made (N : Nat) (x1 : Int) (x2 : Int) (V : pvM) : Option pvO :=
  if x1 < 0 then
    lI (0) fun v11 =>
    q_X11_made_b34 N x1 x2 v11 V
  else
  if x2 < 0 then
    lI (0) fun v12 =>
    q_X11_made_b34 N x1 x2 v12 V
  else
  lI (2) fun v13 =>
  if v13 < x2 then
    lI (0) fun v14 =>
    q_X11_made_b34 N x1 x2 v14 V
  else
  gR V 45 10 fun v15 =>
  if v15 = 0 then
    lI (1) fun v16 =>
    q_X11_made_b34 N x1 x2 v16 V
  else
  gR V 45 21 fun v17 =>
  if v17 ≤ x1 then
    lI (0) fun v18 =>
    q_X11_made_b34 N x1 x2 v18 V
  else
  lI (1) fun v19 =>
  q_X11_made_b34 N x1 x2 v19 V
set_option maxHeartbeats 4000000 in
set_option maxRecDepth 100000 in
theorem c_X11_made (l : Launch) (D : va_G) (cy : Nat → ClassId) {N : Nat} {x1 : Int32} {x2 : Int32} {V : pvM} {q : pvO} (hp : q_X11_made N x1.toInt x2.toInt V = some q) : pv_Met l yX11_made cX11_made 3 (some .int) 1 22 D cy V [.ref 45, .int x1, .int x2] 1 q := by
  unfold q_X11_made at hp
  refine pv_ofW (by decide) (Nat.le_of_ble_eq_true rfl) (fun p e s m args below meth c ad A n0 σ C hr => ?_)
  refine pv_aload_n C 0 dX11_made_0 rfl ?_
  refine pv_iload_n C 1 dX11_made_1 rfl ?_
  refine pv_if_lt (tgt := 33) C hp dX11_made_2 (by decide) (fun hp => ?_) (fun hp => ?_)
  · refine pv_iconst C hp dX11_made_33 (by decide) (fun v11 hp => ?_)
    exact w_X11_made_b34 C hr hp
  · refine pv_iload_n C 2 dX11_made_5 rfl ?_
    refine pv_if_lt (tgt := 33) C hp dX11_made_6 (by decide) (fun hp => ?_) (fun hp => ?_)
    · refine pv_iconst C hp dX11_made_33 (by decide) (fun v12 hp => ?_)
      exact w_X11_made_b34 C hr hp
    · refine pv_iload_n C 2 dX11_made_9 rfl ?_
      refine pv_iconst C hp dX11_made_10 (by decide) (fun v13 hp => ?_)
      refine pv_icmp_gt (tgt := 33) C hp dX11_made_11 (by decide) (fun hp => ?_) (fun hp => ?_)
      · refine pv_iconst C hp dX11_made_33 (by decide) (fun v14 hp => ?_)
        exact w_X11_made_b34 C hr hp
      · refine pv_aload_n C 0 dX11_made_14 rfl ?_
        refine pv_getI C (ci := 10) (k := 10) gwX11 rfl (Nat.le_of_ble_eq_true rfl) fl_X11_134 rfl rfl hp rfl rfl dX11_made_15 (fun v15 hp => ?_)
        refine pv_if_eq (tgt := 29) C hp dX11_made_18 (by decide) (fun hp => ?_) (fun hp => ?_)
        · refine pv_iconst C hp dX11_made_29 (by decide) (fun v16 hp => ?_)
          refine pv_goto (tgt := 34) C dX11_made_30 (by decide) ?_
          exact w_X11_made_b34 C hr hp
        · refine pv_iload_n C 1 dX11_made_21 rfl ?_
          refine pv_aload_n C 0 dX11_made_22 rfl ?_
          refine pv_getI C (ci := 10) (k := 21) gwX11 rfl (Nat.le_of_ble_eq_true rfl) fl_X11_184 rfl rfl hp rfl rfl dX11_made_23 (fun v17 hp => ?_)
          refine pv_icmp_ge (tgt := 33) C hp dX11_made_26 (by decide) (fun hp => ?_) (fun hp => ?_)
          · refine pv_iconst C hp dX11_made_33 (by decide) (fun v18 hp => ?_)
            exact w_X11_made_b34 C hr hp
          · refine pv_iconst C hp dX11_made_29 (by decide) (fun v19 hp => ?_)
            refine pv_goto (tgt := 34) C dX11_made_30 (by decide) ?_
            exact w_X11_made_b34 C hr hp
def q_X11_character_b25 (N : Nat) (x1 : Int) (s0 : Int) (V : pvM) : Option pvO :=
  gR V 45 10 fun v1 =>
  cL (q_X11_goes N s0 v1 V) fun v2 V =>
  if v2 = 0 then
    lI (0) fun v3 =>
    rT V v3
  else
  aR V 64 96 x1 fun v4 =>
  rT V v4
set_option maxHeartbeats 4000000 in
set_option maxRecDepth 100000 in
theorem w_X11_character_b25 {p : Program} {l : Launch} {e : Env} {s : State} {m : MethodId} {args : Array Value} {below : List Frame} {meth : Method} {c : Code} {D : va_G} {cy : Nat → ClassId} {A : Nat → Prop} {n0 : Nat} {ad0 : Nat → Nat} {V0 : pvM} {q : pvO} (C : pz_C p s m args meth c cX11_character 2 yX11_character.cls D cy A) (hr : meth.sig.returnType = (some .int)) {N : Nat} {x1 : Int32} {s0 : Int32} {σ : pzS} {V : pvM} (hp : q_X11_character_b25 N x1.toInt s0.toInt V = some q) : pv_W p l e 1 22 s m args below meth c 2 D cy A n0 ad0 (pv_Q below D cy n0 ad0 1 V0 q A args s) V0 σ V 25 [(0, .ref 45), (1, .int x1)] [.int s0, .ref 45] := by
  unfold q_X11_character_b25 at hp
  refine pv_aload_n C 0 dX11_character_25 rfl ?_
  refine pv_getI C (ci := 10) (k := 10) gwX11 rfl (Nat.le_of_ble_eq_true rfl) fl_X11_134 rfl rfl hp rfl rfl dX11_character_26 (fun v1 hp => ?_)
  refine pv_callV C (As := [.int s0, .int v1]) (rest := []) (b := 45) (kd1 := 1) hp (fun q1 h9 => c_X11_goes l D cy h9) wB_yX11_goes ml_X11_130 im_yX11_goes se_yX11_goes (ci := 10) rfl rfl rfl rfl rfl (Nat.le_of_ble_eq_true rfl) ⟨(Nat.le_of_ble_eq_true rfl), (Nat.le_of_ble_eq_true rfl)⟩ dX11_character_29 rfl rfl (fun v2 σ V hp => ?_)
  refine pv_if_eq (tgt := 44) C hp dX11_character_32 (by decide) (fun hp => ?_) (fun hp => ?_)
  · refine pv_iconst C hp dX11_character_44 (by decide) (fun v3 hp => ?_)
    exact pv_iret C rfl hp hr dX11_character_45
  · refine pv_aload_n C 0 dX11_character_35 rfl ?_
    refine pv_getR C (ci := 10) (k := 25) gwX11 rfl (Nat.le_of_ble_eq_true rfl) fl_X11_65 rfl rfl rfl (j := 64) rfl rfl dX11_character_36 ?_
    refine pv_iload_n C 1 dX11_character_39 rfl ?_
    refine pv_iald C hp rfl rfl rfl (fun _ => rfl) dX11_character_40 (fun v4 hp => ?_)
    refine pv_goto (tgt := 45) C dX11_character_41 (by decide) ?_
    exact pv_iret C rfl hp hr dX11_character_45
def q_X11_character (N : Nat) (x1 : Int) (V : pvM) : Option pvO :=
  if x1 < 0 then
    lI (0) fun v5 =>
    q_X11_character_b25 N x1 v5 V
  else
  gR V 45 10 fun v6 =>
  if v6 = 0 then
    lI (1) fun v7 =>
    q_X11_character_b25 N x1 v7 V
  else
  gR V 45 24 fun v8 =>
  if v8 ≤ x1 then
    lI (0) fun v9 =>
    q_X11_character_b25 N x1 v9 V
  else
  lI (1) fun v10 =>
  q_X11_character_b25 N x1 v10 V
set_option maxHeartbeats 4000000 in
set_option maxRecDepth 100000 in
theorem c_X11_character (l : Launch) (D : va_G) (cy : Nat → ClassId) {N : Nat} {x1 : Int32} {V : pvM} {q : pvO} (hp : q_X11_character N x1.toInt V = some q) : pv_Met l yX11_character cX11_character 2 (some .int) 1 22 D cy V [.ref 45, .int x1] 1 q := by
  unfold q_X11_character at hp
  refine pv_ofW (by decide) (Nat.le_of_ble_eq_true rfl) (fun p e s m args below meth c ad A n0 σ C hr => ?_)
  refine pv_aload_n C 0 dX11_character_0 rfl ?_
  refine pv_iload_n C 1 dX11_character_1 rfl ?_
  refine pv_if_lt (tgt := 24) C hp dX11_character_2 (by decide) (fun hp => ?_) (fun hp => ?_)
  · refine pv_iconst C hp dX11_character_24 (by decide) (fun v5 hp => ?_)
    exact w_X11_character_b25 C hr hp
  · refine pv_aload_n C 0 dX11_character_5 rfl ?_
    refine pv_getI C (ci := 10) (k := 10) gwX11 rfl (Nat.le_of_ble_eq_true rfl) fl_X11_134 rfl rfl hp rfl rfl dX11_character_6 (fun v6 hp => ?_)
    refine pv_if_eq (tgt := 20) C hp dX11_character_9 (by decide) (fun hp => ?_) (fun hp => ?_)
    · refine pv_iconst C hp dX11_character_20 (by decide) (fun v7 hp => ?_)
      refine pv_goto (tgt := 25) C dX11_character_21 (by decide) ?_
      exact w_X11_character_b25 C hr hp
    · refine pv_iload_n C 1 dX11_character_12 rfl ?_
      refine pv_aload_n C 0 dX11_character_13 rfl ?_
      refine pv_getI C (ci := 10) (k := 24) gwX11 rfl (Nat.le_of_ble_eq_true rfl) fl_X11_202 rfl rfl hp rfl rfl dX11_character_14 (fun v8 hp => ?_)
      refine pv_icmp_ge (tgt := 24) C hp dX11_character_17 (by decide) (fun hp => ?_) (fun hp => ?_)
      · refine pv_iconst C hp dX11_character_24 (by decide) (fun v9 hp => ?_)
        exact w_X11_character_b25 C hr hp
      · refine pv_iconst C hp dX11_character_20 (by decide) (fun v10 hp => ?_)
        refine pv_goto (tgt := 25) C dX11_character_21 (by decide) ?_
        exact w_X11_character_b25 C hr hp
def q_X11_push (N : Nat) (x1 : Int) (x2 : Int) (V : pvM) : Option pvO :=
  gR V 45 33 fun v1 =>
  aW V 67 500 v1 x1 fun V =>
  gR V 45 33 fun v2 =>
  aW V 68 500 v2 x2 fun V =>
  gR V 45 33 fun v3 =>
  lI (1) fun v4 =>
  lI (pv_w (v3 + v4)) fun v5 =>
  gW V 45 33 v5 fun V =>
  rT V 0
set_option maxHeartbeats 4000000 in
set_option maxRecDepth 100000 in
theorem c_X11_push (l : Launch) (D : va_G) (cy : Nat → ClassId) {N : Nat} {x1 : Int32} {x2 : Int32} {V : pvM} {q : pvO} (hp : q_X11_push N x1.toInt x2.toInt V = some q) : pv_Met l yX11_push cX11_push 3 none 0 0 D cy V [.ref 45, .int x1, .int x2] 0 q := by
  unfold q_X11_push at hp
  refine pv_ofW (by decide) (Nat.le_of_ble_eq_true rfl) (fun p e s m args below meth c ad A n0 σ C hr => ?_)
  refine pv_aload_n C 0 dX11_push_0 rfl ?_
  refine pv_getR C (ci := 10) (k := 34) gwX11 rfl (Nat.le_of_ble_eq_true rfl) fl_X11_74 rfl rfl rfl (j := 67) rfl rfl dX11_push_1 ?_
  refine pv_aload_n C 0 dX11_push_4 rfl ?_
  refine pv_getI C (ci := 10) (k := 33) gwX11 rfl (Nat.le_of_ble_eq_true rfl) fl_X11_208 rfl rfl hp rfl rfl dX11_push_5 (fun v1 hp => ?_)
  refine pv_iload_n C 1 dX11_push_8 rfl ?_
  refine pv_iast C hp rfl rfl rfl (fun _ => rfl) dX11_push_9 (fun V hp => ?_)
  refine pv_aload_n C 0 dX11_push_10 rfl ?_
  refine pv_getR C (ci := 10) (k := 35) gwX11 rfl (Nat.le_of_ble_eq_true rfl) fl_X11_77 rfl rfl rfl (j := 68) rfl rfl dX11_push_11 ?_
  refine pv_aload_n C 0 dX11_push_14 rfl ?_
  refine pv_getI C (ci := 10) (k := 33) gwX11 rfl (Nat.le_of_ble_eq_true rfl) fl_X11_208 rfl rfl hp rfl rfl dX11_push_15 (fun v2 hp => ?_)
  refine pv_iload_n C 2 dX11_push_18 rfl ?_
  refine pv_iast C hp rfl rfl rfl (fun _ => rfl) dX11_push_19 (fun V hp => ?_)
  refine pv_aload_n C 0 dX11_push_20 rfl ?_
  refine pv_dup C dX11_push_21 rfl ?_
  refine pv_getI C (ci := 10) (k := 33) gwX11 rfl (Nat.le_of_ble_eq_true rfl) fl_X11_208 rfl rfl hp rfl rfl dX11_push_22 (fun v3 hp => ?_)
  refine pv_iconst C hp dX11_push_25 (by decide) (fun v4 hp => ?_)
  refine pv_iadd C hp dX11_push_26 (fun v5 hp => ?_)
  refine pv_putI C (ci := 10) (k := 33) gwX11 rfl (Nat.le_of_ble_eq_true rfl) fl_X11_208 rfl rfl tyX11_ok nmX11 hp rfl rfl rfl (by decide +kernel) dX11_push_27 (fun V hp => ?_)
  exact pv_vret C rfl hp hr dX11_push_30
def q_X11_begin_b123 (N : Nat) (r60 : Int → Int → pvM → Option pvO) (x2 : Int) (x3 : Int) (s0 : Int) (s1 : Int) (V : pvM) : Option pvO :=
  aW V 73 256 s1 s0 fun V =>
  lI (pv_w (x3 + (1))) fun v1 =>
  r60 x2 v1 V
set_option maxHeartbeats 4000000 in
set_option maxRecDepth 100000 in
theorem w_X11_begin_b123 {p : Program} {l : Launch} {e : Env} {s : State} {m : MethodId} {args : Array Value} {below : List Frame} {meth : Method} {c : Code} {D : va_G} {cy : Nat → ClassId} {A : Nat → Prop} {n0 : Nat} {ad0 : Nat → Nat} {V0 : pvM} {q : pvO} (C : pz_C p s m args meth c cX11_begin 4 yX11_begin.cls D cy A) (hr : meth.sig.returnType = none) {N : Nat} {r60 : Int → Int → pvM → Option pvO} (H60 : ∀ (x2 : Int32) (x3 : Int32) (σ : pzS) (V : pvM), r60 x2.toInt x3.toInt V = some q → pv_W p l e 0 0 s m args below meth c 4 D cy A n0 ad0 (pv_Q below D cy n0 ad0 0 V0 q A args s) V0 σ V 60 [(0, .ref 45), (2, .int x2), (3, .int x3)] []) {x2 : Int32} {x3 : Int32} {s0 : Int32} {s1 : Int32} {σ : pzS} {V : pvM} (hp : q_X11_begin_b123 N r60 x2.toInt x3.toInt s0.toInt s1.toInt V = some q) : pv_W p l e 0 0 s m args below meth c 4 D cy A n0 ad0 (pv_Q below D cy n0 ad0 0 V0 q A args s) V0 σ V 123 [(0, .ref 45), (2, .int x2), (3, .int x3)] [.int s0, .int s1, .ref 73] := by
  unfold q_X11_begin_b123 at hp
  refine pv_iast C hp rfl rfl rfl (fun _ => rfl) dX11_begin_123 (fun V hp => ?_)
  refine pv_iinc (L := fun v1 => [(3, .int v1), (0, .ref 45), (2, .int x2)]) C 2 hp dX11_begin_124 (by decide) rfl (by decide) (fun _ => rfl) (fun v1 hp => ?_)
  refine pv_goto (tgt := 60) C dX11_begin_127 (by decide) ?_
  refine pv_sub [1, 2, 0] rfl ?_
  exact H60 _ _ _ _ hp
def q_X11_begin_b94 (N : Nat) (r60 : Int → Int → pvM → Option pvO) (x2 : Int) (x3 : Int) (s0 : Int) (s1 : Int) (V : pvM) : Option pvO :=
  aW V 72 256 s1 s0 fun V =>
  lI (8) fun v2 =>
  gR V 45 36 fun v3 =>
  lI (pv_w (v2 * v3)) fun v4 =>
  lI (pv_w (v4 + x3)) fun v5 =>
  if x2 ≤ x3 then
    lI (0) fun v6 =>
    q_X11_begin_b123 N r60 x2 x3 v6 v5 V
  else
  aR V 75 6 x3 fun v7 =>
  q_X11_begin_b123 N r60 x2 x3 v7 v5 V
set_option maxHeartbeats 4000000 in
set_option maxRecDepth 100000 in
theorem w_X11_begin_b94 {p : Program} {l : Launch} {e : Env} {s : State} {m : MethodId} {args : Array Value} {below : List Frame} {meth : Method} {c : Code} {D : va_G} {cy : Nat → ClassId} {A : Nat → Prop} {n0 : Nat} {ad0 : Nat → Nat} {V0 : pvM} {q : pvO} (C : pz_C p s m args meth c cX11_begin 4 yX11_begin.cls D cy A) (hr : meth.sig.returnType = none) {N : Nat} {r60 : Int → Int → pvM → Option pvO} (H60 : ∀ (x2 : Int32) (x3 : Int32) (σ : pzS) (V : pvM), r60 x2.toInt x3.toInt V = some q → pv_W p l e 0 0 s m args below meth c 4 D cy A n0 ad0 (pv_Q below D cy n0 ad0 0 V0 q A args s) V0 σ V 60 [(0, .ref 45), (2, .int x2), (3, .int x3)] []) {x2 : Int32} {x3 : Int32} {s0 : Int32} {s1 : Int32} {σ : pzS} {V : pvM} (hp : q_X11_begin_b94 N r60 x2.toInt x3.toInt s0.toInt s1.toInt V = some q) : pv_W p l e 0 0 s m args below meth c 4 D cy A n0 ad0 (pv_Q below D cy n0 ad0 0 V0 q A args s) V0 σ V 94 [(0, .ref 45), (2, .int x2), (3, .int x3)] [.int s0, .int s1, .ref 72] := by
  unfold q_X11_begin_b94 at hp
  refine pv_iast C hp rfl rfl rfl (fun _ => rfl) dX11_begin_94 (fun V hp => ?_)
  refine pv_aload_n C 0 dX11_begin_95 rfl ?_
  refine pv_getR C (ci := 10) (k := 41) gwX11 rfl (Nat.le_of_ble_eq_true rfl) fl_X11_92 rfl rfl rfl (j := 73) rfl rfl dX11_begin_96 ?_
  refine pv_bipush C hp dX11_begin_99 (by decide) (fun v2 hp => ?_)
  refine pv_aload_n C 0 dX11_begin_101 rfl ?_
  refine pv_getI C (ci := 10) (k := 36) gwX11 rfl (Nat.le_of_ble_eq_true rfl) fl_X11_211 rfl rfl hp rfl rfl dX11_begin_102 (fun v3 hp => ?_)
  refine pv_imul C hp dX11_begin_105 (fun v4 hp => ?_)
  refine pv_iload_n C 2 dX11_begin_106 rfl ?_
  refine pv_iadd C hp dX11_begin_107 (fun v5 hp => ?_)
  refine pv_iload_n C 2 dX11_begin_108 rfl ?_
  refine pv_iload_n C 1 dX11_begin_109 rfl ?_
  refine pv_icmp_ge (tgt := 122) C hp dX11_begin_110 (by decide) (fun hp => ?_) (fun hp => ?_)
  · refine pv_iconst C hp dX11_begin_122 (by decide) (fun v6 hp => ?_)
    exact w_X11_begin_b123 C hr H60 hp
  · refine pv_aload_n C 0 dX11_begin_113 rfl ?_
    refine pv_getR C (ci := 10) (k := 43) gwX11 rfl (Nat.le_of_ble_eq_true rfl) fl_X11_98 rfl rfl rfl (j := 75) rfl rfl dX11_begin_114 ?_
    refine pv_iload_n C 2 dX11_begin_117 rfl ?_
    refine pv_iald C hp rfl rfl rfl (fun _ => rfl) dX11_begin_118 (fun v7 hp => ?_)
    refine pv_goto (tgt := 123) C dX11_begin_119 (by decide) ?_
    exact w_X11_begin_b123 C hr H60 hp
def q_X11_begin_b60 (N : Nat) : Nat → Int → Int → pvM → Option pvO
  | 0 => fun _ _ _ => none
  | n + 1 => fun x2 x3 V =>
    lI (8) fun v8 =>
    if v8 ≤ x3 then
      rT V 0
    else
    lI (8) fun v9 =>
    gR V 45 36 fun v10 =>
    lI (pv_w (v9 * v10)) fun v11 =>
    lI (pv_w (v11 + x3)) fun v12 =>
    if x2 ≤ x3 then
      lI (1) fun v13 =>
      q_X11_begin_b94 N (q_X11_begin_b60 N n) x2 x3 v13 v12 V
    else
    aR V 74 6 x3 fun v14 =>
    q_X11_begin_b94 N (q_X11_begin_b60 N n) x2 x3 v14 v12 V
set_option maxHeartbeats 4000000 in
set_option maxRecDepth 100000 in
theorem w_X11_begin_b60 {p : Program} {l : Launch} {e : Env} {s : State} {m : MethodId} {args : Array Value} {below : List Frame} {meth : Method} {c : Code} {D : va_G} {cy : Nat → ClassId} {A : Nat → Prop} {n0 : Nat} {ad0 : Nat → Nat} {V0 : pvM} {q : pvO} (C : pz_C p s m args meth c cX11_begin 4 yX11_begin.cls D cy A) (hr : meth.sig.returnType = none) {N : Nat} : ∀ (n : Nat) (x2 : Int32) (x3 : Int32) (σ : pzS) (V : pvM), q_X11_begin_b60 N n x2.toInt x3.toInt V = some q → pv_W p l e 0 0 s m args below meth c 4 D cy A n0 ad0 (pv_Q below D cy n0 ad0 0 V0 q A args s) V0 σ V 60 [(0, .ref 45), (2, .int x2), (3, .int x3)] [] := by
  intro n
  induction n with
  | zero =>
    intro x2 x3 σ V hp
    simp only [q_X11_begin_b60] at hp
    cases hp
  | succ n ih =>
    intro x2 x3 σ V hp
    simp only [q_X11_begin_b60] at hp
    refine pv_iload_n C 2 dX11_begin_60 rfl ?_
    refine pv_bipush C hp dX11_begin_61 (by decide) (fun v8 hp => ?_)
    refine pv_icmp_ge (tgt := 130) C hp dX11_begin_63 (by decide) (fun hp => ?_) (fun hp => ?_)
    · exact pv_vret C rfl hp hr dX11_begin_130
    · refine pv_aload_n C 0 dX11_begin_66 rfl ?_
      refine pv_getR C (ci := 10) (k := 40) gwX11 rfl (Nat.le_of_ble_eq_true rfl) fl_X11_89 rfl rfl rfl (j := 72) rfl rfl dX11_begin_67 ?_
      refine pv_bipush C hp dX11_begin_70 (by decide) (fun v9 hp => ?_)
      refine pv_aload_n C 0 dX11_begin_72 rfl ?_
      refine pv_getI C (ci := 10) (k := 36) gwX11 rfl (Nat.le_of_ble_eq_true rfl) fl_X11_211 rfl rfl hp rfl rfl dX11_begin_73 (fun v10 hp => ?_)
      refine pv_imul C hp dX11_begin_76 (fun v11 hp => ?_)
      refine pv_iload_n C 2 dX11_begin_77 rfl ?_
      refine pv_iadd C hp dX11_begin_78 (fun v12 hp => ?_)
      refine pv_iload_n C 2 dX11_begin_79 rfl ?_
      refine pv_iload_n C 1 dX11_begin_80 rfl ?_
      refine pv_icmp_ge (tgt := 93) C hp dX11_begin_81 (by decide) (fun hp => ?_) (fun hp => ?_)
      · refine pv_iconst C hp dX11_begin_93 (by decide) (fun v13 hp => ?_)
        exact w_X11_begin_b94 C hr ih hp
      · refine pv_aload_n C 0 dX11_begin_84 rfl ?_
        refine pv_getR C (ci := 10) (k := 42) gwX11 rfl (Nat.le_of_ble_eq_true rfl) fl_X11_95 rfl rfl rfl (j := 74) rfl rfl dX11_begin_85 ?_
        refine pv_iload_n C 2 dX11_begin_88 rfl ?_
        refine pv_iald C hp rfl rfl rfl (fun _ => rfl) dX11_begin_89 (fun v14 hp => ?_)
        refine pv_goto (tgt := 94) C dX11_begin_90 (by decide) ?_
        exact w_X11_begin_b94 C hr ih hp
def q_X11_begin (N : Nat) (x1 : Int) (x2 : Int) (V : pvM) : Option pvO :=
  gR V 45 36 fun v15 =>
  lI (30) fun v16 =>
  if v15 ≠ v16 then
    gR V 45 36 fun v17 =>
    lI (1) fun v18 =>
    lI (pv_w (v17 + v18)) fun v19 =>
    gW V 45 36 v19 fun V =>
    gR V 45 36 fun v20 =>
    aW V 69 32 v20 x1 fun V =>
    gR V 45 36 fun v21 =>
    lI (0) fun v22 =>
    aW V 70 32 v21 v22 fun V =>
    gR V 45 36 fun v23 =>
    gR V 45 33 fun v24 =>
    aW V 71 32 v23 v24 fun V =>
    lI (0) fun v25 =>
    q_X11_begin_b60 N N x2 v25 V
  else
  lI (3) fun v26 =>
  gW V 45 28 v26 fun V =>
  rT V 0
set_option maxHeartbeats 4000000 in
set_option maxRecDepth 100000 in
theorem c_X11_begin (l : Launch) (D : va_G) (cy : Nat → ClassId) {N : Nat} {x1 : Int32} {x2 : Int32} {V : pvM} {q : pvO} (hp : q_X11_begin N x1.toInt x2.toInt V = some q) : pv_Met l yX11_begin cX11_begin 4 none 0 0 D cy V [.ref 45, .int x1, .int x2] 0 q := by
  unfold q_X11_begin at hp
  refine pv_ofW (by decide) (Nat.le_of_ble_eq_true rfl) (fun p e s m args below meth c ad A n0 σ C hr => ?_)
  refine pv_aload_n C 0 dX11_begin_0 rfl ?_
  refine pv_getI C (ci := 10) (k := 36) gwX11 rfl (Nat.le_of_ble_eq_true rfl) fl_X11_211 rfl rfl hp rfl rfl dX11_begin_1 (fun v15 hp => ?_)
  refine pv_bipush C hp dX11_begin_4 (by decide) (fun v16 hp => ?_)
  refine pv_icmp_ne (tgt := 15) C hp dX11_begin_6 (by decide) (fun hp => ?_) (fun hp => ?_)
  · refine pv_aload_n C 0 dX11_begin_15 rfl ?_
    refine pv_dup C dX11_begin_16 rfl ?_
    refine pv_getI C (ci := 10) (k := 36) gwX11 rfl (Nat.le_of_ble_eq_true rfl) fl_X11_211 rfl rfl hp rfl rfl dX11_begin_17 (fun v17 hp => ?_)
    refine pv_iconst C hp dX11_begin_20 (by decide) (fun v18 hp => ?_)
    refine pv_iadd C hp dX11_begin_21 (fun v19 hp => ?_)
    refine pv_putI C (ci := 10) (k := 36) gwX11 rfl (Nat.le_of_ble_eq_true rfl) fl_X11_211 rfl rfl tyX11_ok nmX11 hp rfl rfl rfl (by decide +kernel) dX11_begin_22 (fun V hp => ?_)
    refine pv_aload_n C 0 dX11_begin_25 rfl ?_
    refine pv_getR C (ci := 10) (k := 37) gwX11 rfl (Nat.le_of_ble_eq_true rfl) fl_X11_80 rfl rfl rfl (j := 69) rfl rfl dX11_begin_26 ?_
    refine pv_aload_n C 0 dX11_begin_29 rfl ?_
    refine pv_getI C (ci := 10) (k := 36) gwX11 rfl (Nat.le_of_ble_eq_true rfl) fl_X11_211 rfl rfl hp rfl rfl dX11_begin_30 (fun v20 hp => ?_)
    refine pv_iload_n C 1 dX11_begin_33 rfl ?_
    refine pv_iast C hp rfl rfl rfl (fun _ => rfl) dX11_begin_34 (fun V hp => ?_)
    refine pv_aload_n C 0 dX11_begin_35 rfl ?_
    refine pv_getR C (ci := 10) (k := 38) gwX11 rfl (Nat.le_of_ble_eq_true rfl) fl_X11_83 rfl rfl rfl (j := 70) rfl rfl dX11_begin_36 ?_
    refine pv_aload_n C 0 dX11_begin_39 rfl ?_
    refine pv_getI C (ci := 10) (k := 36) gwX11 rfl (Nat.le_of_ble_eq_true rfl) fl_X11_211 rfl rfl hp rfl rfl dX11_begin_40 (fun v21 hp => ?_)
    refine pv_iconst C hp dX11_begin_43 (by decide) (fun v22 hp => ?_)
    refine pv_iast C hp rfl rfl rfl (fun _ => rfl) dX11_begin_44 (fun V hp => ?_)
    refine pv_aload_n C 0 dX11_begin_45 rfl ?_
    refine pv_getR C (ci := 10) (k := 39) gwX11 rfl (Nat.le_of_ble_eq_true rfl) fl_X11_86 rfl rfl rfl (j := 71) rfl rfl dX11_begin_46 ?_
    refine pv_aload_n C 0 dX11_begin_49 rfl ?_
    refine pv_getI C (ci := 10) (k := 36) gwX11 rfl (Nat.le_of_ble_eq_true rfl) fl_X11_211 rfl rfl hp rfl rfl dX11_begin_50 (fun v23 hp => ?_)
    refine pv_aload_n C 0 dX11_begin_53 rfl ?_
    refine pv_getI C (ci := 10) (k := 33) gwX11 rfl (Nat.le_of_ble_eq_true rfl) fl_X11_208 rfl rfl hp rfl rfl dX11_begin_54 (fun v24 hp => ?_)
    refine pv_iast C hp rfl rfl rfl (fun _ => rfl) dX11_begin_57 (fun V hp => ?_)
    refine pv_iconst C hp dX11_begin_58 (by decide) (fun v25 hp => ?_)
    refine pv_istore_n (loc' := [(3, .int v25), (0, .ref 45), (1, .int x1), (2, .int x2)]) C dX11_begin_59 (by decide) rfl ?_
    refine pv_sub [1, 3, 0] rfl ?_
    exact w_X11_begin_b60 C hr N _ _ _ _ hp
  · refine pv_aload_n C 0 dX11_begin_9 rfl ?_
    refine pv_iconst C hp dX11_begin_10 (by decide) (fun v26 hp => ?_)
    refine pv_putI C (ci := 10) (k := 28) gwX11 rfl (Nat.le_of_ble_eq_true rfl) fl_X11_214 rfl rfl tyX11_ok nmX11 hp rfl rfl rfl (by decide +kernel) dX11_begin_11 (fun V hp => ?_)
    exact pv_vret C rfl hp hr dX11_begin_14
def q_X11_take_b12 (N : Nat) : Nat → Int → Int → Int → pvM → Option pvO
  | 0 => fun _ _ _ _ => none
  | n + 1 => fun x1 x2 x3 V =>
    if x1 ≤ x3 then
      rT V 0
    else
    lI (pv_w (x2 + x3)) fun v1 =>
    gR V 45 33 fun v2 =>
    lI (pv_w (v2 + x3)) fun v3 =>
    aR V 67 500 v3 fun v4 =>
    aW V 74 6 v1 v4 fun V =>
    lI (pv_w (x2 + x3)) fun v5 =>
    gR V 45 33 fun v6 =>
    lI (pv_w (v6 + x3)) fun v7 =>
    aR V 68 500 v7 fun v8 =>
    aW V 75 6 v5 v8 fun V =>
    lI (pv_w (x3 + (1))) fun v9 =>
    q_X11_take_b12 N n x1 x2 v9 V
set_option maxHeartbeats 4000000 in
set_option maxRecDepth 100000 in
theorem w_X11_take_b12 {p : Program} {l : Launch} {e : Env} {s : State} {m : MethodId} {args : Array Value} {below : List Frame} {meth : Method} {c : Code} {D : va_G} {cy : Nat → ClassId} {A : Nat → Prop} {n0 : Nat} {ad0 : Nat → Nat} {V0 : pvM} {q : pvO} (C : pz_C p s m args meth c cX11_take 4 yX11_take.cls D cy A) (hr : meth.sig.returnType = none) {N : Nat} : ∀ (n : Nat) (x1 : Int32) (x2 : Int32) (x3 : Int32) (σ : pzS) (V : pvM), q_X11_take_b12 N n x1.toInt x2.toInt x3.toInt V = some q → pv_W p l e 0 0 s m args below meth c 4 D cy A n0 ad0 (pv_Q below D cy n0 ad0 0 V0 q A args s) V0 σ V 12 [(0, .ref 45), (1, .int x1), (2, .int x2), (3, .int x3)] [] := by
  intro n
  induction n with
  | zero =>
    intro x1 x2 x3 σ V hp
    simp only [q_X11_take_b12] at hp
    cases hp
  | succ n ih =>
    intro x1 x2 x3 σ V hp
    simp only [q_X11_take_b12] at hp
    refine pv_iload_n C 3 dX11_take_12 rfl ?_
    refine pv_iload_n C 1 dX11_take_13 rfl ?_
    refine pv_icmp_ge (tgt := 61) C hp dX11_take_14 (by decide) (fun hp => ?_) (fun hp => ?_)
    · exact pv_vret C rfl hp hr dX11_take_61
    · refine pv_aload_n C 0 dX11_take_17 rfl ?_
      refine pv_getR C (ci := 10) (k := 42) gwX11 rfl (Nat.le_of_ble_eq_true rfl) fl_X11_95 rfl rfl rfl (j := 74) rfl rfl dX11_take_18 ?_
      refine pv_iload_n C 2 dX11_take_21 rfl ?_
      refine pv_iload_n C 3 dX11_take_22 rfl ?_
      refine pv_iadd C hp dX11_take_23 (fun v1 hp => ?_)
      refine pv_aload_n C 0 dX11_take_24 rfl ?_
      refine pv_getR C (ci := 10) (k := 34) gwX11 rfl (Nat.le_of_ble_eq_true rfl) fl_X11_74 rfl rfl rfl (j := 67) rfl rfl dX11_take_25 ?_
      refine pv_aload_n C 0 dX11_take_28 rfl ?_
      refine pv_getI C (ci := 10) (k := 33) gwX11 rfl (Nat.le_of_ble_eq_true rfl) fl_X11_208 rfl rfl hp rfl rfl dX11_take_29 (fun v2 hp => ?_)
      refine pv_iload_n C 3 dX11_take_32 rfl ?_
      refine pv_iadd C hp dX11_take_33 (fun v3 hp => ?_)
      refine pv_iald C hp rfl rfl rfl (fun _ => rfl) dX11_take_34 (fun v4 hp => ?_)
      refine pv_iast C hp rfl rfl rfl (fun _ => rfl) dX11_take_35 (fun V hp => ?_)
      refine pv_aload_n C 0 dX11_take_36 rfl ?_
      refine pv_getR C (ci := 10) (k := 43) gwX11 rfl (Nat.le_of_ble_eq_true rfl) fl_X11_98 rfl rfl rfl (j := 75) rfl rfl dX11_take_37 ?_
      refine pv_iload_n C 2 dX11_take_40 rfl ?_
      refine pv_iload_n C 3 dX11_take_41 rfl ?_
      refine pv_iadd C hp dX11_take_42 (fun v5 hp => ?_)
      refine pv_aload_n C 0 dX11_take_43 rfl ?_
      refine pv_getR C (ci := 10) (k := 35) gwX11 rfl (Nat.le_of_ble_eq_true rfl) fl_X11_77 rfl rfl rfl (j := 68) rfl rfl dX11_take_44 ?_
      refine pv_aload_n C 0 dX11_take_47 rfl ?_
      refine pv_getI C (ci := 10) (k := 33) gwX11 rfl (Nat.le_of_ble_eq_true rfl) fl_X11_208 rfl rfl hp rfl rfl dX11_take_48 (fun v6 hp => ?_)
      refine pv_iload_n C 3 dX11_take_51 rfl ?_
      refine pv_iadd C hp dX11_take_52 (fun v7 hp => ?_)
      refine pv_iald C hp rfl rfl rfl (fun _ => rfl) dX11_take_53 (fun v8 hp => ?_)
      refine pv_iast C hp rfl rfl rfl (fun _ => rfl) dX11_take_54 (fun V hp => ?_)
      refine pv_iinc (L := fun v9 => [(3, .int v9), (0, .ref 45), (1, .int x1), (2, .int x2)]) C 3 hp dX11_take_55 (by decide) rfl (by decide) (fun _ => rfl) (fun v9 hp => ?_)
      refine pv_goto (tgt := 12) C dX11_take_58 (by decide) ?_
      refine pv_sub [1, 2, 3, 0] rfl ?_
      exact ih _ _ _ _ _ hp
def q_X11_take (N : Nat) (x1 : Int) (x2 : Int) (V : pvM) : Option pvO :=
  gR V 45 33 fun v10 =>
  lI (pv_w (v10 - x1)) fun v11 =>
  gW V 45 33 v11 fun V =>
  lI (0) fun v12 =>
  q_X11_take_b12 N N x1 x2 v12 V
set_option maxHeartbeats 4000000 in
set_option maxRecDepth 100000 in
theorem c_X11_take (l : Launch) (D : va_G) (cy : Nat → ClassId) {N : Nat} {x1 : Int32} {x2 : Int32} {V : pvM} {q : pvO} (hp : q_X11_take N x1.toInt x2.toInt V = some q) : pv_Met l yX11_take cX11_take 4 none 0 0 D cy V [.ref 45, .int x1, .int x2] 0 q := by
  unfold q_X11_take at hp
  refine pv_ofW (by decide) (Nat.le_of_ble_eq_true rfl) (fun p e s m args below meth c ad A n0 σ C hr => ?_)
  refine pv_aload_n C 0 dX11_take_0 rfl ?_
  refine pv_dup C dX11_take_1 rfl ?_
  refine pv_getI C (ci := 10) (k := 33) gwX11 rfl (Nat.le_of_ble_eq_true rfl) fl_X11_208 rfl rfl hp rfl rfl dX11_take_2 (fun v10 hp => ?_)
  refine pv_iload_n C 1 dX11_take_5 rfl ?_
  refine pv_isub C hp dX11_take_6 (fun v11 hp => ?_)
  refine pv_putI C (ci := 10) (k := 33) gwX11 rfl (Nat.le_of_ble_eq_true rfl) fl_X11_208 rfl rfl tyX11_ok nmX11 hp rfl rfl rfl (by decide +kernel) dX11_take_7 (fun V hp => ?_)
  refine pv_iconst C hp dX11_take_10 (by decide) (fun v12 hp => ?_)
  refine pv_istore_n (loc' := [(3, .int v12), (0, .ref 45), (1, .int x1), (2, .int x2)]) C dX11_take_11 (by decide) rfl ?_
  refine pv_sub [1, 2, 3, 0] rfl ?_
  exact w_X11_take_b12 C hr N _ _ _ _ _ hp
def q_X11_letter_b20 (N : Nat) (V : pvM) : Option pvO :=
  gR V 45 52 fun v1 =>
  lI (1) fun v2 =>
  lI (pv_w (v1 + v2)) fun v3 =>
  gW V 45 52 v3 fun V =>
  rT V 0
set_option maxHeartbeats 4000000 in
set_option maxRecDepth 100000 in
theorem w_X11_letter_b20 {p : Program} {l : Launch} {e : Env} {s : State} {m : MethodId} {args : Array Value} {below : List Frame} {meth : Method} {c : Code} {D : va_G} {cy : Nat → ClassId} {A : Nat → Prop} {n0 : Nat} {ad0 : Nat → Nat} {V0 : pvM} {q : pvO} (C : pz_C p s m args meth c cX11_letter 2 yX11_letter.cls D cy A) (hr : meth.sig.returnType = none) {N : Nat} {σ : pzS} {V : pvM} (hp : q_X11_letter_b20 N V = some q) : pv_W p l e 0 0 s m args below meth c 2 D cy A n0 ad0 (pv_Q below D cy n0 ad0 0 V0 q A args s) V0 σ V 20 [(0, .ref 45)] [] := by
  unfold q_X11_letter_b20 at hp
  refine pv_aload_n C 0 dX11_letter_20 rfl ?_
  refine pv_dup C dX11_letter_21 rfl ?_
  refine pv_getI C (ci := 10) (k := 52) gwX11 rfl (Nat.le_of_ble_eq_true rfl) fl_X11_217 rfl rfl hp rfl rfl dX11_letter_22 (fun v1 hp => ?_)
  refine pv_iconst C hp dX11_letter_25 (by decide) (fun v2 hp => ?_)
  refine pv_iadd C hp dX11_letter_26 (fun v3 hp => ?_)
  refine pv_putI C (ci := 10) (k := 52) gwX11 rfl (Nat.le_of_ble_eq_true rfl) fl_X11_217 rfl rfl tyX11_ok nmX11 hp rfl rfl rfl (by decide +kernel) dX11_letter_27 (fun V hp => ?_)
  exact pv_vret C rfl hp hr dX11_letter_30
def q_X11_letter (N : Nat) (x1 : Int) (V : pvM) : Option pvO :=
  gR V 45 52 fun v4 =>
  lI (2500) fun v5 =>
  if v5 ≤ v4 then
    q_X11_letter_b20 N V
  else
  gR V 45 52 fun v6 =>
  aW V 82 2500 v6 x1 fun V =>
  q_X11_letter_b20 N V
set_option maxHeartbeats 4000000 in
set_option maxRecDepth 100000 in
theorem c_X11_letter (l : Launch) (D : va_G) (cy : Nat → ClassId) {N : Nat} {x1 : Int32} {V : pvM} {q : pvO} (hp : q_X11_letter N x1.toInt V = some q) : pv_Met l yX11_letter cX11_letter 2 none 0 0 D cy V [.ref 45, .int x1] 0 q := by
  unfold q_X11_letter at hp
  refine pv_ofW (by decide) (Nat.le_of_ble_eq_true rfl) (fun p e s m args below meth c ad A n0 σ C hr => ?_)
  refine pv_aload_n C 0 dX11_letter_0 rfl ?_
  refine pv_getI C (ci := 10) (k := 52) gwX11 rfl (Nat.le_of_ble_eq_true rfl) fl_X11_217 rfl rfl hp rfl rfl dX11_letter_1 (fun v4 hp => ?_)
  refine pv_sipush C hp dX11_letter_4 (by decide) (fun v5 hp => ?_)
  refine pv_icmp_ge (tgt := 20) C hp dX11_letter_7 (by decide) (fun hp => ?_) (fun hp => ?_)
  · refine pv_sub [0] rfl ?_
    exact w_X11_letter_b20 C hr hp
  · refine pv_aload_n C 0 dX11_letter_10 rfl ?_
    refine pv_getR C (ci := 10) (k := 53) gwX11 rfl (Nat.le_of_ble_eq_true rfl) fl_X11_120 rfl rfl rfl (j := 82) rfl rfl dX11_letter_11 ?_
    refine pv_aload_n C 0 dX11_letter_14 rfl ?_
    refine pv_getI C (ci := 10) (k := 52) gwX11 rfl (Nat.le_of_ble_eq_true rfl) fl_X11_217 rfl rfl hp rfl rfl dX11_letter_15 (fun v6 hp => ?_)
    refine pv_iload_n C 1 dX11_letter_18 rfl ?_
    refine pv_iast C hp rfl rfl rfl (fun _ => rfl) dX11_letter_19 (fun V hp => ?_)
    refine pv_sub [0] rfl ?_
    exact w_X11_letter_b20 C hr hp
def q_X11_write_b19 (N : Nat) : Nat → Int → Int → pvM → Option pvO
  | 0 => fun _ _ _ => none
  | n + 1 => fun x2 x3 V =>
    aR V 76 401 x2 fun v1 =>
    if v1 ≤ x3 then
      rT V 0
    else
    lI (200) fun v2 =>
    lI (pv_w (v2 * x2)) fun v3 =>
    lI (pv_w (v3 + x3)) fun v4 =>
    aR V 77 80200 v4 fun v5 =>
    cL (q_X11_letter N v5 V) fun _ V =>
    lI (pv_w (x3 + (1))) fun v6 =>
    q_X11_write_b19 N n x2 v6 V
set_option maxHeartbeats 4000000 in
set_option maxRecDepth 100000 in
theorem w_X11_write_b19 {p : Program} {l : Launch} {e : Env} {s : State} {m : MethodId} {args : Array Value} {below : List Frame} {meth : Method} {c : Code} {D : va_G} {cy : Nat → ClassId} {A : Nat → Prop} {n0 : Nat} {ad0 : Nat → Nat} {V0 : pvM} {q : pvO} (C : pz_C p s m args meth c cX11_write 7 yX11_write.cls D cy A) (hr : meth.sig.returnType = none) {N : Nat} : ∀ (n : Nat) (x2 : Int32) (x3 : Int32) (σ : pzS) (V : pvM), q_X11_write_b19 N n x2.toInt x3.toInt V = some q → pv_W p l e 1 21 s m args below meth c 7 D cy A n0 ad0 (pv_Q below D cy n0 ad0 0 V0 q A args s) V0 σ V 19 [(0, .ref 45), (2, .int x2), (3, .int x3)] [] := by
  intro n
  induction n with
  | zero =>
    intro x2 x3 σ V hp
    simp only [q_X11_write_b19] at hp
    cases hp
  | succ n ih =>
    intro x2 x3 σ V hp
    simp only [q_X11_write_b19] at hp
    refine pv_iload_n C 2 dX11_write_19 rfl ?_
    refine pv_aload_n C 0 dX11_write_20 rfl ?_
    refine pv_getR C (ci := 10) (k := 45) gwX11 rfl (Nat.le_of_ble_eq_true rfl) fl_X11_101 rfl rfl rfl (j := 76) rfl rfl dX11_write_21 ?_
    refine pv_iload_n C 1 dX11_write_24 rfl ?_
    refine pv_iald C hp rfl rfl rfl (fun _ => rfl) dX11_write_25 (fun v1 hp => ?_)
    refine pv_icmp_ge (tgt := 51) C hp dX11_write_26 (by decide) (fun hp => ?_) (fun hp => ?_)
    · exact pv_vret C rfl hp hr dX11_write_51
    · refine pv_aload_n C 0 dX11_write_29 rfl ?_
      refine pv_aload_n C 0 dX11_write_30 rfl ?_
      refine pv_getR C (ci := 10) (k := 46) gwX11 rfl (Nat.le_of_ble_eq_true rfl) fl_X11_105 rfl rfl rfl (j := 77) rfl rfl dX11_write_31 ?_
      refine pv_sipush C hp dX11_write_34 (by decide) (fun v2 hp => ?_)
      refine pv_iload_n C 1 dX11_write_37 rfl ?_
      refine pv_imul C hp dX11_write_38 (fun v3 hp => ?_)
      refine pv_iload_n C 2 dX11_write_39 rfl ?_
      refine pv_iadd C hp dX11_write_40 (fun v4 hp => ?_)
      refine pv_iald C hp rfl rfl rfl (fun _ => rfl) dX11_write_41 (fun v5 hp => ?_)
      refine pv_callV C (As := [.int v5]) (rest := []) (b := 45) (kd1 := 0) hp (fun q1 h9 => c_X11_letter l D cy h9) wB_yX11_letter ml_X11_220 im_yX11_letter se_yX11_letter (ci := 10) rfl rfl rfl rfl rfl (Nat.le_of_ble_eq_true rfl) ⟨(Nat.le_of_ble_eq_true rfl), (Nat.le_of_ble_eq_true rfl)⟩ dX11_write_42 rfl rfl (fun _ σ V hp => ?_)
      refine pv_iinc (L := fun v6 => [(3, .int v6), (0, .ref 45), (2, .int x2)]) C 2 hp dX11_write_45 (by decide) rfl (by decide) (fun _ => rfl) (fun v6 hp => ?_)
      refine pv_goto (tgt := 19) C dX11_write_48 (by decide) ?_
      refine pv_sub [1, 2, 0] rfl ?_
      exact ih _ _ _ _ hp
def q_X11_write_b100 (N : Nat) : Nat → Int → Int → pvM → Option pvO
  | 0 => fun _ _ _ => none
  | n + 1 => fun x3 x5 V =>
    lI (0) fun v7 =>
    lI (pv_cmp x5 v7) fun v8 =>
    if v8 ≤ 0 then
      rT V 0
    else
    lI (48) fun v9 =>
    nZ x5 <| lI (pv_div x3 x5) fun v10 =>
    lI (10) fun v11 =>
    nZ v11 <| lI (pv_rem v10 v11) fun v12 =>
    lI (pv_w v12) fun v13 =>
    lI (pv_w (v9 + v13)) fun v14 =>
    cL (q_X11_letter N v14 V) fun _ V =>
    lI (10) fun v15 =>
    nZ v15 <| lI (pv_div x5 v15) fun v16 =>
    q_X11_write_b100 N n x3 v16 V
set_option maxHeartbeats 4000000 in
set_option maxRecDepth 100000 in
theorem w_X11_write_b100 {p : Program} {l : Launch} {e : Env} {s : State} {m : MethodId} {args : Array Value} {below : List Frame} {meth : Method} {c : Code} {D : va_G} {cy : Nat → ClassId} {A : Nat → Prop} {n0 : Nat} {ad0 : Nat → Nat} {V0 : pvM} {q : pvO} (C : pz_C p s m args meth c cX11_write 7 yX11_write.cls D cy A) (hr : meth.sig.returnType = none) {N : Nat} : ∀ (n : Nat) (x3 : Int64) (x5 : Int64) (σ : pzS) (V : pvM), q_X11_write_b100 N n x3.toInt x5.toInt V = some q → pv_W p l e 1 21 s m args below meth c 7 D cy A n0 ad0 (pv_Q below D cy n0 ad0 0 V0 q A args s) V0 σ V 100 [(0, .ref 45), (3, .long x3), (5, .long x5)] [] := by
  intro n
  induction n with
  | zero =>
    intro x3 x5 σ V hp
    simp only [q_X11_write_b100] at hp
    cases hp
  | succ n ih =>
    intro x3 x5 σ V hp
    simp only [q_X11_write_b100] at hp
    refine pv_lload C 2 dX11_write_100 rfl ?_
    refine pv_lconst C hp dX11_write_102 (by decide) (fun v7 hp => ?_)
    refine pv_lcmp C hp dX11_write_103 (fun v8 hp => ?_)
    refine pv_if_le (tgt := 134) C hp dX11_write_104 (by decide) (fun hp => ?_) (fun hp => ?_)
    · exact pv_vret C rfl hp hr dX11_write_134
    · refine pv_aload_n C 0 dX11_write_107 rfl ?_
      refine pv_bipush C hp dX11_write_108 (by decide) (fun v9 hp => ?_)
      refine pv_lload_n C 1 dX11_write_110 rfl ?_
      refine pv_lload C 2 dX11_write_111 rfl ?_
      refine pv_ldiv C hp dX11_write_113 (fun v10 hp => ?_)
      refine pv_ldc2 C hp dX11_write_114 kl_X11_224 (by decide) (fun v11 hp => ?_)
      refine pv_lrem C hp dX11_write_117 (fun v12 hp => ?_)
      refine pv_l2i C hp dX11_write_118 (fun v13 hp => ?_)
      refine pv_iadd C hp dX11_write_119 (fun v14 hp => ?_)
      refine pv_callV C (As := [.int v14]) (rest := []) (b := 45) (kd1 := 0) hp (fun q1 h9 => c_X11_letter l D cy h9) wB_yX11_letter ml_X11_220 im_yX11_letter se_yX11_letter (ci := 10) rfl rfl rfl rfl rfl (Nat.le_of_ble_eq_true rfl) ⟨(Nat.le_of_ble_eq_true rfl), (Nat.le_of_ble_eq_true rfl)⟩ dX11_write_120 rfl rfl (fun _ σ V hp => ?_)
      refine pv_lload C 2 dX11_write_123 rfl ?_
      refine pv_ldc2 C hp dX11_write_125 kl_X11_224 (by decide) (fun v15 hp => ?_)
      refine pv_ldiv C hp dX11_write_128 (fun v16 hp => ?_)
      refine pv_lstore (loc' := [(5, .long v16), (0, .ref 45), (3, .long x3)]) C dX11_write_129 (by decide) rfl ?_
      refine pv_goto (tgt := 100) C dX11_write_131 (by decide) ?_
      refine pv_sub [1, 2, 0] rfl ?_
      exact ih _ _ _ _ hp
def q_X11_write_b78 (N : Nat) : Nat → Int → Int → pvM → Option pvO
  | 0 => fun _ _ _ => none
  | n + 1 => fun x3 x5 V =>
    nZ x5 <| lI (pv_div x3 x5) fun v17 =>
    lI (9) fun v18 =>
    lI (pv_cmp v17 v18) fun v19 =>
    if v19 ≤ 0 then
      q_X11_write_b100 N N x3 x5 V
    else
    lI (10) fun v20 =>
    lI (pv_wl (x5 * v20)) fun v21 =>
    q_X11_write_b78 N n x3 v21 V
set_option maxHeartbeats 4000000 in
set_option maxRecDepth 100000 in
theorem w_X11_write_b78 {p : Program} {l : Launch} {e : Env} {s : State} {m : MethodId} {args : Array Value} {below : List Frame} {meth : Method} {c : Code} {D : va_G} {cy : Nat → ClassId} {A : Nat → Prop} {n0 : Nat} {ad0 : Nat → Nat} {V0 : pvM} {q : pvO} (C : pz_C p s m args meth c cX11_write 7 yX11_write.cls D cy A) (hr : meth.sig.returnType = none) {N : Nat} : ∀ (n : Nat) (x3 : Int64) (x5 : Int64) (σ : pzS) (V : pvM), q_X11_write_b78 N n x3.toInt x5.toInt V = some q → pv_W p l e 1 21 s m args below meth c 7 D cy A n0 ad0 (pv_Q below D cy n0 ad0 0 V0 q A args s) V0 σ V 78 [(0, .ref 45), (3, .long x3), (5, .long x5)] [] := by
  intro n
  induction n with
  | zero =>
    intro x3 x5 σ V hp
    simp only [q_X11_write_b78] at hp
    cases hp
  | succ n ih =>
    intro x3 x5 σ V hp
    simp only [q_X11_write_b78] at hp
    refine pv_lload_n C 1 dX11_write_78 rfl ?_
    refine pv_lload C 2 dX11_write_79 rfl ?_
    refine pv_ldiv C hp dX11_write_81 (fun v17 hp => ?_)
    refine pv_ldc2 C hp dX11_write_82 kl_X11_222 (by decide) (fun v18 hp => ?_)
    refine pv_lcmp C hp dX11_write_85 (fun v19 hp => ?_)
    refine pv_if_le (tgt := 100) C hp dX11_write_86 (by decide) (fun hp => ?_) (fun hp => ?_)
    · exact w_X11_write_b100 C hr N _ _ _ _ hp
    · refine pv_lload C 2 dX11_write_89 rfl ?_
      refine pv_ldc2 C hp dX11_write_91 kl_X11_224 (by decide) (fun v20 hp => ?_)
      refine pv_lmul C hp dX11_write_94 (fun v21 hp => ?_)
      refine pv_lstore (loc' := [(5, .long v21), (0, .ref 45), (3, .long x3)]) C dX11_write_95 (by decide) rfl ?_
      refine pv_goto (tgt := 78) C dX11_write_97 (by decide) ?_
      refine pv_sub [1, 2, 0] rfl ?_
      exact ih _ _ _ _ hp
def q_X11_write_b74 (N : Nat) (s0 : Int) (V : pvM) : Option pvO :=
  lI (1) fun v22 =>
  q_X11_write_b78 N N s0 v22 V
set_option maxHeartbeats 4000000 in
set_option maxRecDepth 100000 in
theorem w_X11_write_b74 {p : Program} {l : Launch} {e : Env} {s : State} {m : MethodId} {args : Array Value} {below : List Frame} {meth : Method} {c : Code} {D : va_G} {cy : Nat → ClassId} {A : Nat → Prop} {n0 : Nat} {ad0 : Nat → Nat} {V0 : pvM} {q : pvO} (C : pz_C p s m args meth c cX11_write 7 yX11_write.cls D cy A) (hr : meth.sig.returnType = none) {N : Nat} {s0 : Int64} {σ : pzS} {V : pvM} (hp : q_X11_write_b74 N s0.toInt V = some q) : pv_W p l e 1 21 s m args below meth c 7 D cy A n0 ad0 (pv_Q below D cy n0 ad0 0 V0 q A args s) V0 σ V 74 [(0, .ref 45)] [.long s0] := by
  unfold q_X11_write_b74 at hp
  refine pv_lstore_n (loc' := [(3, .long s0), (0, .ref 45)]) C dX11_write_74 (by decide) rfl ?_
  refine pv_lconst C hp dX11_write_75 (by decide) (fun v22 hp => ?_)
  refine pv_lstore (loc' := [(5, .long v22), (3, .long s0), (0, .ref 45)]) C dX11_write_76 (by decide) rfl ?_
  refine pv_sub [2, 1, 0] rfl ?_
  exact w_X11_write_b78 C hr N _ _ _ _ hp
def q_X11_write_b62 (N : Nat) (x2 : Int) (V : pvM) : Option pvO :=
  if 0 ≤ x2 then
    lI (x2) fun v23 =>
    q_X11_write_b74 N v23 V
  else
  lI (x2) fun v24 =>
  lI (pv_neg v24) fun v25 =>
  q_X11_write_b74 N v25 V
set_option maxHeartbeats 4000000 in
set_option maxRecDepth 100000 in
theorem w_X11_write_b62 {p : Program} {l : Launch} {e : Env} {s : State} {m : MethodId} {args : Array Value} {below : List Frame} {meth : Method} {c : Code} {D : va_G} {cy : Nat → ClassId} {A : Nat → Prop} {n0 : Nat} {ad0 : Nat → Nat} {V0 : pvM} {q : pvO} (C : pz_C p s m args meth c cX11_write 7 yX11_write.cls D cy A) (hr : meth.sig.returnType = none) {N : Nat} {x2 : Int32} {σ : pzS} {V : pvM} (hp : q_X11_write_b62 N x2.toInt V = some q) : pv_W p l e 1 21 s m args below meth c 7 D cy A n0 ad0 (pv_Q below D cy n0 ad0 0 V0 q A args s) V0 σ V 62 [(0, .ref 45), (2, .int x2)] [] := by
  unfold q_X11_write_b62 at hp
  refine pv_iload_n C 1 dX11_write_62 rfl ?_
  refine pv_if_ge (tgt := 72) C hp dX11_write_63 (by decide) (fun hp => ?_) (fun hp => ?_)
  · refine pv_iload_n C 1 dX11_write_72 rfl ?_
    refine pv_i2l C hp dX11_write_73 (fun v23 hp => ?_)
    refine pv_sub [0] rfl ?_
    exact w_X11_write_b74 C hr hp
  · refine pv_iload_n C 1 dX11_write_66 rfl ?_
    refine pv_i2l C hp dX11_write_67 (fun v24 hp => ?_)
    refine pv_lneg C hp dX11_write_68 (fun v25 hp => ?_)
    refine pv_goto (tgt := 74) C dX11_write_69 (by decide) ?_
    refine pv_sub [0] rfl ?_
    exact w_X11_write_b74 C hr hp
def q_X11_write (N : Nat) (x1 : Int) (x2 : Int) (V : pvM) : Option pvO :=
  lI (3) fun v26 =>
  if x1 ≠ v26 then
    lI (2) fun v27 =>
    if x1 ≠ v27 then
      if 0 ≤ x2 then
        q_X11_write_b62 N x2 V
      else
      lI (45) fun v28 =>
      cL (q_X11_letter N v28 V) fun _ V =>
      q_X11_write_b62 N x2 V
    else
    lI (0) fun v29 =>
    q_X11_write_b19 N N x2 v29 V
  else
  lI (102) fun v30 =>
  cL (q_X11_letter N v30 V) fun _ V =>
  rT V 0
set_option maxHeartbeats 4000000 in
set_option maxRecDepth 100000 in
theorem c_X11_write (l : Launch) (D : va_G) (cy : Nat → ClassId) {N : Nat} {x1 : Int32} {x2 : Int32} {V : pvM} {q : pvO} (hp : q_X11_write N x1.toInt x2.toInt V = some q) : pv_Met l yX11_write cX11_write 7 none 1 21 D cy V [.ref 45, .int x1, .int x2] 0 q := by
  unfold q_X11_write at hp
  refine pv_ofW (by decide) (Nat.le_of_ble_eq_true rfl) (fun p e s m args below meth c ad A n0 σ C hr => ?_)
  refine pv_iload_n C 1 dX11_write_0 rfl ?_
  refine pv_iconst C hp dX11_write_1 (by decide) (fun v26 hp => ?_)
  refine pv_icmp_ne (tgt := 12) C hp dX11_write_2 (by decide) (fun hp => ?_) (fun hp => ?_)
  · refine pv_iload_n C 1 dX11_write_12 rfl ?_
    refine pv_iconst C hp dX11_write_13 (by decide) (fun v27 hp => ?_)
    refine pv_icmp_ne (tgt := 52) C hp dX11_write_14 (by decide) (fun hp => ?_) (fun hp => ?_)
    · refine pv_iload_n C 2 dX11_write_52 rfl ?_
      refine pv_if_ge (tgt := 62) C hp dX11_write_53 (by decide) (fun hp => ?_) (fun hp => ?_)
      · refine pv_sub [0, 2] rfl ?_
        exact w_X11_write_b62 C hr hp
      · refine pv_aload_n C 0 dX11_write_56 rfl ?_
        refine pv_bipush C hp dX11_write_57 (by decide) (fun v28 hp => ?_)
        refine pv_callV C (As := [.int v28]) (rest := []) (b := 45) (kd1 := 0) hp (fun q1 h9 => c_X11_letter l D cy h9) wB_yX11_letter ml_X11_220 im_yX11_letter se_yX11_letter (ci := 10) rfl rfl rfl rfl rfl (Nat.le_of_ble_eq_true rfl) ⟨(Nat.le_of_ble_eq_true rfl), (Nat.le_of_ble_eq_true rfl)⟩ dX11_write_59 rfl rfl (fun _ σ V hp => ?_)
        refine pv_sub [0, 2] rfl ?_
        exact w_X11_write_b62 C hr hp
    · refine pv_iconst C hp dX11_write_17 (by decide) (fun v29 hp => ?_)
      refine pv_istore_n (loc' := [(3, .int v29), (0, .ref 45), (1, .int x1), (2, .int x2)]) C dX11_write_18 (by decide) rfl ?_
      refine pv_sub [1, 3, 0] rfl ?_
      exact w_X11_write_b19 C hr N _ _ _ _ hp
  · refine pv_aload_n C 0 dX11_write_5 rfl ?_
    refine pv_bipush C hp dX11_write_6 (by decide) (fun v30 hp => ?_)
    refine pv_callV C (As := [.int v30]) (rest := []) (b := 45) (kd1 := 0) hp (fun q1 h9 => c_X11_letter l D cy h9) wB_yX11_letter ml_X11_220 im_yX11_letter se_yX11_letter (ci := 10) rfl rfl rfl rfl rfl (Nat.le_of_ble_eq_true rfl) ⟨(Nat.le_of_ble_eq_true rfl), (Nat.le_of_ble_eq_true rfl)⟩ dX11_write_8 rfl rfl (fun _ σ V hp => ?_)
    exact pv_vret C rfl hp hr dX11_write_11
def q_X11_say_b60 (N : Nat) : Nat → Int → pvM → Option pvO
  | 0 => fun _ _ => none
  | n + 1 => fun x1 V =>
    gR V 45 52 fun v1 =>
    if v1 ≤ x1 then
      gR V 45 31 fun v2 =>
      gR V 45 52 fun v3 =>
      lI (pv_w (v2 + v3)) fun v4 =>
      gW V 45 31 v4 fun V =>
      rT V 0
    else
    gR V 45 31 fun v5 =>
    lI (pv_w (v5 + x1)) fun v6 =>
    aR V 82 2500 x1 fun v7 =>
    aW V 66 200 v6 v7 fun V =>
    lI (pv_w (x1 + (1))) fun v8 =>
    q_X11_say_b60 N n v8 V
set_option maxHeartbeats 4000000 in
set_option maxRecDepth 100000 in
theorem w_X11_say_b60 {p : Program} {l : Launch} {e : Env} {s : State} {m : MethodId} {args : Array Value} {below : List Frame} {meth : Method} {c : Code} {D : va_G} {cy : Nat → ClassId} {A : Nat → Prop} {n0 : Nat} {ad0 : Nat → Nat} {V0 : pvM} {q : pvO} (C : pz_C p s m args meth c cX11_say 2 yX11_say.cls D cy A) (hr : meth.sig.returnType = none) {N : Nat} : ∀ (n : Nat) (x1 : Int32) (σ : pzS) (V : pvM), q_X11_say_b60 N n x1.toInt V = some q → pv_W p l e 2 47 s m args below meth c 2 D cy A n0 ad0 (pv_Q below D cy n0 ad0 0 V0 q A args s) V0 σ V 60 [(0, .ref 45), (1, .int x1)] [] := by
  intro n
  induction n with
  | zero =>
    intro x1 σ V hp
    simp only [q_X11_say_b60] at hp
    cases hp
  | succ n ih =>
    intro x1 σ V hp
    simp only [q_X11_say_b60] at hp
    refine pv_iload_n C 1 dX11_say_60 rfl ?_
    refine pv_aload_n C 0 dX11_say_61 rfl ?_
    refine pv_getI C (ci := 10) (k := 52) gwX11 rfl (Nat.le_of_ble_eq_true rfl) fl_X11_217 rfl rfl hp rfl rfl dX11_say_62 (fun v1 hp => ?_)
    refine pv_icmp_ge (tgt := 91) C hp dX11_say_65 (by decide) (fun hp => ?_) (fun hp => ?_)
    · refine pv_aload_n C 0 dX11_say_91 rfl ?_
      refine pv_dup C dX11_say_92 rfl ?_
      refine pv_getI C (ci := 10) (k := 31) gwX11 rfl (Nat.le_of_ble_eq_true rfl) fl_X11_229 rfl rfl hp rfl rfl dX11_say_93 (fun v2 hp => ?_)
      refine pv_aload_n C 0 dX11_say_96 rfl ?_
      refine pv_getI C (ci := 10) (k := 52) gwX11 rfl (Nat.le_of_ble_eq_true rfl) fl_X11_217 rfl rfl hp rfl rfl dX11_say_97 (fun v3 hp => ?_)
      refine pv_iadd C hp dX11_say_100 (fun v4 hp => ?_)
      refine pv_putI C (ci := 10) (k := 31) gwX11 rfl (Nat.le_of_ble_eq_true rfl) fl_X11_229 rfl rfl tyX11_ok nmX11 hp rfl rfl rfl (by decide +kernel) dX11_say_101 (fun V hp => ?_)
      exact pv_vret C rfl hp hr dX11_say_104
    · refine pv_aload_n C 0 dX11_say_68 rfl ?_
      refine pv_getR C (ci := 10) (k := 32) gwX11 rfl (Nat.le_of_ble_eq_true rfl) fl_X11_71 rfl rfl rfl (j := 66) rfl rfl dX11_say_69 ?_
      refine pv_aload_n C 0 dX11_say_72 rfl ?_
      refine pv_getI C (ci := 10) (k := 31) gwX11 rfl (Nat.le_of_ble_eq_true rfl) fl_X11_229 rfl rfl hp rfl rfl dX11_say_73 (fun v5 hp => ?_)
      refine pv_iload_n C 1 dX11_say_76 rfl ?_
      refine pv_iadd C hp dX11_say_77 (fun v6 hp => ?_)
      refine pv_aload_n C 0 dX11_say_78 rfl ?_
      refine pv_getR C (ci := 10) (k := 53) gwX11 rfl (Nat.le_of_ble_eq_true rfl) fl_X11_120 rfl rfl rfl (j := 82) rfl rfl dX11_say_79 ?_
      refine pv_iload_n C 1 dX11_say_82 rfl ?_
      refine pv_iald C hp rfl rfl rfl (fun _ => rfl) dX11_say_83 (fun v7 hp => ?_)
      refine pv_iast C hp rfl rfl rfl (fun _ => rfl) dX11_say_84 (fun V hp => ?_)
      refine pv_iinc (L := fun v8 => [(1, .int v8), (0, .ref 45)]) C 1 hp dX11_say_85 (by decide) rfl (by decide) (fun _ => rfl) (fun v8 hp => ?_)
      refine pv_goto (tgt := 60) C dX11_say_88 (by decide) ?_
      refine pv_sub [1, 0] rfl ?_
      exact ih _ _ _ hp
def q_X11_say (N : Nat) (V : pvM) : Option pvO :=
  lI (0) fun v9 =>
  gW V 45 52 v9 fun V =>
  gR V 45 33 fun v10 =>
  lI (1) fun v11 =>
  lI (pv_w (v10 - v11)) fun v12 =>
  gW V 45 33 v12 fun V =>
  gR V 45 33 fun v13 =>
  aR V 67 500 v13 fun v14 =>
  gR V 45 33 fun v15 =>
  aR V 68 500 v15 fun v16 =>
  cL (q_X11_write N v14 v16 V) fun _ V =>
  gR V 45 31 fun v17 =>
  gR V 45 52 fun v18 =>
  lI (pv_w (v17 + v18)) fun v19 =>
  lI (200) fun v20 =>
  if v19 ≤ v20 then
    lI (0) fun v21 =>
    q_X11_say_b60 N N v21 V
  else
  lI (5) fun v22 =>
  gW V 45 28 v22 fun V =>
  rT V 0
set_option maxHeartbeats 4000000 in
set_option maxRecDepth 100000 in
theorem c_X11_say (l : Launch) (D : va_G) (cy : Nat → ClassId) {N : Nat} {V : pvM} {q : pvO} (hp : q_X11_say N V = some q) : pv_Met l yX11_say cX11_say 2 none 2 47 D cy V [.ref 45] 0 q := by
  unfold q_X11_say at hp
  refine pv_ofW (by decide) (Nat.le_of_ble_eq_true rfl) (fun p e s m args below meth c ad A n0 σ C hr => ?_)
  refine pv_aload_n C 0 dX11_say_0 rfl ?_
  refine pv_iconst C hp dX11_say_1 (by decide) (fun v9 hp => ?_)
  refine pv_putI C (ci := 10) (k := 52) gwX11 rfl (Nat.le_of_ble_eq_true rfl) fl_X11_217 rfl rfl tyX11_ok nmX11 hp rfl rfl rfl (by decide +kernel) dX11_say_2 (fun V hp => ?_)
  refine pv_aload_n C 0 dX11_say_5 rfl ?_
  refine pv_dup C dX11_say_6 rfl ?_
  refine pv_getI C (ci := 10) (k := 33) gwX11 rfl (Nat.le_of_ble_eq_true rfl) fl_X11_208 rfl rfl hp rfl rfl dX11_say_7 (fun v10 hp => ?_)
  refine pv_iconst C hp dX11_say_10 (by decide) (fun v11 hp => ?_)
  refine pv_isub C hp dX11_say_11 (fun v12 hp => ?_)
  refine pv_putI C (ci := 10) (k := 33) gwX11 rfl (Nat.le_of_ble_eq_true rfl) fl_X11_208 rfl rfl tyX11_ok nmX11 hp rfl rfl rfl (by decide +kernel) dX11_say_12 (fun V hp => ?_)
  refine pv_aload_n C 0 dX11_say_15 rfl ?_
  refine pv_aload_n C 0 dX11_say_16 rfl ?_
  refine pv_getR C (ci := 10) (k := 34) gwX11 rfl (Nat.le_of_ble_eq_true rfl) fl_X11_74 rfl rfl rfl (j := 67) rfl rfl dX11_say_17 ?_
  refine pv_aload_n C 0 dX11_say_20 rfl ?_
  refine pv_getI C (ci := 10) (k := 33) gwX11 rfl (Nat.le_of_ble_eq_true rfl) fl_X11_208 rfl rfl hp rfl rfl dX11_say_21 (fun v13 hp => ?_)
  refine pv_iald C hp rfl rfl rfl (fun _ => rfl) dX11_say_24 (fun v14 hp => ?_)
  refine pv_aload_n C 0 dX11_say_25 rfl ?_
  refine pv_getR C (ci := 10) (k := 35) gwX11 rfl (Nat.le_of_ble_eq_true rfl) fl_X11_77 rfl rfl rfl (j := 68) rfl rfl dX11_say_26 ?_
  refine pv_aload_n C 0 dX11_say_29 rfl ?_
  refine pv_getI C (ci := 10) (k := 33) gwX11 rfl (Nat.le_of_ble_eq_true rfl) fl_X11_208 rfl rfl hp rfl rfl dX11_say_30 (fun v15 hp => ?_)
  refine pv_iald C hp rfl rfl rfl (fun _ => rfl) dX11_say_33 (fun v16 hp => ?_)
  refine pv_callV C (As := [.int v14, .int v16]) (rest := []) (b := 45) (kd1 := 0) hp (fun q1 h9 => c_X11_write l D cy h9) wB_yX11_write ml_X11_226 im_yX11_write se_yX11_write (ci := 10) rfl rfl rfl rfl rfl (Nat.le_of_ble_eq_true rfl) ⟨(Nat.le_of_ble_eq_true rfl), (Nat.le_of_ble_eq_true rfl)⟩ dX11_say_34 rfl rfl (fun _ σ V hp => ?_)
  refine pv_aload_n C 0 dX11_say_37 rfl ?_
  refine pv_getI C (ci := 10) (k := 31) gwX11 rfl (Nat.le_of_ble_eq_true rfl) fl_X11_229 rfl rfl hp rfl rfl dX11_say_38 (fun v17 hp => ?_)
  refine pv_aload_n C 0 dX11_say_41 rfl ?_
  refine pv_getI C (ci := 10) (k := 52) gwX11 rfl (Nat.le_of_ble_eq_true rfl) fl_X11_217 rfl rfl hp rfl rfl dX11_say_42 (fun v18 hp => ?_)
  refine pv_iadd C hp dX11_say_45 (fun v19 hp => ?_)
  refine pv_sipush C hp dX11_say_46 (by decide) (fun v20 hp => ?_)
  refine pv_icmp_le (tgt := 58) C hp dX11_say_49 (by decide) (fun hp => ?_) (fun hp => ?_)
  · refine pv_iconst C hp dX11_say_58 (by decide) (fun v21 hp => ?_)
    refine pv_istore_n (loc' := [(1, .int v21), (0, .ref 45)]) C dX11_say_59 (by decide) rfl ?_
    refine pv_sub [1, 0] rfl ?_
    exact w_X11_say_b60 C hr N _ _ _ hp
  · refine pv_aload_n C 0 dX11_say_52 rfl ?_
    refine pv_iconst C hp dX11_say_53 (by decide) (fun v22 hp => ?_)
    refine pv_putI C (ci := 10) (k := 28) gwX11 rfl (Nat.le_of_ble_eq_true rfl) fl_X11_214 rfl rfl tyX11_ok nmX11 hp rfl rfl rfl (by decide +kernel) dX11_say_54 (fun V hp => ?_)
    exact pv_vret C rfl hp hr dX11_say_57
def q_X11_join_b99 (N : Nat) (r26 : Int → Int → Int → pvM → Option pvO) (x1 : Int) (x3 : Int) (x4 : Int) (V : pvM) : Option pvO :=
  lI (pv_w (x4 + (1))) fun v1 =>
  r26 x1 x3 v1 V
set_option maxHeartbeats 4000000 in
set_option maxRecDepth 100000 in
theorem w_X11_join_b99 {p : Program} {l : Launch} {e : Env} {s : State} {m : MethodId} {args : Array Value} {below : List Frame} {meth : Method} {c : Code} {D : va_G} {cy : Nat → ClassId} {A : Nat → Prop} {n0 : Nat} {ad0 : Nat → Nat} {V0 : pvM} {q : pvO} (C : pz_C p s m args meth c cX11_join 6 yX11_join.cls D cy A) (hr : meth.sig.returnType = none) {N : Nat} {r26 : Int → Int → Int → pvM → Option pvO} (H26 : ∀ (x1 : Int32) (x3 : Int32) (x4 : Int32) (σ : pzS) (V : pvM), r26 x1.toInt x3.toInt x4.toInt V = some q → pv_W p l e 2 47 s m args below meth c 6 D cy A n0 ad0 (pv_Q below D cy n0 ad0 0 V0 q A args s) V0 σ V 26 [(0, .ref 45), (1, .int x1), (3, .int x3), (4, .int x4)] []) {x1 : Int32} {x3 : Int32} {x4 : Int32} {σ : pzS} {V : pvM} (hp : q_X11_join_b99 N r26 x1.toInt x3.toInt x4.toInt V = some q) : pv_W p l e 2 47 s m args below meth c 6 D cy A n0 ad0 (pv_Q below D cy n0 ad0 0 V0 q A args s) V0 σ V 99 [(0, .ref 45), (1, .int x1), (3, .int x3), (4, .int x4)] [] := by
  unfold q_X11_join_b99 at hp
  refine pv_iinc (L := fun v1 => [(4, .int v1), (0, .ref 45), (1, .int x1), (3, .int x3)]) C 3 hp dX11_join_99 (by decide) rfl (by decide) (fun _ => rfl) (fun v1 hp => ?_)
  refine pv_goto (tgt := 26) C dX11_join_102 (by decide) ?_
  refine pv_sub [1, 2, 3, 0] rfl ?_
  exact H26 _ _ _ _ _ hp
def q_X11_join_b124 (N : Nat) : Nat → Int → pvM → Option pvO
  | 0 => fun _ _ => none
  | n + 1 => fun x4 V =>
    gR V 45 52 fun v2 =>
    if v2 ≤ x4 then
      gR V 45 44 fun v3 =>
      gR V 45 52 fun v4 =>
      aW V 76 401 v3 v4 fun V =>
      gR V 45 44 fun v5 =>
      lI (1) fun v6 =>
      lI (pv_w (v5 + v6)) fun v7 =>
      gW V 45 44 v7 fun V =>
      lI (2) fun v8 =>
      gR V 45 44 fun v9 =>
      lI (1) fun v10 =>
      lI (pv_w (v9 - v10)) fun v11 =>
      cL (q_X11_push N v8 v11 V) fun _ V =>
      rT V 0
    else
    lI (200) fun v12 =>
    gR V 45 44 fun v13 =>
    lI (pv_w (v12 * v13)) fun v14 =>
    lI (pv_w (v14 + x4)) fun v15 =>
    aR V 82 2500 x4 fun v16 =>
    aW V 77 80200 v15 v16 fun V =>
    lI (pv_w (x4 + (1))) fun v17 =>
    q_X11_join_b124 N n v17 V
set_option maxHeartbeats 4000000 in
set_option maxRecDepth 100000 in
theorem w_X11_join_b124 {p : Program} {l : Launch} {e : Env} {s : State} {m : MethodId} {args : Array Value} {below : List Frame} {meth : Method} {c : Code} {D : va_G} {cy : Nat → ClassId} {A : Nat → Prop} {n0 : Nat} {ad0 : Nat → Nat} {V0 : pvM} {q : pvO} (C : pz_C p s m args meth c cX11_join 6 yX11_join.cls D cy A) (hr : meth.sig.returnType = none) {N : Nat} : ∀ (n : Nat) (x4 : Int32) (σ : pzS) (V : pvM), q_X11_join_b124 N n x4.toInt V = some q → pv_W p l e 2 47 s m args below meth c 6 D cy A n0 ad0 (pv_Q below D cy n0 ad0 0 V0 q A args s) V0 σ V 124 [(0, .ref 45), (4, .int x4)] [] := by
  intro n
  induction n with
  | zero =>
    intro x4 σ V hp
    simp only [q_X11_join_b124] at hp
    cases hp
  | succ n ih =>
    intro x4 σ V hp
    simp only [q_X11_join_b124] at hp
    refine pv_iload C 1 dX11_join_124 rfl ?_
    refine pv_aload_n C 0 dX11_join_126 rfl ?_
    refine pv_getI C (ci := 10) (k := 52) gwX11 rfl (Nat.le_of_ble_eq_true rfl) fl_X11_217 rfl rfl hp rfl rfl dX11_join_127 (fun v2 hp => ?_)
    refine pv_icmp_ge (tgt := 162) C hp dX11_join_130 (by decide) (fun hp => ?_) (fun hp => ?_)
    · refine pv_aload_n C 0 dX11_join_162 rfl ?_
      refine pv_getR C (ci := 10) (k := 45) gwX11 rfl (Nat.le_of_ble_eq_true rfl) fl_X11_101 rfl rfl rfl (j := 76) rfl rfl dX11_join_163 ?_
      refine pv_aload_n C 0 dX11_join_166 rfl ?_
      refine pv_getI C (ci := 10) (k := 44) gwX11 rfl (Nat.le_of_ble_eq_true rfl) fl_X11_232 rfl rfl hp rfl rfl dX11_join_167 (fun v3 hp => ?_)
      refine pv_aload_n C 0 dX11_join_170 rfl ?_
      refine pv_getI C (ci := 10) (k := 52) gwX11 rfl (Nat.le_of_ble_eq_true rfl) fl_X11_217 rfl rfl hp rfl rfl dX11_join_171 (fun v4 hp => ?_)
      refine pv_iast C hp rfl rfl rfl (fun _ => rfl) dX11_join_174 (fun V hp => ?_)
      refine pv_aload_n C 0 dX11_join_175 rfl ?_
      refine pv_dup C dX11_join_176 rfl ?_
      refine pv_getI C (ci := 10) (k := 44) gwX11 rfl (Nat.le_of_ble_eq_true rfl) fl_X11_232 rfl rfl hp rfl rfl dX11_join_177 (fun v5 hp => ?_)
      refine pv_iconst C hp dX11_join_180 (by decide) (fun v6 hp => ?_)
      refine pv_iadd C hp dX11_join_181 (fun v7 hp => ?_)
      refine pv_putI C (ci := 10) (k := 44) gwX11 rfl (Nat.le_of_ble_eq_true rfl) fl_X11_232 rfl rfl tyX11_ok nmX11 hp rfl rfl rfl (by decide +kernel) dX11_join_182 (fun V hp => ?_)
      refine pv_aload_n C 0 dX11_join_185 rfl ?_
      refine pv_iconst C hp dX11_join_186 (by decide) (fun v8 hp => ?_)
      refine pv_aload_n C 0 dX11_join_187 rfl ?_
      refine pv_getI C (ci := 10) (k := 44) gwX11 rfl (Nat.le_of_ble_eq_true rfl) fl_X11_232 rfl rfl hp rfl rfl dX11_join_188 (fun v9 hp => ?_)
      refine pv_iconst C hp dX11_join_191 (by decide) (fun v10 hp => ?_)
      refine pv_isub C hp dX11_join_192 (fun v11 hp => ?_)
      refine pv_callV C (As := [.int v8, .int v11]) (rest := []) (b := 45) (kd1 := 0) hp (fun q1 h9 => c_X11_push l D cy h9) wB_yX11_push ml_X11_235 im_yX11_push se_yX11_push (ci := 10) rfl rfl rfl rfl rfl (Nat.le_of_ble_eq_true rfl) ⟨(Nat.le_of_ble_eq_true rfl), (Nat.le_of_ble_eq_true rfl)⟩ dX11_join_193 rfl rfl (fun _ σ V hp => ?_)
      exact pv_vret C rfl hp hr dX11_join_196
    · refine pv_aload_n C 0 dX11_join_133 rfl ?_
      refine pv_getR C (ci := 10) (k := 46) gwX11 rfl (Nat.le_of_ble_eq_true rfl) fl_X11_105 rfl rfl rfl (j := 77) rfl rfl dX11_join_134 ?_
      refine pv_sipush C hp dX11_join_137 (by decide) (fun v12 hp => ?_)
      refine pv_aload_n C 0 dX11_join_140 rfl ?_
      refine pv_getI C (ci := 10) (k := 44) gwX11 rfl (Nat.le_of_ble_eq_true rfl) fl_X11_232 rfl rfl hp rfl rfl dX11_join_141 (fun v13 hp => ?_)
      refine pv_imul C hp dX11_join_144 (fun v14 hp => ?_)
      refine pv_iload C 1 dX11_join_145 rfl ?_
      refine pv_iadd C hp dX11_join_147 (fun v15 hp => ?_)
      refine pv_aload_n C 0 dX11_join_148 rfl ?_
      refine pv_getR C (ci := 10) (k := 53) gwX11 rfl (Nat.le_of_ble_eq_true rfl) fl_X11_120 rfl rfl rfl (j := 82) rfl rfl dX11_join_149 ?_
      refine pv_iload C 1 dX11_join_152 rfl ?_
      refine pv_iald C hp rfl rfl rfl (fun _ => rfl) dX11_join_154 (fun v16 hp => ?_)
      refine pv_iast C hp rfl rfl rfl (fun _ => rfl) dX11_join_155 (fun V hp => ?_)
      refine pv_iinc (L := fun v17 => [(4, .int v17), (0, .ref 45)]) C 1 hp dX11_join_156 (by decide) rfl (by decide) (fun _ => rfl) (fun v17 hp => ?_)
      refine pv_goto (tgt := 124) C dX11_join_159 (by decide) ?_
      refine pv_sub [1, 0] rfl ?_
      exact ih _ _ _ hp
def q_X11_join_b26 (N : Nat) : Nat → Int → Int → Int → pvM → Option pvO
  | 0 => fun _ _ _ _ => none
  | n + 1 => fun x1 x3 x4 V =>
    aR V 51 8 x1 fun v18 =>
    if v18 ≤ x4 then
      gR V 45 52 fun v19 =>
      lI (200) fun v20 =>
      if v19 ≤ v20 then
        lI (0) fun v21 =>
        q_X11_join_b124 N N v21 V
      else
      lI (5) fun v22 =>
      gW V 45 28 v22 fun V =>
      rT V 0
    else
    lI (12) fun v23 =>
    lI (pv_w (v23 * x1)) fun v24 =>
    lI (pv_w (v24 + x4)) fun v25 =>
    aR V 52 96 v25 fun v26 =>
    lI (27) fun v27 =>
    if v26 ≠ v27 then
      lI (96) fun v28 =>
      lI (pv_w (v28 + v26)) fun v29 =>
      cL (q_X11_letter N v29 V) fun _ V =>
      q_X11_join_b99 N (q_X11_join_b26 N n) x1 x3 x4 V
    else
    gR V 45 33 fun v30 =>
    lI (pv_w (v30 + x3)) fun v31 =>
    aR V 67 500 v31 fun v32 =>
    gR V 45 33 fun v33 =>
    lI (pv_w (v33 + x3)) fun v34 =>
    aR V 68 500 v34 fun v35 =>
    cL (q_X11_write N v32 v35 V) fun _ V =>
    lI (pv_w (x3 + (1))) fun v36 =>
    q_X11_join_b99 N (q_X11_join_b26 N n) x1 v36 x4 V
set_option maxHeartbeats 4000000 in
set_option maxRecDepth 100000 in
theorem w_X11_join_b26 {p : Program} {l : Launch} {e : Env} {s : State} {m : MethodId} {args : Array Value} {below : List Frame} {meth : Method} {c : Code} {D : va_G} {cy : Nat → ClassId} {A : Nat → Prop} {n0 : Nat} {ad0 : Nat → Nat} {V0 : pvM} {q : pvO} (C : pz_C p s m args meth c cX11_join 6 yX11_join.cls D cy A) (hr : meth.sig.returnType = none) {N : Nat} : ∀ (n : Nat) (x1 : Int32) (x3 : Int32) (x4 : Int32) (σ : pzS) (V : pvM), q_X11_join_b26 N n x1.toInt x3.toInt x4.toInt V = some q → pv_W p l e 2 47 s m args below meth c 6 D cy A n0 ad0 (pv_Q below D cy n0 ad0 0 V0 q A args s) V0 σ V 26 [(0, .ref 45), (1, .int x1), (3, .int x3), (4, .int x4)] [] := by
  intro n
  induction n with
  | zero =>
    intro x1 x3 x4 σ V hp
    simp only [q_X11_join_b26] at hp
    cases hp
  | succ n ih =>
    intro x1 x3 x4 σ V hp
    simp only [q_X11_join_b26] at hp
    refine pv_iload C 3 dX11_join_26 rfl ?_
    refine pv_aload_n C 0 dX11_join_28 rfl ?_
    refine pv_getR C (ci := 10) (k := 8) gwX11 rfl (Nat.le_of_ble_eq_true rfl) fl_X11_25 rfl rfl rfl (j := 51) rfl rfl dX11_join_29 ?_
    refine pv_iload_n C 1 dX11_join_32 rfl ?_
    refine pv_iald C hp rfl rfl rfl (fun _ => rfl) dX11_join_33 (fun v18 hp => ?_)
    refine pv_icmp_ge (tgt := 105) C hp dX11_join_34 (by decide) (fun hp => ?_) (fun hp => ?_)
    · refine pv_aload_n C 0 dX11_join_105 rfl ?_
      refine pv_getI C (ci := 10) (k := 52) gwX11 rfl (Nat.le_of_ble_eq_true rfl) fl_X11_217 rfl rfl hp rfl rfl dX11_join_106 (fun v19 hp => ?_)
      refine pv_sipush C hp dX11_join_109 (by decide) (fun v20 hp => ?_)
      refine pv_icmp_le (tgt := 121) C hp dX11_join_112 (by decide) (fun hp => ?_) (fun hp => ?_)
      · refine pv_iconst C hp dX11_join_121 (by decide) (fun v21 hp => ?_)
        refine pv_istore (loc' := [(4, .int v21), (0, .ref 45), (1, .int x1), (3, .int x3)]) C dX11_join_122 (by decide) rfl ?_
        refine pv_sub [1, 0] rfl ?_
        exact w_X11_join_b124 C hr N _ _ _ hp
      · refine pv_aload_n C 0 dX11_join_115 rfl ?_
        refine pv_iconst C hp dX11_join_116 (by decide) (fun v22 hp => ?_)
        refine pv_putI C (ci := 10) (k := 28) gwX11 rfl (Nat.le_of_ble_eq_true rfl) fl_X11_214 rfl rfl tyX11_ok nmX11 hp rfl rfl rfl (by decide +kernel) dX11_join_117 (fun V hp => ?_)
        exact pv_vret C rfl hp hr dX11_join_120
    · refine pv_aload_n C 0 dX11_join_37 rfl ?_
      refine pv_getR C (ci := 10) (k := 9) gwX11 rfl (Nat.le_of_ble_eq_true rfl) fl_X11_28 rfl rfl rfl (j := 52) rfl rfl dX11_join_38 ?_
      refine pv_bipush C hp dX11_join_41 (by decide) (fun v23 hp => ?_)
      refine pv_iload_n C 1 dX11_join_43 rfl ?_
      refine pv_imul C hp dX11_join_44 (fun v24 hp => ?_)
      refine pv_iload C 3 dX11_join_45 rfl ?_
      refine pv_iadd C hp dX11_join_47 (fun v25 hp => ?_)
      refine pv_iald C hp rfl rfl rfl (fun _ => rfl) dX11_join_48 (fun v26 hp => ?_)
      refine pv_istore (loc' := [(5, .int v26), (0, .ref 45), (1, .int x1), (3, .int x3), (4, .int x4)]) C dX11_join_49 (by decide) rfl ?_
      refine pv_iload C 0 dX11_join_51 rfl ?_
      refine pv_bipush C hp dX11_join_53 (by decide) (fun v27 hp => ?_)
      refine pv_icmp_ne (tgt := 90) C hp dX11_join_55 (by decide) (fun hp => ?_) (fun hp => ?_)
      · refine pv_aload_n C 1 dX11_join_90 rfl ?_
        refine pv_bipush C hp dX11_join_91 (by decide) (fun v28 hp => ?_)
        refine pv_iload C 0 dX11_join_93 rfl ?_
        refine pv_iadd C hp dX11_join_95 (fun v29 hp => ?_)
        refine pv_callV C (As := [.int v29]) (rest := []) (b := 45) (kd1 := 0) hp (fun q1 h9 => c_X11_letter l D cy h9) wB_yX11_letter ml_X11_220 im_yX11_letter se_yX11_letter (ci := 10) rfl rfl rfl rfl rfl (Nat.le_of_ble_eq_true rfl) ⟨(Nat.le_of_ble_eq_true rfl), (Nat.le_of_ble_eq_true rfl)⟩ dX11_join_96 rfl rfl (fun _ σ V hp => ?_)
        refine pv_sub [1, 2, 3, 4] rfl ?_
        exact w_X11_join_b99 C hr ih hp
      · refine pv_aload_n C 1 dX11_join_58 rfl ?_
        refine pv_aload_n C 1 dX11_join_59 rfl ?_
        refine pv_getR C (ci := 10) (k := 34) gwX11 rfl (Nat.le_of_ble_eq_true rfl) fl_X11_74 rfl rfl rfl (j := 67) rfl rfl dX11_join_60 ?_
        refine pv_aload_n C 1 dX11_join_63 rfl ?_
        refine pv_getI C (ci := 10) (k := 33) gwX11 rfl (Nat.le_of_ble_eq_true rfl) fl_X11_208 rfl rfl hp rfl rfl dX11_join_64 (fun v30 hp => ?_)
        refine pv_iload_n C 3 dX11_join_67 rfl ?_
        refine pv_iadd C hp dX11_join_68 (fun v31 hp => ?_)
        refine pv_iald C hp rfl rfl rfl (fun _ => rfl) dX11_join_69 (fun v32 hp => ?_)
        refine pv_aload_n C 1 dX11_join_70 rfl ?_
        refine pv_getR C (ci := 10) (k := 35) gwX11 rfl (Nat.le_of_ble_eq_true rfl) fl_X11_77 rfl rfl rfl (j := 68) rfl rfl dX11_join_71 ?_
        refine pv_aload_n C 1 dX11_join_74 rfl ?_
        refine pv_getI C (ci := 10) (k := 33) gwX11 rfl (Nat.le_of_ble_eq_true rfl) fl_X11_208 rfl rfl hp rfl rfl dX11_join_75 (fun v33 hp => ?_)
        refine pv_iload_n C 3 dX11_join_78 rfl ?_
        refine pv_iadd C hp dX11_join_79 (fun v34 hp => ?_)
        refine pv_iald C hp rfl rfl rfl (fun _ => rfl) dX11_join_80 (fun v35 hp => ?_)
        refine pv_callV C (As := [.int v32, .int v35]) (rest := []) (b := 45) (kd1 := 0) hp (fun q1 h9 => c_X11_write l D cy h9) wB_yX11_write ml_X11_226 im_yX11_write se_yX11_write (ci := 10) rfl rfl rfl rfl rfl (Nat.le_of_ble_eq_true rfl) ⟨(Nat.le_of_ble_eq_true rfl), (Nat.le_of_ble_eq_true rfl)⟩ dX11_join_81 rfl rfl (fun _ σ V hp => ?_)
        refine pv_iinc (L := fun v36 => [(3, .int v36), (5, .int v26), (0, .ref 45), (1, .int x1), (4, .int x4)]) C 3 hp dX11_join_84 (by decide) rfl (by decide) (fun _ => rfl) (fun v36 hp => ?_)
        refine pv_goto (tgt := 99) C dX11_join_87 (by decide) ?_
        refine pv_sub [2, 3, 0, 4] rfl ?_
        exact w_X11_join_b99 C hr ih hp
def q_X11_join (N : Nat) (x1 : Int) (V : pvM) : Option pvO :=
  lI (0) fun v37 =>
  gW V 45 52 v37 fun V =>
  cL (q_X11_holes N x1 V) fun v38 V =>
  gR V 45 33 fun v39 =>
  lI (pv_w (v39 - v38)) fun v40 =>
  gW V 45 33 v40 fun V =>
  lI (0) fun v41 =>
  lI (0) fun v42 =>
  q_X11_join_b26 N N x1 v41 v42 V
set_option maxHeartbeats 4000000 in
set_option maxRecDepth 100000 in
theorem c_X11_join (l : Launch) (D : va_G) (cy : Nat → ClassId) {N : Nat} {x1 : Int32} {V : pvM} {q : pvO} (hp : q_X11_join N x1.toInt V = some q) : pv_Met l yX11_join cX11_join 6 none 2 47 D cy V [.ref 45, .int x1] 0 q := by
  unfold q_X11_join at hp
  refine pv_ofW (by decide) (Nat.le_of_ble_eq_true rfl) (fun p e s m args below meth c ad A n0 σ C hr => ?_)
  refine pv_aload_n C 0 dX11_join_0 rfl ?_
  refine pv_iconst C hp dX11_join_1 (by decide) (fun v37 hp => ?_)
  refine pv_putI C (ci := 10) (k := 52) gwX11 rfl (Nat.le_of_ble_eq_true rfl) fl_X11_217 rfl rfl tyX11_ok nmX11 hp rfl rfl rfl (by decide +kernel) dX11_join_2 (fun V hp => ?_)
  refine pv_aload_n C 0 dX11_join_5 rfl ?_
  refine pv_iload_n C 1 dX11_join_6 rfl ?_
  refine pv_callV C (As := [.int x1]) (rest := []) (b := 45) (kd1 := 1) hp (fun q1 h9 => c_X11_holes l D cy h9) wB_yX11_holes ml_X11_149 im_yX11_holes se_yX11_holes (ci := 10) rfl rfl rfl rfl rfl (Nat.le_of_ble_eq_true rfl) ⟨(Nat.le_of_ble_eq_true rfl), (Nat.le_of_ble_eq_true rfl)⟩ dX11_join_7 rfl rfl (fun v38 σ V hp => ?_)
  refine pv_istore_n (loc' := [(2, .int v38), (0, .ref 45), (1, .int x1)]) C dX11_join_10 (by decide) rfl ?_
  refine pv_aload_n C 1 dX11_join_11 rfl ?_
  refine pv_dup C dX11_join_12 rfl ?_
  refine pv_getI C (ci := 10) (k := 33) gwX11 rfl (Nat.le_of_ble_eq_true rfl) fl_X11_208 rfl rfl hp rfl rfl dX11_join_13 (fun v39 hp => ?_)
  refine pv_iload_n C 0 dX11_join_16 rfl ?_
  refine pv_isub C hp dX11_join_17 (fun v40 hp => ?_)
  refine pv_putI C (ci := 10) (k := 33) gwX11 rfl (Nat.le_of_ble_eq_true rfl) fl_X11_208 rfl rfl tyX11_ok nmX11 hp rfl rfl rfl (by decide +kernel) dX11_join_18 (fun V hp => ?_)
  refine pv_iconst C hp dX11_join_21 (by decide) (fun v41 hp => ?_)
  refine pv_istore_n (loc' := [(3, .int v41), (2, .int v38), (0, .ref 45), (1, .int x1)]) C dX11_join_22 (by decide) rfl ?_
  refine pv_iconst C hp dX11_join_23 (by decide) (fun v42 hp => ?_)
  refine pv_istore (loc' := [(4, .int v42), (3, .int v41), (2, .int v38), (0, .ref 45), (1, .int x1)]) C dX11_join_24 (by decide) rfl ?_
  refine pv_sub [3, 4, 1, 0] rfl ?_
  exact w_X11_join_b26 C hr N _ _ _ _ _ hp
def q_X11_close_b12 (N : Nat) : Nat → Int → Int → Int → pvM → Option pvO
  | 0 => fun _ _ _ _ => none
  | n + 1 => fun x1 x2 x3 V =>
    if x2 ≤ x3 then
      gR V 45 47 fun v1 =>
      aW V 78 401 v1 x1 fun V =>
      gR V 45 47 fun v2 =>
      aW V 79 401 v2 x2 fun V =>
      gR V 45 47 fun v3 =>
      lI (1) fun v4 =>
      lI (pv_w (v3 + v4)) fun v5 =>
      gW V 45 47 v5 fun V =>
      lI (3) fun v6 =>
      gR V 45 47 fun v7 =>
      lI (1) fun v8 =>
      lI (pv_w (v7 - v8)) fun v9 =>
      cL (q_X11_push N v6 v9 V) fun _ V =>
      rT V 0
    else
    lI (3) fun v10 =>
    gR V 45 47 fun v11 =>
    lI (pv_w (v10 * v11)) fun v12 =>
    lI (pv_w (v12 + x3)) fun v13 =>
    gR V 45 33 fun v14 =>
    lI (pv_w (v14 + x3)) fun v15 =>
    aR V 67 500 v15 fun v16 =>
    aW V 80 1203 v13 v16 fun V =>
    lI (3) fun v17 =>
    gR V 45 47 fun v18 =>
    lI (pv_w (v17 * v18)) fun v19 =>
    lI (pv_w (v19 + x3)) fun v20 =>
    gR V 45 33 fun v21 =>
    lI (pv_w (v21 + x3)) fun v22 =>
    aR V 68 500 v22 fun v23 =>
    aW V 81 1203 v20 v23 fun V =>
    lI (pv_w (x3 + (1))) fun v24 =>
    q_X11_close_b12 N n x1 x2 v24 V
set_option maxHeartbeats 4000000 in
set_option maxRecDepth 100000 in
theorem w_X11_close_b12 {p : Program} {l : Launch} {e : Env} {s : State} {m : MethodId} {args : Array Value} {below : List Frame} {meth : Method} {c : Code} {D : va_G} {cy : Nat → ClassId} {A : Nat → Prop} {n0 : Nat} {ad0 : Nat → Nat} {V0 : pvM} {q : pvO} (C : pz_C p s m args meth c cX11_close 4 yX11_close.cls D cy A) (hr : meth.sig.returnType = none) {N : Nat} : ∀ (n : Nat) (x1 : Int32) (x2 : Int32) (x3 : Int32) (σ : pzS) (V : pvM), q_X11_close_b12 N n x1.toInt x2.toInt x3.toInt V = some q → pv_W p l e 1 22 s m args below meth c 4 D cy A n0 ad0 (pv_Q below D cy n0 ad0 0 V0 q A args s) V0 σ V 12 [(0, .ref 45), (1, .int x1), (2, .int x2), (3, .int x3)] [] := by
  intro n
  induction n with
  | zero =>
    intro x1 x2 x3 σ V hp
    simp only [q_X11_close_b12] at hp
    cases hp
  | succ n ih =>
    intro x1 x2 x3 σ V hp
    simp only [q_X11_close_b12] at hp
    refine pv_iload_n C 3 dX11_close_12 rfl ?_
    refine pv_iload_n C 2 dX11_close_13 rfl ?_
    refine pv_icmp_ge (tgt := 71) C hp dX11_close_14 (by decide) (fun hp => ?_) (fun hp => ?_)
    · refine pv_aload_n C 0 dX11_close_71 rfl ?_
      refine pv_getR C (ci := 10) (k := 48) gwX11 rfl (Nat.le_of_ble_eq_true rfl) fl_X11_108 rfl rfl rfl (j := 78) rfl rfl dX11_close_72 ?_
      refine pv_aload_n C 0 dX11_close_75 rfl ?_
      refine pv_getI C (ci := 10) (k := 47) gwX11 rfl (Nat.le_of_ble_eq_true rfl) fl_X11_238 rfl rfl hp rfl rfl dX11_close_76 (fun v1 hp => ?_)
      refine pv_iload_n C 1 dX11_close_79 rfl ?_
      refine pv_iast C hp rfl rfl rfl (fun _ => rfl) dX11_close_80 (fun V hp => ?_)
      refine pv_aload_n C 0 dX11_close_81 rfl ?_
      refine pv_getR C (ci := 10) (k := 49) gwX11 rfl (Nat.le_of_ble_eq_true rfl) fl_X11_111 rfl rfl rfl (j := 79) rfl rfl dX11_close_82 ?_
      refine pv_aload_n C 0 dX11_close_85 rfl ?_
      refine pv_getI C (ci := 10) (k := 47) gwX11 rfl (Nat.le_of_ble_eq_true rfl) fl_X11_238 rfl rfl hp rfl rfl dX11_close_86 (fun v2 hp => ?_)
      refine pv_iload_n C 2 dX11_close_89 rfl ?_
      refine pv_iast C hp rfl rfl rfl (fun _ => rfl) dX11_close_90 (fun V hp => ?_)
      refine pv_aload_n C 0 dX11_close_91 rfl ?_
      refine pv_dup C dX11_close_92 rfl ?_
      refine pv_getI C (ci := 10) (k := 47) gwX11 rfl (Nat.le_of_ble_eq_true rfl) fl_X11_238 rfl rfl hp rfl rfl dX11_close_93 (fun v3 hp => ?_)
      refine pv_iconst C hp dX11_close_96 (by decide) (fun v4 hp => ?_)
      refine pv_iadd C hp dX11_close_97 (fun v5 hp => ?_)
      refine pv_putI C (ci := 10) (k := 47) gwX11 rfl (Nat.le_of_ble_eq_true rfl) fl_X11_238 rfl rfl tyX11_ok nmX11 hp rfl rfl rfl (by decide +kernel) dX11_close_98 (fun V hp => ?_)
      refine pv_aload_n C 0 dX11_close_101 rfl ?_
      refine pv_iconst C hp dX11_close_102 (by decide) (fun v6 hp => ?_)
      refine pv_aload_n C 0 dX11_close_103 rfl ?_
      refine pv_getI C (ci := 10) (k := 47) gwX11 rfl (Nat.le_of_ble_eq_true rfl) fl_X11_238 rfl rfl hp rfl rfl dX11_close_104 (fun v7 hp => ?_)
      refine pv_iconst C hp dX11_close_107 (by decide) (fun v8 hp => ?_)
      refine pv_isub C hp dX11_close_108 (fun v9 hp => ?_)
      refine pv_callV C (As := [.int v6, .int v9]) (rest := []) (b := 45) (kd1 := 0) hp (fun q1 h9 => c_X11_push l D cy h9) wB_yX11_push ml_X11_235 im_yX11_push se_yX11_push (ci := 10) rfl rfl rfl rfl rfl (Nat.le_of_ble_eq_true rfl) ⟨(Nat.le_of_ble_eq_true rfl), (Nat.le_of_ble_eq_true rfl)⟩ dX11_close_109 rfl rfl (fun _ σ V hp => ?_)
      exact pv_vret C rfl hp hr dX11_close_112
    · refine pv_aload_n C 0 dX11_close_17 rfl ?_
      refine pv_getR C (ci := 10) (k := 50) gwX11 rfl (Nat.le_of_ble_eq_true rfl) fl_X11_114 rfl rfl rfl (j := 80) rfl rfl dX11_close_18 ?_
      refine pv_iconst C hp dX11_close_21 (by decide) (fun v10 hp => ?_)
      refine pv_aload_n C 0 dX11_close_22 rfl ?_
      refine pv_getI C (ci := 10) (k := 47) gwX11 rfl (Nat.le_of_ble_eq_true rfl) fl_X11_238 rfl rfl hp rfl rfl dX11_close_23 (fun v11 hp => ?_)
      refine pv_imul C hp dX11_close_26 (fun v12 hp => ?_)
      refine pv_iload_n C 3 dX11_close_27 rfl ?_
      refine pv_iadd C hp dX11_close_28 (fun v13 hp => ?_)
      refine pv_aload_n C 0 dX11_close_29 rfl ?_
      refine pv_getR C (ci := 10) (k := 34) gwX11 rfl (Nat.le_of_ble_eq_true rfl) fl_X11_74 rfl rfl rfl (j := 67) rfl rfl dX11_close_30 ?_
      refine pv_aload_n C 0 dX11_close_33 rfl ?_
      refine pv_getI C (ci := 10) (k := 33) gwX11 rfl (Nat.le_of_ble_eq_true rfl) fl_X11_208 rfl rfl hp rfl rfl dX11_close_34 (fun v14 hp => ?_)
      refine pv_iload_n C 3 dX11_close_37 rfl ?_
      refine pv_iadd C hp dX11_close_38 (fun v15 hp => ?_)
      refine pv_iald C hp rfl rfl rfl (fun _ => rfl) dX11_close_39 (fun v16 hp => ?_)
      refine pv_iast C hp rfl rfl rfl (fun _ => rfl) dX11_close_40 (fun V hp => ?_)
      refine pv_aload_n C 0 dX11_close_41 rfl ?_
      refine pv_getR C (ci := 10) (k := 51) gwX11 rfl (Nat.le_of_ble_eq_true rfl) fl_X11_117 rfl rfl rfl (j := 81) rfl rfl dX11_close_42 ?_
      refine pv_iconst C hp dX11_close_45 (by decide) (fun v17 hp => ?_)
      refine pv_aload_n C 0 dX11_close_46 rfl ?_
      refine pv_getI C (ci := 10) (k := 47) gwX11 rfl (Nat.le_of_ble_eq_true rfl) fl_X11_238 rfl rfl hp rfl rfl dX11_close_47 (fun v18 hp => ?_)
      refine pv_imul C hp dX11_close_50 (fun v19 hp => ?_)
      refine pv_iload_n C 3 dX11_close_51 rfl ?_
      refine pv_iadd C hp dX11_close_52 (fun v20 hp => ?_)
      refine pv_aload_n C 0 dX11_close_53 rfl ?_
      refine pv_getR C (ci := 10) (k := 35) gwX11 rfl (Nat.le_of_ble_eq_true rfl) fl_X11_77 rfl rfl rfl (j := 68) rfl rfl dX11_close_54 ?_
      refine pv_aload_n C 0 dX11_close_57 rfl ?_
      refine pv_getI C (ci := 10) (k := 33) gwX11 rfl (Nat.le_of_ble_eq_true rfl) fl_X11_208 rfl rfl hp rfl rfl dX11_close_58 (fun v21 hp => ?_)
      refine pv_iload_n C 3 dX11_close_61 rfl ?_
      refine pv_iadd C hp dX11_close_62 (fun v22 hp => ?_)
      refine pv_iald C hp rfl rfl rfl (fun _ => rfl) dX11_close_63 (fun v23 hp => ?_)
      refine pv_iast C hp rfl rfl rfl (fun _ => rfl) dX11_close_64 (fun V hp => ?_)
      refine pv_iinc (L := fun v24 => [(3, .int v24), (0, .ref 45), (1, .int x1), (2, .int x2)]) C 3 hp dX11_close_65 (by decide) rfl (by decide) (fun _ => rfl) (fun v24 hp => ?_)
      refine pv_goto (tgt := 12) C dX11_close_68 (by decide) ?_
      refine pv_sub [1, 2, 3, 0] rfl ?_
      exact ih _ _ _ _ _ hp
def q_X11_close (N : Nat) (x1 : Int) (x2 : Int) (V : pvM) : Option pvO :=
  gR V 45 33 fun v25 =>
  lI (pv_w (v25 - x2)) fun v26 =>
  gW V 45 33 v26 fun V =>
  lI (0) fun v27 =>
  q_X11_close_b12 N N x1 x2 v27 V
set_option maxHeartbeats 4000000 in
set_option maxRecDepth 100000 in
theorem c_X11_close (l : Launch) (D : va_G) (cy : Nat → ClassId) {N : Nat} {x1 : Int32} {x2 : Int32} {V : pvM} {q : pvO} (hp : q_X11_close N x1.toInt x2.toInt V = some q) : pv_Met l yX11_close cX11_close 4 none 1 22 D cy V [.ref 45, .int x1, .int x2] 0 q := by
  unfold q_X11_close at hp
  refine pv_ofW (by decide) (Nat.le_of_ble_eq_true rfl) (fun p e s m args below meth c ad A n0 σ C hr => ?_)
  refine pv_aload_n C 0 dX11_close_0 rfl ?_
  refine pv_dup C dX11_close_1 rfl ?_
  refine pv_getI C (ci := 10) (k := 33) gwX11 rfl (Nat.le_of_ble_eq_true rfl) fl_X11_208 rfl rfl hp rfl rfl dX11_close_2 (fun v25 hp => ?_)
  refine pv_iload_n C 2 dX11_close_5 rfl ?_
  refine pv_isub C hp dX11_close_6 (fun v26 hp => ?_)
  refine pv_putI C (ci := 10) (k := 33) gwX11 rfl (Nat.le_of_ble_eq_true rfl) fl_X11_208 rfl rfl tyX11_ok nmX11 hp rfl rfl rfl (by decide +kernel) dX11_close_7 (fun V hp => ?_)
  refine pv_iconst C hp dX11_close_10 (by decide) (fun v27 hp => ?_)
  refine pv_istore_n (loc' := [(3, .int v27), (0, .ref 45), (1, .int x1), (2, .int x2)]) C dX11_close_11 (by decide) rfl ?_
  refine pv_sub [1, 2, 3, 0] rfl ?_
  exact w_X11_close_b12 C hr N _ _ _ _ _ hp
def q_X11_apply_b84 (N : Nat) : Nat → Int → Int → Int → Int → pvM → Option pvO
  | 0 => fun _ _ _ _ _ => none
  | n + 1 => fun x1 x3 x4 x5 V =>
    if x4 ≤ x5 then
      aR V 78 401 x3 fun v1 =>
      lI (pv_w (x4 + x1)) fun v2 =>
      cL (q_X11_begin N v1 v2 V) fun _ V =>
      rT V 0
    else
    lI (3) fun v3 =>
    lI (pv_w (v3 * x3)) fun v4 =>
    lI (pv_w (v4 + x5)) fun v5 =>
    aR V 80 1203 v5 fun v6 =>
    aW V 74 6 x5 v6 fun V =>
    lI (3) fun v7 =>
    lI (pv_w (v7 * x3)) fun v8 =>
    lI (pv_w (v8 + x5)) fun v9 =>
    aR V 81 1203 v9 fun v10 =>
    aW V 75 6 x5 v10 fun V =>
    lI (pv_w (x5 + (1))) fun v11 =>
    q_X11_apply_b84 N n x1 x3 x4 v11 V
set_option maxHeartbeats 4000000 in
set_option maxRecDepth 100000 in
theorem w_X11_apply_b84 {p : Program} {l : Launch} {e : Env} {s : State} {m : MethodId} {args : Array Value} {below : List Frame} {meth : Method} {c : Code} {D : va_G} {cy : Nat → ClassId} {A : Nat → Prop} {n0 : Nat} {ad0 : Nat → Nat} {V0 : pvM} {q : pvO} (C : pz_C p s m args meth c cX11_apply 6 yX11_apply.cls D cy A) (hr : meth.sig.returnType = none) {N : Nat} : ∀ (n : Nat) (x1 : Int32) (x3 : Int32) (x4 : Int32) (x5 : Int32) (σ : pzS) (V : pvM), q_X11_apply_b84 N n x1.toInt x3.toInt x4.toInt x5.toInt V = some q → pv_W p l e 1 23 s m args below meth c 6 D cy A n0 ad0 (pv_Q below D cy n0 ad0 0 V0 q A args s) V0 σ V 84 [(0, .ref 45), (1, .int x1), (3, .int x3), (4, .int x4), (5, .int x5)] [] := by
  intro n
  induction n with
  | zero =>
    intro x1 x3 x4 x5 σ V hp
    simp only [q_X11_apply_b84] at hp
    cases hp
  | succ n ih =>
    intro x1 x3 x4 x5 σ V hp
    simp only [q_X11_apply_b84] at hp
    refine pv_iload C 4 dX11_apply_84 rfl ?_
    refine pv_iload C 3 dX11_apply_86 rfl ?_
    refine pv_icmp_ge (tgt := 133) C hp dX11_apply_88 (by decide) (fun hp => ?_) (fun hp => ?_)
    · refine pv_aload_n C 0 dX11_apply_133 rfl ?_
      refine pv_aload_n C 0 dX11_apply_134 rfl ?_
      refine pv_getR C (ci := 10) (k := 48) gwX11 rfl (Nat.le_of_ble_eq_true rfl) fl_X11_108 rfl rfl rfl (j := 78) rfl rfl dX11_apply_135 ?_
      refine pv_iload_n C 2 dX11_apply_138 rfl ?_
      refine pv_iald C hp rfl rfl rfl (fun _ => rfl) dX11_apply_139 (fun v1 hp => ?_)
      refine pv_iload C 3 dX11_apply_140 rfl ?_
      refine pv_iload_n C 1 dX11_apply_142 rfl ?_
      refine pv_iadd C hp dX11_apply_143 (fun v2 hp => ?_)
      refine pv_callV C (As := [.int v1, .int v2]) (rest := []) (b := 45) (kd1 := 0) hp (fun q1 h9 => c_X11_begin l D cy h9) wB_yX11_begin ml_X11_244 im_yX11_begin se_yX11_begin (ci := 10) rfl rfl rfl rfl rfl (Nat.le_of_ble_eq_true rfl) ⟨(Nat.le_of_ble_eq_true rfl), (Nat.le_of_ble_eq_true rfl)⟩ dX11_apply_144 rfl rfl (fun _ σ V hp => ?_)
      exact pv_vret C rfl hp hr dX11_apply_147
    · refine pv_aload_n C 0 dX11_apply_91 rfl ?_
      refine pv_getR C (ci := 10) (k := 42) gwX11 rfl (Nat.le_of_ble_eq_true rfl) fl_X11_95 rfl rfl rfl (j := 74) rfl rfl dX11_apply_92 ?_
      refine pv_iload C 4 dX11_apply_95 rfl ?_
      refine pv_aload_n C 0 dX11_apply_97 rfl ?_
      refine pv_getR C (ci := 10) (k := 50) gwX11 rfl (Nat.le_of_ble_eq_true rfl) fl_X11_114 rfl rfl rfl (j := 80) rfl rfl dX11_apply_98 ?_
      refine pv_iconst C hp dX11_apply_101 (by decide) (fun v3 hp => ?_)
      refine pv_iload_n C 2 dX11_apply_102 rfl ?_
      refine pv_imul C hp dX11_apply_103 (fun v4 hp => ?_)
      refine pv_iload C 4 dX11_apply_104 rfl ?_
      refine pv_iadd C hp dX11_apply_106 (fun v5 hp => ?_)
      refine pv_iald C hp rfl rfl rfl (fun _ => rfl) dX11_apply_107 (fun v6 hp => ?_)
      refine pv_iast C hp rfl rfl rfl (fun _ => rfl) dX11_apply_108 (fun V hp => ?_)
      refine pv_aload_n C 0 dX11_apply_109 rfl ?_
      refine pv_getR C (ci := 10) (k := 43) gwX11 rfl (Nat.le_of_ble_eq_true rfl) fl_X11_98 rfl rfl rfl (j := 75) rfl rfl dX11_apply_110 ?_
      refine pv_iload C 4 dX11_apply_113 rfl ?_
      refine pv_aload_n C 0 dX11_apply_115 rfl ?_
      refine pv_getR C (ci := 10) (k := 51) gwX11 rfl (Nat.le_of_ble_eq_true rfl) fl_X11_117 rfl rfl rfl (j := 81) rfl rfl dX11_apply_116 ?_
      refine pv_iconst C hp dX11_apply_119 (by decide) (fun v7 hp => ?_)
      refine pv_iload_n C 2 dX11_apply_120 rfl ?_
      refine pv_imul C hp dX11_apply_121 (fun v8 hp => ?_)
      refine pv_iload C 4 dX11_apply_122 rfl ?_
      refine pv_iadd C hp dX11_apply_124 (fun v9 hp => ?_)
      refine pv_iald C hp rfl rfl rfl (fun _ => rfl) dX11_apply_125 (fun v10 hp => ?_)
      refine pv_iast C hp rfl rfl rfl (fun _ => rfl) dX11_apply_126 (fun V hp => ?_)
      refine pv_iinc (L := fun v11 => [(5, .int v11), (0, .ref 45), (1, .int x1), (3, .int x3), (4, .int x4)]) C 4 hp dX11_apply_127 (by decide) rfl (by decide) (fun _ => rfl) (fun v11 hp => ?_)
      refine pv_goto (tgt := 84) C dX11_apply_130 (by decide) ?_
      refine pv_sub [1, 2, 3, 4, 0] rfl ?_
      exact ih _ _ _ _ _ _ hp
def q_X11_apply (N : Nat) (x1 : Int) (V : pvM) : Option pvO :=
  gR V 45 33 fun v12 =>
  lI (pv_w (v12 - x1)) fun v13 =>
  lI (1) fun v14 =>
  lI (pv_w (v13 - v14)) fun v15 =>
  aR V 67 500 v15 fun v16 =>
  lI (3) fun v17 =>
  if v16 = v17 then
    aR V 68 500 v15 fun v18 =>
    aR V 79 401 v18 fun v19 =>
    lI (pv_w (v19 + x1)) fun v20 =>
    aR V 78 401 v18 fun v21 =>
    aR V 46 12 v21 fun v22 =>
    if v20 = v22 then
      cL (q_X11_take N x1 v19 V) fun _ V =>
      gR V 45 33 fun v23 =>
      lI (1) fun v24 =>
      lI (pv_w (v23 - v24)) fun v25 =>
      gW V 45 33 v25 fun V =>
      lI (0) fun v26 =>
      q_X11_apply_b84 N N x1 v18 v19 v26 V
    else
    lI (2) fun v27 =>
    gW V 45 28 v27 fun V =>
    rT V 0
  else
  lI (1) fun v28 =>
  gW V 45 28 v28 fun V =>
  rT V 0
set_option maxHeartbeats 4000000 in
set_option maxRecDepth 100000 in
theorem c_X11_apply (l : Launch) (D : va_G) (cy : Nat → ClassId) {N : Nat} {x1 : Int32} {V : pvM} {q : pvO} (hp : q_X11_apply N x1.toInt V = some q) : pv_Met l yX11_apply cX11_apply 6 none 1 23 D cy V [.ref 45, .int x1] 0 q := by
  unfold q_X11_apply at hp
  refine pv_ofW (by decide) (Nat.le_of_ble_eq_true rfl) (fun p e s m args below meth c ad A n0 σ C hr => ?_)
  refine pv_aload_n C 0 dX11_apply_0 rfl ?_
  refine pv_getI C (ci := 10) (k := 33) gwX11 rfl (Nat.le_of_ble_eq_true rfl) fl_X11_208 rfl rfl hp rfl rfl dX11_apply_1 (fun v12 hp => ?_)
  refine pv_iload_n C 1 dX11_apply_4 rfl ?_
  refine pv_isub C hp dX11_apply_5 (fun v13 hp => ?_)
  refine pv_iconst C hp dX11_apply_6 (by decide) (fun v14 hp => ?_)
  refine pv_isub C hp dX11_apply_7 (fun v15 hp => ?_)
  refine pv_istore_n (loc' := [(2, .int v15), (0, .ref 45), (1, .int x1)]) C dX11_apply_8 (by decide) rfl ?_
  refine pv_aload_n C 1 dX11_apply_9 rfl ?_
  refine pv_getR C (ci := 10) (k := 34) gwX11 rfl (Nat.le_of_ble_eq_true rfl) fl_X11_74 rfl rfl rfl (j := 67) rfl rfl dX11_apply_10 ?_
  refine pv_iload_n C 0 dX11_apply_13 rfl ?_
  refine pv_iald C hp rfl rfl rfl (fun _ => rfl) dX11_apply_14 (fun v16 hp => ?_)
  refine pv_iconst C hp dX11_apply_15 (by decide) (fun v17 hp => ?_)
  refine pv_icmp_eq (tgt := 25) C hp dX11_apply_16 (by decide) (fun hp => ?_) (fun hp => ?_)
  · refine pv_aload_n C 1 dX11_apply_25 rfl ?_
    refine pv_getR C (ci := 10) (k := 35) gwX11 rfl (Nat.le_of_ble_eq_true rfl) fl_X11_77 rfl rfl rfl (j := 68) rfl rfl dX11_apply_26 ?_
    refine pv_iload_n C 0 dX11_apply_29 rfl ?_
    refine pv_iald C hp rfl rfl rfl (fun _ => rfl) dX11_apply_30 (fun v18 hp => ?_)
    refine pv_istore_n (loc' := [(3, .int v18), (2, .int v15), (0, .ref 45), (1, .int x1)]) C dX11_apply_31 (by decide) rfl ?_
    refine pv_aload_n C 2 dX11_apply_32 rfl ?_
    refine pv_getR C (ci := 10) (k := 49) gwX11 rfl (Nat.le_of_ble_eq_true rfl) fl_X11_111 rfl rfl rfl (j := 79) rfl rfl dX11_apply_33 ?_
    refine pv_iload_n C 0 dX11_apply_36 rfl ?_
    refine pv_iald C hp rfl rfl rfl (fun _ => rfl) dX11_apply_37 (fun v19 hp => ?_)
    refine pv_istore (loc' := [(4, .int v19), (3, .int v18), (2, .int v15), (0, .ref 45), (1, .int x1)]) C dX11_apply_38 (by decide) rfl ?_
    refine pv_iload C 0 dX11_apply_40 rfl ?_
    refine pv_iload_n C 4 dX11_apply_42 rfl ?_
    refine pv_iadd C hp dX11_apply_43 (fun v20 hp => ?_)
    refine pv_aload_n C 3 dX11_apply_44 rfl ?_
    refine pv_getR C (ci := 10) (k := 2) gwX11 rfl (Nat.le_of_ble_eq_true rfl) fl_X11_7 rfl rfl rfl (j := 46) rfl rfl dX11_apply_45 ?_
    refine pv_aload_n C 3 dX11_apply_48 rfl ?_
    refine pv_getR C (ci := 10) (k := 48) gwX11 rfl (Nat.le_of_ble_eq_true rfl) fl_X11_108 rfl rfl rfl (j := 78) rfl rfl dX11_apply_49 ?_
    refine pv_iload_n C 1 dX11_apply_52 rfl ?_
    refine pv_iald C hp rfl rfl rfl (fun _ => rfl) dX11_apply_53 (fun v21 hp => ?_)
    refine pv_iald C hp rfl rfl rfl (fun _ => rfl) dX11_apply_54 (fun v22 hp => ?_)
    refine pv_icmp_eq (tgt := 64) C hp dX11_apply_55 (by decide) (fun hp => ?_) (fun hp => ?_)
    · refine pv_aload_n C 3 dX11_apply_64 rfl ?_
      refine pv_iload_n C 4 dX11_apply_65 rfl ?_
      refine pv_iload C 0 dX11_apply_66 rfl ?_
      refine pv_callV C (As := [.int x1, .int v19]) (rest := []) (b := 45) (kd1 := 0) hp (fun q1 h9 => c_X11_take l D cy h9) wB_yX11_take ml_X11_241 im_yX11_take se_yX11_take (ci := 10) rfl rfl rfl rfl rfl (Nat.le_of_ble_eq_true rfl) ⟨(Nat.le_of_ble_eq_true rfl), (Nat.le_of_ble_eq_true rfl)⟩ dX11_apply_68 rfl rfl (fun _ σ V hp => ?_)
      refine pv_aload_n C 3 dX11_apply_71 rfl ?_
      refine pv_dup C dX11_apply_72 rfl ?_
      refine pv_getI C (ci := 10) (k := 33) gwX11 rfl (Nat.le_of_ble_eq_true rfl) fl_X11_208 rfl rfl hp rfl rfl dX11_apply_73 (fun v23 hp => ?_)
      refine pv_iconst C hp dX11_apply_76 (by decide) (fun v24 hp => ?_)
      refine pv_isub C hp dX11_apply_77 (fun v25 hp => ?_)
      refine pv_putI C (ci := 10) (k := 33) gwX11 rfl (Nat.le_of_ble_eq_true rfl) fl_X11_208 rfl rfl tyX11_ok nmX11 hp rfl rfl rfl (by decide +kernel) dX11_apply_78 (fun V hp => ?_)
      refine pv_iconst C hp dX11_apply_81 (by decide) (fun v26 hp => ?_)
      refine pv_istore (loc' := [(5, .int v26), (4, .int v19), (3, .int v18), (2, .int v15), (0, .ref 45), (1, .int x1)]) C dX11_apply_82 (by decide) rfl ?_
      refine pv_sub [4, 5, 2, 1, 0] rfl ?_
      exact w_X11_apply_b84 C hr N _ _ _ _ _ _ hp
    · refine pv_aload_n C 3 dX11_apply_58 rfl ?_
      refine pv_iconst C hp dX11_apply_59 (by decide) (fun v27 hp => ?_)
      refine pv_putI C (ci := 10) (k := 28) gwX11 rfl (Nat.le_of_ble_eq_true rfl) fl_X11_214 rfl rfl tyX11_ok nmX11 hp rfl rfl rfl (by decide +kernel) dX11_apply_60 (fun V hp => ?_)
      exact pv_vret C rfl hp hr dX11_apply_63
  · refine pv_aload_n C 1 dX11_apply_19 rfl ?_
    refine pv_iconst C hp dX11_apply_20 (by decide) (fun v28 hp => ?_)
    refine pv_putI C (ci := 10) (k := 28) gwX11 rfl (Nat.le_of_ble_eq_true rfl) fl_X11_214 rfl rfl tyX11_ok nmX11 hp rfl rfl rfl (by decide +kernel) dX11_apply_21 (fun V hp => ?_)
    exact pv_vret C rfl hp hr dX11_apply_24
def q_X11_reckon_b93 (N : Nat) (s0 : Int) (s1 : Int) (V : pvM) : Option pvO :=
  cL (q_X11_push N s1 s0 V) fun _ V =>
  rT V 0
set_option maxHeartbeats 4000000 in
set_option maxRecDepth 100000 in
theorem w_X11_reckon_b93 {p : Program} {l : Launch} {e : Env} {s : State} {m : MethodId} {args : Array Value} {below : List Frame} {meth : Method} {c : Code} {D : va_G} {cy : Nat → ClassId} {A : Nat → Prop} {n0 : Nat} {ad0 : Nat → Nat} {V0 : pvM} {q : pvO} (C : pz_C p s m args meth c cX11_reckon 4 yX11_reckon.cls D cy A) (hr : meth.sig.returnType = none) {N : Nat} {s0 : Int32} {s1 : Int32} {σ : pzS} {V : pvM} (hp : q_X11_reckon_b93 N s0.toInt s1.toInt V = some q) : pv_W p l e 1 22 s m args below meth c 4 D cy A n0 ad0 (pv_Q below D cy n0 ad0 0 V0 q A args s) V0 σ V 93 [] [.int s0, .int s1, .ref 45] := by
  unfold q_X11_reckon_b93 at hp
  refine pv_callV C (As := [.int s1, .int s0]) (rest := []) (b := 45) (kd1 := 0) hp (fun q1 h9 => c_X11_push l D cy h9) wB_yX11_push ml_X11_235 im_yX11_push se_yX11_push (ci := 10) rfl rfl rfl rfl rfl (Nat.le_of_ble_eq_true rfl) ⟨(Nat.le_of_ble_eq_true rfl), (Nat.le_of_ble_eq_true rfl)⟩ dX11_reckon_93 rfl rfl (fun _ σ V hp => ?_)
  exact pv_vret C rfl hp hr dX11_reckon_96
def q_X11_reckon (N : Nat) (x1 : Int) (V : pvM) : Option pvO :=
  gR V 45 33 fun v1 =>
  lI (2) fun v2 =>
  lI (pv_w (v1 - v2)) fun v3 =>
  gW V 45 33 v3 fun V =>
  gR V 45 33 fun v4 =>
  aR V 67 500 v4 fun v5 =>
  lI (1) fun v6 =>
  if v5 ≠ v6 then
    lI (1) fun v7 =>
    gW V 45 28 v7 fun V =>
    rT V 0
  else
  gR V 45 33 fun v8 =>
  lI (1) fun v9 =>
  lI (pv_w (v8 + v9)) fun v10 =>
  aR V 67 500 v10 fun v11 =>
  lI (1) fun v12 =>
  if v11 = v12 then
    gR V 45 33 fun v13 =>
    aR V 68 500 v13 fun v14 =>
    gR V 45 33 fun v15 =>
    lI (1) fun v16 =>
    lI (pv_w (v15 + v16)) fun v17 =>
    aR V 68 500 v17 fun v18 =>
    lI (1) fun v19 =>
    lI (3) fun v20 =>
    if x1 ≠ v20 then
      lI (4) fun v21 =>
      if x1 ≠ v21 then
        lI (pv_w (v14 * v18)) fun v22 =>
        q_X11_reckon_b93 N v22 v19 V
      else
      lI (pv_w (v14 - v18)) fun v23 =>
      q_X11_reckon_b93 N v23 v19 V
    else
    lI (pv_w (v14 + v18)) fun v24 =>
    q_X11_reckon_b93 N v24 v19 V
  else
  lI (1) fun v25 =>
  gW V 45 28 v25 fun V =>
  rT V 0
set_option maxHeartbeats 4000000 in
set_option maxRecDepth 100000 in
theorem c_X11_reckon (l : Launch) (D : va_G) (cy : Nat → ClassId) {N : Nat} {x1 : Int32} {V : pvM} {q : pvO} (hp : q_X11_reckon N x1.toInt V = some q) : pv_Met l yX11_reckon cX11_reckon 4 none 1 22 D cy V [.ref 45, .int x1] 0 q := by
  unfold q_X11_reckon at hp
  refine pv_ofW (by decide) (Nat.le_of_ble_eq_true rfl) (fun p e s m args below meth c ad A n0 σ C hr => ?_)
  refine pv_aload_n C 0 dX11_reckon_0 rfl ?_
  refine pv_dup C dX11_reckon_1 rfl ?_
  refine pv_getI C (ci := 10) (k := 33) gwX11 rfl (Nat.le_of_ble_eq_true rfl) fl_X11_208 rfl rfl hp rfl rfl dX11_reckon_2 (fun v1 hp => ?_)
  refine pv_iconst C hp dX11_reckon_5 (by decide) (fun v2 hp => ?_)
  refine pv_isub C hp dX11_reckon_6 (fun v3 hp => ?_)
  refine pv_putI C (ci := 10) (k := 33) gwX11 rfl (Nat.le_of_ble_eq_true rfl) fl_X11_208 rfl rfl tyX11_ok nmX11 hp rfl rfl rfl (by decide +kernel) dX11_reckon_7 (fun V hp => ?_)
  refine pv_aload_n C 0 dX11_reckon_10 rfl ?_
  refine pv_getR C (ci := 10) (k := 34) gwX11 rfl (Nat.le_of_ble_eq_true rfl) fl_X11_74 rfl rfl rfl (j := 67) rfl rfl dX11_reckon_11 ?_
  refine pv_aload_n C 0 dX11_reckon_14 rfl ?_
  refine pv_getI C (ci := 10) (k := 33) gwX11 rfl (Nat.le_of_ble_eq_true rfl) fl_X11_208 rfl rfl hp rfl rfl dX11_reckon_15 (fun v4 hp => ?_)
  refine pv_iald C hp rfl rfl rfl (fun _ => rfl) dX11_reckon_18 (fun v5 hp => ?_)
  refine pv_iconst C hp dX11_reckon_19 (by decide) (fun v6 hp => ?_)
  refine pv_icmp_ne (tgt := 38) C hp dX11_reckon_20 (by decide) (fun hp => ?_) (fun hp => ?_)
  · refine pv_aload_n C 0 dX11_reckon_38 rfl ?_
    refine pv_iconst C hp dX11_reckon_39 (by decide) (fun v7 hp => ?_)
    refine pv_putI C (ci := 10) (k := 28) gwX11 rfl (Nat.le_of_ble_eq_true rfl) fl_X11_214 rfl rfl tyX11_ok nmX11 hp rfl rfl rfl (by decide +kernel) dX11_reckon_40 (fun V hp => ?_)
    exact pv_vret C rfl hp hr dX11_reckon_43
  · refine pv_aload_n C 0 dX11_reckon_23 rfl ?_
    refine pv_getR C (ci := 10) (k := 34) gwX11 rfl (Nat.le_of_ble_eq_true rfl) fl_X11_74 rfl rfl rfl (j := 67) rfl rfl dX11_reckon_24 ?_
    refine pv_aload_n C 0 dX11_reckon_27 rfl ?_
    refine pv_getI C (ci := 10) (k := 33) gwX11 rfl (Nat.le_of_ble_eq_true rfl) fl_X11_208 rfl rfl hp rfl rfl dX11_reckon_28 (fun v8 hp => ?_)
    refine pv_iconst C hp dX11_reckon_31 (by decide) (fun v9 hp => ?_)
    refine pv_iadd C hp dX11_reckon_32 (fun v10 hp => ?_)
    refine pv_iald C hp rfl rfl rfl (fun _ => rfl) dX11_reckon_33 (fun v11 hp => ?_)
    refine pv_iconst C hp dX11_reckon_34 (by decide) (fun v12 hp => ?_)
    refine pv_icmp_eq (tgt := 44) C hp dX11_reckon_35 (by decide) (fun hp => ?_) (fun hp => ?_)
    · refine pv_aload_n C 0 dX11_reckon_44 rfl ?_
      refine pv_getR C (ci := 10) (k := 35) gwX11 rfl (Nat.le_of_ble_eq_true rfl) fl_X11_77 rfl rfl rfl (j := 68) rfl rfl dX11_reckon_45 ?_
      refine pv_aload_n C 0 dX11_reckon_48 rfl ?_
      refine pv_getI C (ci := 10) (k := 33) gwX11 rfl (Nat.le_of_ble_eq_true rfl) fl_X11_208 rfl rfl hp rfl rfl dX11_reckon_49 (fun v13 hp => ?_)
      refine pv_iald C hp rfl rfl rfl (fun _ => rfl) dX11_reckon_52 (fun v14 hp => ?_)
      refine pv_istore_n (loc' := [(2, .int v14), (0, .ref 45), (1, .int x1)]) C dX11_reckon_53 (by decide) rfl ?_
      refine pv_aload_n C 1 dX11_reckon_54 rfl ?_
      refine pv_getR C (ci := 10) (k := 35) gwX11 rfl (Nat.le_of_ble_eq_true rfl) fl_X11_77 rfl rfl rfl (j := 68) rfl rfl dX11_reckon_55 ?_
      refine pv_aload_n C 1 dX11_reckon_58 rfl ?_
      refine pv_getI C (ci := 10) (k := 33) gwX11 rfl (Nat.le_of_ble_eq_true rfl) fl_X11_208 rfl rfl hp rfl rfl dX11_reckon_59 (fun v15 hp => ?_)
      refine pv_iconst C hp dX11_reckon_62 (by decide) (fun v16 hp => ?_)
      refine pv_iadd C hp dX11_reckon_63 (fun v17 hp => ?_)
      refine pv_iald C hp rfl rfl rfl (fun _ => rfl) dX11_reckon_64 (fun v18 hp => ?_)
      refine pv_istore_n (loc' := [(3, .int v18), (2, .int v14), (0, .ref 45), (1, .int x1)]) C dX11_reckon_65 (by decide) rfl ?_
      refine pv_aload_n C 2 dX11_reckon_66 rfl ?_
      refine pv_iconst C hp dX11_reckon_67 (by decide) (fun v19 hp => ?_)
      refine pv_iload_n C 3 dX11_reckon_68 rfl ?_
      refine pv_iconst C hp dX11_reckon_69 (by decide) (fun v20 hp => ?_)
      refine pv_icmp_ne (tgt := 79) C hp dX11_reckon_70 (by decide) (fun hp => ?_) (fun hp => ?_)
      · refine pv_iload_n C 3 dX11_reckon_79 rfl ?_
        refine pv_iconst C hp dX11_reckon_80 (by decide) (fun v21 hp => ?_)
        refine pv_icmp_ne (tgt := 90) C hp dX11_reckon_81 (by decide) (fun hp => ?_) (fun hp => ?_)
        · refine pv_iload_n C 1 dX11_reckon_90 rfl ?_
          refine pv_iload_n C 0 dX11_reckon_91 rfl ?_
          refine pv_imul C hp dX11_reckon_92 (fun v22 hp => ?_)
          refine pv_sub [] rfl ?_
          exact w_X11_reckon_b93 C hr hp
        · refine pv_iload_n C 1 dX11_reckon_84 rfl ?_
          refine pv_iload_n C 0 dX11_reckon_85 rfl ?_
          refine pv_isub C hp dX11_reckon_86 (fun v23 hp => ?_)
          refine pv_goto (tgt := 93) C dX11_reckon_87 (by decide) ?_
          refine pv_sub [] rfl ?_
          exact w_X11_reckon_b93 C hr hp
      · refine pv_iload_n C 1 dX11_reckon_73 rfl ?_
        refine pv_iload_n C 0 dX11_reckon_74 rfl ?_
        refine pv_iadd C hp dX11_reckon_75 (fun v24 hp => ?_)
        refine pv_goto (tgt := 93) C dX11_reckon_76 (by decide) ?_
        refine pv_sub [] rfl ?_
        exact w_X11_reckon_b93 C hr hp
    · refine pv_aload_n C 0 dX11_reckon_38 rfl ?_
      refine pv_iconst C hp dX11_reckon_39 (by decide) (fun v25 hp => ?_)
      refine pv_putI C (ci := 10) (k := 28) gwX11 rfl (Nat.le_of_ble_eq_true rfl) fl_X11_214 rfl rfl tyX11_ok nmX11 hp rfl rfl rfl (by decide +kernel) dX11_reckon_40 (fun V hp => ?_)
      exact pv_vret C rfl hp hr dX11_reckon_43
def q_X11_leave (N : Nat) (V : pvM) : Option pvO :=
  gR V 45 33 fun v1 =>
  lI (1) fun v2 =>
  lI (pv_w (v1 - v2)) fun v3 =>
  gW V 45 33 v3 fun V =>
  gR V 45 33 fun v4 =>
  aR V 67 500 v4 fun v5 =>
  gR V 45 33 fun v6 =>
  aR V 68 500 v6 fun v7 =>
  gR V 45 36 fun v8 =>
  aR V 71 32 v8 fun v9 =>
  gW V 45 33 v9 fun V =>
  gR V 45 36 fun v10 =>
  lI (1) fun v11 =>
  lI (pv_w (v10 - v11)) fun v12 =>
  gW V 45 36 v12 fun V =>
  gR V 45 36 fun v13 =>
  if v13 ≠ 0 then
    cL (q_X11_push N v5 v7 V) fun _ V =>
    rT V 0
  else
  gW V 45 29 v5 fun V =>
  gW V 45 30 v7 fun V =>
  rT V 0
set_option maxHeartbeats 4000000 in
set_option maxRecDepth 100000 in
theorem c_X11_leave (l : Launch) (D : va_G) (cy : Nat → ClassId) {N : Nat} {V : pvM} {q : pvO} (hp : q_X11_leave N V = some q) : pv_Met l yX11_leave cX11_leave 3 none 1 22 D cy V [.ref 45] 0 q := by
  unfold q_X11_leave at hp
  refine pv_ofW (by decide) (Nat.le_of_ble_eq_true rfl) (fun p e s m args below meth c ad A n0 σ C hr => ?_)
  refine pv_aload_n C 0 dX11_leave_0 rfl ?_
  refine pv_dup C dX11_leave_1 rfl ?_
  refine pv_getI C (ci := 10) (k := 33) gwX11 rfl (Nat.le_of_ble_eq_true rfl) fl_X11_208 rfl rfl hp rfl rfl dX11_leave_2 (fun v1 hp => ?_)
  refine pv_iconst C hp dX11_leave_5 (by decide) (fun v2 hp => ?_)
  refine pv_isub C hp dX11_leave_6 (fun v3 hp => ?_)
  refine pv_putI C (ci := 10) (k := 33) gwX11 rfl (Nat.le_of_ble_eq_true rfl) fl_X11_208 rfl rfl tyX11_ok nmX11 hp rfl rfl rfl (by decide +kernel) dX11_leave_7 (fun V hp => ?_)
  refine pv_aload_n C 0 dX11_leave_10 rfl ?_
  refine pv_getR C (ci := 10) (k := 34) gwX11 rfl (Nat.le_of_ble_eq_true rfl) fl_X11_74 rfl rfl rfl (j := 67) rfl rfl dX11_leave_11 ?_
  refine pv_aload_n C 0 dX11_leave_14 rfl ?_
  refine pv_getI C (ci := 10) (k := 33) gwX11 rfl (Nat.le_of_ble_eq_true rfl) fl_X11_208 rfl rfl hp rfl rfl dX11_leave_15 (fun v4 hp => ?_)
  refine pv_iald C hp rfl rfl rfl (fun _ => rfl) dX11_leave_18 (fun v5 hp => ?_)
  refine pv_istore_n (loc' := [(1, .int v5), (0, .ref 45)]) C dX11_leave_19 (by decide) rfl ?_
  refine pv_aload_n C 1 dX11_leave_20 rfl ?_
  refine pv_getR C (ci := 10) (k := 35) gwX11 rfl (Nat.le_of_ble_eq_true rfl) fl_X11_77 rfl rfl rfl (j := 68) rfl rfl dX11_leave_21 ?_
  refine pv_aload_n C 1 dX11_leave_24 rfl ?_
  refine pv_getI C (ci := 10) (k := 33) gwX11 rfl (Nat.le_of_ble_eq_true rfl) fl_X11_208 rfl rfl hp rfl rfl dX11_leave_25 (fun v6 hp => ?_)
  refine pv_iald C hp rfl rfl rfl (fun _ => rfl) dX11_leave_28 (fun v7 hp => ?_)
  refine pv_istore_n (loc' := [(2, .int v7), (1, .int v5), (0, .ref 45)]) C dX11_leave_29 (by decide) rfl ?_
  refine pv_aload_n C 2 dX11_leave_30 rfl ?_
  refine pv_aload_n C 2 dX11_leave_31 rfl ?_
  refine pv_getR C (ci := 10) (k := 39) gwX11 rfl (Nat.le_of_ble_eq_true rfl) fl_X11_86 rfl rfl rfl (j := 71) rfl rfl dX11_leave_32 ?_
  refine pv_aload_n C 2 dX11_leave_35 rfl ?_
  refine pv_getI C (ci := 10) (k := 36) gwX11 rfl (Nat.le_of_ble_eq_true rfl) fl_X11_211 rfl rfl hp rfl rfl dX11_leave_36 (fun v8 hp => ?_)
  refine pv_iald C hp rfl rfl rfl (fun _ => rfl) dX11_leave_39 (fun v9 hp => ?_)
  refine pv_putI C (ci := 10) (k := 33) gwX11 rfl (Nat.le_of_ble_eq_true rfl) fl_X11_208 rfl rfl tyX11_ok nmX11 hp rfl rfl rfl (by decide +kernel) dX11_leave_40 (fun V hp => ?_)
  refine pv_aload_n C 2 dX11_leave_43 rfl ?_
  refine pv_dup C dX11_leave_44 rfl ?_
  refine pv_getI C (ci := 10) (k := 36) gwX11 rfl (Nat.le_of_ble_eq_true rfl) fl_X11_211 rfl rfl hp rfl rfl dX11_leave_45 (fun v10 hp => ?_)
  refine pv_iconst C hp dX11_leave_48 (by decide) (fun v11 hp => ?_)
  refine pv_isub C hp dX11_leave_49 (fun v12 hp => ?_)
  refine pv_putI C (ci := 10) (k := 36) gwX11 rfl (Nat.le_of_ble_eq_true rfl) fl_X11_211 rfl rfl tyX11_ok nmX11 hp rfl rfl rfl (by decide +kernel) dX11_leave_50 (fun V hp => ?_)
  refine pv_aload_n C 2 dX11_leave_53 rfl ?_
  refine pv_getI C (ci := 10) (k := 36) gwX11 rfl (Nat.le_of_ble_eq_true rfl) fl_X11_211 rfl rfl hp rfl rfl dX11_leave_54 (fun v13 hp => ?_)
  refine pv_if_ne (tgt := 73) C hp dX11_leave_57 (by decide) (fun hp => ?_) (fun hp => ?_)
  · refine pv_aload_n C 2 dX11_leave_73 rfl ?_
    refine pv_iload_n C 1 dX11_leave_74 rfl ?_
    refine pv_iload_n C 0 dX11_leave_75 rfl ?_
    refine pv_callV C (As := [.int v5, .int v7]) (rest := []) (b := 45) (kd1 := 0) hp (fun q1 h9 => c_X11_push l D cy h9) wB_yX11_push ml_X11_235 im_yX11_push se_yX11_push (ci := 10) rfl rfl rfl rfl rfl (Nat.le_of_ble_eq_true rfl) ⟨(Nat.le_of_ble_eq_true rfl), (Nat.le_of_ble_eq_true rfl)⟩ dX11_leave_76 rfl rfl (fun _ σ V hp => ?_)
    exact pv_vret C rfl hp hr dX11_leave_79
  · refine pv_aload_n C 2 dX11_leave_60 rfl ?_
    refine pv_iload_n C 1 dX11_leave_61 rfl ?_
    refine pv_putI C (ci := 10) (k := 29) gwX11 rfl (Nat.le_of_ble_eq_true rfl) fl_X11_247 rfl rfl tyX11_ok nmX11 hp rfl rfl rfl (by decide +kernel) dX11_leave_62 (fun V hp => ?_)
    refine pv_aload_n C 2 dX11_leave_65 rfl ?_
    refine pv_iload_n C 0 dX11_leave_66 rfl ?_
    refine pv_putI C (ci := 10) (k := 30) gwX11 rfl (Nat.le_of_ble_eq_true rfl) fl_X11_250 rfl rfl tyX11_ok nmX11 hp rfl rfl rfl (by decide +kernel) dX11_leave_67 (fun V hp => ?_)
    refine pv_goto (tgt := 79) C dX11_leave_70 (by decide) ?_
    exact pv_vret C rfl hp hr dX11_leave_79
def q_X11_step_b358 (N : Nat) (s0 : Int) (V : pvM) : Option pvO :=
  gR V 45 36 fun v1 =>
  aR V 70 32 v1 fun v2 =>
  aW V 70 32 s0 v2 fun V =>
  rT V 0
set_option maxHeartbeats 4000000 in
set_option maxRecDepth 100000 in
theorem w_X11_step_b358 {p : Program} {l : Launch} {e : Env} {s : State} {m : MethodId} {args : Array Value} {below : List Frame} {meth : Method} {c : Code} {D : va_G} {cy : Nat → ClassId} {A : Nat → Prop} {n0 : Nat} {ad0 : Nat → Nat} {V0 : pvM} {q : pvO} (C : pz_C p s m args meth c cX11_step 3 yX11_step.cls D cy A) (hr : meth.sig.returnType = none) {N : Nat} {s0 : Int32} {σ : pzS} {V : pvM} (hp : q_X11_step_b358 N s0.toInt V = some q) : pv_W p l e 3 72 s m args below meth c 3 D cy A n0 ad0 (pv_Q below D cy n0 ad0 0 V0 q A args s) V0 σ V 358 [(0, .ref 45)] [.int s0, .ref 70] := by
  unfold q_X11_step_b358 at hp
  refine pv_aload_n C 0 dX11_step_358 rfl ?_
  refine pv_getR C (ci := 10) (k := 38) gwX11 rfl (Nat.le_of_ble_eq_true rfl) fl_X11_83 rfl rfl rfl (j := 70) rfl rfl dX11_step_359 ?_
  refine pv_aload_n C 0 dX11_step_362 rfl ?_
  refine pv_getI C (ci := 10) (k := 36) gwX11 rfl (Nat.le_of_ble_eq_true rfl) fl_X11_211 rfl rfl hp rfl rfl dX11_step_363 (fun v1 hp => ?_)
  refine pv_iald C hp rfl rfl rfl (fun _ => rfl) dX11_step_366 (fun v2 hp => ?_)
  refine pv_iast C hp rfl rfl rfl (fun _ => rfl) dX11_step_367 (fun V hp => ?_)
  refine pv_goto (tgt := 437) C dX11_step_368 (by decide) ?_
  exact pv_vret C rfl hp hr dX11_step_437
def q_X11_step_b324 (N : Nat) (x2 : Int) (s0 : Int) (V : pvM) : Option pvO :=
  gW V 45 28 s0 fun V =>
  gR V 45 36 fun v3 =>
  gR V 45 33 fun v4 =>
  aR V 68 500 v4 fun v5 =>
  if v5 ≠ 0 then
    q_X11_step_b358 N v3 V
  else
  gR V 45 28 fun v6 =>
  if v6 ≠ 0 then
    q_X11_step_b358 N v3 V
  else
  aW V 70 32 v3 x2 fun V =>
  rT V 0
set_option maxHeartbeats 4000000 in
set_option maxRecDepth 100000 in
theorem w_X11_step_b324 {p : Program} {l : Launch} {e : Env} {s : State} {m : MethodId} {args : Array Value} {below : List Frame} {meth : Method} {c : Code} {D : va_G} {cy : Nat → ClassId} {A : Nat → Prop} {n0 : Nat} {ad0 : Nat → Nat} {V0 : pvM} {q : pvO} (C : pz_C p s m args meth c cX11_step 3 yX11_step.cls D cy A) (hr : meth.sig.returnType = none) {N : Nat} {x2 : Int32} {s0 : Int32} {σ : pzS} {V : pvM} (hp : q_X11_step_b324 N x2.toInt s0.toInt V = some q) : pv_W p l e 3 72 s m args below meth c 3 D cy A n0 ad0 (pv_Q below D cy n0 ad0 0 V0 q A args s) V0 σ V 324 [(0, .ref 45), (2, .int x2)] [.int s0, .ref 45] := by
  unfold q_X11_step_b324 at hp
  refine pv_putI C (ci := 10) (k := 28) gwX11 rfl (Nat.le_of_ble_eq_true rfl) fl_X11_214 rfl rfl tyX11_ok nmX11 hp rfl rfl rfl (by decide +kernel) dX11_step_324 (fun V hp => ?_)
  refine pv_aload_n C 0 dX11_step_327 rfl ?_
  refine pv_getR C (ci := 10) (k := 38) gwX11 rfl (Nat.le_of_ble_eq_true rfl) fl_X11_83 rfl rfl rfl (j := 70) rfl rfl dX11_step_328 ?_
  refine pv_aload_n C 0 dX11_step_331 rfl ?_
  refine pv_getI C (ci := 10) (k := 36) gwX11 rfl (Nat.le_of_ble_eq_true rfl) fl_X11_211 rfl rfl hp rfl rfl dX11_step_332 (fun v3 hp => ?_)
  refine pv_aload_n C 0 dX11_step_335 rfl ?_
  refine pv_getR C (ci := 10) (k := 35) gwX11 rfl (Nat.le_of_ble_eq_true rfl) fl_X11_77 rfl rfl rfl (j := 68) rfl rfl dX11_step_336 ?_
  refine pv_aload_n C 0 dX11_step_339 rfl ?_
  refine pv_getI C (ci := 10) (k := 33) gwX11 rfl (Nat.le_of_ble_eq_true rfl) fl_X11_208 rfl rfl hp rfl rfl dX11_step_340 (fun v4 hp => ?_)
  refine pv_iald C hp rfl rfl rfl (fun _ => rfl) dX11_step_343 (fun v5 hp => ?_)
  refine pv_if_ne (tgt := 358) C hp dX11_step_344 (by decide) (fun hp => ?_) (fun hp => ?_)
  · refine pv_sub [0] rfl ?_
    exact w_X11_step_b358 C hr hp
  · refine pv_aload_n C 0 dX11_step_347 rfl ?_
    refine pv_getI C (ci := 10) (k := 28) gwX11 rfl (Nat.le_of_ble_eq_true rfl) fl_X11_214 rfl rfl hp rfl rfl dX11_step_348 (fun v6 hp => ?_)
    refine pv_if_ne (tgt := 358) C hp dX11_step_351 (by decide) (fun hp => ?_) (fun hp => ?_)
    · refine pv_sub [0] rfl ?_
      exact w_X11_step_b358 C hr hp
    · refine pv_iload_n C 1 dX11_step_354 rfl ?_
      refine pv_goto (tgt := 367) C dX11_step_355 (by decide) ?_
      refine pv_iast C hp rfl rfl rfl (fun _ => rfl) dX11_step_367 (fun V hp => ?_)
      refine pv_goto (tgt := 437) C dX11_step_368 (by decide) ?_
      exact pv_vret C rfl hp hr dX11_step_437
def q_X11_step (N : Nat) (V : pvM) : Option pvO :=
  lI (40) fun v7 =>
  gR V 45 36 fun v8 =>
  aR V 69 32 v8 fun v9 =>
  lI (pv_w (v7 * v9)) fun v10 =>
  gR V 45 36 fun v11 =>
  aR V 70 32 v11 fun v12 =>
  lI (pv_w (v10 + v12)) fun v13 =>
  aR V 49 480 v13 fun v14 =>
  gR V 45 36 fun v15 =>
  aR V 70 32 v15 fun v16 =>
  lI (1) fun v17 =>
  lI (pv_w (v16 + v17)) fun v18 =>
  aW V 70 32 v15 v18 fun V =>
  aR V 48 480 v13 fun v19 =>
  if v19 = 0 then
    lI (1) fun v20 =>
    cL (q_X11_push N v20 v14 V) fun _ V =>
    rT V 0
  else
  if v19 = 1 then
    lI (8) fun v21 =>
    gR V 45 36 fun v22 =>
    lI (pv_w (v21 * v22)) fun v23 =>
    lI (pv_w (v23 + v14)) fun v24 =>
    aR V 72 256 v24 fun v25 =>
    lI (8) fun v26 =>
    gR V 45 36 fun v27 =>
    lI (pv_w (v26 * v27)) fun v28 =>
    lI (pv_w (v28 + v14)) fun v29 =>
    aR V 73 256 v29 fun v30 =>
    cL (q_X11_push N v25 v30 V) fun _ V =>
    rT V 0
  else
  if v19 = 2 then
    gR V 45 33 fun v31 =>
    lI (1) fun v32 =>
    lI (pv_w (v31 - v32)) fun v33 =>
    gW V 45 33 v33 fun V =>
    lI (8) fun v34 =>
    gR V 45 36 fun v35 =>
    lI (pv_w (v34 * v35)) fun v36 =>
    lI (pv_w (v36 + v14)) fun v37 =>
    gR V 45 33 fun v38 =>
    aR V 67 500 v38 fun v39 =>
    aW V 72 256 v37 v39 fun V =>
    lI (8) fun v40 =>
    gR V 45 36 fun v41 =>
    lI (pv_w (v40 * v41)) fun v42 =>
    lI (pv_w (v42 + v14)) fun v43 =>
    gR V 45 33 fun v44 =>
    aR V 68 500 v44 fun v45 =>
    aW V 73 256 v43 v45 fun V =>
    rT V 0
  else
  if v19 = 3 then
    aR V 48 480 v13 fun v46 =>
    cL (q_X11_reckon N v46 V) fun _ V =>
    rT V 0
  else
  if v19 = 4 then
    aR V 48 480 v13 fun v47 =>
    cL (q_X11_reckon N v47 V) fun _ V =>
    rT V 0
  else
  if v19 = 5 then
    aR V 48 480 v13 fun v48 =>
    cL (q_X11_reckon N v48 V) fun _ V =>
    rT V 0
  else
  if v19 = 6 then
    gR V 45 33 fun v49 =>
    lI (1) fun v50 =>
    lI (pv_w (v49 - v50)) fun v51 =>
    aR V 67 500 v51 fun v52 =>
    gR V 45 33 fun v53 =>
    lI (1) fun v54 =>
    lI (pv_w (v53 - v54)) fun v55 =>
    aR V 68 500 v55 fun v56 =>
    cL (q_X11_push N v52 v56 V) fun _ V =>
    rT V 0
  else
  if v19 = 7 then
    gR V 45 33 fun v57 =>
    lI (1) fun v58 =>
    lI (pv_w (v57 - v58)) fun v59 =>
    gW V 45 33 v59 fun V =>
    rT V 0
  else
  if v19 = 8 then
    gR V 45 36 fun v60 =>
    aW V 70 32 v60 v14 fun V =>
    rT V 0
  else
  if v19 = 9 then
    gR V 45 33 fun v61 =>
    lI (1) fun v62 =>
    lI (pv_w (v61 - v62)) fun v63 =>
    gW V 45 33 v63 fun V =>
    gR V 45 33 fun v64 =>
    aR V 67 500 v64 fun v65 =>
    lI (1) fun v66 =>
    if v65 ≠ v66 then
      lI (1) fun v67 =>
      q_X11_step_b324 N v14 v67 V
    else
    lI (0) fun v68 =>
    q_X11_step_b324 N v14 v68 V
  else
  if v19 = 10 then
    aR V 46 12 v14 fun v69 =>
    lI (0) fun v70 =>
    cL (q_X11_take N v69 v70 V) fun _ V =>
    aR V 46 12 v14 fun v71 =>
    cL (q_X11_begin N v14 v71 V) fun _ V =>
    rT V 0
  else
  if v19 = 11 then
    cL (q_X11_leave N V) fun _ V =>
    rT V 0
  else
  if v19 = 12 then
    cL (q_X11_say N V) fun _ V =>
    rT V 0
  else
  if v19 = 13 then
    aR V 50 480 v13 fun v72 =>
    cL (q_X11_close N v14 v72 V) fun _ V =>
    rT V 0
  else
  if v19 = 14 then
    cL (q_X11_apply N v14 V) fun _ V =>
    rT V 0
  else
  cL (q_X11_join N v14 V) fun _ V =>
  rT V 0
set_option maxHeartbeats 4000000 in
set_option maxRecDepth 100000 in
theorem c_X11_step (l : Launch) (D : va_G) (cy : Nat → ClassId) {N : Nat} {V : pvM} {q : pvO} (hp : q_X11_step N V = some q) : pv_Met l yX11_step cX11_step 3 none 3 72 D cy V [.ref 45] 0 q := by
  unfold q_X11_step at hp
  refine pv_ofW (by decide) (Nat.le_of_ble_eq_true rfl) (fun p e s m args below meth c ad A n0 σ C hr => ?_)
  refine pv_bipush C hp dX11_step_0 (by decide) (fun v7 hp => ?_)
  refine pv_aload_n C 0 dX11_step_2 rfl ?_
  refine pv_getR C (ci := 10) (k := 37) gwX11 rfl (Nat.le_of_ble_eq_true rfl) fl_X11_80 rfl rfl rfl (j := 69) rfl rfl dX11_step_3 ?_
  refine pv_aload_n C 0 dX11_step_6 rfl ?_
  refine pv_getI C (ci := 10) (k := 36) gwX11 rfl (Nat.le_of_ble_eq_true rfl) fl_X11_211 rfl rfl hp rfl rfl dX11_step_7 (fun v8 hp => ?_)
  refine pv_iald C hp rfl rfl rfl (fun _ => rfl) dX11_step_10 (fun v9 hp => ?_)
  refine pv_imul C hp dX11_step_11 (fun v10 hp => ?_)
  refine pv_aload_n C 0 dX11_step_12 rfl ?_
  refine pv_getR C (ci := 10) (k := 38) gwX11 rfl (Nat.le_of_ble_eq_true rfl) fl_X11_83 rfl rfl rfl (j := 70) rfl rfl dX11_step_13 ?_
  refine pv_aload_n C 0 dX11_step_16 rfl ?_
  refine pv_getI C (ci := 10) (k := 36) gwX11 rfl (Nat.le_of_ble_eq_true rfl) fl_X11_211 rfl rfl hp rfl rfl dX11_step_17 (fun v11 hp => ?_)
  refine pv_iald C hp rfl rfl rfl (fun _ => rfl) dX11_step_20 (fun v12 hp => ?_)
  refine pv_iadd C hp dX11_step_21 (fun v13 hp => ?_)
  refine pv_istore_n (loc' := [(1, .int v13), (0, .ref 45)]) C dX11_step_22 (by decide) rfl ?_
  refine pv_aload_n C 1 dX11_step_23 rfl ?_
  refine pv_getR C (ci := 10) (k := 5) gwX11 rfl (Nat.le_of_ble_eq_true rfl) fl_X11_19 rfl rfl rfl (j := 49) rfl rfl dX11_step_24 ?_
  refine pv_iload_n C 0 dX11_step_27 rfl ?_
  refine pv_iald C hp rfl rfl rfl (fun _ => rfl) dX11_step_28 (fun v14 hp => ?_)
  refine pv_istore_n (loc' := [(2, .int v14), (1, .int v13), (0, .ref 45)]) C dX11_step_29 (by decide) rfl ?_
  refine pv_aload_n C 2 dX11_step_30 rfl ?_
  refine pv_getR C (ci := 10) (k := 38) gwX11 rfl (Nat.le_of_ble_eq_true rfl) fl_X11_83 rfl rfl rfl (j := 70) rfl rfl dX11_step_31 ?_
  refine pv_aload_n C 2 dX11_step_34 rfl ?_
  refine pv_getI C (ci := 10) (k := 36) gwX11 rfl (Nat.le_of_ble_eq_true rfl) fl_X11_211 rfl rfl hp rfl rfl dX11_step_35 (fun v15 hp => ?_)
  refine pv_dup2 C dX11_step_38 rfl rfl ?_
  refine pv_iald C hp rfl rfl rfl (fun _ => rfl) dX11_step_39 (fun v16 hp => ?_)
  refine pv_iconst C hp dX11_step_40 (by decide) (fun v17 hp => ?_)
  refine pv_iadd C hp dX11_step_41 (fun v18 hp => ?_)
  refine pv_iast C hp rfl rfl rfl (fun _ => rfl) dX11_step_42 (fun V hp => ?_)
  refine pv_aload_n C 2 dX11_step_43 rfl ?_
  refine pv_getR C (ci := 10) (k := 4) gwX11 rfl (Nat.le_of_ble_eq_true rfl) fl_X11_16 rfl rfl rfl (j := 48) rfl rfl dX11_step_44 ?_
  refine pv_iload_n C 1 dX11_step_47 rfl ?_
  refine pv_iald C hp rfl rfl rfl (fun _ => rfl) dX11_step_48 (fun v19 hp => ?_)
  refine pv_case (x := v19) (v := 0) hp (fun hx hp => ?_) (fun h49_0 hp => ?_)
  · refine pv_tableIn (tgt := 124) C hx dX11_step_49 (by decide) (by decide) (off := 75) rfl (by decide) ?_
    refine pv_aload_n C 2 dX11_step_124 rfl ?_
    refine pv_iconst C hp dX11_step_125 (by decide) (fun v20 hp => ?_)
    refine pv_iload_n C 0 dX11_step_126 rfl ?_
    refine pv_callV C (As := [.int v20, .int v14]) (rest := []) (b := 45) (kd1 := 0) hp (fun q1 h9 => c_X11_push l D cy h9) wB_yX11_push ml_X11_235 im_yX11_push se_yX11_push (ci := 10) rfl rfl rfl rfl rfl (Nat.le_of_ble_eq_true rfl) ⟨(Nat.le_of_ble_eq_true rfl), (Nat.le_of_ble_eq_true rfl)⟩ dX11_step_127 rfl rfl (fun _ σ V hp => ?_)
    refine pv_goto (tgt := 437) C dX11_step_130 (by decide) ?_
    exact pv_vret C rfl hp hr dX11_step_437
  refine pv_case (x := v19) (v := 1) hp (fun hx hp => ?_) (fun h49_1 hp => ?_)
  · refine pv_tableIn (tgt := 133) C hx dX11_step_49 (by decide) (by decide) (off := 84) rfl (by decide) ?_
    refine pv_aload_n C 2 dX11_step_133 rfl ?_
    refine pv_aload_n C 2 dX11_step_134 rfl ?_
    refine pv_getR C (ci := 10) (k := 40) gwX11 rfl (Nat.le_of_ble_eq_true rfl) fl_X11_89 rfl rfl rfl (j := 72) rfl rfl dX11_step_135 ?_
    refine pv_bipush C hp dX11_step_138 (by decide) (fun v21 hp => ?_)
    refine pv_aload_n C 2 dX11_step_140 rfl ?_
    refine pv_getI C (ci := 10) (k := 36) gwX11 rfl (Nat.le_of_ble_eq_true rfl) fl_X11_211 rfl rfl hp rfl rfl dX11_step_141 (fun v22 hp => ?_)
    refine pv_imul C hp dX11_step_144 (fun v23 hp => ?_)
    refine pv_iload_n C 0 dX11_step_145 rfl ?_
    refine pv_iadd C hp dX11_step_146 (fun v24 hp => ?_)
    refine pv_iald C hp rfl rfl rfl (fun _ => rfl) dX11_step_147 (fun v25 hp => ?_)
    refine pv_aload_n C 2 dX11_step_148 rfl ?_
    refine pv_getR C (ci := 10) (k := 41) gwX11 rfl (Nat.le_of_ble_eq_true rfl) fl_X11_92 rfl rfl rfl (j := 73) rfl rfl dX11_step_149 ?_
    refine pv_bipush C hp dX11_step_152 (by decide) (fun v26 hp => ?_)
    refine pv_aload_n C 2 dX11_step_154 rfl ?_
    refine pv_getI C (ci := 10) (k := 36) gwX11 rfl (Nat.le_of_ble_eq_true rfl) fl_X11_211 rfl rfl hp rfl rfl dX11_step_155 (fun v27 hp => ?_)
    refine pv_imul C hp dX11_step_158 (fun v28 hp => ?_)
    refine pv_iload_n C 0 dX11_step_159 rfl ?_
    refine pv_iadd C hp dX11_step_160 (fun v29 hp => ?_)
    refine pv_iald C hp rfl rfl rfl (fun _ => rfl) dX11_step_161 (fun v30 hp => ?_)
    refine pv_callV C (As := [.int v25, .int v30]) (rest := []) (b := 45) (kd1 := 0) hp (fun q1 h9 => c_X11_push l D cy h9) wB_yX11_push ml_X11_235 im_yX11_push se_yX11_push (ci := 10) rfl rfl rfl rfl rfl (Nat.le_of_ble_eq_true rfl) ⟨(Nat.le_of_ble_eq_true rfl), (Nat.le_of_ble_eq_true rfl)⟩ dX11_step_162 rfl rfl (fun _ σ V hp => ?_)
    refine pv_goto (tgt := 437) C dX11_step_165 (by decide) ?_
    exact pv_vret C rfl hp hr dX11_step_437
  refine pv_case (x := v19) (v := 2) hp (fun hx hp => ?_) (fun h49_2 hp => ?_)
  · refine pv_tableIn (tgt := 168) C hx dX11_step_49 (by decide) (by decide) (off := 119) rfl (by decide) ?_
    refine pv_aload_n C 2 dX11_step_168 rfl ?_
    refine pv_dup C dX11_step_169 rfl ?_
    refine pv_getI C (ci := 10) (k := 33) gwX11 rfl (Nat.le_of_ble_eq_true rfl) fl_X11_208 rfl rfl hp rfl rfl dX11_step_170 (fun v31 hp => ?_)
    refine pv_iconst C hp dX11_step_173 (by decide) (fun v32 hp => ?_)
    refine pv_isub C hp dX11_step_174 (fun v33 hp => ?_)
    refine pv_putI C (ci := 10) (k := 33) gwX11 rfl (Nat.le_of_ble_eq_true rfl) fl_X11_208 rfl rfl tyX11_ok nmX11 hp rfl rfl rfl (by decide +kernel) dX11_step_175 (fun V hp => ?_)
    refine pv_aload_n C 2 dX11_step_178 rfl ?_
    refine pv_getR C (ci := 10) (k := 40) gwX11 rfl (Nat.le_of_ble_eq_true rfl) fl_X11_89 rfl rfl rfl (j := 72) rfl rfl dX11_step_179 ?_
    refine pv_bipush C hp dX11_step_182 (by decide) (fun v34 hp => ?_)
    refine pv_aload_n C 2 dX11_step_184 rfl ?_
    refine pv_getI C (ci := 10) (k := 36) gwX11 rfl (Nat.le_of_ble_eq_true rfl) fl_X11_211 rfl rfl hp rfl rfl dX11_step_185 (fun v35 hp => ?_)
    refine pv_imul C hp dX11_step_188 (fun v36 hp => ?_)
    refine pv_iload_n C 0 dX11_step_189 rfl ?_
    refine pv_iadd C hp dX11_step_190 (fun v37 hp => ?_)
    refine pv_aload_n C 2 dX11_step_191 rfl ?_
    refine pv_getR C (ci := 10) (k := 34) gwX11 rfl (Nat.le_of_ble_eq_true rfl) fl_X11_74 rfl rfl rfl (j := 67) rfl rfl dX11_step_192 ?_
    refine pv_aload_n C 2 dX11_step_195 rfl ?_
    refine pv_getI C (ci := 10) (k := 33) gwX11 rfl (Nat.le_of_ble_eq_true rfl) fl_X11_208 rfl rfl hp rfl rfl dX11_step_196 (fun v38 hp => ?_)
    refine pv_iald C hp rfl rfl rfl (fun _ => rfl) dX11_step_199 (fun v39 hp => ?_)
    refine pv_iast C hp rfl rfl rfl (fun _ => rfl) dX11_step_200 (fun V hp => ?_)
    refine pv_aload_n C 2 dX11_step_201 rfl ?_
    refine pv_getR C (ci := 10) (k := 41) gwX11 rfl (Nat.le_of_ble_eq_true rfl) fl_X11_92 rfl rfl rfl (j := 73) rfl rfl dX11_step_202 ?_
    refine pv_bipush C hp dX11_step_205 (by decide) (fun v40 hp => ?_)
    refine pv_aload_n C 2 dX11_step_207 rfl ?_
    refine pv_getI C (ci := 10) (k := 36) gwX11 rfl (Nat.le_of_ble_eq_true rfl) fl_X11_211 rfl rfl hp rfl rfl dX11_step_208 (fun v41 hp => ?_)
    refine pv_imul C hp dX11_step_211 (fun v42 hp => ?_)
    refine pv_iload_n C 0 dX11_step_212 rfl ?_
    refine pv_iadd C hp dX11_step_213 (fun v43 hp => ?_)
    refine pv_aload_n C 2 dX11_step_214 rfl ?_
    refine pv_getR C (ci := 10) (k := 35) gwX11 rfl (Nat.le_of_ble_eq_true rfl) fl_X11_77 rfl rfl rfl (j := 68) rfl rfl dX11_step_215 ?_
    refine pv_aload_n C 2 dX11_step_218 rfl ?_
    refine pv_getI C (ci := 10) (k := 33) gwX11 rfl (Nat.le_of_ble_eq_true rfl) fl_X11_208 rfl rfl hp rfl rfl dX11_step_219 (fun v44 hp => ?_)
    refine pv_iald C hp rfl rfl rfl (fun _ => rfl) dX11_step_222 (fun v45 hp => ?_)
    refine pv_iast C hp rfl rfl rfl (fun _ => rfl) dX11_step_223 (fun V hp => ?_)
    refine pv_goto (tgt := 437) C dX11_step_224 (by decide) ?_
    exact pv_vret C rfl hp hr dX11_step_437
  refine pv_case (x := v19) (v := 3) hp (fun hx hp => ?_) (fun h49_3 hp => ?_)
  · refine pv_tableIn (tgt := 227) C hx dX11_step_49 (by decide) (by decide) (off := 178) rfl (by decide) ?_
    refine pv_aload_n C 2 dX11_step_227 rfl ?_
    refine pv_aload_n C 2 dX11_step_228 rfl ?_
    refine pv_getR C (ci := 10) (k := 4) gwX11 rfl (Nat.le_of_ble_eq_true rfl) fl_X11_16 rfl rfl rfl (j := 48) rfl rfl dX11_step_229 ?_
    refine pv_iload_n C 1 dX11_step_232 rfl ?_
    refine pv_iald C hp rfl rfl rfl (fun _ => rfl) dX11_step_233 (fun v46 hp => ?_)
    refine pv_callV C (As := [.int v46]) (rest := []) (b := 45) (kd1 := 0) hp (fun q1 h9 => c_X11_reckon l D cy h9) wB_yX11_reckon ml_X11_253 im_yX11_reckon se_yX11_reckon (ci := 10) rfl rfl rfl rfl rfl (Nat.le_of_ble_eq_true rfl) ⟨(Nat.le_of_ble_eq_true rfl), (Nat.le_of_ble_eq_true rfl)⟩ dX11_step_234 rfl rfl (fun _ σ V hp => ?_)
    refine pv_goto (tgt := 437) C dX11_step_237 (by decide) ?_
    exact pv_vret C rfl hp hr dX11_step_437
  refine pv_case (x := v19) (v := 4) hp (fun hx hp => ?_) (fun h49_4 hp => ?_)
  · refine pv_tableIn (tgt := 227) C hx dX11_step_49 (by decide) (by decide) (off := 178) rfl (by decide) ?_
    refine pv_aload_n C 2 dX11_step_227 rfl ?_
    refine pv_aload_n C 2 dX11_step_228 rfl ?_
    refine pv_getR C (ci := 10) (k := 4) gwX11 rfl (Nat.le_of_ble_eq_true rfl) fl_X11_16 rfl rfl rfl (j := 48) rfl rfl dX11_step_229 ?_
    refine pv_iload_n C 1 dX11_step_232 rfl ?_
    refine pv_iald C hp rfl rfl rfl (fun _ => rfl) dX11_step_233 (fun v47 hp => ?_)
    refine pv_callV C (As := [.int v47]) (rest := []) (b := 45) (kd1 := 0) hp (fun q1 h9 => c_X11_reckon l D cy h9) wB_yX11_reckon ml_X11_253 im_yX11_reckon se_yX11_reckon (ci := 10) rfl rfl rfl rfl rfl (Nat.le_of_ble_eq_true rfl) ⟨(Nat.le_of_ble_eq_true rfl), (Nat.le_of_ble_eq_true rfl)⟩ dX11_step_234 rfl rfl (fun _ σ V hp => ?_)
    refine pv_goto (tgt := 437) C dX11_step_237 (by decide) ?_
    exact pv_vret C rfl hp hr dX11_step_437
  refine pv_case (x := v19) (v := 5) hp (fun hx hp => ?_) (fun h49_5 hp => ?_)
  · refine pv_tableIn (tgt := 227) C hx dX11_step_49 (by decide) (by decide) (off := 178) rfl (by decide) ?_
    refine pv_aload_n C 2 dX11_step_227 rfl ?_
    refine pv_aload_n C 2 dX11_step_228 rfl ?_
    refine pv_getR C (ci := 10) (k := 4) gwX11 rfl (Nat.le_of_ble_eq_true rfl) fl_X11_16 rfl rfl rfl (j := 48) rfl rfl dX11_step_229 ?_
    refine pv_iload_n C 1 dX11_step_232 rfl ?_
    refine pv_iald C hp rfl rfl rfl (fun _ => rfl) dX11_step_233 (fun v48 hp => ?_)
    refine pv_callV C (As := [.int v48]) (rest := []) (b := 45) (kd1 := 0) hp (fun q1 h9 => c_X11_reckon l D cy h9) wB_yX11_reckon ml_X11_253 im_yX11_reckon se_yX11_reckon (ci := 10) rfl rfl rfl rfl rfl (Nat.le_of_ble_eq_true rfl) ⟨(Nat.le_of_ble_eq_true rfl), (Nat.le_of_ble_eq_true rfl)⟩ dX11_step_234 rfl rfl (fun _ σ V hp => ?_)
    refine pv_goto (tgt := 437) C dX11_step_237 (by decide) ?_
    exact pv_vret C rfl hp hr dX11_step_437
  refine pv_case (x := v19) (v := 6) hp (fun hx hp => ?_) (fun h49_6 hp => ?_)
  · refine pv_tableIn (tgt := 240) C hx dX11_step_49 (by decide) (by decide) (off := 191) rfl (by decide) ?_
    refine pv_aload_n C 2 dX11_step_240 rfl ?_
    refine pv_aload_n C 2 dX11_step_241 rfl ?_
    refine pv_getR C (ci := 10) (k := 34) gwX11 rfl (Nat.le_of_ble_eq_true rfl) fl_X11_74 rfl rfl rfl (j := 67) rfl rfl dX11_step_242 ?_
    refine pv_aload_n C 2 dX11_step_245 rfl ?_
    refine pv_getI C (ci := 10) (k := 33) gwX11 rfl (Nat.le_of_ble_eq_true rfl) fl_X11_208 rfl rfl hp rfl rfl dX11_step_246 (fun v49 hp => ?_)
    refine pv_iconst C hp dX11_step_249 (by decide) (fun v50 hp => ?_)
    refine pv_isub C hp dX11_step_250 (fun v51 hp => ?_)
    refine pv_iald C hp rfl rfl rfl (fun _ => rfl) dX11_step_251 (fun v52 hp => ?_)
    refine pv_aload_n C 2 dX11_step_252 rfl ?_
    refine pv_getR C (ci := 10) (k := 35) gwX11 rfl (Nat.le_of_ble_eq_true rfl) fl_X11_77 rfl rfl rfl (j := 68) rfl rfl dX11_step_253 ?_
    refine pv_aload_n C 2 dX11_step_256 rfl ?_
    refine pv_getI C (ci := 10) (k := 33) gwX11 rfl (Nat.le_of_ble_eq_true rfl) fl_X11_208 rfl rfl hp rfl rfl dX11_step_257 (fun v53 hp => ?_)
    refine pv_iconst C hp dX11_step_260 (by decide) (fun v54 hp => ?_)
    refine pv_isub C hp dX11_step_261 (fun v55 hp => ?_)
    refine pv_iald C hp rfl rfl rfl (fun _ => rfl) dX11_step_262 (fun v56 hp => ?_)
    refine pv_callV C (As := [.int v52, .int v56]) (rest := []) (b := 45) (kd1 := 0) hp (fun q1 h9 => c_X11_push l D cy h9) wB_yX11_push ml_X11_235 im_yX11_push se_yX11_push (ci := 10) rfl rfl rfl rfl rfl (Nat.le_of_ble_eq_true rfl) ⟨(Nat.le_of_ble_eq_true rfl), (Nat.le_of_ble_eq_true rfl)⟩ dX11_step_263 rfl rfl (fun _ σ V hp => ?_)
    refine pv_goto (tgt := 437) C dX11_step_266 (by decide) ?_
    exact pv_vret C rfl hp hr dX11_step_437
  refine pv_case (x := v19) (v := 7) hp (fun hx hp => ?_) (fun h49_7 hp => ?_)
  · refine pv_tableIn (tgt := 269) C hx dX11_step_49 (by decide) (by decide) (off := 220) rfl (by decide) ?_
    refine pv_aload_n C 2 dX11_step_269 rfl ?_
    refine pv_dup C dX11_step_270 rfl ?_
    refine pv_getI C (ci := 10) (k := 33) gwX11 rfl (Nat.le_of_ble_eq_true rfl) fl_X11_208 rfl rfl hp rfl rfl dX11_step_271 (fun v57 hp => ?_)
    refine pv_iconst C hp dX11_step_274 (by decide) (fun v58 hp => ?_)
    refine pv_isub C hp dX11_step_275 (fun v59 hp => ?_)
    refine pv_putI C (ci := 10) (k := 33) gwX11 rfl (Nat.le_of_ble_eq_true rfl) fl_X11_208 rfl rfl tyX11_ok nmX11 hp rfl rfl rfl (by decide +kernel) dX11_step_276 (fun V hp => ?_)
    refine pv_goto (tgt := 437) C dX11_step_279 (by decide) ?_
    exact pv_vret C rfl hp hr dX11_step_437
  refine pv_case (x := v19) (v := 8) hp (fun hx hp => ?_) (fun h49_8 hp => ?_)
  · refine pv_tableIn (tgt := 282) C hx dX11_step_49 (by decide) (by decide) (off := 233) rfl (by decide) ?_
    refine pv_aload_n C 2 dX11_step_282 rfl ?_
    refine pv_getR C (ci := 10) (k := 38) gwX11 rfl (Nat.le_of_ble_eq_true rfl) fl_X11_83 rfl rfl rfl (j := 70) rfl rfl dX11_step_283 ?_
    refine pv_aload_n C 2 dX11_step_286 rfl ?_
    refine pv_getI C (ci := 10) (k := 36) gwX11 rfl (Nat.le_of_ble_eq_true rfl) fl_X11_211 rfl rfl hp rfl rfl dX11_step_287 (fun v60 hp => ?_)
    refine pv_iload_n C 0 dX11_step_290 rfl ?_
    refine pv_iast C hp rfl rfl rfl (fun _ => rfl) dX11_step_291 (fun V hp => ?_)
    refine pv_goto (tgt := 437) C dX11_step_292 (by decide) ?_
    exact pv_vret C rfl hp hr dX11_step_437
  refine pv_case (x := v19) (v := 9) hp (fun hx hp => ?_) (fun h49_9 hp => ?_)
  · refine pv_tableIn (tgt := 295) C hx dX11_step_49 (by decide) (by decide) (off := 246) rfl (by decide) ?_
    refine pv_aload_n C 2 dX11_step_295 rfl ?_
    refine pv_dup C dX11_step_296 rfl ?_
    refine pv_getI C (ci := 10) (k := 33) gwX11 rfl (Nat.le_of_ble_eq_true rfl) fl_X11_208 rfl rfl hp rfl rfl dX11_step_297 (fun v61 hp => ?_)
    refine pv_iconst C hp dX11_step_300 (by decide) (fun v62 hp => ?_)
    refine pv_isub C hp dX11_step_301 (fun v63 hp => ?_)
    refine pv_putI C (ci := 10) (k := 33) gwX11 rfl (Nat.le_of_ble_eq_true rfl) fl_X11_208 rfl rfl tyX11_ok nmX11 hp rfl rfl rfl (by decide +kernel) dX11_step_302 (fun V hp => ?_)
    refine pv_aload_n C 2 dX11_step_305 rfl ?_
    refine pv_aload_n C 2 dX11_step_306 rfl ?_
    refine pv_getR C (ci := 10) (k := 34) gwX11 rfl (Nat.le_of_ble_eq_true rfl) fl_X11_74 rfl rfl rfl (j := 67) rfl rfl dX11_step_307 ?_
    refine pv_aload_n C 2 dX11_step_310 rfl ?_
    refine pv_getI C (ci := 10) (k := 33) gwX11 rfl (Nat.le_of_ble_eq_true rfl) fl_X11_208 rfl rfl hp rfl rfl dX11_step_311 (fun v64 hp => ?_)
    refine pv_iald C hp rfl rfl rfl (fun _ => rfl) dX11_step_314 (fun v65 hp => ?_)
    refine pv_iconst C hp dX11_step_315 (by decide) (fun v66 hp => ?_)
    refine pv_icmp_ne (tgt := 323) C hp dX11_step_316 (by decide) (fun hp => ?_) (fun hp => ?_)
    · refine pv_iconst C hp dX11_step_323 (by decide) (fun v67 hp => ?_)
      refine pv_sub [2, 0] rfl ?_
      exact w_X11_step_b324 C hr hp
    · refine pv_iconst C hp dX11_step_319 (by decide) (fun v68 hp => ?_)
      refine pv_goto (tgt := 324) C dX11_step_320 (by decide) ?_
      refine pv_sub [2, 0] rfl ?_
      exact w_X11_step_b324 C hr hp
  refine pv_case (x := v19) (v := 10) hp (fun hx hp => ?_) (fun h49_10 hp => ?_)
  · refine pv_tableIn (tgt := 371) C hx dX11_step_49 (by decide) (by decide) (off := 322) rfl (by decide) ?_
    refine pv_aload_n C 2 dX11_step_371 rfl ?_
    refine pv_aload_n C 2 dX11_step_372 rfl ?_
    refine pv_getR C (ci := 10) (k := 2) gwX11 rfl (Nat.le_of_ble_eq_true rfl) fl_X11_7 rfl rfl rfl (j := 46) rfl rfl dX11_step_373 ?_
    refine pv_iload_n C 0 dX11_step_376 rfl ?_
    refine pv_iald C hp rfl rfl rfl (fun _ => rfl) dX11_step_377 (fun v69 hp => ?_)
    refine pv_iconst C hp dX11_step_378 (by decide) (fun v70 hp => ?_)
    refine pv_callV C (As := [.int v69, .int v70]) (rest := []) (b := 45) (kd1 := 0) hp (fun q1 h9 => c_X11_take l D cy h9) wB_yX11_take ml_X11_241 im_yX11_take se_yX11_take (ci := 10) rfl rfl rfl rfl rfl (Nat.le_of_ble_eq_true rfl) ⟨(Nat.le_of_ble_eq_true rfl), (Nat.le_of_ble_eq_true rfl)⟩ dX11_step_379 rfl rfl (fun _ σ V hp => ?_)
    refine pv_aload_n C 2 dX11_step_382 rfl ?_
    refine pv_iload_n C 0 dX11_step_383 rfl ?_
    refine pv_aload_n C 2 dX11_step_384 rfl ?_
    refine pv_getR C (ci := 10) (k := 2) gwX11 rfl (Nat.le_of_ble_eq_true rfl) fl_X11_7 rfl rfl rfl (j := 46) rfl rfl dX11_step_385 ?_
    refine pv_iload_n C 0 dX11_step_388 rfl ?_
    refine pv_iald C hp rfl rfl rfl (fun _ => rfl) dX11_step_389 (fun v71 hp => ?_)
    refine pv_callV C (As := [.int v14, .int v71]) (rest := []) (b := 45) (kd1 := 0) hp (fun q1 h9 => c_X11_begin l D cy h9) wB_yX11_begin ml_X11_244 im_yX11_begin se_yX11_begin (ci := 10) rfl rfl rfl rfl rfl (Nat.le_of_ble_eq_true rfl) ⟨(Nat.le_of_ble_eq_true rfl), (Nat.le_of_ble_eq_true rfl)⟩ dX11_step_390 rfl rfl (fun _ σ V hp => ?_)
    refine pv_goto (tgt := 437) C dX11_step_393 (by decide) ?_
    exact pv_vret C rfl hp hr dX11_step_437
  refine pv_case (x := v19) (v := 11) hp (fun hx hp => ?_) (fun h49_11 hp => ?_)
  · refine pv_tableIn (tgt := 396) C hx dX11_step_49 (by decide) (by decide) (off := 347) rfl (by decide) ?_
    refine pv_aload_n C 2 dX11_step_396 rfl ?_
    refine pv_callV C (As := []) (rest := []) (b := 45) (kd1 := 0) hp (fun q1 h9 => c_X11_leave l D cy h9) wB_yX11_leave ml_X11_256 im_yX11_leave se_yX11_leave (ci := 10) rfl rfl rfl rfl rfl (Nat.le_of_ble_eq_true rfl) ⟨(Nat.le_of_ble_eq_true rfl), (Nat.le_of_ble_eq_true rfl)⟩ dX11_step_397 rfl rfl (fun _ σ V hp => ?_)
    refine pv_goto (tgt := 437) C dX11_step_400 (by decide) ?_
    exact pv_vret C rfl hp hr dX11_step_437
  refine pv_case (x := v19) (v := 12) hp (fun hx hp => ?_) (fun h49_12 hp => ?_)
  · refine pv_tableIn (tgt := 403) C hx dX11_step_49 (by decide) (by decide) (off := 354) rfl (by decide) ?_
    refine pv_aload_n C 2 dX11_step_403 rfl ?_
    refine pv_callV C (As := []) (rest := []) (b := 45) (kd1 := 0) hp (fun q1 h9 => c_X11_say l D cy h9) wB_yX11_say ml_X11_259 im_yX11_say se_yX11_say (ci := 10) rfl rfl rfl rfl rfl (Nat.le_of_ble_eq_true rfl) ⟨(Nat.le_of_ble_eq_true rfl), (Nat.le_of_ble_eq_true rfl)⟩ dX11_step_404 rfl rfl (fun _ σ V hp => ?_)
    refine pv_goto (tgt := 437) C dX11_step_407 (by decide) ?_
    exact pv_vret C rfl hp hr dX11_step_437
  refine pv_case (x := v19) (v := 13) hp (fun hx hp => ?_) (fun h49_13 hp => ?_)
  · refine pv_tableIn (tgt := 410) C hx dX11_step_49 (by decide) (by decide) (off := 361) rfl (by decide) ?_
    refine pv_aload_n C 2 dX11_step_410 rfl ?_
    refine pv_iload_n C 0 dX11_step_411 rfl ?_
    refine pv_aload_n C 2 dX11_step_412 rfl ?_
    refine pv_getR C (ci := 10) (k := 6) gwX11 rfl (Nat.le_of_ble_eq_true rfl) fl_X11_22 rfl rfl rfl (j := 50) rfl rfl dX11_step_413 ?_
    refine pv_iload_n C 1 dX11_step_416 rfl ?_
    refine pv_iald C hp rfl rfl rfl (fun _ => rfl) dX11_step_417 (fun v72 hp => ?_)
    refine pv_callV C (As := [.int v14, .int v72]) (rest := []) (b := 45) (kd1 := 0) hp (fun q1 h9 => c_X11_close l D cy h9) wB_yX11_close ml_X11_262 im_yX11_close se_yX11_close (ci := 10) rfl rfl rfl rfl rfl (Nat.le_of_ble_eq_true rfl) ⟨(Nat.le_of_ble_eq_true rfl), (Nat.le_of_ble_eq_true rfl)⟩ dX11_step_418 rfl rfl (fun _ σ V hp => ?_)
    refine pv_goto (tgt := 437) C dX11_step_421 (by decide) ?_
    exact pv_vret C rfl hp hr dX11_step_437
  refine pv_case (x := v19) (v := 14) hp (fun hx hp => ?_) (fun h49_14 hp => ?_)
  · refine pv_tableIn (tgt := 424) C hx dX11_step_49 (by decide) (by decide) (off := 375) rfl (by decide) ?_
    refine pv_aload_n C 2 dX11_step_424 rfl ?_
    refine pv_iload_n C 0 dX11_step_425 rfl ?_
    refine pv_callV C (As := [.int v14]) (rest := []) (b := 45) (kd1 := 0) hp (fun q1 h9 => c_X11_apply l D cy h9) wB_yX11_apply ml_X11_265 im_yX11_apply se_yX11_apply (ci := 10) rfl rfl rfl rfl rfl (Nat.le_of_ble_eq_true rfl) ⟨(Nat.le_of_ble_eq_true rfl), (Nat.le_of_ble_eq_true rfl)⟩ dX11_step_426 rfl rfl (fun _ σ V hp => ?_)
    refine pv_goto (tgt := 437) C dX11_step_429 (by decide) ?_
    exact pv_vret C rfl hp hr dX11_step_437
  refine pv_tableOut (tgt := 432) C (by omega) dX11_step_49 (by decide) ?_
  refine pv_aload_n C 2 dX11_step_432 rfl ?_
  refine pv_iload_n C 0 dX11_step_433 rfl ?_
  refine pv_callV C (As := [.int v14]) (rest := []) (b := 45) (kd1 := 0) hp (fun q1 h9 => c_X11_join l D cy h9) wB_yX11_join ml_X11_268 im_yX11_join se_yX11_join (ci := 10) rfl rfl rfl rfl rfl (Nat.le_of_ble_eq_true rfl) ⟨(Nat.le_of_ble_eq_true rfl), (Nat.le_of_ble_eq_true rfl)⟩ dX11_step_434 rfl rfl (fun _ σ V hp => ?_)
  exact pv_vret C rfl hp hr dX11_step_437
def q_X11_recipe_b85 (N : Nat) (r52 : Int → Int → Int → Int → pvM → Option pvO) (x1 : Int) (x3 : Int) (x5 : Int) (s0 : Int) (V : pvM) : Option pvO :=
  lI (pv_w (x5 + (1))) fun v1 =>
  r52 x1 x3 s0 v1 V
set_option maxHeartbeats 4000000 in
set_option maxRecDepth 100000 in
theorem w_X11_recipe_b85 {p : Program} {l : Launch} {e : Env} {s : State} {m : MethodId} {args : Array Value} {below : List Frame} {meth : Method} {c : Code} {D : va_G} {cy : Nat → ClassId} {A : Nat → Prop} {n0 : Nat} {ad0 : Nat → Nat} {V0 : pvM} {q : pvO} (C : pz_C p s m args meth c cX11_recipe 6 yX11_recipe.cls D cy A) (hr : meth.sig.returnType = (some .int)) {N : Nat} {r52 : Int → Int → Int → Int → pvM → Option pvO} (H52 : ∀ (x1 : Int64) (x3 : Int32) (x4 : Int32) (x5 : Int32) (σ : pzS) (V : pvM), r52 x1.toInt x3.toInt x4.toInt x5.toInt V = some q → pv_W p l e 1 22 s m args below meth c 6 D cy A n0 ad0 (pv_Q below D cy n0 ad0 1 V0 q A args s) V0 σ V 52 [(0, .ref 45), (1, .long x1), (3, .int x3), (4, .int x4), (5, .int x5)] []) {x1 : Int64} {x3 : Int32} {x5 : Int32} {s0 : Int32} {σ : pzS} {V : pvM} (hp : q_X11_recipe_b85 N r52 x1.toInt x3.toInt x5.toInt s0.toInt V = some q) : pv_W p l e 1 22 s m args below meth c 6 D cy A n0 ad0 (pv_Q below D cy n0 ad0 1 V0 q A args s) V0 σ V 85 [(0, .ref 45), (1, .long x1), (3, .int x3), (5, .int x5)] [.int s0] := by
  unfold q_X11_recipe_b85 at hp
  refine pv_istore (loc' := [(4, .int s0), (0, .ref 45), (1, .long x1), (3, .int x3), (5, .int x5)]) C dX11_recipe_85 (by decide) rfl ?_
  refine pv_iinc (L := fun v1 => [(5, .int v1), (4, .int s0), (0, .ref 45), (1, .long x1), (3, .int x3)]) C 4 hp dX11_recipe_87 (by decide) rfl (by decide) (fun _ => rfl) (fun v1 hp => ?_)
  refine pv_goto (tgt := 52) C dX11_recipe_90 (by decide) ?_
  refine pv_sub [2, 3, 4, 1, 0] rfl ?_
  exact H52 _ _ _ _ _ _ hp
def q_X11_recipe_b126 (N : Nat) : Nat → Int → Int → Int → pvM → Option pvO
  | 0 => fun _ _ _ _ => none
  | n + 1 => fun x1 x3 x5 V =>
    if x3 ≤ x5 then
      gR V 45 7 fun v2 =>
      aW V 51 8 v2 x3 fun V =>
      gR V 45 7 fun v3 =>
      lI (1) fun v4 =>
      lI (pv_w (v3 + v4)) fun v5 =>
      gW V 45 7 v5 fun V =>
      gR V 45 7 fun v6 =>
      lI (1) fun v7 =>
      lI (pv_w (v6 - v7)) fun v8 =>
      rT V v8
    else
    lI (12) fun v9 =>
    gR V 45 7 fun v10 =>
    lI (pv_w (v9 * v10)) fun v11 =>
    lI (pv_w (v11 + x5)) fun v12 =>
    lI (5) fun v13 =>
    lI (pv_w (v13 * x5)) fun v14 =>
    lI (pv_shr x1 v14) fun v15 =>
    lI (31) fun v16 =>
    lI (pv_andl v15 v16) fun v17 =>
    lI (pv_w v17) fun v18 =>
    aW V 52 96 v12 v18 fun V =>
    lI (pv_w (x5 + (1))) fun v19 =>
    q_X11_recipe_b126 N n x1 x3 v19 V
set_option maxHeartbeats 4000000 in
set_option maxRecDepth 100000 in
theorem w_X11_recipe_b126 {p : Program} {l : Launch} {e : Env} {s : State} {m : MethodId} {args : Array Value} {below : List Frame} {meth : Method} {c : Code} {D : va_G} {cy : Nat → ClassId} {A : Nat → Prop} {n0 : Nat} {ad0 : Nat → Nat} {V0 : pvM} {q : pvO} (C : pz_C p s m args meth c cX11_recipe 6 yX11_recipe.cls D cy A) (hr : meth.sig.returnType = (some .int)) {N : Nat} : ∀ (n : Nat) (x1 : Int64) (x3 : Int32) (x5 : Int32) (σ : pzS) (V : pvM), q_X11_recipe_b126 N n x1.toInt x3.toInt x5.toInt V = some q → pv_W p l e 1 22 s m args below meth c 6 D cy A n0 ad0 (pv_Q below D cy n0 ad0 1 V0 q A args s) V0 σ V 126 [(0, .ref 45), (1, .long x1), (3, .int x3), (5, .int x5)] [] := by
  intro n
  induction n with
  | zero =>
    intro x1 x3 x5 σ V hp
    simp only [q_X11_recipe_b126] at hp
    cases hp
  | succ n ih =>
    intro x1 x3 x5 σ V hp
    simp only [q_X11_recipe_b126] at hp
    refine pv_iload C 3 dX11_recipe_126 rfl ?_
    refine pv_iload_n C 2 dX11_recipe_128 rfl ?_
    refine pv_icmp_ge (tgt := 164) C hp dX11_recipe_129 (by decide) (fun hp => ?_) (fun hp => ?_)
    · refine pv_aload_n C 0 dX11_recipe_164 rfl ?_
      refine pv_getR C (ci := 10) (k := 8) gwX11 rfl (Nat.le_of_ble_eq_true rfl) fl_X11_25 rfl rfl rfl (j := 51) rfl rfl dX11_recipe_165 ?_
      refine pv_aload_n C 0 dX11_recipe_168 rfl ?_
      refine pv_getI C (ci := 10) (k := 7) gwX11 rfl (Nat.le_of_ble_eq_true rfl) fl_X11_146 rfl rfl hp rfl rfl dX11_recipe_169 (fun v2 hp => ?_)
      refine pv_iload_n C 2 dX11_recipe_172 rfl ?_
      refine pv_iast C hp rfl rfl rfl (fun _ => rfl) dX11_recipe_173 (fun V hp => ?_)
      refine pv_aload_n C 0 dX11_recipe_174 rfl ?_
      refine pv_dup C dX11_recipe_175 rfl ?_
      refine pv_getI C (ci := 10) (k := 7) gwX11 rfl (Nat.le_of_ble_eq_true rfl) fl_X11_146 rfl rfl hp rfl rfl dX11_recipe_176 (fun v3 hp => ?_)
      refine pv_iconst C hp dX11_recipe_179 (by decide) (fun v4 hp => ?_)
      refine pv_iadd C hp dX11_recipe_180 (fun v5 hp => ?_)
      refine pv_putI C (ci := 10) (k := 7) gwX11 rfl (Nat.le_of_ble_eq_true rfl) fl_X11_146 rfl rfl tyX11_ok nmX11 hp rfl rfl rfl (by decide +kernel) dX11_recipe_181 (fun V hp => ?_)
      refine pv_aload_n C 0 dX11_recipe_184 rfl ?_
      refine pv_getI C (ci := 10) (k := 7) gwX11 rfl (Nat.le_of_ble_eq_true rfl) fl_X11_146 rfl rfl hp rfl rfl dX11_recipe_185 (fun v6 hp => ?_)
      refine pv_iconst C hp dX11_recipe_188 (by decide) (fun v7 hp => ?_)
      refine pv_isub C hp dX11_recipe_189 (fun v8 hp => ?_)
      exact pv_iret C rfl hp hr dX11_recipe_190
    · refine pv_aload_n C 0 dX11_recipe_132 rfl ?_
      refine pv_getR C (ci := 10) (k := 9) gwX11 rfl (Nat.le_of_ble_eq_true rfl) fl_X11_28 rfl rfl rfl (j := 52) rfl rfl dX11_recipe_133 ?_
      refine pv_bipush C hp dX11_recipe_136 (by decide) (fun v9 hp => ?_)
      refine pv_aload_n C 0 dX11_recipe_138 rfl ?_
      refine pv_getI C (ci := 10) (k := 7) gwX11 rfl (Nat.le_of_ble_eq_true rfl) fl_X11_146 rfl rfl hp rfl rfl dX11_recipe_139 (fun v10 hp => ?_)
      refine pv_imul C hp dX11_recipe_142 (fun v11 hp => ?_)
      refine pv_iload C 3 dX11_recipe_143 rfl ?_
      refine pv_iadd C hp dX11_recipe_145 (fun v12 hp => ?_)
      refine pv_lload_n C 1 dX11_recipe_146 rfl ?_
      refine pv_iconst C hp dX11_recipe_147 (by decide) (fun v13 hp => ?_)
      refine pv_iload C 3 dX11_recipe_148 rfl ?_
      refine pv_imul C hp dX11_recipe_150 (fun v14 hp => ?_)
      refine pv_lshr C hp dX11_recipe_151 (fun v15 hp => ?_)
      refine pv_ldc2 C hp dX11_recipe_152 kl_X11_142 (by decide) (fun v16 hp => ?_)
      refine pv_land C hp dX11_recipe_155 (fun v17 hp => ?_)
      refine pv_l2i C hp dX11_recipe_156 (fun v18 hp => ?_)
      refine pv_iast C hp rfl rfl rfl (fun _ => rfl) dX11_recipe_157 (fun V hp => ?_)
      refine pv_iinc (L := fun v19 => [(5, .int v19), (0, .ref 45), (1, .long x1), (3, .int x3)]) C 3 hp dX11_recipe_158 (by decide) rfl (by decide) (fun _ => rfl) (fun v19 hp => ?_)
      refine pv_goto (tgt := 126) C dX11_recipe_161 (by decide) ?_
      refine pv_sub [1, 2, 3, 0] rfl ?_
      exact ih _ _ _ _ _ hp
def q_X11_recipe_b110 (N : Nat) (x1 : Int) (x3 : Int) (s0 : Int) (s1 : Int) (V : pvM) : Option pvO :=
  cL (q_X11_goes N s1 s0 V) fun v20 V =>
  if v20 ≠ 0 then
    lI (0) fun v21 =>
    bT v21 <| gW V 45 10 v21 fun V =>
    lI (0) fun v22 =>
    q_X11_recipe_b126 N N x1 x3 v22 V
  else
  lI (0) fun v23 =>
  rT V v23
set_option maxHeartbeats 4000000 in
set_option maxRecDepth 100000 in
theorem w_X11_recipe_b110 {p : Program} {l : Launch} {e : Env} {s : State} {m : MethodId} {args : Array Value} {below : List Frame} {meth : Method} {c : Code} {D : va_G} {cy : Nat → ClassId} {A : Nat → Prop} {n0 : Nat} {ad0 : Nat → Nat} {V0 : pvM} {q : pvO} (C : pz_C p s m args meth c cX11_recipe 6 yX11_recipe.cls D cy A) (hr : meth.sig.returnType = (some .int)) {N : Nat} {x1 : Int64} {x3 : Int32} {s0 : Int32} {s1 : Int32} {σ : pzS} {V : pvM} (hp : q_X11_recipe_b110 N x1.toInt x3.toInt s0.toInt s1.toInt V = some q) : pv_W p l e 1 22 s m args below meth c 6 D cy A n0 ad0 (pv_Q below D cy n0 ad0 1 V0 q A args s) V0 σ V 110 [(0, .ref 45), (1, .long x1), (3, .int x3)] [.int s0, .int s1, .ref 45] := by
  unfold q_X11_recipe_b110 at hp
  refine pv_callV C (As := [.int s1, .int s0]) (rest := []) (b := 45) (kd1 := 1) hp (fun q1 h9 => c_X11_goes l D cy h9) wB_yX11_goes ml_X11_130 im_yX11_goes se_yX11_goes (ci := 10) rfl rfl rfl rfl rfl (Nat.le_of_ble_eq_true rfl) ⟨(Nat.le_of_ble_eq_true rfl), (Nat.le_of_ble_eq_true rfl)⟩ dX11_recipe_110 rfl rfl (fun v20 σ V hp => ?_)
  refine pv_if_ne (tgt := 118) C hp dX11_recipe_113 (by decide) (fun hp => ?_) (fun hp => ?_)
  · refine pv_aload_n C 0 dX11_recipe_118 rfl ?_
    refine pv_iconst C hp dX11_recipe_119 (by decide) (fun v21 hp => ?_)
    refine pv_putZ C (ci := 10) (k := 10) gwX11 rfl (Nat.le_of_ble_eq_true rfl) fl_X11_134 rfl rfl tyX11_ok nmX11 hp rfl rfl rfl (by decide +kernel) dX11_recipe_120 (fun V hp => ?_)
    refine pv_iconst C hp dX11_recipe_123 (by decide) (fun v22 hp => ?_)
    refine pv_istore (loc' := [(5, .int v22), (0, .ref 45), (1, .long x1), (3, .int x3)]) C dX11_recipe_124 (by decide) rfl ?_
    refine pv_sub [1, 2, 3, 0] rfl ?_
    exact w_X11_recipe_b126 C hr N _ _ _ _ _ hp
  · refine pv_iconst C hp dX11_recipe_116 (by decide) (fun v23 hp => ?_)
    exact pv_iret C rfl hp hr dX11_recipe_117
def q_X11_recipe_b52 (N : Nat) : Nat → Int → Int → Int → Int → pvM → Option pvO
  | 0 => fun _ _ _ _ _ => none
  | n + 1 => fun x1 x3 x4 x5 V =>
    if x3 ≤ x5 then
      gR V 45 7 fun v24 =>
      lI (8) fun v25 =>
      if v25 ≤ v24 then
        lI (0) fun v26 =>
        q_X11_recipe_b110 N x1 x3 v26 x4 V
      else
      lI (1) fun v27 =>
      q_X11_recipe_b110 N x1 x3 v27 x4 V
    else
    if x4 = 0 then
      lI (0) fun v28 =>
      q_X11_recipe_b85 N (q_X11_recipe_b52 N n) x1 x3 x5 v28 V
    else
    lI (5) fun v29 =>
    lI (pv_w (v29 * x5)) fun v30 =>
    lI (pv_shr x1 v30) fun v31 =>
    lI (31) fun v32 =>
    lI (pv_andl v31 v32) fun v33 =>
    lI (27) fun v34 =>
    lI (pv_cmp v33 v34) fun v35 =>
    if 0 < v35 then
      lI (0) fun v36 =>
      q_X11_recipe_b85 N (q_X11_recipe_b52 N n) x1 x3 x5 v36 V
    else
    lI (1) fun v37 =>
    q_X11_recipe_b85 N (q_X11_recipe_b52 N n) x1 x3 x5 v37 V
set_option maxHeartbeats 4000000 in
set_option maxRecDepth 100000 in
theorem w_X11_recipe_b52 {p : Program} {l : Launch} {e : Env} {s : State} {m : MethodId} {args : Array Value} {below : List Frame} {meth : Method} {c : Code} {D : va_G} {cy : Nat → ClassId} {A : Nat → Prop} {n0 : Nat} {ad0 : Nat → Nat} {V0 : pvM} {q : pvO} (C : pz_C p s m args meth c cX11_recipe 6 yX11_recipe.cls D cy A) (hr : meth.sig.returnType = (some .int)) {N : Nat} : ∀ (n : Nat) (x1 : Int64) (x3 : Int32) (x4 : Int32) (x5 : Int32) (σ : pzS) (V : pvM), q_X11_recipe_b52 N n x1.toInt x3.toInt x4.toInt x5.toInt V = some q → pv_W p l e 1 22 s m args below meth c 6 D cy A n0 ad0 (pv_Q below D cy n0 ad0 1 V0 q A args s) V0 σ V 52 [(0, .ref 45), (1, .long x1), (3, .int x3), (4, .int x4), (5, .int x5)] [] := by
  intro n
  induction n with
  | zero =>
    intro x1 x3 x4 x5 σ V hp
    simp only [q_X11_recipe_b52] at hp
    cases hp
  | succ n ih =>
    intro x1 x3 x4 x5 σ V hp
    simp only [q_X11_recipe_b52] at hp
    refine pv_iload C 4 dX11_recipe_52 rfl ?_
    refine pv_iload_n C 2 dX11_recipe_54 rfl ?_
    refine pv_icmp_ge (tgt := 93) C hp dX11_recipe_55 (by decide) (fun hp => ?_) (fun hp => ?_)
    · refine pv_aload_n C 0 dX11_recipe_93 rfl ?_
      refine pv_iload C 3 dX11_recipe_94 rfl ?_
      refine pv_aload_n C 0 dX11_recipe_96 rfl ?_
      refine pv_getI C (ci := 10) (k := 7) gwX11 rfl (Nat.le_of_ble_eq_true rfl) fl_X11_146 rfl rfl hp rfl rfl dX11_recipe_97 (fun v24 hp => ?_)
      refine pv_bipush C hp dX11_recipe_100 (by decide) (fun v25 hp => ?_)
      refine pv_icmp_ge (tgt := 109) C hp dX11_recipe_102 (by decide) (fun hp => ?_) (fun hp => ?_)
      · refine pv_iconst C hp dX11_recipe_109 (by decide) (fun v26 hp => ?_)
        refine pv_sub [0, 1, 2] rfl ?_
        exact w_X11_recipe_b110 C hr hp
      · refine pv_iconst C hp dX11_recipe_105 (by decide) (fun v27 hp => ?_)
        refine pv_goto (tgt := 110) C dX11_recipe_106 (by decide) ?_
        refine pv_sub [0, 1, 2] rfl ?_
        exact w_X11_recipe_b110 C hr hp
    · refine pv_iload C 3 dX11_recipe_58 rfl ?_
      refine pv_if_eq (tgt := 84) C hp dX11_recipe_60 (by decide) (fun hp => ?_) (fun hp => ?_)
      · refine pv_iconst C hp dX11_recipe_84 (by decide) (fun v28 hp => ?_)
        refine pv_sub [0, 1, 2, 4] rfl ?_
        exact w_X11_recipe_b85 C hr ih hp
      · refine pv_lload_n C 1 dX11_recipe_63 rfl ?_
        refine pv_iconst C hp dX11_recipe_64 (by decide) (fun v29 hp => ?_)
        refine pv_iload C 4 dX11_recipe_65 rfl ?_
        refine pv_imul C hp dX11_recipe_67 (fun v30 hp => ?_)
        refine pv_lshr C hp dX11_recipe_68 (fun v31 hp => ?_)
        refine pv_ldc2 C hp dX11_recipe_69 kl_X11_142 (by decide) (fun v32 hp => ?_)
        refine pv_land C hp dX11_recipe_72 (fun v33 hp => ?_)
        refine pv_ldc2 C hp dX11_recipe_73 kl_X11_144 (by decide) (fun v34 hp => ?_)
        refine pv_lcmp C hp dX11_recipe_76 (fun v35 hp => ?_)
        refine pv_if_gt (tgt := 84) C hp dX11_recipe_77 (by decide) (fun hp => ?_) (fun hp => ?_)
        · refine pv_iconst C hp dX11_recipe_84 (by decide) (fun v36 hp => ?_)
          refine pv_sub [0, 1, 2, 4] rfl ?_
          exact w_X11_recipe_b85 C hr ih hp
        · refine pv_iconst C hp dX11_recipe_80 (by decide) (fun v37 hp => ?_)
          refine pv_goto (tgt := 85) C dX11_recipe_81 (by decide) ?_
          refine pv_sub [0, 1, 2, 4] rfl ?_
          exact w_X11_recipe_b85 C hr ih hp
def q_X11_recipe_b47 (N : Nat) (x1 : Int) (x3 : Int) (s0 : Int) (V : pvM) : Option pvO :=
  lI (0) fun v38 =>
  q_X11_recipe_b52 N N x1 x3 s0 v38 V
set_option maxHeartbeats 4000000 in
set_option maxRecDepth 100000 in
theorem w_X11_recipe_b47 {p : Program} {l : Launch} {e : Env} {s : State} {m : MethodId} {args : Array Value} {below : List Frame} {meth : Method} {c : Code} {D : va_G} {cy : Nat → ClassId} {A : Nat → Prop} {n0 : Nat} {ad0 : Nat → Nat} {V0 : pvM} {q : pvO} (C : pz_C p s m args meth c cX11_recipe 6 yX11_recipe.cls D cy A) (hr : meth.sig.returnType = (some .int)) {N : Nat} {x1 : Int64} {x3 : Int32} {s0 : Int32} {σ : pzS} {V : pvM} (hp : q_X11_recipe_b47 N x1.toInt x3.toInt s0.toInt V = some q) : pv_W p l e 1 22 s m args below meth c 6 D cy A n0 ad0 (pv_Q below D cy n0 ad0 1 V0 q A args s) V0 σ V 47 [(0, .ref 45), (1, .long x1), (3, .int x3)] [.int s0] := by
  unfold q_X11_recipe_b47 at hp
  refine pv_istore (loc' := [(4, .int s0), (0, .ref 45), (1, .long x1), (3, .int x3)]) C dX11_recipe_47 (by decide) rfl ?_
  refine pv_iconst C hp dX11_recipe_49 (by decide) (fun v38 hp => ?_)
  refine pv_istore (loc' := [(5, .int v38), (4, .int s0), (0, .ref 45), (1, .long x1), (3, .int x3)]) C dX11_recipe_50 (by decide) rfl ?_
  refine pv_sub [2, 3, 4, 1, 0] rfl ?_
  exact w_X11_recipe_b52 C hr N _ _ _ _ _ _ hp
def q_X11_recipe_b28 (N : Nat) (x1 : Int) (x3 : Int) (V : pvM) : Option pvO :=
  if x3 ≤ 0 then
    lI (0) fun v39 =>
    q_X11_recipe_b47 N x1 x3 v39 V
  else
  lI (5) fun v40 =>
  lI (pv_w (v40 * x3)) fun v41 =>
  lI (pv_shr x1 v41) fun v42 =>
  lI (0) fun v43 =>
  lI (pv_cmp v42 v43) fun v44 =>
  if v44 ≠ 0 then
    lI (0) fun v45 =>
    q_X11_recipe_b47 N x1 x3 v45 V
  else
  lI (1) fun v46 =>
  q_X11_recipe_b47 N x1 x3 v46 V
set_option maxHeartbeats 4000000 in
set_option maxRecDepth 100000 in
theorem w_X11_recipe_b28 {p : Program} {l : Launch} {e : Env} {s : State} {m : MethodId} {args : Array Value} {below : List Frame} {meth : Method} {c : Code} {D : va_G} {cy : Nat → ClassId} {A : Nat → Prop} {n0 : Nat} {ad0 : Nat → Nat} {V0 : pvM} {q : pvO} (C : pz_C p s m args meth c cX11_recipe 6 yX11_recipe.cls D cy A) (hr : meth.sig.returnType = (some .int)) {N : Nat} {x1 : Int64} {x3 : Int32} {σ : pzS} {V : pvM} (hp : q_X11_recipe_b28 N x1.toInt x3.toInt V = some q) : pv_W p l e 1 22 s m args below meth c 6 D cy A n0 ad0 (pv_Q below D cy n0 ad0 1 V0 q A args s) V0 σ V 28 [(0, .ref 45), (1, .long x1), (3, .int x3)] [] := by
  unfold q_X11_recipe_b28 at hp
  refine pv_iload_n C 2 dX11_recipe_28 rfl ?_
  refine pv_if_le (tgt := 46) C hp dX11_recipe_29 (by decide) (fun hp => ?_) (fun hp => ?_)
  · refine pv_iconst C hp dX11_recipe_46 (by decide) (fun v39 hp => ?_)
    exact w_X11_recipe_b47 C hr hp
  · refine pv_lload_n C 1 dX11_recipe_32 rfl ?_
    refine pv_iconst C hp dX11_recipe_33 (by decide) (fun v40 hp => ?_)
    refine pv_iload_n C 2 dX11_recipe_34 rfl ?_
    refine pv_imul C hp dX11_recipe_35 (fun v41 hp => ?_)
    refine pv_lshr C hp dX11_recipe_36 (fun v42 hp => ?_)
    refine pv_lconst C hp dX11_recipe_37 (by decide) (fun v43 hp => ?_)
    refine pv_lcmp C hp dX11_recipe_38 (fun v44 hp => ?_)
    refine pv_if_ne (tgt := 46) C hp dX11_recipe_39 (by decide) (fun hp => ?_) (fun hp => ?_)
    · refine pv_iconst C hp dX11_recipe_46 (by decide) (fun v45 hp => ?_)
      exact w_X11_recipe_b47 C hr hp
    · refine pv_iconst C hp dX11_recipe_42 (by decide) (fun v46 hp => ?_)
      refine pv_goto (tgt := 47) C dX11_recipe_43 (by decide) ?_
      exact w_X11_recipe_b47 C hr hp
def q_X11_recipe_b2 (N : Nat) : Nat → Int → Int → pvM → Option pvO
  | 0 => fun _ _ _ => none
  | n + 1 => fun x1 x3 V =>
    lI (12) fun v47 =>
    if v47 ≤ x3 then
      q_X11_recipe_b28 N x1 x3 V
    else
    lI (5) fun v48 =>
    lI (pv_w (v48 * x3)) fun v49 =>
    lI (pv_shr x1 v49) fun v50 =>
    lI (31) fun v51 =>
    lI (pv_andl v50 v51) fun v52 =>
    lI (0) fun v53 =>
    lI (pv_cmp v52 v53) fun v54 =>
    if v54 ≤ 0 then
      q_X11_recipe_b28 N x1 x3 V
    else
    lI (pv_w (x3 + (1))) fun v55 =>
    q_X11_recipe_b2 N n x1 v55 V
set_option maxHeartbeats 4000000 in
set_option maxRecDepth 100000 in
theorem w_X11_recipe_b2 {p : Program} {l : Launch} {e : Env} {s : State} {m : MethodId} {args : Array Value} {below : List Frame} {meth : Method} {c : Code} {D : va_G} {cy : Nat → ClassId} {A : Nat → Prop} {n0 : Nat} {ad0 : Nat → Nat} {V0 : pvM} {q : pvO} (C : pz_C p s m args meth c cX11_recipe 6 yX11_recipe.cls D cy A) (hr : meth.sig.returnType = (some .int)) {N : Nat} : ∀ (n : Nat) (x1 : Int64) (x3 : Int32) (σ : pzS) (V : pvM), q_X11_recipe_b2 N n x1.toInt x3.toInt V = some q → pv_W p l e 1 22 s m args below meth c 6 D cy A n0 ad0 (pv_Q below D cy n0 ad0 1 V0 q A args s) V0 σ V 2 [(0, .ref 45), (1, .long x1), (3, .int x3)] [] := by
  intro n
  induction n with
  | zero =>
    intro x1 x3 σ V hp
    simp only [q_X11_recipe_b2] at hp
    cases hp
  | succ n ih =>
    intro x1 x3 σ V hp
    simp only [q_X11_recipe_b2] at hp
    refine pv_iload_n C 2 dX11_recipe_2 rfl ?_
    refine pv_bipush C hp dX11_recipe_3 (by decide) (fun v47 hp => ?_)
    refine pv_icmp_ge (tgt := 28) C hp dX11_recipe_5 (by decide) (fun hp => ?_) (fun hp => ?_)
    · exact w_X11_recipe_b28 C hr hp
    · refine pv_lload_n C 1 dX11_recipe_8 rfl ?_
      refine pv_iconst C hp dX11_recipe_9 (by decide) (fun v48 hp => ?_)
      refine pv_iload_n C 2 dX11_recipe_10 rfl ?_
      refine pv_imul C hp dX11_recipe_11 (fun v49 hp => ?_)
      refine pv_lshr C hp dX11_recipe_12 (fun v50 hp => ?_)
      refine pv_ldc2 C hp dX11_recipe_13 kl_X11_142 (by decide) (fun v51 hp => ?_)
      refine pv_land C hp dX11_recipe_16 (fun v52 hp => ?_)
      refine pv_lconst C hp dX11_recipe_17 (by decide) (fun v53 hp => ?_)
      refine pv_lcmp C hp dX11_recipe_18 (fun v54 hp => ?_)
      refine pv_if_le (tgt := 28) C hp dX11_recipe_19 (by decide) (fun hp => ?_) (fun hp => ?_)
      · exact w_X11_recipe_b28 C hr hp
      · refine pv_iinc (L := fun v55 => [(3, .int v55), (0, .ref 45), (1, .long x1)]) C 2 hp dX11_recipe_22 (by decide) rfl (by decide) (fun _ => rfl) (fun v55 hp => ?_)
        refine pv_goto (tgt := 2) C dX11_recipe_25 (by decide) ?_
        refine pv_sub [1, 2, 0] rfl ?_
        exact ih _ _ _ _ hp
def q_X11_recipe (N : Nat) (x1 : Int) (V : pvM) : Option pvO :=
  lI (0) fun v56 =>
  q_X11_recipe_b2 N N x1 v56 V
set_option maxHeartbeats 4000000 in
set_option maxRecDepth 100000 in
theorem c_X11_recipe (l : Launch) (D : va_G) (cy : Nat → ClassId) {N : Nat} {x1 : Int64} {V : pvM} {q : pvO} (hp : q_X11_recipe N x1.toInt V = some q) : pv_Met l yX11_recipe cX11_recipe 6 (some .int) 1 22 D cy V [.ref 45, .long x1] 1 q := by
  unfold q_X11_recipe at hp
  refine pv_ofW (by decide) (Nat.le_of_ble_eq_true rfl) (fun p e s m args below meth c ad A n0 σ C hr => ?_)
  refine pv_iconst C hp dX11_recipe_0 (by decide) (fun v56 hp => ?_)
  refine pv_istore_n (loc' := [(3, .int v56), (0, .ref 45), (1, .long x1)]) C dX11_recipe_1 (by decide) rfl ?_
  refine pv_sub [1, 2, 0] rfl ?_
  exact w_X11_recipe_b2 C hr N _ _ _ _ hp
def q_X11_run_b107 (N : Nat) (r66 : Int → Int → Int → Int → Int → pvM → Option pvO) (x1 : Int) (x2 : Int) (x3 : Int) (x4 : Int) (x6 : Int) (s0 : Int) (s1 : Int) (V : pvM) : Option pvO :=
  aW V 75 6 s1 s0 fun V =>
  lI (pv_w (x6 + (1))) fun v1 =>
  r66 x1 x2 x3 x4 v1 V
set_option maxHeartbeats 4000000 in
set_option maxRecDepth 100000 in
theorem w_X11_run_b107 {p : Program} {l : Launch} {e : Env} {s : State} {m : MethodId} {args : Array Value} {below : List Frame} {meth : Method} {c : Code} {D : va_G} {cy : Nat → ClassId} {A : Nat → Prop} {n0 : Nat} {ad0 : Nat → Nat} {V0 : pvM} {q : pvO} (C : pz_C p s m args meth c cX11_run 7 yX11_run.cls D cy A) (hr : meth.sig.returnType = (some .int)) {N : Nat} {r66 : Int → Int → Int → Int → Int → pvM → Option pvO} (H66 : ∀ (x1 : Int32) (x2 : Int32) (x3 : Int32) (x4 : Int32) (x6 : Int32) (σ : pzS) (V : pvM), r66 x1.toInt x2.toInt x3.toInt x4.toInt x6.toInt V = some q → pv_W p l e 4 94 s m args below meth c 7 D cy A n0 ad0 (pv_Q below D cy n0 ad0 1 V0 q A args s) V0 σ V 66 [(0, .ref 45), (1, .int x1), (2, .int x2), (3, .int x3), (4, .int x4), (6, .int x6)] []) {x1 : Int32} {x2 : Int32} {x3 : Int32} {x4 : Int32} {x6 : Int32} {s0 : Int32} {s1 : Int32} {σ : pzS} {V : pvM} (hp : q_X11_run_b107 N r66 x1.toInt x2.toInt x3.toInt x4.toInt x6.toInt s0.toInt s1.toInt V = some q) : pv_W p l e 4 94 s m args below meth c 7 D cy A n0 ad0 (pv_Q below D cy n0 ad0 1 V0 q A args s) V0 σ V 107 [(0, .ref 45), (1, .int x1), (2, .int x2), (3, .int x3), (4, .int x4), (6, .int x6)] [.int s0, .int s1, .ref 75] := by
  unfold q_X11_run_b107 at hp
  refine pv_iast C hp rfl rfl rfl (fun _ => rfl) dX11_run_107 (fun V hp => ?_)
  refine pv_iinc (L := fun v1 => [(6, .int v1), (0, .ref 45), (1, .int x1), (2, .int x2), (3, .int x3), (4, .int x4)]) C 5 hp dX11_run_108 (by decide) rfl (by decide) (fun _ => rfl) (fun v1 hp => ?_)
  refine pv_goto (tgt := 66) C dX11_run_111 (by decide) ?_
  refine pv_sub [1, 2, 3, 4, 5, 0] rfl ?_
  exact H66 _ _ _ _ _ _ _ hp
def q_X11_run_b125 (N : Nat) : Nat → pvM → Option pvO
  | 0 => fun _ => none
  | n + 1 => fun V =>
    gR V 45 36 fun v2 =>
    if v2 ≤ 0 then
      gR V 45 28 fun v3 =>
      rT V v3
    else
    gR V 45 28 fun v4 =>
    if v4 ≠ 0 then
      gR V 45 28 fun v5 =>
      rT V v5
    else
    gR V 45 27 fun v6 =>
    lI (400) fun v7 =>
    if v6 ≠ v7 then
      gR V 45 27 fun v8 =>
      lI (1) fun v9 =>
      lI (pv_w (v8 + v9)) fun v10 =>
      gW V 45 27 v10 fun V =>
      cL (q_X11_step N V) fun _ V =>
      q_X11_run_b125 N n V
    else
    lI (4) fun v11 =>
    gW V 45 28 v11 fun V =>
    q_X11_run_b125 N n V
set_option maxHeartbeats 4000000 in
set_option maxRecDepth 100000 in
theorem w_X11_run_b125 {p : Program} {l : Launch} {e : Env} {s : State} {m : MethodId} {args : Array Value} {below : List Frame} {meth : Method} {c : Code} {D : va_G} {cy : Nat → ClassId} {A : Nat → Prop} {n0 : Nat} {ad0 : Nat → Nat} {V0 : pvM} {q : pvO} (C : pz_C p s m args meth c cX11_run 7 yX11_run.cls D cy A) (hr : meth.sig.returnType = (some .int)) {N : Nat} : ∀ (n : Nat) (σ : pzS) (V : pvM), q_X11_run_b125 N n V = some q → pv_W p l e 4 94 s m args below meth c 7 D cy A n0 ad0 (pv_Q below D cy n0 ad0 1 V0 q A args s) V0 σ V 125 [(0, .ref 45)] [] := by
  intro n
  induction n with
  | zero =>
    intro σ V hp
    simp only [q_X11_run_b125] at hp
    cases hp
  | succ n ih =>
    intro σ V hp
    simp only [q_X11_run_b125] at hp
    refine pv_aload_n C 0 dX11_run_125 rfl ?_
    refine pv_getI C (ci := 10) (k := 36) gwX11 rfl (Nat.le_of_ble_eq_true rfl) fl_X11_211 rfl rfl hp rfl rfl dX11_run_126 (fun v2 hp => ?_)
    refine pv_if_le (tgt := 174) C hp dX11_run_129 (by decide) (fun hp => ?_) (fun hp => ?_)
    · refine pv_aload_n C 0 dX11_run_174 rfl ?_
      refine pv_getI C (ci := 10) (k := 28) gwX11 rfl (Nat.le_of_ble_eq_true rfl) fl_X11_214 rfl rfl hp rfl rfl dX11_run_175 (fun v3 hp => ?_)
      exact pv_iret C rfl hp hr dX11_run_178
    · refine pv_aload_n C 0 dX11_run_132 rfl ?_
      refine pv_getI C (ci := 10) (k := 28) gwX11 rfl (Nat.le_of_ble_eq_true rfl) fl_X11_214 rfl rfl hp rfl rfl dX11_run_133 (fun v4 hp => ?_)
      refine pv_if_ne (tgt := 174) C hp dX11_run_136 (by decide) (fun hp => ?_) (fun hp => ?_)
      · refine pv_aload_n C 0 dX11_run_174 rfl ?_
        refine pv_getI C (ci := 10) (k := 28) gwX11 rfl (Nat.le_of_ble_eq_true rfl) fl_X11_214 rfl rfl hp rfl rfl dX11_run_175 (fun v5 hp => ?_)
        exact pv_iret C rfl hp hr dX11_run_178
      · refine pv_aload_n C 0 dX11_run_139 rfl ?_
        refine pv_getI C (ci := 10) (k := 27) gwX11 rfl (Nat.le_of_ble_eq_true rfl) fl_X11_271 rfl rfl hp rfl rfl dX11_run_140 (fun v6 hp => ?_)
        refine pv_sipush C hp dX11_run_143 (by decide) (fun v7 hp => ?_)
        refine pv_icmp_ne (tgt := 157) C hp dX11_run_146 (by decide) (fun hp => ?_) (fun hp => ?_)
        · refine pv_aload_n C 0 dX11_run_157 rfl ?_
          refine pv_dup C dX11_run_158 rfl ?_
          refine pv_getI C (ci := 10) (k := 27) gwX11 rfl (Nat.le_of_ble_eq_true rfl) fl_X11_271 rfl rfl hp rfl rfl dX11_run_159 (fun v8 hp => ?_)
          refine pv_iconst C hp dX11_run_162 (by decide) (fun v9 hp => ?_)
          refine pv_iadd C hp dX11_run_163 (fun v10 hp => ?_)
          refine pv_putI C (ci := 10) (k := 27) gwX11 rfl (Nat.le_of_ble_eq_true rfl) fl_X11_271 rfl rfl tyX11_ok nmX11 hp rfl rfl rfl (by decide +kernel) dX11_run_164 (fun V hp => ?_)
          refine pv_aload_n C 0 dX11_run_167 rfl ?_
          refine pv_callV C (As := []) (rest := []) (b := 45) (kd1 := 0) hp (fun q1 h9 => c_X11_step l D cy h9) wB_yX11_step ml_X11_274 im_yX11_step se_yX11_step (ci := 10) rfl rfl rfl rfl rfl (Nat.le_of_ble_eq_true rfl) ⟨(Nat.le_of_ble_eq_true rfl), (Nat.le_of_ble_eq_true rfl)⟩ dX11_run_168 rfl rfl (fun _ σ V hp => ?_)
          refine pv_goto (tgt := 125) C dX11_run_171 (by decide) ?_
          exact ih  _ _ hp
        · refine pv_aload_n C 0 dX11_run_149 rfl ?_
          refine pv_iconst C hp dX11_run_150 (by decide) (fun v11 hp => ?_)
          refine pv_putI C (ci := 10) (k := 28) gwX11 rfl (Nat.le_of_ble_eq_true rfl) fl_X11_214 rfl rfl tyX11_ok nmX11 hp rfl rfl rfl (by decide +kernel) dX11_run_151 (fun V hp => ?_)
          refine pv_goto (tgt := 125) C dX11_run_154 (by decide) ?_
          exact ih  _ _ hp
def q_X11_run_b66 (N : Nat) : Nat → Int → Int → Int → Int → Int → pvM → Option pvO
  | 0 => fun _ _ _ _ _ _ => none
  | n + 1 => fun x1 x2 x3 x4 x6 V =>
    lI (3) fun v12 =>
    if v12 ≤ x6 then
      aR V 46 12 x1 fun v13 =>
      cL (q_X11_begin N x1 v13 V) fun _ V =>
      q_X11_run_b125 N N V
    else
    lI (1) fun v14 =>
    aW V 74 6 x6 v14 fun V =>
    if x6 ≠ 0 then
      lI (1) fun v15 =>
      if x6 ≠ v15 then
        q_X11_run_b107 N (q_X11_run_b66 N n) x1 x2 x3 x4 x6 x4 x6 V
      else
      q_X11_run_b107 N (q_X11_run_b66 N n) x1 x2 x3 x4 x6 x3 x6 V
    else
    q_X11_run_b107 N (q_X11_run_b66 N n) x1 x2 x3 x4 x6 x2 x6 V
set_option maxHeartbeats 4000000 in
set_option maxRecDepth 100000 in
theorem w_X11_run_b66 {p : Program} {l : Launch} {e : Env} {s : State} {m : MethodId} {args : Array Value} {below : List Frame} {meth : Method} {c : Code} {D : va_G} {cy : Nat → ClassId} {A : Nat → Prop} {n0 : Nat} {ad0 : Nat → Nat} {V0 : pvM} {q : pvO} (C : pz_C p s m args meth c cX11_run 7 yX11_run.cls D cy A) (hr : meth.sig.returnType = (some .int)) {N : Nat} : ∀ (n : Nat) (x1 : Int32) (x2 : Int32) (x3 : Int32) (x4 : Int32) (x6 : Int32) (σ : pzS) (V : pvM), q_X11_run_b66 N n x1.toInt x2.toInt x3.toInt x4.toInt x6.toInt V = some q → pv_W p l e 4 94 s m args below meth c 7 D cy A n0 ad0 (pv_Q below D cy n0 ad0 1 V0 q A args s) V0 σ V 66 [(0, .ref 45), (1, .int x1), (2, .int x2), (3, .int x3), (4, .int x4), (6, .int x6)] [] := by
  intro n
  induction n with
  | zero =>
    intro x1 x2 x3 x4 x6 σ V hp
    simp only [q_X11_run_b66] at hp
    cases hp
  | succ n ih =>
    intro x1 x2 x3 x4 x6 σ V hp
    simp only [q_X11_run_b66] at hp
    refine pv_iload C 5 dX11_run_66 rfl ?_
    refine pv_iconst C hp dX11_run_68 (by decide) (fun v12 hp => ?_)
    refine pv_icmp_ge (tgt := 114) C hp dX11_run_69 (by decide) (fun hp => ?_) (fun hp => ?_)
    · refine pv_aload_n C 0 dX11_run_114 rfl ?_
      refine pv_iload_n C 1 dX11_run_115 rfl ?_
      refine pv_aload_n C 0 dX11_run_116 rfl ?_
      refine pv_getR C (ci := 10) (k := 2) gwX11 rfl (Nat.le_of_ble_eq_true rfl) fl_X11_7 rfl rfl rfl (j := 46) rfl rfl dX11_run_117 ?_
      refine pv_iload_n C 1 dX11_run_120 rfl ?_
      refine pv_iald C hp rfl rfl rfl (fun _ => rfl) dX11_run_121 (fun v13 hp => ?_)
      refine pv_callV C (As := [.int x1, .int v13]) (rest := []) (b := 45) (kd1 := 0) hp (fun q1 h9 => c_X11_begin l D cy h9) wB_yX11_begin ml_X11_244 im_yX11_begin se_yX11_begin (ci := 10) rfl rfl rfl rfl rfl (Nat.le_of_ble_eq_true rfl) ⟨(Nat.le_of_ble_eq_true rfl), (Nat.le_of_ble_eq_true rfl)⟩ dX11_run_122 rfl rfl (fun _ σ V hp => ?_)
      refine pv_sub [0] rfl ?_
      exact w_X11_run_b125 C hr N _ _ hp
    · refine pv_aload_n C 0 dX11_run_72 rfl ?_
      refine pv_getR C (ci := 10) (k := 42) gwX11 rfl (Nat.le_of_ble_eq_true rfl) fl_X11_95 rfl rfl rfl (j := 74) rfl rfl dX11_run_73 ?_
      refine pv_iload C 5 dX11_run_76 rfl ?_
      refine pv_iconst C hp dX11_run_78 (by decide) (fun v14 hp => ?_)
      refine pv_iast C hp rfl rfl rfl (fun _ => rfl) dX11_run_79 (fun V hp => ?_)
      refine pv_aload_n C 0 dX11_run_80 rfl ?_
      refine pv_getR C (ci := 10) (k := 43) gwX11 rfl (Nat.le_of_ble_eq_true rfl) fl_X11_98 rfl rfl rfl (j := 75) rfl rfl dX11_run_81 ?_
      refine pv_iload C 5 dX11_run_84 rfl ?_
      refine pv_iload C 5 dX11_run_86 rfl ?_
      refine pv_if_ne (tgt := 95) C hp dX11_run_88 (by decide) (fun hp => ?_) (fun hp => ?_)
      · refine pv_iload C 5 dX11_run_95 rfl ?_
        refine pv_iconst C hp dX11_run_97 (by decide) (fun v15 hp => ?_)
        refine pv_icmp_ne (tgt := 105) C hp dX11_run_98 (by decide) (fun hp => ?_) (fun hp => ?_)
        · refine pv_iload C 4 dX11_run_105 rfl ?_
          exact w_X11_run_b107 C hr ih hp
        · refine pv_iload_n C 3 dX11_run_101 rfl ?_
          refine pv_goto (tgt := 107) C dX11_run_102 (by decide) ?_
          exact w_X11_run_b107 C hr ih hp
      · refine pv_iload_n C 2 dX11_run_91 rfl ?_
        refine pv_goto (tgt := 107) C dX11_run_92 (by decide) ?_
        exact w_X11_run_b107 C hr ih hp
def q_X11_run (N : Nat) (x1 : Int) (x2 : Int) (x3 : Int) (x4 : Int) (x5 : Int) (V : pvM) : Option pvO :=
  cL (q_X11_isFunction N x1 V) fun v16 V =>
  gR V 45 10 fun v17 =>
  cL (q_X11_goes N v16 v17 V) fun v18 V =>
  if v18 ≠ 0 then
    lI (0) fun v19 =>
    gW V 45 27 v19 fun V =>
    lI (0) fun v20 =>
    gW V 45 28 v20 fun V =>
    lI (0) fun v21 =>
    gW V 45 29 v21 fun V =>
    lI (0) fun v22 =>
    gW V 45 30 v22 fun V =>
    lI (0) fun v23 =>
    gW V 45 31 v23 fun V =>
    lI (0) fun v24 =>
    gW V 45 33 v24 fun V =>
    lI (0) fun v25 =>
    gW V 45 36 v25 fun V =>
    lI (0) fun v26 =>
    gW V 45 44 v26 fun V =>
    lI (0) fun v27 =>
    gW V 45 47 v27 fun V =>
    lI (0) fun v28 =>
    q_X11_run_b66 N N x1 x2 x3 x4 v28 V
  else
  lI (0) fun v29 =>
  rT V v29
set_option maxHeartbeats 4000000 in
set_option maxRecDepth 100000 in
theorem c_X11_run (l : Launch) (D : va_G) (cy : Nat → ClassId) {N : Nat} {x1 : Int32} {x2 : Int32} {x3 : Int32} {x4 : Int32} {x5 : Int32} {V : pvM} {q : pvO} (hp : q_X11_run N x1.toInt x2.toInt x3.toInt x4.toInt x5.toInt V = some q) : pv_Met l yX11_run cX11_run 7 (some .int) 4 94 D cy V [.ref 45, .int x1, .int x2, .int x3, .int x4, .int x5] 1 q := by
  unfold q_X11_run at hp
  refine pv_ofW (by decide) (Nat.le_of_ble_eq_true rfl) (fun p e s m args below meth c ad A n0 σ C hr => ?_)
  refine pv_aload_n C 0 dX11_run_0 rfl ?_
  refine pv_aload_n C 0 dX11_run_1 rfl ?_
  refine pv_iload_n C 1 dX11_run_2 rfl ?_
  refine pv_callV C (As := [.int x1]) (rest := [.ref 45]) (b := 45) (kd1 := 1) hp (fun q1 h9 => c_X11_isFunction l D cy h9) wB_yX11_isFunction ml_X11_138 im_yX11_isFunction se_yX11_isFunction (ci := 10) rfl rfl rfl rfl rfl (Nat.le_of_ble_eq_true rfl) ⟨(Nat.le_of_ble_eq_true rfl), (Nat.le_of_ble_eq_true rfl)⟩ dX11_run_3 rfl rfl (fun v16 σ V hp => ?_)
  refine pv_aload_n C 0 dX11_run_6 rfl ?_
  refine pv_getI C (ci := 10) (k := 10) gwX11 rfl (Nat.le_of_ble_eq_true rfl) fl_X11_134 rfl rfl hp rfl rfl dX11_run_7 (fun v17 hp => ?_)
  refine pv_callV C (As := [.int v16, .int v17]) (rest := []) (b := 45) (kd1 := 1) hp (fun q1 h9 => c_X11_goes l D cy h9) wB_yX11_goes ml_X11_130 im_yX11_goes se_yX11_goes (ci := 10) rfl rfl rfl rfl rfl (Nat.le_of_ble_eq_true rfl) ⟨(Nat.le_of_ble_eq_true rfl), (Nat.le_of_ble_eq_true rfl)⟩ dX11_run_10 rfl rfl (fun v18 σ V hp => ?_)
  refine pv_if_ne (tgt := 18) C hp dX11_run_13 (by decide) (fun hp => ?_) (fun hp => ?_)
  · refine pv_aload_n C 0 dX11_run_18 rfl ?_
    refine pv_iconst C hp dX11_run_19 (by decide) (fun v19 hp => ?_)
    refine pv_putI C (ci := 10) (k := 27) gwX11 rfl (Nat.le_of_ble_eq_true rfl) fl_X11_271 rfl rfl tyX11_ok nmX11 hp rfl rfl rfl (by decide +kernel) dX11_run_20 (fun V hp => ?_)
    refine pv_aload_n C 0 dX11_run_23 rfl ?_
    refine pv_iconst C hp dX11_run_24 (by decide) (fun v20 hp => ?_)
    refine pv_putI C (ci := 10) (k := 28) gwX11 rfl (Nat.le_of_ble_eq_true rfl) fl_X11_214 rfl rfl tyX11_ok nmX11 hp rfl rfl rfl (by decide +kernel) dX11_run_25 (fun V hp => ?_)
    refine pv_aload_n C 0 dX11_run_28 rfl ?_
    refine pv_iconst C hp dX11_run_29 (by decide) (fun v21 hp => ?_)
    refine pv_putI C (ci := 10) (k := 29) gwX11 rfl (Nat.le_of_ble_eq_true rfl) fl_X11_247 rfl rfl tyX11_ok nmX11 hp rfl rfl rfl (by decide +kernel) dX11_run_30 (fun V hp => ?_)
    refine pv_aload_n C 0 dX11_run_33 rfl ?_
    refine pv_iconst C hp dX11_run_34 (by decide) (fun v22 hp => ?_)
    refine pv_putI C (ci := 10) (k := 30) gwX11 rfl (Nat.le_of_ble_eq_true rfl) fl_X11_250 rfl rfl tyX11_ok nmX11 hp rfl rfl rfl (by decide +kernel) dX11_run_35 (fun V hp => ?_)
    refine pv_aload_n C 0 dX11_run_38 rfl ?_
    refine pv_iconst C hp dX11_run_39 (by decide) (fun v23 hp => ?_)
    refine pv_putI C (ci := 10) (k := 31) gwX11 rfl (Nat.le_of_ble_eq_true rfl) fl_X11_229 rfl rfl tyX11_ok nmX11 hp rfl rfl rfl (by decide +kernel) dX11_run_40 (fun V hp => ?_)
    refine pv_aload_n C 0 dX11_run_43 rfl ?_
    refine pv_iconst C hp dX11_run_44 (by decide) (fun v24 hp => ?_)
    refine pv_putI C (ci := 10) (k := 33) gwX11 rfl (Nat.le_of_ble_eq_true rfl) fl_X11_208 rfl rfl tyX11_ok nmX11 hp rfl rfl rfl (by decide +kernel) dX11_run_45 (fun V hp => ?_)
    refine pv_aload_n C 0 dX11_run_48 rfl ?_
    refine pv_iconst C hp dX11_run_49 (by decide) (fun v25 hp => ?_)
    refine pv_putI C (ci := 10) (k := 36) gwX11 rfl (Nat.le_of_ble_eq_true rfl) fl_X11_211 rfl rfl tyX11_ok nmX11 hp rfl rfl rfl (by decide +kernel) dX11_run_50 (fun V hp => ?_)
    refine pv_aload_n C 0 dX11_run_53 rfl ?_
    refine pv_iconst C hp dX11_run_54 (by decide) (fun v26 hp => ?_)
    refine pv_putI C (ci := 10) (k := 44) gwX11 rfl (Nat.le_of_ble_eq_true rfl) fl_X11_232 rfl rfl tyX11_ok nmX11 hp rfl rfl rfl (by decide +kernel) dX11_run_55 (fun V hp => ?_)
    refine pv_aload_n C 0 dX11_run_58 rfl ?_
    refine pv_iconst C hp dX11_run_59 (by decide) (fun v27 hp => ?_)
    refine pv_putI C (ci := 10) (k := 47) gwX11 rfl (Nat.le_of_ble_eq_true rfl) fl_X11_238 rfl rfl tyX11_ok nmX11 hp rfl rfl rfl (by decide +kernel) dX11_run_60 (fun V hp => ?_)
    refine pv_iconst C hp dX11_run_63 (by decide) (fun v28 hp => ?_)
    refine pv_istore (loc' := [(6, .int v28), (0, .ref 45), (1, .int x1), (2, .int x2), (3, .int x3), (4, .int x4), (5, .int x5)]) C dX11_run_64 (by decide) rfl ?_
    refine pv_sub [1, 2, 3, 4, 5, 0] rfl ?_
    exact w_X11_run_b66 C hr N _ _ _ _ _ _ _ hp
  · refine pv_iconst C hp dX11_run_16 (by decide) (fun v29 hp => ?_)
    exact pv_iret C rfl hp hr dX11_run_17
def q_X11_told_b15 (N : Nat) (x1 : Int) (s0 : Int) (V : pvM) : Option pvO :=
  lI (1) fun v1 =>
  cL (q_X11_goes N s0 v1 V) fun v2 V =>
  if v2 ≠ 0 then
    if x1 ≠ 0 then
      lI (1) fun v3 =>
      if x1 ≠ v3 then
        lI (3) fun v4 =>
        if x1 ≠ v4 then
          gR V 45 29 fun v5 =>
          lI (1) fun v6 =>
          if v5 ≠ v6 then
            lI (0) fun v7 =>
            rT V v7
          else
          gR V 45 30 fun v8 =>
          rT V v8
        else
        gR V 45 29 fun v9 =>
        rT V v9
      else
      gR V 45 27 fun v10 =>
      rT V v10
    else
    gR V 45 31 fun v11 =>
    rT V v11
  else
  lI (0) fun v12 =>
  rT V v12
set_option maxHeartbeats 4000000 in
set_option maxRecDepth 100000 in
theorem w_X11_told_b15 {p : Program} {l : Launch} {e : Env} {s : State} {m : MethodId} {args : Array Value} {below : List Frame} {meth : Method} {c : Code} {D : va_G} {cy : Nat → ClassId} {A : Nat → Prop} {n0 : Nat} {ad0 : Nat → Nat} {V0 : pvM} {q : pvO} (C : pz_C p s m args meth c cX11_told 2 yX11_told.cls D cy A) (hr : meth.sig.returnType = (some .int)) {N : Nat} {x1 : Int32} {s0 : Int32} {σ : pzS} {V : pvM} (hp : q_X11_told_b15 N x1.toInt s0.toInt V = some q) : pv_W p l e 1 22 s m args below meth c 2 D cy A n0 ad0 (pv_Q below D cy n0 ad0 1 V0 q A args s) V0 σ V 15 [(0, .ref 45), (1, .int x1)] [.int s0, .ref 45] := by
  unfold q_X11_told_b15 at hp
  refine pv_iconst C hp dX11_told_15 (by decide) (fun v1 hp => ?_)
  refine pv_callV C (As := [.int s0, .int v1]) (rest := []) (b := 45) (kd1 := 1) hp (fun q1 h9 => c_X11_goes l D cy h9) wB_yX11_goes ml_X11_130 im_yX11_goes se_yX11_goes (ci := 10) rfl rfl rfl rfl rfl (Nat.le_of_ble_eq_true rfl) ⟨(Nat.le_of_ble_eq_true rfl), (Nat.le_of_ble_eq_true rfl)⟩ dX11_told_16 rfl rfl (fun v2 σ V hp => ?_)
  refine pv_if_ne (tgt := 24) C hp dX11_told_19 (by decide) (fun hp => ?_) (fun hp => ?_)
  · refine pv_iload_n C 1 dX11_told_24 rfl ?_
    refine pv_if_ne (tgt := 35) C hp dX11_told_25 (by decide) (fun hp => ?_) (fun hp => ?_)
    · refine pv_iload_n C 1 dX11_told_35 rfl ?_
      refine pv_iconst C hp dX11_told_36 (by decide) (fun v3 hp => ?_)
      refine pv_icmp_ne (tgt := 47) C hp dX11_told_37 (by decide) (fun hp => ?_) (fun hp => ?_)
      · refine pv_iload_n C 1 dX11_told_47 rfl ?_
        refine pv_iconst C hp dX11_told_48 (by decide) (fun v4 hp => ?_)
        refine pv_icmp_ne (tgt := 59) C hp dX11_told_49 (by decide) (fun hp => ?_) (fun hp => ?_)
        · refine pv_aload_n C 0 dX11_told_59 rfl ?_
          refine pv_getI C (ci := 10) (k := 29) gwX11 rfl (Nat.le_of_ble_eq_true rfl) fl_X11_247 rfl rfl hp rfl rfl dX11_told_60 (fun v5 hp => ?_)
          refine pv_iconst C hp dX11_told_63 (by decide) (fun v6 hp => ?_)
          refine pv_icmp_ne (tgt := 74) C hp dX11_told_64 (by decide) (fun hp => ?_) (fun hp => ?_)
          · refine pv_iconst C hp dX11_told_74 (by decide) (fun v7 hp => ?_)
            exact pv_iret C rfl hp hr dX11_told_75
          · refine pv_aload_n C 0 dX11_told_67 rfl ?_
            refine pv_getI C (ci := 10) (k := 30) gwX11 rfl (Nat.le_of_ble_eq_true rfl) fl_X11_250 rfl rfl hp rfl rfl dX11_told_68 (fun v8 hp => ?_)
            refine pv_goto (tgt := 75) C dX11_told_71 (by decide) ?_
            exact pv_iret C rfl hp hr dX11_told_75
        · refine pv_aload_n C 0 dX11_told_52 rfl ?_
          refine pv_getI C (ci := 10) (k := 29) gwX11 rfl (Nat.le_of_ble_eq_true rfl) fl_X11_247 rfl rfl hp rfl rfl dX11_told_53 (fun v9 hp => ?_)
          refine pv_goto (tgt := 75) C dX11_told_56 (by decide) ?_
          exact pv_iret C rfl hp hr dX11_told_75
      · refine pv_aload_n C 0 dX11_told_40 rfl ?_
        refine pv_getI C (ci := 10) (k := 27) gwX11 rfl (Nat.le_of_ble_eq_true rfl) fl_X11_271 rfl rfl hp rfl rfl dX11_told_41 (fun v10 hp => ?_)
        refine pv_goto (tgt := 75) C dX11_told_44 (by decide) ?_
        exact pv_iret C rfl hp hr dX11_told_75
    · refine pv_aload_n C 0 dX11_told_28 rfl ?_
      refine pv_getI C (ci := 10) (k := 31) gwX11 rfl (Nat.le_of_ble_eq_true rfl) fl_X11_229 rfl rfl hp rfl rfl dX11_told_29 (fun v11 hp => ?_)
      refine pv_goto (tgt := 75) C dX11_told_32 (by decide) ?_
      exact pv_iret C rfl hp hr dX11_told_75
  · refine pv_iconst C hp dX11_told_22 (by decide) (fun v12 hp => ?_)
    exact pv_iret C rfl hp hr dX11_told_23
def q_X11_told (N : Nat) (x1 : Int) (V : pvM) : Option pvO :=
  if x1 < 0 then
    lI (0) fun v13 =>
    q_X11_told_b15 N x1 v13 V
  else
  lI (3) fun v14 =>
  if v14 < x1 then
    lI (0) fun v15 =>
    q_X11_told_b15 N x1 v15 V
  else
  lI (1) fun v16 =>
  q_X11_told_b15 N x1 v16 V
set_option maxHeartbeats 4000000 in
set_option maxRecDepth 100000 in
theorem c_X11_told (l : Launch) (D : va_G) (cy : Nat → ClassId) {N : Nat} {x1 : Int32} {V : pvM} {q : pvO} (hp : q_X11_told N x1.toInt V = some q) : pv_Met l yX11_told cX11_told 2 (some .int) 1 22 D cy V [.ref 45, .int x1] 1 q := by
  unfold q_X11_told at hp
  refine pv_ofW (by decide) (Nat.le_of_ble_eq_true rfl) (fun p e s m args below meth c ad A n0 σ C hr => ?_)
  refine pv_aload_n C 0 dX11_told_0 rfl ?_
  refine pv_iload_n C 1 dX11_told_1 rfl ?_
  refine pv_if_lt (tgt := 14) C hp dX11_told_2 (by decide) (fun hp => ?_) (fun hp => ?_)
  · refine pv_iconst C hp dX11_told_14 (by decide) (fun v13 hp => ?_)
    exact w_X11_told_b15 C hr hp
  · refine pv_iload_n C 1 dX11_told_5 rfl ?_
    refine pv_iconst C hp dX11_told_6 (by decide) (fun v14 hp => ?_)
    refine pv_icmp_gt (tgt := 14) C hp dX11_told_7 (by decide) (fun hp => ?_) (fun hp => ?_)
    · refine pv_iconst C hp dX11_told_14 (by decide) (fun v15 hp => ?_)
      exact w_X11_told_b15 C hr hp
    · refine pv_iconst C hp dX11_told_10 (by decide) (fun v16 hp => ?_)
      refine pv_goto (tgt := 15) C dX11_told_11 (by decide) ?_
      exact w_X11_told_b15 C hr hp
def q_X11_said_b18 (N : Nat) (x1 : Int) (s0 : Int) (V : pvM) : Option pvO :=
  lI (1) fun v1 =>
  cL (q_X11_goes N s0 v1 V) fun v2 V =>
  if v2 = 0 then
    lI (0) fun v3 =>
    rT V v3
  else
  aR V 66 200 x1 fun v4 =>
  rT V v4
set_option maxHeartbeats 4000000 in
set_option maxRecDepth 100000 in
theorem w_X11_said_b18 {p : Program} {l : Launch} {e : Env} {s : State} {m : MethodId} {args : Array Value} {below : List Frame} {meth : Method} {c : Code} {D : va_G} {cy : Nat → ClassId} {A : Nat → Prop} {n0 : Nat} {ad0 : Nat → Nat} {V0 : pvM} {q : pvO} (C : pz_C p s m args meth c cX11_said 2 yX11_said.cls D cy A) (hr : meth.sig.returnType = (some .int)) {N : Nat} {x1 : Int32} {s0 : Int32} {σ : pzS} {V : pvM} (hp : q_X11_said_b18 N x1.toInt s0.toInt V = some q) : pv_W p l e 1 22 s m args below meth c 2 D cy A n0 ad0 (pv_Q below D cy n0 ad0 1 V0 q A args s) V0 σ V 18 [(0, .ref 45), (1, .int x1)] [.int s0, .ref 45] := by
  unfold q_X11_said_b18 at hp
  refine pv_iconst C hp dX11_said_18 (by decide) (fun v1 hp => ?_)
  refine pv_callV C (As := [.int s0, .int v1]) (rest := []) (b := 45) (kd1 := 1) hp (fun q1 h9 => c_X11_goes l D cy h9) wB_yX11_goes ml_X11_130 im_yX11_goes se_yX11_goes (ci := 10) rfl rfl rfl rfl rfl (Nat.le_of_ble_eq_true rfl) ⟨(Nat.le_of_ble_eq_true rfl), (Nat.le_of_ble_eq_true rfl)⟩ dX11_said_19 rfl rfl (fun v2 σ V hp => ?_)
  refine pv_if_eq (tgt := 34) C hp dX11_said_22 (by decide) (fun hp => ?_) (fun hp => ?_)
  · refine pv_iconst C hp dX11_said_34 (by decide) (fun v3 hp => ?_)
    exact pv_iret C rfl hp hr dX11_said_35
  · refine pv_aload_n C 0 dX11_said_25 rfl ?_
    refine pv_getR C (ci := 10) (k := 32) gwX11 rfl (Nat.le_of_ble_eq_true rfl) fl_X11_71 rfl rfl rfl (j := 66) rfl rfl dX11_said_26 ?_
    refine pv_iload_n C 1 dX11_said_29 rfl ?_
    refine pv_iald C hp rfl rfl rfl (fun _ => rfl) dX11_said_30 (fun v4 hp => ?_)
    refine pv_goto (tgt := 35) C dX11_said_31 (by decide) ?_
    exact pv_iret C rfl hp hr dX11_said_35
def q_X11_said (N : Nat) (x1 : Int) (V : pvM) : Option pvO :=
  if x1 < 0 then
    lI (0) fun v5 =>
    q_X11_said_b18 N x1 v5 V
  else
  gR V 45 31 fun v6 =>
  if v6 ≤ x1 then
    lI (0) fun v7 =>
    q_X11_said_b18 N x1 v7 V
  else
  lI (1) fun v8 =>
  q_X11_said_b18 N x1 v8 V
set_option maxHeartbeats 4000000 in
set_option maxRecDepth 100000 in
theorem c_X11_said (l : Launch) (D : va_G) (cy : Nat → ClassId) {N : Nat} {x1 : Int32} {V : pvM} {q : pvO} (hp : q_X11_said N x1.toInt V = some q) : pv_Met l yX11_said cX11_said 2 (some .int) 1 22 D cy V [.ref 45, .int x1] 1 q := by
  unfold q_X11_said at hp
  refine pv_ofW (by decide) (Nat.le_of_ble_eq_true rfl) (fun p e s m args below meth c ad A n0 σ C hr => ?_)
  refine pv_aload_n C 0 dX11_said_0 rfl ?_
  refine pv_iload_n C 1 dX11_said_1 rfl ?_
  refine pv_if_lt (tgt := 17) C hp dX11_said_2 (by decide) (fun hp => ?_) (fun hp => ?_)
  · refine pv_iconst C hp dX11_said_17 (by decide) (fun v5 hp => ?_)
    exact w_X11_said_b18 C hr hp
  · refine pv_iload_n C 1 dX11_said_5 rfl ?_
    refine pv_aload_n C 0 dX11_said_6 rfl ?_
    refine pv_getI C (ci := 10) (k := 31) gwX11 rfl (Nat.le_of_ble_eq_true rfl) fl_X11_229 rfl rfl hp rfl rfl dX11_said_7 (fun v6 hp => ?_)
    refine pv_icmp_ge (tgt := 17) C hp dX11_said_10 (by decide) (fun hp => ?_) (fun hp => ?_)
    · refine pv_iconst C hp dX11_said_17 (by decide) (fun v7 hp => ?_)
      exact w_X11_said_b18 C hr hp
    · refine pv_iconst C hp dX11_said_13 (by decide) (fun v8 hp => ?_)
      refine pv_goto (tgt := 18) C dX11_said_14 (by decide) ?_
      exact w_X11_said_b18 C hr hp
