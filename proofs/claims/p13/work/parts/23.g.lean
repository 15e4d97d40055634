def q_X9_leastWaiting_b28 (N : Nat) (r2 : Int → Int → pvM → Option pvO) (x1 : Int) (x2 : Int) (V : pvM) : Option pvO :=
  lI (pv_w (x2 + (1))) fun v1 =>
  r2 x1 v1 V
set_option maxHeartbeats 4000000 in
set_option maxRecDepth 100000 in
theorem w_X9_leastWaiting_b28 {p : Program} {l : Launch} {e : Env} {s : State} {m : MethodId} {args : Array Value} {below : List Frame} {meth : Method} {c : Code} {D : va_G} {cy : Nat → ClassId} {A : Nat → Prop} {n0 : Nat} {ad0 : Nat → Nat} {V0 : pvM} {q : pvO} (C : pz_C p s m args meth c cX9_leastWaiting 3 yX9_leastWaiting.cls D cy A) (hr : meth.sig.returnType = (some .int)) {N : Nat} {r2 : Int → Int → pvM → Option pvO} (H2 : ∀ (x1 : Int32) (x2 : Int32) (σ : pzS) (V : pvM), r2 x1.toInt x2.toInt V = some q → pv_W p l e 0 0 s m args below meth c 3 D cy A n0 ad0 (pv_Q below D cy n0 ad0 1 V0 q A args s) V0 σ V 2 [(0, .ref 13), (1, .int x1), (2, .int x2)] []) {x1 : Int32} {x2 : Int32} {σ : pzS} {V : pvM} (hp : q_X9_leastWaiting_b28 N r2 x1.toInt x2.toInt V = some q) : pv_W p l e 0 0 s m args below meth c 3 D cy A n0 ad0 (pv_Q below D cy n0 ad0 1 V0 q A args s) V0 σ V 28 [(0, .ref 13), (1, .int x1), (2, .int x2)] [] := by
  unfold q_X9_leastWaiting_b28 at hp
  refine pv_iinc (L := fun v1 => [(2, .int v1), (0, .ref 13), (1, .int x1)]) C 2 hp dX9_leastWaiting_28 (by decide) rfl (by decide) (fun _ => rfl) (fun v1 hp => ?_)
  refine pv_goto (tgt := 2) C dX9_leastWaiting_31 (by decide) ?_
  refine pv_sub [1, 2, 0] rfl ?_
  exact H2 _ _ _ _ hp
def q_X9_leastWaiting_b2 (N : Nat) : Nat → Int → Int → pvM → Option pvO
  | 0 => fun _ _ _ => none
  | n + 1 => fun x1 x2 V =>
    if x1 ≤ x2 then
      lI (-1) fun v2 =>
      rT V v2
    else
    aR V 14 40 x2 fun v3 =>
    lI (-1) fun v4 =>
    if v3 = v4 then
      q_X9_leastWaiting_b28 N (q_X9_leastWaiting_b2 N n) x1 x2 V
    else
    aR V 15 40 x2 fun v5 =>
    if v5 ≠ 0 then
      q_X9_leastWaiting_b28 N (q_X9_leastWaiting_b2 N n) x1 x2 V
    else
    rT V x2
set_option maxHeartbeats 4000000 in
set_option maxRecDepth 100000 in
theorem w_X9_leastWaiting_b2 {p : Program} {l : Launch} {e : Env} {s : State} {m : MethodId} {args : Array Value} {below : List Frame} {meth : Method} {c : Code} {D : va_G} {cy : Nat → ClassId} {A : Nat → Prop} {n0 : Nat} {ad0 : Nat → Nat} {V0 : pvM} {q : pvO} (C : pz_C p s m args meth c cX9_leastWaiting 3 yX9_leastWaiting.cls D cy A) (hr : meth.sig.returnType = (some .int)) {N : Nat} : ∀ (n : Nat) (x1 : Int32) (x2 : Int32) (σ : pzS) (V : pvM), q_X9_leastWaiting_b2 N n x1.toInt x2.toInt V = some q → pv_W p l e 0 0 s m args below meth c 3 D cy A n0 ad0 (pv_Q below D cy n0 ad0 1 V0 q A args s) V0 σ V 2 [(0, .ref 13), (1, .int x1), (2, .int x2)] [] := by
  intro n
  induction n with
  | zero =>
    intro x1 x2 σ V hp
    simp only [q_X9_leastWaiting_b2] at hp
    cases hp
  | succ n ih =>
    intro x1 x2 σ V hp
    simp only [q_X9_leastWaiting_b2] at hp
    refine pv_iload_n C 2 dX9_leastWaiting_2 rfl ?_
    refine pv_iload_n C 1 dX9_leastWaiting_3 rfl ?_
    refine pv_icmp_ge (tgt := 34) C hp dX9_leastWaiting_4 (by decide) (fun hp => ?_) (fun hp => ?_)
    · refine pv_iconst C hp dX9_leastWaiting_34 (by decide) (fun v2 hp => ?_)
      exact pv_iret C rfl hp hr dX9_leastWaiting_35
    · refine pv_aload_n C 0 dX9_leastWaiting_7 rfl ?_
      refine pv_getR C (ci := 8) (k := 1) gwX9 rfl (Nat.le_of_ble_eq_true rfl) fl_X9_9 rfl rfl rfl (j := 14) rfl rfl dX9_leastWaiting_8 ?_
      refine pv_iload_n C 2 dX9_leastWaiting_11 rfl ?_
      refine pv_iald C hp rfl rfl rfl (fun _ => rfl) dX9_leastWaiting_12 (fun v3 hp => ?_)
      refine pv_iconst C hp dX9_leastWaiting_13 (by decide) (fun v4 hp => ?_)
      refine pv_icmp_eq (tgt := 28) C hp dX9_leastWaiting_14 (by decide) (fun hp => ?_) (fun hp => ?_)
      · exact w_X9_leastWaiting_b28 C hr ih hp
      · refine pv_aload_n C 0 dX9_leastWaiting_17 rfl ?_
        refine pv_getR C (ci := 8) (k := 2) gwX9 rfl (Nat.le_of_ble_eq_true rfl) fl_X9_15 rfl rfl rfl (j := 15) rfl rfl dX9_leastWaiting_18 ?_
        refine pv_iload_n C 2 dX9_leastWaiting_21 rfl ?_
        refine pv_zald C hp rfl rfl rfl (fun _ => rfl) dX9_leastWaiting_22 (fun v5 hp => ?_)
        refine pv_if_ne (tgt := 28) C hp dX9_leastWaiting_23 (by decide) (fun hp => ?_) (fun hp => ?_)
        · exact w_X9_leastWaiting_b28 C hr ih hp
        · refine pv_iload_n C 2 dX9_leastWaiting_26 rfl ?_
          exact pv_iret C rfl hp hr dX9_leastWaiting_27
def q_X9_leastWaiting (N : Nat) (x1 : Int) (V : pvM) : Option pvO :=
  lI (0) fun v6 =>
  q_X9_leastWaiting_b2 N N x1 v6 V
set_option maxHeartbeats 4000000 in
set_option maxRecDepth 100000 in
theorem c_X9_leastWaiting (l : Launch) (D : va_G) (cy : Nat → ClassId) {N : Nat} {x1 : Int32} {V : pvM} {q : pvO} (hp : q_X9_leastWaiting N x1.toInt V = some q) : pv_Met l yX9_leastWaiting cX9_leastWaiting 3 (some .int) 0 0 D cy V [.ref 13, .int x1] 1 q := by
  unfold q_X9_leastWaiting at hp
  refine pv_ofW (by decide) (Nat.le_of_ble_eq_true rfl) (fun p e s m args below meth c ad A n0 σ C hr => ?_)
  refine pv_iconst C hp dX9_leastWaiting_0 (by decide) (fun v6 hp => ?_)
  refine pv_istore_n (loc' := [(2, .int v6), (0, .ref 13), (1, .int x1)]) C dX9_leastWaiting_1 (by decide) rfl ?_
  refine pv_sub [1, 2, 0] rfl ?_
  exact w_X9_leastWaiting_b2 C hr N _ _ _ _ hp
def q_X9_meets_b24 (N : Nat) (x1 : Int) (x2 : Int) (V : pvM) : Option pvO :=
  aR V 14 40 x1 fun v1 =>
  if v1 ≠ x2 then
    lI (0) fun v2 =>
    bT v2 (rT V v2)
  else
  lI (1) fun v3 =>
  bT v3 (rT V v3)
set_option maxHeartbeats 4000000 in
set_option maxRecDepth 100000 in
theorem w_X9_meets_b24 {p : Program} {l : Launch} {e : Env} {s : State} {m : MethodId} {args : Array Value} {below : List Frame} {meth : Method} {c : Code} {D : va_G} {cy : Nat → ClassId} {A : Nat → Prop} {n0 : Nat} {ad0 : Nat → Nat} {V0 : pvM} {q : pvO} (C : pz_C p s m args meth c cX9_meets 4 yX9_meets.cls D cy A) (hr : meth.sig.returnType = (some .boolean)) {N : Nat} {x1 : Int32} {x2 : Int32} {σ : pzS} {V : pvM} (hp : q_X9_meets_b24 N x1.toInt x2.toInt V = some q) : pv_W p l e 0 0 s m args below meth c 4 D cy A n0 ad0 (pv_Q below D cy n0 ad0 1 V0 q A args s) V0 σ V 24 [(0, .ref 13), (1, .int x1), (2, .int x2)] [] := by
  unfold q_X9_meets_b24 at hp
  refine pv_aload_n C 0 dX9_meets_24 rfl ?_
  refine pv_getR C (ci := 8) (k := 1) gwX9 rfl (Nat.le_of_ble_eq_true rfl) fl_X9_9 rfl rfl rfl (j := 14) rfl rfl dX9_meets_25 ?_
  refine pv_iload_n C 1 dX9_meets_28 rfl ?_
  refine pv_iald C hp rfl rfl rfl (fun _ => rfl) dX9_meets_29 (fun v1 hp => ?_)
  refine pv_iload_n C 2 dX9_meets_30 rfl ?_
  refine pv_icmp_ne (tgt := 38) C hp dX9_meets_31 (by decide) (fun hp => ?_) (fun hp => ?_)
  · refine pv_iconst C hp dX9_meets_38 (by decide) (fun v2 hp => ?_)
    exact pv_zret C rfl hp hr dX9_meets_39
  · refine pv_iconst C hp dX9_meets_34 (by decide) (fun v3 hp => ?_)
    refine pv_goto (tgt := 39) C dX9_meets_35 (by decide) ?_
    exact pv_zret C rfl hp hr dX9_meets_39
def q_X9_meets (N : Nat) (x1 : Int) (x2 : Int) (x3 : Int) (V : pvM) : Option pvO :=
  if x1 < x3 then
    aR V 14 40 x1 fun v4 =>
    lI (-1) fun v5 =>
    if v4 ≠ v5 then
      q_X9_meets_b24 N x1 x2 V
    else
    aW V 14 40 x1 x2 fun V =>
    q_X9_meets_b24 N x1 x2 V
  else
  lI (0) fun v6 =>
  bT v6 (rT V v6)
set_option maxHeartbeats 4000000 in
set_option maxRecDepth 100000 in
theorem c_X9_meets (l : Launch) (D : va_G) (cy : Nat → ClassId) {N : Nat} {x1 : Int32} {x2 : Int32} {x3 : Int32} {V : pvM} {q : pvO} (hp : q_X9_meets N x1.toInt x2.toInt x3.toInt V = some q) : pv_Met l yX9_meets cX9_meets 4 (some .boolean) 0 0 D cy V [.ref 13, .int x1, .int x2, .int x3] 1 q := by
  unfold q_X9_meets at hp
  refine pv_ofW (by decide) (Nat.le_of_ble_eq_true rfl) (fun p e s m args below meth c ad A n0 σ C hr => ?_)
  refine pv_iload_n C 1 dX9_meets_0 rfl ?_
  refine pv_iload_n C 3 dX9_meets_1 rfl ?_
  refine pv_icmp_lt (tgt := 7) C hp dX9_meets_2 (by decide) (fun hp => ?_) (fun hp => ?_)
  · refine pv_aload_n C 0 dX9_meets_7 rfl ?_
    refine pv_getR C (ci := 8) (k := 1) gwX9 rfl (Nat.le_of_ble_eq_true rfl) fl_X9_9 rfl rfl rfl (j := 14) rfl rfl dX9_meets_8 ?_
    refine pv_iload_n C 1 dX9_meets_11 rfl ?_
    refine pv_iald C hp rfl rfl rfl (fun _ => rfl) dX9_meets_12 (fun v4 hp => ?_)
    refine pv_iconst C hp dX9_meets_13 (by decide) (fun v5 hp => ?_)
    refine pv_icmp_ne (tgt := 24) C hp dX9_meets_14 (by decide) (fun hp => ?_) (fun hp => ?_)
    · refine pv_sub [0, 1, 2] rfl ?_
      exact w_X9_meets_b24 C hr hp
    · refine pv_aload_n C 0 dX9_meets_17 rfl ?_
      refine pv_getR C (ci := 8) (k := 1) gwX9 rfl (Nat.le_of_ble_eq_true rfl) fl_X9_9 rfl rfl rfl (j := 14) rfl rfl dX9_meets_18 ?_
      refine pv_iload_n C 1 dX9_meets_21 rfl ?_
      refine pv_iload_n C 2 dX9_meets_22 rfl ?_
      refine pv_iast C hp rfl rfl rfl (fun _ => rfl) dX9_meets_23 (fun V hp => ?_)
      refine pv_sub [0, 1, 2] rfl ?_
      exact w_X9_meets_b24 C hr hp
  · refine pv_iconst C hp dX9_meets_5 (by decide) (fun v6 hp => ?_)
    exact pv_zret C rfl hp hr dX9_meets_6
def q_X9_goesOn_b120 (N : Nat) (x2 : Int) (x3 : Int) (x4 : Int) (x8 : Int) (V : pvM) : Option pvO :=
  lI (8) fun v1 =>
  if x4 = v1 then
    lI (1) fun v2 =>
    bT v2 (rT V v2)
  else
  lI (1) fun v3 =>
  lI (pv_w (x2 + v3)) fun v4 =>
  cL (q_X9_meets N v4 x8 x3 V) fun v5 V =>
  if v5 = 0 then
    lI (0) fun v6 =>
    bT v6 (rT V v6)
  else
  lI (1) fun v7 =>
  bT v7 (rT V v7)
set_option maxHeartbeats 4000000 in
set_option maxRecDepth 100000 in
theorem w_X9_goesOn_b120 {p : Program} {l : Launch} {e : Env} {s : State} {m : MethodId} {args : Array Value} {below : List Frame} {meth : Method} {c : Code} {D : va_G} {cy : Nat → ClassId} {A : Nat → Prop} {n0 : Nat} {ad0 : Nat → Nat} {V0 : pvM} {q : pvO} (C : pz_C p s m args meth c cX9_goesOn 9 yX9_goesOn.cls D cy A) (hr : meth.sig.returnType = (some .boolean)) {N : Nat} {x2 : Int32} {x3 : Int32} {x4 : Int32} {x8 : Int32} {σ : pzS} {V : pvM} (hp : q_X9_goesOn_b120 N x2.toInt x3.toInt x4.toInt x8.toInt V = some q) : pv_W p l e 2 44 s m args below meth c 9 D cy A n0 ad0 (pv_Q below D cy n0 ad0 1 V0 q A args s) V0 σ V 120 [(0, .ref 13), (2, .int x2), (3, .int x3), (4, .int x4), (8, .int x8)] [] := by
  unfold q_X9_goesOn_b120 at hp
  refine pv_iload C 3 dX9_goesOn_120 rfl ?_
  refine pv_bipush C hp dX9_goesOn_122 (by decide) (fun v1 hp => ?_)
  refine pv_icmp_eq (tgt := 140) C hp dX9_goesOn_124 (by decide) (fun hp => ?_) (fun hp => ?_)
  · refine pv_iconst C hp dX9_goesOn_140 (by decide) (fun v2 hp => ?_)
    refine pv_goto (tgt := 145) C dX9_goesOn_141 (by decide) ?_
    exact pv_zret C rfl hp hr dX9_goesOn_145
  · refine pv_aload_n C 0 dX9_goesOn_127 rfl ?_
    refine pv_iload_n C 1 dX9_goesOn_128 rfl ?_
    refine pv_iconst C hp dX9_goesOn_129 (by decide) (fun v3 hp => ?_)
    refine pv_iadd C hp dX9_goesOn_130 (fun v4 hp => ?_)
    refine pv_iload C 4 dX9_goesOn_131 rfl ?_
    refine pv_iload_n C 2 dX9_goesOn_133 rfl ?_
    refine pv_callV C (As := [.int v4, .int x8, .int x3]) (rest := []) (b := 13) (kd1 := 1) hp (fun q1 h9 => c_X9_meets l D cy h9) wB_yX9_meets ml_X9_60 im_yX9_meets se_yX9_meets (ci := 8) rfl rfl rfl rfl rfl (Nat.le_of_ble_eq_true rfl) ⟨(Nat.le_of_ble_eq_true rfl), (Nat.le_of_ble_eq_true rfl)⟩ dX9_goesOn_134 rfl rfl (fun v5 σ V hp => ?_)
    refine pv_if_eq (tgt := 144) C hp dX9_goesOn_137 (by decide) (fun hp => ?_) (fun hp => ?_)
    · refine pv_iconst C hp dX9_goesOn_144 (by decide) (fun v6 hp => ?_)
      exact pv_zret C rfl hp hr dX9_goesOn_145
    · refine pv_iconst C hp dX9_goesOn_140 (by decide) (fun v7 hp => ?_)
      refine pv_goto (tgt := 145) C dX9_goesOn_141 (by decide) ?_
      exact pv_zret C rfl hp hr dX9_goesOn_145
def q_X9_goesOn_b106 (N : Nat) (x2 : Int) (x3 : Int) (x4 : Int) (x5 : Int) (x8 : Int) (V : pvM) : Option pvO :=
  cL (q_X9_meets N x5 x8 x3 V) fun v8 V =>
  if v8 ≠ 0 then
    q_X9_goesOn_b120 N x2 x3 x4 x8 V
  else
  lI (0) fun v9 =>
  bT v9 (rT V v9)
set_option maxHeartbeats 4000000 in
set_option maxRecDepth 100000 in
theorem w_X9_goesOn_b106 {p : Program} {l : Launch} {e : Env} {s : State} {m : MethodId} {args : Array Value} {below : List Frame} {meth : Method} {c : Code} {D : va_G} {cy : Nat → ClassId} {A : Nat → Prop} {n0 : Nat} {ad0 : Nat → Nat} {V0 : pvM} {q : pvO} (C : pz_C p s m args meth c cX9_goesOn 9 yX9_goesOn.cls D cy A) (hr : meth.sig.returnType = (some .boolean)) {N : Nat} {x2 : Int32} {x3 : Int32} {x4 : Int32} {x5 : Int32} {x8 : Int32} {σ : pzS} {V : pvM} (hp : q_X9_goesOn_b106 N x2.toInt x3.toInt x4.toInt x5.toInt x8.toInt V = some q) : pv_W p l e 2 44 s m args below meth c 9 D cy A n0 ad0 (pv_Q below D cy n0 ad0 1 V0 q A args s) V0 σ V 106 [(0, .ref 13), (2, .int x2), (3, .int x3), (4, .int x4), (5, .int x5), (8, .int x8)] [] := by
  unfold q_X9_goesOn_b106 at hp
  refine pv_aload_n C 0 dX9_goesOn_106 rfl ?_
  refine pv_iload C 4 dX9_goesOn_107 rfl ?_
  refine pv_iload C 5 dX9_goesOn_109 rfl ?_
  refine pv_iload_n C 2 dX9_goesOn_111 rfl ?_
  refine pv_callV C (As := [.int x5, .int x8, .int x3]) (rest := []) (b := 13) (kd1 := 1) hp (fun q1 h9 => c_X9_meets l D cy h9) wB_yX9_meets ml_X9_60 im_yX9_meets se_yX9_meets (ci := 8) rfl rfl rfl rfl rfl (Nat.le_of_ble_eq_true rfl) ⟨(Nat.le_of_ble_eq_true rfl), (Nat.le_of_ble_eq_true rfl)⟩ dX9_goesOn_112 rfl rfl (fun v8 σ V hp => ?_)
  refine pv_if_ne (tgt := 120) C hp dX9_goesOn_115 (by decide) (fun hp => ?_) (fun hp => ?_)
  · refine pv_sub [0, 1, 2, 3, 5] rfl ?_
    exact w_X9_goesOn_b120 C hr hp
  · refine pv_iconst C hp dX9_goesOn_118 (by decide) (fun v9 hp => ?_)
    exact pv_zret C rfl hp hr dX9_goesOn_119
def q_X9_goesOn (N : Nat) (x1 : Int) (x2 : Int) (x3 : Int) (V : pvM) : Option pvO :=
  cL (q_X6_wordAt N x1 x2 V) fun v10 V =>
  cL (q_X6_firstNumberAt N x1 x2 V) fun v11 V =>
  cL (q_X6_secondNumberAt N x1 x2 V) fun v12 V =>
  aR V 14 40 x2 fun v13 =>
  cL (q_X6_popsOf N v10 v11 v12 V) fun v14 V =>
  lI (pv_w (v13 - v14)) fun v15 =>
  cL (q_X6_pushesOf N v10 V) fun v16 V =>
  lI (pv_w (v15 + v16)) fun v17 =>
  if v15 < 0 then
    lI (0) fun v18 =>
    bT v18 (rT V v18)
  else
  lI (12) fun v19 =>
  if v17 ≤ v19 then
    lI (11) fun v20 =>
    if v10 ≠ v20 then
      lI (8) fun v21 =>
      if v10 = v21 then
        q_X9_goesOn_b106 N x2 x3 v10 v11 v17 V
      else
      lI (9) fun v22 =>
      if v10 ≠ v22 then
        q_X9_goesOn_b120 N x2 x3 v10 v17 V
      else
      q_X9_goesOn_b106 N x2 x3 v10 v11 v17 V
    else
    lI (1) fun v23 =>
    bT v23 (rT V v23)
  else
  lI (0) fun v24 =>
  bT v24 (rT V v24)
set_option maxHeartbeats 4000000 in
set_option maxRecDepth 100000 in
theorem c_X9_goesOn (l : Launch) (D : va_G) (cy : Nat → ClassId) {N : Nat} {x1 : Int32} {x2 : Int32} {x3 : Int32} {V : pvM} {q : pvO} (hp : q_X9_goesOn N x1.toInt x2.toInt x3.toInt V = some q) : pv_Met l yX9_goesOn cX9_goesOn 9 (some .boolean) 2 44 D cy V [.ref 13, .int x1, .int x2, .int x3] 1 q := by
  unfold q_X9_goesOn at hp
  refine pv_ofW (by decide) (Nat.le_of_ble_eq_true rfl) (fun p e s m args below meth c ad A n0 σ C hr => ?_)
  refine pv_aload_n C 0 dX9_goesOn_0 rfl ?_
  refine pv_getR C (ci := 8) (k := 0) gwX9 rfl (Nat.le_of_ble_eq_true rfl) fl_X9_19 rfl rfl rfl (j := 1) rfl rfl dX9_goesOn_1 ?_
  refine pv_iload_n C 1 dX9_goesOn_4 rfl ?_
  refine pv_iload_n C 2 dX9_goesOn_5 rfl ?_
  refine pv_callV C (As := [.int x1, .int x2]) (rest := []) (b := 1) (kd1 := 1) hp (fun q1 h9 => c_X6_wordAt l D cy h9) wB_yX6_wordAt ml_X9_44 im_yX6_wordAt se_yX6_wordAt (ci := 5) rfl rfl rfl rfl rfl (Nat.le_of_ble_eq_true rfl) ⟨(Nat.le_of_ble_eq_true rfl), (Nat.le_of_ble_eq_true rfl)⟩ dX9_goesOn_6 rfl rfl (fun v10 σ V hp => ?_)
  refine pv_istore (loc' := [(4, .int v10), (0, .ref 13), (1, .int x1), (2, .int x2), (3, .int x3)]) C dX9_goesOn_9 (by decide) rfl ?_
  refine pv_aload_n C 1 dX9_goesOn_11 rfl ?_
  refine pv_getR C (ci := 8) (k := 0) gwX9 rfl (Nat.le_of_ble_eq_true rfl) fl_X9_19 rfl rfl rfl (j := 1) rfl rfl dX9_goesOn_12 ?_
  refine pv_iload_n C 2 dX9_goesOn_15 rfl ?_
  refine pv_iload_n C 3 dX9_goesOn_16 rfl ?_
  refine pv_callV C (As := [.int x1, .int x2]) (rest := []) (b := 1) (kd1 := 1) hp (fun q1 h9 => c_X6_firstNumberAt l D cy h9) wB_yX6_firstNumberAt ml_X9_47 im_yX6_firstNumberAt se_yX6_firstNumberAt (ci := 5) rfl rfl rfl rfl rfl (Nat.le_of_ble_eq_true rfl) ⟨(Nat.le_of_ble_eq_true rfl), (Nat.le_of_ble_eq_true rfl)⟩ dX9_goesOn_17 rfl rfl (fun v11 σ V hp => ?_)
  refine pv_istore (loc' := [(5, .int v11), (4, .int v10), (0, .ref 13), (1, .int x1), (2, .int x2), (3, .int x3)]) C dX9_goesOn_20 (by decide) rfl ?_
  refine pv_aload_n C 2 dX9_goesOn_22 rfl ?_
  refine pv_getR C (ci := 8) (k := 0) gwX9 rfl (Nat.le_of_ble_eq_true rfl) fl_X9_19 rfl rfl rfl (j := 1) rfl rfl dX9_goesOn_23 ?_
  refine pv_iload_n C 3 dX9_goesOn_26 rfl ?_
  refine pv_iload_n C 4 dX9_goesOn_27 rfl ?_
  refine pv_callV C (As := [.int x1, .int x2]) (rest := []) (b := 1) (kd1 := 1) hp (fun q1 h9 => c_X6_secondNumberAt l D cy h9) wB_yX6_secondNumberAt ml_X9_50 im_yX6_secondNumberAt se_yX6_secondNumberAt (ci := 5) rfl rfl rfl rfl rfl (Nat.le_of_ble_eq_true rfl) ⟨(Nat.le_of_ble_eq_true rfl), (Nat.le_of_ble_eq_true rfl)⟩ dX9_goesOn_28 rfl rfl (fun v12 σ V hp => ?_)
  refine pv_istore (loc' := [(6, .int v12), (5, .int v11), (4, .int v10), (0, .ref 13), (1, .int x1), (2, .int x2), (3, .int x3)]) C dX9_goesOn_31 (by decide) rfl ?_
  refine pv_aload_n C 3 dX9_goesOn_33 rfl ?_
  refine pv_getR C (ci := 8) (k := 1) gwX9 rfl (Nat.le_of_ble_eq_true rfl) fl_X9_9 rfl rfl rfl (j := 14) rfl rfl dX9_goesOn_34 ?_
  refine pv_iload_n C 5 dX9_goesOn_37 rfl ?_
  refine pv_iald C hp rfl rfl rfl (fun _ => rfl) dX9_goesOn_38 (fun v13 hp => ?_)
  refine pv_aload_n C 3 dX9_goesOn_39 rfl ?_
  refine pv_getR C (ci := 8) (k := 0) gwX9 rfl (Nat.le_of_ble_eq_true rfl) fl_X9_19 rfl rfl rfl (j := 1) rfl rfl dX9_goesOn_40 ?_
  refine pv_iload C 2 dX9_goesOn_43 rfl ?_
  refine pv_iload C 1 dX9_goesOn_45 rfl ?_
  refine pv_iload C 0 dX9_goesOn_47 rfl ?_
  refine pv_callV C (As := [.int v10, .int v11, .int v12]) (rest := [.int v13]) (b := 1) (kd1 := 1) hp (fun q1 h9 => c_X6_popsOf l D cy h9) wB_yX6_popsOf ml_X9_53 im_yX6_popsOf se_yX6_popsOf (ci := 5) rfl rfl rfl rfl rfl (Nat.le_of_ble_eq_true rfl) ⟨(Nat.le_of_ble_eq_true rfl), (Nat.le_of_ble_eq_true rfl)⟩ dX9_goesOn_49 rfl rfl (fun v14 σ V hp => ?_)
  refine pv_isub C hp dX9_goesOn_52 (fun v15 hp => ?_)
  refine pv_istore (loc' := [(7, .int v15), (6, .int v12), (5, .int v11), (4, .int v10), (0, .ref 13), (1, .int x1), (2, .int x2), (3, .int x3)]) C dX9_goesOn_53 (by decide) rfl ?_
  refine pv_iload C 0 dX9_goesOn_55 rfl ?_
  refine pv_aload_n C 4 dX9_goesOn_57 rfl ?_
  refine pv_getR C (ci := 8) (k := 0) gwX9 rfl (Nat.le_of_ble_eq_true rfl) fl_X9_19 rfl rfl rfl (j := 1) rfl rfl dX9_goesOn_58 ?_
  refine pv_iload C 3 dX9_goesOn_61 rfl ?_
  refine pv_callV C (As := [.int v10]) (rest := [.int v15]) (b := 1) (kd1 := 1) hp (fun q1 h9 => c_X6_pushesOf l D cy h9) wB_yX6_pushesOf ml_X9_57 im_yX6_pushesOf se_yX6_pushesOf (ci := 5) rfl rfl rfl rfl rfl (Nat.le_of_ble_eq_true rfl) ⟨(Nat.le_of_ble_eq_true rfl), (Nat.le_of_ble_eq_true rfl)⟩ dX9_goesOn_63 rfl rfl (fun v16 σ V hp => ?_)
  refine pv_iadd C hp dX9_goesOn_66 (fun v17 hp => ?_)
  refine pv_istore (loc' := [(8, .int v17), (7, .int v15), (6, .int v12), (5, .int v11), (4, .int v10), (0, .ref 13), (1, .int x1), (2, .int x2), (3, .int x3)]) C dX9_goesOn_67 (by decide) rfl ?_
  refine pv_iload C 1 dX9_goesOn_69 rfl ?_
  refine pv_if_lt (tgt := 81) C hp dX9_goesOn_71 (by decide) (fun hp => ?_) (fun hp => ?_)
  · refine pv_iconst C hp dX9_goesOn_81 (by decide) (fun v18 hp => ?_)
    exact pv_zret C rfl hp hr dX9_goesOn_82
  · refine pv_iload C 0 dX9_goesOn_74 rfl ?_
    refine pv_bipush C hp dX9_goesOn_76 (by decide) (fun v19 hp => ?_)
    refine pv_icmp_le (tgt := 83) C hp dX9_goesOn_78 (by decide) (fun hp => ?_) (fun hp => ?_)
    · refine pv_iload C 4 dX9_goesOn_83 rfl ?_
      refine pv_bipush C hp dX9_goesOn_85 (by decide) (fun v20 hp => ?_)
      refine pv_icmp_ne (tgt := 92) C hp dX9_goesOn_87 (by decide) (fun hp => ?_) (fun hp => ?_)
      · refine pv_iload C 4 dX9_goesOn_92 rfl ?_
        refine pv_bipush C hp dX9_goesOn_94 (by decide) (fun v21 hp => ?_)
        refine pv_icmp_eq (tgt := 106) C hp dX9_goesOn_96 (by decide) (fun hp => ?_) (fun hp => ?_)
        · refine pv_sub [5, 7, 8, 4, 3, 0] rfl ?_
          exact w_X9_goesOn_b106 C hr hp
        · refine pv_iload C 4 dX9_goesOn_99 rfl ?_
          refine pv_bipush C hp dX9_goesOn_101 (by decide) (fun v22 hp => ?_)
          refine pv_icmp_ne (tgt := 120) C hp dX9_goesOn_103 (by decide) (fun hp => ?_) (fun hp => ?_)
          · refine pv_sub [5, 7, 8, 4, 0] rfl ?_
            exact w_X9_goesOn_b120 C hr hp
          · refine pv_sub [5, 7, 8, 4, 3, 0] rfl ?_
            exact w_X9_goesOn_b106 C hr hp
      · refine pv_iconst C hp dX9_goesOn_90 (by decide) (fun v23 hp => ?_)
        exact pv_zret C rfl hp hr dX9_goesOn_91
    · refine pv_iconst C hp dX9_goesOn_81 (by decide) (fun v24 hp => ?_)
      exact pv_zret C rfl hp hr dX9_goesOn_82
def q_X9_wrongOnWays_b36 (N : Nat) : Nat → Int → Int → Int → pvM → Option pvO
  | 0 => fun _ _ _ _ => none
  | n + 1 => fun x1 x2 x3 V =>
    if x2 ≤ x3 then
      lI (-1) fun v1 =>
      rT V v1
    else
    cL (q_X9_leastWaiting N x2 V) fun v2 V =>
    lI (-1) fun v3 =>
    if v2 ≠ v3 then
      lI (1) fun v4 =>
      bT v4 <| aW V 15 40 v2 v4 fun V =>
      cL (q_X9_goesOn N x1 v2 x2 V) fun v5 V =>
      if v5 ≠ 0 then
        lI (pv_w (x3 + (1))) fun v6 =>
        q_X9_wrongOnWays_b36 N n x1 x2 v6 V
      else
      rT V v2
    else
    lI (-1) fun v7 =>
    rT V v7
set_option maxHeartbeats 4000000 in
set_option maxRecDepth 100000 in
theorem w_X9_wrongOnWays_b36 {p : Program} {l : Launch} {e : Env} {s : State} {m : MethodId} {args : Array Value} {below : List Frame} {meth : Method} {c : Code} {D : va_G} {cy : Nat → ClassId} {A : Nat → Prop} {n0 : Nat} {ad0 : Nat → Nat} {V0 : pvM} {q : pvO} (C : pz_C p s m args meth c cX9_wrongOnWays 5 yX9_wrongOnWays.cls D cy A) (hr : meth.sig.returnType = (some .int)) {N : Nat} : ∀ (n : Nat) (x1 : Int32) (x2 : Int32) (x3 : Int32) (σ : pzS) (V : pvM), q_X9_wrongOnWays_b36 N n x1.toInt x2.toInt x3.toInt V = some q → pv_W p l e 3 72 s m args below meth c 5 D cy A n0 ad0 (pv_Q below D cy n0 ad0 1 V0 q A args s) V0 σ V 36 [(0, .ref 13), (1, .int x1), (2, .int x2), (3, .int x3)] [] := by
  intro n
  induction n with
  | zero =>
    intro x1 x2 x3 σ V hp
    simp only [q_X9_wrongOnWays_b36] at hp
    cases hp
  | succ n ih =>
    intro x1 x2 x3 σ V hp
    simp only [q_X9_wrongOnWays_b36] at hp
    refine pv_iload_n C 3 dX9_wrongOnWays_36 rfl ?_
    refine pv_iload_n C 2 dX9_wrongOnWays_37 rfl ?_
    refine pv_icmp_ge (tgt := 84) C hp dX9_wrongOnWays_38 (by decide) (fun hp => ?_) (fun hp => ?_)
    · refine pv_iconst C hp dX9_wrongOnWays_84 (by decide) (fun v1 hp => ?_)
      exact pv_iret C rfl hp hr dX9_wrongOnWays_85
    · refine pv_aload_n C 0 dX9_wrongOnWays_41 rfl ?_
      refine pv_iload_n C 2 dX9_wrongOnWays_42 rfl ?_
      refine pv_callV C (As := [.int x2]) (rest := []) (b := 13) (kd1 := 1) hp (fun q1 h9 => c_X9_leastWaiting l D cy h9) wB_yX9_leastWaiting ml_X9_37 im_yX9_leastWaiting se_yX9_leastWaiting (ci := 8) rfl rfl rfl rfl rfl (Nat.le_of_ble_eq_true rfl) ⟨(Nat.le_of_ble_eq_true rfl), (Nat.le_of_ble_eq_true rfl)⟩ dX9_wrongOnWays_43 rfl rfl (fun v2 σ V hp => ?_)
      refine pv_istore (loc' := [(4, .int v2), (0, .ref 13), (1, .int x1), (2, .int x2), (3, .int x3)]) C dX9_wrongOnWays_46 (by decide) rfl ?_
      refine pv_iload C 0 dX9_wrongOnWays_48 rfl ?_
      refine pv_iconst C hp dX9_wrongOnWays_50 (by decide) (fun v3 hp => ?_)
      refine pv_icmp_ne (tgt := 56) C hp dX9_wrongOnWays_51 (by decide) (fun hp => ?_) (fun hp => ?_)
      · refine pv_aload_n C 1 dX9_wrongOnWays_56 rfl ?_
        refine pv_getR C (ci := 8) (k := 2) gwX9 rfl (Nat.le_of_ble_eq_true rfl) fl_X9_15 rfl rfl rfl (j := 15) rfl rfl dX9_wrongOnWays_57 ?_
        refine pv_iload C 0 dX9_wrongOnWays_60 rfl ?_
        refine pv_iconst C hp dX9_wrongOnWays_62 (by decide) (fun v4 hp => ?_)
        refine pv_zast C hp rfl rfl rfl (fun _ => rfl) dX9_wrongOnWays_63 (fun V hp => ?_)
        refine pv_aload_n C 1 dX9_wrongOnWays_64 rfl ?_
        refine pv_iload_n C 2 dX9_wrongOnWays_65 rfl ?_
        refine pv_iload C 0 dX9_wrongOnWays_66 rfl ?_
        refine pv_iload_n C 3 dX9_wrongOnWays_68 rfl ?_
        refine pv_callV C (As := [.int x1, .int v2, .int x2]) (rest := []) (b := 13) (kd1 := 1) hp (fun q1 h9 => c_X9_goesOn l D cy h9) wB_yX9_goesOn ml_X9_40 im_yX9_goesOn se_yX9_goesOn (ci := 8) rfl rfl rfl rfl rfl (Nat.le_of_ble_eq_true rfl) ⟨(Nat.le_of_ble_eq_true rfl), (Nat.le_of_ble_eq_true rfl)⟩ dX9_wrongOnWays_69 rfl rfl (fun v5 σ V hp => ?_)
        refine pv_if_ne (tgt := 78) C hp dX9_wrongOnWays_72 (by decide) (fun hp => ?_) (fun hp => ?_)
        · refine pv_iinc (L := fun v6 => [(3, .int v6), (4, .int v2), (0, .ref 13), (1, .int x1), (2, .int x2)]) C 4 hp dX9_wrongOnWays_78 (by decide) rfl (by decide) (fun _ => rfl) (fun v6 hp => ?_)
          refine pv_goto (tgt := 36) C dX9_wrongOnWays_81 (by decide) ?_
          refine pv_sub [2, 3, 4, 0] rfl ?_
          exact ih _ _ _ _ _ hp
        · refine pv_iload C 0 dX9_wrongOnWays_75 rfl ?_
          exact pv_iret C rfl hp hr dX9_wrongOnWays_77
      · refine pv_iconst C hp dX9_wrongOnWays_54 (by decide) (fun v7 hp => ?_)
        exact pv_iret C rfl hp hr dX9_wrongOnWays_55
def q_X9_wrongOnWays_b2 (N : Nat) : Nat → Int → Int → Int → pvM → Option pvO
  | 0 => fun _ _ _ _ => none
  | n + 1 => fun x1 x2 x3 V =>
    if x2 ≤ x3 then
      lI (0) fun v8 =>
      lI (0) fun v9 =>
      aW V 14 40 v8 v9 fun V =>
      lI (0) fun v10 =>
      q_X9_wrongOnWays_b36 N N x1 x2 v10 V
    else
    lI (-1) fun v11 =>
    aW V 14 40 x3 v11 fun V =>
    lI (0) fun v12 =>
    bT v12 <| aW V 15 40 x3 v12 fun V =>
    lI (pv_w (x3 + (1))) fun v13 =>
    q_X9_wrongOnWays_b2 N n x1 x2 v13 V
set_option maxHeartbeats 4000000 in
set_option maxRecDepth 100000 in
theorem w_X9_wrongOnWays_b2 {p : Program} {l : Launch} {e : Env} {s : State} {m : MethodId} {args : Array Value} {below : List Frame} {meth : Method} {c : Code} {D : va_G} {cy : Nat → ClassId} {A : Nat → Prop} {n0 : Nat} {ad0 : Nat → Nat} {V0 : pvM} {q : pvO} (C : pz_C p s m args meth c cX9_wrongOnWays 5 yX9_wrongOnWays.cls D cy A) (hr : meth.sig.returnType = (some .int)) {N : Nat} : ∀ (n : Nat) (x1 : Int32) (x2 : Int32) (x3 : Int32) (σ : pzS) (V : pvM), q_X9_wrongOnWays_b2 N n x1.toInt x2.toInt x3.toInt V = some q → pv_W p l e 3 72 s m args below meth c 5 D cy A n0 ad0 (pv_Q below D cy n0 ad0 1 V0 q A args s) V0 σ V 2 [(0, .ref 13), (1, .int x1), (2, .int x2), (3, .int x3)] [] := by
  intro n
  induction n with
  | zero =>
    intro x1 x2 x3 σ V hp
    simp only [q_X9_wrongOnWays_b2] at hp
    cases hp
  | succ n ih =>
    intro x1 x2 x3 σ V hp
    simp only [q_X9_wrongOnWays_b2] at hp
    refine pv_iload_n C 3 dX9_wrongOnWays_2 rfl ?_
    refine pv_iload_n C 2 dX9_wrongOnWays_3 rfl ?_
    refine pv_icmp_ge (tgt := 27) C hp dX9_wrongOnWays_4 (by decide) (fun hp => ?_) (fun hp => ?_)
    · refine pv_aload_n C 0 dX9_wrongOnWays_27 rfl ?_
      refine pv_getR C (ci := 8) (k := 1) gwX9 rfl (Nat.le_of_ble_eq_true rfl) fl_X9_9 rfl rfl rfl (j := 14) rfl rfl dX9_wrongOnWays_28 ?_
      refine pv_iconst C hp dX9_wrongOnWays_31 (by decide) (fun v8 hp => ?_)
      refine pv_iconst C hp dX9_wrongOnWays_32 (by decide) (fun v9 hp => ?_)
      refine pv_iast C hp rfl rfl rfl (fun _ => rfl) dX9_wrongOnWays_33 (fun V hp => ?_)
      refine pv_iconst C hp dX9_wrongOnWays_34 (by decide) (fun v10 hp => ?_)
      refine pv_istore_n (loc' := [(3, .int v10), (0, .ref 13), (1, .int x1), (2, .int x2)]) C dX9_wrongOnWays_35 (by decide) rfl ?_
      refine pv_sub [1, 2, 3, 0] rfl ?_
      exact w_X9_wrongOnWays_b36 C hr N _ _ _ _ _ hp
    · refine pv_aload_n C 0 dX9_wrongOnWays_7 rfl ?_
      refine pv_getR C (ci := 8) (k := 1) gwX9 rfl (Nat.le_of_ble_eq_true rfl) fl_X9_9 rfl rfl rfl (j := 14) rfl rfl dX9_wrongOnWays_8 ?_
      refine pv_iload_n C 3 dX9_wrongOnWays_11 rfl ?_
      refine pv_iconst C hp dX9_wrongOnWays_12 (by decide) (fun v11 hp => ?_)
      refine pv_iast C hp rfl rfl rfl (fun _ => rfl) dX9_wrongOnWays_13 (fun V hp => ?_)
      refine pv_aload_n C 0 dX9_wrongOnWays_14 rfl ?_
      refine pv_getR C (ci := 8) (k := 2) gwX9 rfl (Nat.le_of_ble_eq_true rfl) fl_X9_15 rfl rfl rfl (j := 15) rfl rfl dX9_wrongOnWays_15 ?_
      refine pv_iload_n C 3 dX9_wrongOnWays_18 rfl ?_
      refine pv_iconst C hp dX9_wrongOnWays_19 (by decide) (fun v12 hp => ?_)
      refine pv_zast C hp rfl rfl rfl (fun _ => rfl) dX9_wrongOnWays_20 (fun V hp => ?_)
      refine pv_iinc (L := fun v13 => [(3, .int v13), (0, .ref 13), (1, .int x1), (2, .int x2)]) C 3 hp dX9_wrongOnWays_21 (by decide) rfl (by decide) (fun _ => rfl) (fun v13 hp => ?_)
      refine pv_goto (tgt := 2) C dX9_wrongOnWays_24 (by decide) ?_
      refine pv_sub [1, 2, 3, 0] rfl ?_
      exact ih _ _ _ _ _ hp
def q_X9_wrongOnWays (N : Nat) (x1 : Int) (x2 : Int) (V : pvM) : Option pvO :=
  lI (0) fun v14 =>
  q_X9_wrongOnWays_b2 N N x1 x2 v14 V
set_option maxHeartbeats 4000000 in
set_option maxRecDepth 100000 in
theorem c_X9_wrongOnWays (l : Launch) (D : va_G) (cy : Nat → ClassId) {N : Nat} {x1 : Int32} {x2 : Int32} {V : pvM} {q : pvO} (hp : q_X9_wrongOnWays N x1.toInt x2.toInt V = some q) : pv_Met l yX9_wrongOnWays cX9_wrongOnWays 5 (some .int) 3 72 D cy V [.ref 13, .int x1, .int x2] 1 q := by
  unfold q_X9_wrongOnWays at hp
  refine pv_ofW (by decide) (Nat.le_of_ble_eq_true rfl) (fun p e s m args below meth c ad A n0 σ C hr => ?_)
  refine pv_iconst C hp dX9_wrongOnWays_0 (by decide) (fun v14 hp => ?_)
  refine pv_istore_n (loc' := [(3, .int v14), (0, .ref 13), (1, .int x1), (2, .int x2)]) C dX9_wrongOnWays_1 (by decide) rfl ?_
  refine pv_sub [1, 2, 3, 0] rfl ?_
  exact w_X9_wrongOnWays_b2 C hr N _ _ _ _ _ hp
def q_X9_wrongPlace_b17 (N : Nat) : Nat → Int → Int → Int → pvM → Option pvO
  | 0 => fun _ _ _ _ => none
  | n + 1 => fun x1 x2 x3 V =>
    if x2 ≤ x3 then
      cL (q_X9_wrongOnWays N x1 x2 V) fun v1 V =>
      rT V v1
    else
    cL (q_X6_hasNumbersInBounds N x1 x3 V) fun v2 V =>
    if v2 ≠ 0 then
      lI (pv_w (x3 + (1))) fun v3 =>
      q_X9_wrongPlace_b17 N n x1 x2 v3 V
    else
    rT V x3
set_option maxHeartbeats 4000000 in
set_option maxRecDepth 100000 in
theorem w_X9_wrongPlace_b17 {p : Program} {l : Launch} {e : Env} {s : State} {m : MethodId} {args : Array Value} {below : List Frame} {meth : Method} {c : Code} {D : va_G} {cy : Nat → ClassId} {A : Nat → Prop} {n0 : Nat} {ad0 : Nat → Nat} {V0 : pvM} {q : pvO} (C : pz_C p s m args meth c cX9_wrongPlace 4 yX9_wrongPlace.cls D cy A) (hr : meth.sig.returnType = (some .int)) {N : Nat} : ∀ (n : Nat) (x1 : Int32) (x2 : Int32) (x3 : Int32) (σ : pzS) (V : pvM), q_X9_wrongPlace_b17 N n x1.toInt x2.toInt x3.toInt V = some q → pv_W p l e 4 96 s m args below meth c 4 D cy A n0 ad0 (pv_Q below D cy n0 ad0 1 V0 q A args s) V0 σ V 17 [(0, .ref 13), (1, .int x1), (2, .int x2), (3, .int x3)] [] := by
  intro n
  induction n with
  | zero =>
    intro x1 x2 x3 σ V hp
    simp only [q_X9_wrongPlace_b17] at hp
    cases hp
  | succ n ih =>
    intro x1 x2 x3 σ V hp
    simp only [q_X9_wrongPlace_b17] at hp
    refine pv_iload_n C 3 dX9_wrongPlace_17 rfl ?_
    refine pv_iload_n C 2 dX9_wrongPlace_18 rfl ?_
    refine pv_icmp_ge (tgt := 42) C hp dX9_wrongPlace_19 (by decide) (fun hp => ?_) (fun hp => ?_)
    · refine pv_aload_n C 0 dX9_wrongPlace_42 rfl ?_
      refine pv_iload_n C 1 dX9_wrongPlace_43 rfl ?_
      refine pv_iload_n C 2 dX9_wrongPlace_44 rfl ?_
      refine pv_callV C (As := [.int x1, .int x2]) (rest := []) (b := 13) (kd1 := 1) hp (fun q1 h9 => c_X9_wrongOnWays l D cy h9) wB_yX9_wrongOnWays ml_X9_33 im_yX9_wrongOnWays se_yX9_wrongOnWays (ci := 8) rfl rfl rfl rfl rfl (Nat.le_of_ble_eq_true rfl) ⟨(Nat.le_of_ble_eq_true rfl), (Nat.le_of_ble_eq_true rfl)⟩ dX9_wrongPlace_45 rfl rfl (fun v1 σ V hp => ?_)
      exact pv_iret C rfl hp hr dX9_wrongPlace_48
    · refine pv_aload_n C 0 dX9_wrongPlace_22 rfl ?_
      refine pv_getR C (ci := 8) (k := 0) gwX9 rfl (Nat.le_of_ble_eq_true rfl) fl_X9_19 rfl rfl rfl (j := 1) rfl rfl dX9_wrongPlace_23 ?_
      refine pv_iload_n C 1 dX9_wrongPlace_26 rfl ?_
      refine pv_iload_n C 3 dX9_wrongPlace_27 rfl ?_
      refine pv_callV C (As := [.int x1, .int x3]) (rest := []) (b := 1) (kd1 := 1) hp (fun q1 h9 => c_X6_hasNumbersInBounds l D cy h9) wB_yX6_hasNumbersInBounds ml_X9_29 im_yX6_hasNumbersInBounds se_yX6_hasNumbersInBounds (ci := 5) rfl rfl rfl rfl rfl (Nat.le_of_ble_eq_true rfl) ⟨(Nat.le_of_ble_eq_true rfl), (Nat.le_of_ble_eq_true rfl)⟩ dX9_wrongPlace_28 rfl rfl (fun v2 σ V hp => ?_)
      refine pv_if_ne (tgt := 36) C hp dX9_wrongPlace_31 (by decide) (fun hp => ?_) (fun hp => ?_)
      · refine pv_iinc (L := fun v3 => [(3, .int v3), (0, .ref 13), (1, .int x1), (2, .int x2)]) C 3 hp dX9_wrongPlace_36 (by decide) rfl (by decide) (fun _ => rfl) (fun v3 hp => ?_)
        refine pv_goto (tgt := 17) C dX9_wrongPlace_39 (by decide) ?_
        refine pv_sub [1, 2, 3, 0] rfl ?_
        exact ih _ _ _ _ _ hp
      · refine pv_iload_n C 3 dX9_wrongPlace_34 rfl ?_
        exact pv_iret C rfl hp hr dX9_wrongPlace_35
def q_X9_wrongPlace (N : Nat) (x1 : Int) (V : pvM) : Option pvO :=
  cL (q_X6_lengthOf N x1 V) fun v4 V =>
  if v4 ≠ 0 then
    lI (0) fun v5 =>
    q_X9_wrongPlace_b17 N N x1 v4 v5 V
  else
  lI (0) fun v6 =>
  rT V v6
set_option maxHeartbeats 4000000 in
set_option maxRecDepth 100000 in
theorem c_X9_wrongPlace (l : Launch) (D : va_G) (cy : Nat → ClassId) {N : Nat} {x1 : Int32} {V : pvM} {q : pvO} (hp : q_X9_wrongPlace N x1.toInt V = some q) : pv_Met l yX9_wrongPlace cX9_wrongPlace 4 (some .int) 4 96 D cy V [.ref 13, .int x1] 1 q := by
  unfold q_X9_wrongPlace at hp
  refine pv_ofW (by decide) (Nat.le_of_ble_eq_true rfl) (fun p e s m args below meth c ad A n0 σ C hr => ?_)
  refine pv_aload_n C 0 dX9_wrongPlace_0 rfl ?_
  refine pv_getR C (ci := 8) (k := 0) gwX9 rfl (Nat.le_of_ble_eq_true rfl) fl_X9_19 rfl rfl rfl (j := 1) rfl rfl dX9_wrongPlace_1 ?_
  refine pv_iload_n C 1 dX9_wrongPlace_4 rfl ?_
  refine pv_callV C (As := [.int x1]) (rest := []) (b := 1) (kd1 := 1) hp (fun q1 h9 => c_X6_lengthOf l D cy h9) wB_yX6_lengthOf ml_X9_23 im_yX6_lengthOf se_yX6_lengthOf (ci := 5) rfl rfl rfl rfl rfl (Nat.le_of_ble_eq_true rfl) ⟨(Nat.le_of_ble_eq_true rfl), (Nat.le_of_ble_eq_true rfl)⟩ dX9_wrongPlace_5 rfl rfl (fun v4 σ V hp => ?_)
  refine pv_istore_n (loc' := [(2, .int v4), (0, .ref 13), (1, .int x1)]) C dX9_wrongPlace_8 (by decide) rfl ?_
  refine pv_iload_n C 0 dX9_wrongPlace_9 rfl ?_
  refine pv_if_ne (tgt := 15) C hp dX9_wrongPlace_10 (by decide) (fun hp => ?_) (fun hp => ?_)
  · refine pv_iconst C hp dX9_wrongPlace_15 (by decide) (fun v5 hp => ?_)
    refine pv_istore_n (loc' := [(3, .int v5), (2, .int v4), (0, .ref 13), (1, .int x1)]) C dX9_wrongPlace_16 (by decide) rfl ?_
    refine pv_sub [2, 3, 1, 0] rfl ?_
    exact w_X9_wrongPlace_b17 C hr N _ _ _ _ _ hp
  · refine pv_iconst C hp dX9_wrongPlace_13 (by decide) (fun v6 hp => ?_)
    exact pv_iret C rfl hp hr dX9_wrongPlace_14
def q_X9_isMet (N : Nat) (x1 : Int) (V : pvM) : Option pvO :=
  aR V 14 40 x1 fun v1 =>
  lI (-1) fun v2 =>
  if v1 = v2 then
    lI (0) fun v3 =>
    bT v3 (rT V v3)
  else
  lI (1) fun v4 =>
  bT v4 (rT V v4)
set_option maxHeartbeats 4000000 in
set_option maxRecDepth 100000 in
theorem c_X9_isMet (l : Launch) (D : va_G) (cy : Nat → ClassId) {N : Nat} {x1 : Int32} {V : pvM} {q : pvO} (hp : q_X9_isMet N x1.toInt V = some q) : pv_Met l yX9_isMet cX9_isMet 2 (some .boolean) 0 0 D cy V [.ref 13, .int x1] 1 q := by
  unfold q_X9_isMet at hp
  refine pv_ofW (by decide) (Nat.le_of_ble_eq_true rfl) (fun p e s m args below meth c ad A n0 σ C hr => ?_)
  refine pv_aload_n C 0 dX9_isMet_0 rfl ?_
  refine pv_getR C (ci := 8) (k := 1) gwX9 rfl (Nat.le_of_ble_eq_true rfl) fl_X9_9 rfl rfl rfl (j := 14) rfl rfl dX9_isMet_1 ?_
  refine pv_iload_n C 1 dX9_isMet_4 rfl ?_
  refine pv_iald C hp rfl rfl rfl (fun _ => rfl) dX9_isMet_5 (fun v1 hp => ?_)
  refine pv_iconst C hp dX9_isMet_6 (by decide) (fun v2 hp => ?_)
  refine pv_icmp_eq (tgt := 14) C hp dX9_isMet_7 (by decide) (fun hp => ?_) (fun hp => ?_)
  · refine pv_iconst C hp dX9_isMet_14 (by decide) (fun v3 hp => ?_)
    exact pv_zret C rfl hp hr dX9_isMet_15
  · refine pv_iconst C hp dX9_isMet_10 (by decide) (fun v4 hp => ?_)
    refine pv_goto (tgt := 15) C dX9_isMet_11 (by decide) ?_
    exact pv_zret C rfl hp hr dX9_isMet_15
def q_X9_heightAt (N : Nat) (x1 : Int) (V : pvM) : Option pvO :=
  aR V 14 40 x1 fun v1 =>
  rT V v1
set_option maxHeartbeats 4000000 in
set_option maxRecDepth 100000 in
theorem c_X9_heightAt (l : Launch) (D : va_G) (cy : Nat → ClassId) {N : Nat} {x1 : Int32} {V : pvM} {q : pvO} (hp : q_X9_heightAt N x1.toInt V = some q) : pv_Met l yX9_heightAt cX9_heightAt 2 (some .int) 0 0 D cy V [.ref 13, .int x1] 1 q := by
  unfold q_X9_heightAt at hp
  refine pv_ofW (by decide) (Nat.le_of_ble_eq_true rfl) (fun p e s m args below meth c ad A n0 σ C hr => ?_)
  refine pv_aload_n C 0 dX9_heightAt_0 rfl ?_
  refine pv_getR C (ci := 8) (k := 1) gwX9 rfl (Nat.le_of_ble_eq_true rfl) fl_X9_9 rfl rfl rfl (j := 14) rfl rfl dX9_heightAt_1 ?_
  refine pv_iload_n C 1 dX9_heightAt_4 rfl ?_
  refine pv_iald C hp rfl rfl rfl (fun _ => rfl) dX9_heightAt_5 (fun v1 hp => ?_)
  exact pv_iret C rfl hp hr dX9_heightAt_6
