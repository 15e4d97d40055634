def q_X10_valueOf (N : Nat) (x0 : Int) (x1 : Int) (V : pvM) : Option pvO :=
  lI (x0) fun v1 =>
  lI (32) fun v2 =>
  lI (pv_shl v1 v2) fun v3 =>
  lI (x1) fun v4 =>
  lI (4294967295) fun v5 =>
  lI (pv_andl v4 v5) fun v6 =>
  lI (pv_orl v3 v6) fun v7 =>
  rT V v7
set_option maxHeartbeats 4000000 in
set_option maxRecDepth 100000 in
theorem c_X10_valueOf (l : Launch) (D : va_G) (cy : Nat → ClassId) {N : Nat} {x0 : Int32} {x1 : Int32} {V : pvM} {q : pvO} (hp : q_X10_valueOf N x0.toInt x1.toInt V = some q) : pv_Met l yX10_valueOf cX10_valueOf 2 (some .long) 0 0 D cy V [.int x0, .int x1] 2 q := by
  unfold q_X10_valueOf at hp
  refine pv_ofW (by decide) (Nat.le_of_ble_eq_true rfl) (fun p e s m args below meth c ad A n0 σ C hr => ?_)
  refine pv_iload_n C 0 dX10_valueOf_0 rfl ?_
  refine pv_i2l C hp dX10_valueOf_1 (fun v1 hp => ?_)
  refine pv_bipush C hp dX10_valueOf_2 (by decide) (fun v2 hp => ?_)
  refine pv_lshl C hp dX10_valueOf_4 (fun v3 hp => ?_)
  refine pv_iload_n C 1 dX10_valueOf_5 rfl ?_
  refine pv_i2l C hp dX10_valueOf_6 (fun v4 hp => ?_)
  refine pv_ldc2 C hp dX10_valueOf_7 kl_X10_155 (by decide) (fun v5 hp => ?_)
  refine pv_land C hp dX10_valueOf_10 (fun v6 hp => ?_)
  refine pv_lor C hp dX10_valueOf_11 (fun v7 hp => ?_)
  exact pv_lret C rfl hp hr dX10_valueOf_12
def q_X10_kindOf (N : Nat) (x0 : Int) (V : pvM) : Option pvO :=
  lI (32) fun v1 =>
  lI (pv_shr x0 v1) fun v2 =>
  lI (pv_w v2) fun v3 =>
  rT V v3
set_option maxHeartbeats 4000000 in
set_option maxRecDepth 100000 in
theorem c_X10_kindOf (l : Launch) (D : va_G) (cy : Nat → ClassId) {N : Nat} {x0 : Int64} {V : pvM} {q : pvO} (hp : q_X10_kindOf N x0.toInt V = some q) : pv_Met l yX10_kindOf cX10_kindOf 2 (some .int) 0 0 D cy V [.long x0] 1 q := by
  unfold q_X10_kindOf at hp
  refine pv_ofW (by decide) (Nat.le_of_ble_eq_true rfl) (fun p e s m args below meth c ad A n0 σ C hr => ?_)
  refine pv_lload_n C 0 dX10_kindOf_0 rfl ?_
  refine pv_bipush C hp dX10_kindOf_1 (by decide) (fun v1 hp => ?_)
  refine pv_lshr C hp dX10_kindOf_3 (fun v2 hp => ?_)
  refine pv_l2i C hp dX10_kindOf_4 (fun v3 hp => ?_)
  exact pv_iret C rfl hp hr dX10_kindOf_5
def q_X10_contentOf (N : Nat) (x0 : Int) (V : pvM) : Option pvO :=
  lI (pv_w x0) fun v1 =>
  rT V v1
set_option maxHeartbeats 4000000 in
set_option maxRecDepth 100000 in
theorem c_X10_contentOf (l : Launch) (D : va_G) (cy : Nat → ClassId) {N : Nat} {x0 : Int64} {V : pvM} {q : pvO} (hp : q_X10_contentOf N x0.toInt V = some q) : pv_Met l yX10_contentOf cX10_contentOf 2 (some .int) 0 0 D cy V [.long x0] 1 q := by
  unfold q_X10_contentOf at hp
  refine pv_ofW (by decide) (Nat.le_of_ble_eq_true rfl) (fun p e s m args below meth c ad A n0 σ C hr => ?_)
  refine pv_lload_n C 0 dX10_contentOf_0 rfl ?_
  refine pv_l2i C hp dX10_contentOf_1 (fun v1 hp => ?_)
  exact pv_iret C rfl hp hr dX10_contentOf_2
def q_X7_isReadable_b22 (N : Nat) : Nat → Int → Int → pvM → Option pvO
  | 0 => fun _ _ _ => none
  | n + 1 => fun x2 x4 V =>
    lI (12) fun v1 =>
    if v1 ≤ x4 then
      lI (1) fun v2 =>
      bT v2 (rT V v2)
    else
    lI (0) fun v3 =>
    lI (pv_cmp x2 v3) fun v4 =>
    if v4 = 0 then
      lI (1) fun v5 =>
      bT v5 (rT V v5)
    else
    lI (31) fun v6 =>
    lI (pv_andl x2 v6) fun v7 =>
    lI (pv_w v7) fun v8 =>
    if v8 = 0 then
      lI (0) fun v9 =>
      bT v9 (rT V v9)
    else
    lI (27) fun v10 =>
    if v8 ≤ v10 then
      lI (5) fun v11 =>
      lI (pv_shr x2 v11) fun v12 =>
      lI (pv_w (x4 + (1))) fun v13 =>
      q_X7_isReadable_b22 N n v12 v13 V
    else
    lI (0) fun v14 =>
    bT v14 (rT V v14)
set_option maxHeartbeats 4000000 in
set_option maxRecDepth 100000 in
theorem w_X7_isReadable_b22 {p : Program} {l : Launch} {e : Env} {s : State} {m : MethodId} {args : Array Value} {below : List Frame} {meth : Method} {c : Code} {D : va_G} {cy : Nat → ClassId} {A : Nat → Prop} {n0 : Nat} {ad0 : Nat → Nat} {V0 : pvM} {q : pvO} (C : pz_C p s m args meth c cX7_isReadable 6 yX7_isReadable.cls D cy A) (hr : meth.sig.returnType = (some .boolean)) {N : Nat} : ∀ (n : Nat) (x2 : Int64) (x4 : Int32) (σ : pzS) (V : pvM), q_X7_isReadable_b22 N n x2.toInt x4.toInt V = some q → pv_W p l e 0 0 s m args below meth c 6 D cy A n0 ad0 (pv_Q below D cy n0 ad0 1 V0 q A args s) V0 σ V 22 [(2, .long x2), (4, .int x4)] [] := by
  intro n
  induction n with
  | zero =>
    intro x2 x4 σ V hp
    simp only [q_X7_isReadable_b22] at hp
    cases hp
  | succ n ih =>
    intro x2 x4 σ V hp
    simp only [q_X7_isReadable_b22] at hp
    refine pv_iload C 1 dX7_isReadable_22 rfl ?_
    refine pv_bipush C hp dX7_isReadable_24 (by decide) (fun v1 hp => ?_)
    refine pv_icmp_ge (tgt := 67) C hp dX7_isReadable_26 (by decide) (fun hp => ?_) (fun hp => ?_)
    · refine pv_iconst C hp dX7_isReadable_67 (by decide) (fun v2 hp => ?_)
      exact pv_zret C rfl hp hr dX7_isReadable_68
    · refine pv_lload_n C 0 dX7_isReadable_29 rfl ?_
      refine pv_lconst C hp dX7_isReadable_30 (by decide) (fun v3 hp => ?_)
      refine pv_lcmp C hp dX7_isReadable_31 (fun v4 hp => ?_)
      refine pv_if_eq (tgt := 67) C hp dX7_isReadable_32 (by decide) (fun hp => ?_) (fun hp => ?_)
      · refine pv_iconst C hp dX7_isReadable_67 (by decide) (fun v5 hp => ?_)
        exact pv_zret C rfl hp hr dX7_isReadable_68
      · refine pv_lload_n C 0 dX7_isReadable_35 rfl ?_
        refine pv_ldc2 C hp dX7_isReadable_36 kl_X7_27 (by decide) (fun v6 hp => ?_)
        refine pv_land C hp dX7_isReadable_39 (fun v7 hp => ?_)
        refine pv_l2i C hp dX7_isReadable_40 (fun v8 hp => ?_)
        refine pv_istore (loc' := [(5, .int v8), (2, .long x2), (4, .int x4)]) C dX7_isReadable_41 (by decide) rfl ?_
        refine pv_iload C 0 dX7_isReadable_43 rfl ?_
        refine pv_if_eq (tgt := 55) C hp dX7_isReadable_45 (by decide) (fun hp => ?_) (fun hp => ?_)
        · refine pv_iconst C hp dX7_isReadable_55 (by decide) (fun v9 hp => ?_)
          exact pv_zret C rfl hp hr dX7_isReadable_56
        · refine pv_iload C 0 dX7_isReadable_48 rfl ?_
          refine pv_bipush C hp dX7_isReadable_50 (by decide) (fun v10 hp => ?_)
          refine pv_icmp_le (tgt := 57) C hp dX7_isReadable_52 (by decide) (fun hp => ?_) (fun hp => ?_)
          · refine pv_lload_n C 1 dX7_isReadable_57 rfl ?_
            refine pv_iconst C hp dX7_isReadable_58 (by decide) (fun v11 hp => ?_)
            refine pv_lshr C hp dX7_isReadable_59 (fun v12 hp => ?_)
            refine pv_lstore_n (loc' := [(2, .long v12), (5, .int v8), (4, .int x4)]) C dX7_isReadable_60 (by decide) rfl ?_
            refine pv_iinc (L := fun v13 => [(4, .int v13), (2, .long v12), (5, .int v8)]) C 2 hp dX7_isReadable_61 (by decide) rfl (by decide) (fun _ => rfl) (fun v13 hp => ?_)
            refine pv_goto (tgt := 22) C dX7_isReadable_64 (by decide) ?_
            refine pv_sub [1, 0] rfl ?_
            exact ih _ _ _ _ hp
          · refine pv_iconst C hp dX7_isReadable_55 (by decide) (fun v14 hp => ?_)
            exact pv_zret C rfl hp hr dX7_isReadable_56
def q_X7_isReadable (N : Nat) (x0 : Int) (V : pvM) : Option pvO :=
  lI (0) fun v15 =>
  lI (pv_cmp x0 v15) fun v16 =>
  if v16 ≤ 0 then
    lI (0) fun v17 =>
    bT v17 (rT V v17)
  else
  lI (60) fun v18 =>
  lI (pv_shr x0 v18) fun v19 =>
  lI (0) fun v20 =>
  lI (pv_cmp v19 v20) fun v21 =>
  if v21 = 0 then
    lI (0) fun v22 =>
    q_X7_isReadable_b22 N N x0 v22 V
  else
  lI (0) fun v23 =>
  bT v23 (rT V v23)
set_option maxHeartbeats 4000000 in
set_option maxRecDepth 100000 in
theorem c_X7_isReadable (l : Launch) (D : va_G) (cy : Nat → ClassId) {N : Nat} {x0 : Int64} {V : pvM} {q : pvO} (hp : q_X7_isReadable N x0.toInt V = some q) : pv_Met l yX7_isReadable cX7_isReadable 6 (some .boolean) 0 0 D cy V [.long x0] 1 q := by
  unfold q_X7_isReadable at hp
  refine pv_ofW (by decide) (Nat.le_of_ble_eq_true rfl) (fun p e s m args below meth c ad A n0 σ C hr => ?_)
  refine pv_lload_n C 0 dX7_isReadable_0 rfl ?_
  refine pv_lconst C hp dX7_isReadable_1 (by decide) (fun v15 hp => ?_)
  refine pv_lcmp C hp dX7_isReadable_2 (fun v16 hp => ?_)
  refine pv_if_le (tgt := 15) C hp dX7_isReadable_3 (by decide) (fun hp => ?_) (fun hp => ?_)
  · refine pv_iconst C hp dX7_isReadable_15 (by decide) (fun v17 hp => ?_)
    exact pv_zret C rfl hp hr dX7_isReadable_16
  · refine pv_lload_n C 0 dX7_isReadable_6 rfl ?_
    refine pv_bipush C hp dX7_isReadable_7 (by decide) (fun v18 hp => ?_)
    refine pv_lshr C hp dX7_isReadable_9 (fun v19 hp => ?_)
    refine pv_lconst C hp dX7_isReadable_10 (by decide) (fun v20 hp => ?_)
    refine pv_lcmp C hp dX7_isReadable_11 (fun v21 hp => ?_)
    refine pv_if_eq (tgt := 17) C hp dX7_isReadable_12 (by decide) (fun hp => ?_) (fun hp => ?_)
    · refine pv_lload_n C 0 dX7_isReadable_17 rfl ?_
      refine pv_lstore_n (loc' := [(2, .long x0), (0, .long x0)]) C dX7_isReadable_18 (by decide) rfl ?_
      refine pv_iconst C hp dX7_isReadable_19 (by decide) (fun v22 hp => ?_)
      refine pv_istore (loc' := [(4, .int v22), (2, .long x0), (0, .long x0)]) C dX7_isReadable_20 (by decide) rfl ?_
      refine pv_sub [1, 0] rfl ?_
      exact w_X7_isReadable_b22 C hr N _ _ _ _ hp
    · refine pv_iconst C hp dX7_isReadable_15 (by decide) (fun v23 hp => ?_)
      exact pv_zret C rfl hp hr dX7_isReadable_16
