def q_X10_check_b2 (N : Nat) : Nat → Int → pvM → Option pvO
  | 0 => fun _ _ => none
  | n + 1 => fun x1 V =>
    cL (q_X6_functionTotal N V) fun v1 V =>
    if v1 ≤ x1 then
      lI (-1) fun v2 =>
      rT V v2
    else
    cL (q_X9_wrongPlace N x1 V) fun v3 V =>
    lI (-1) fun v4 =>
    if v3 = v4 then
      lI (pv_w (x1 + (1))) fun v5 =>
      q_X10_check_b2 N n v5 V
    else
    lI (64) fun v6 =>
    lI (pv_w (v6 * x1)) fun v7 =>
    lI (pv_w (v7 + v3)) fun v8 =>
    rT V v8
set_option maxHeartbeats 4000000 in
set_option maxRecDepth 100000 in
theorem w_X10_check_b2 {p : Program} {l : Launch} {e : Env} {s : State} {m : MethodId} {args : Array Value} {below : List Frame} {meth : Method} {c : Code} {D : va_G} {cy : Nat → ClassId} {A : Nat → Prop} {n0 : Nat} {ad0 : Nat → Nat} {V0 : pvM} {q : pvO} (C : pz_C p s m args meth c cX10_check 3 yX10_check.cls D cy A) (hr : meth.sig.returnType = (some .int)) {N : Nat} : ∀ (n : Nat) (x1 : Int32) (σ : pzS) (V : pvM), q_X10_check_b2 N n x1.toInt V = some q → pv_W p l e 5 119 s m args below meth c 3 D cy A n0 ad0 (pv_Q below D cy n0 ad0 1 V0 q A args s) V0 σ V 2 [(0, .ref 0), (1, .int x1)] [] := by
  intro n
  induction n with
  | zero =>
    intro x1 σ V hp
    simp only [q_X10_check_b2] at hp
    cases hp
  | succ n ih =>
    intro x1 σ V hp
    simp only [q_X10_check_b2] at hp
    refine pv_iload_n C 1 dX10_check_2 rfl ?_
    refine pv_aload_n C 0 dX10_check_3 rfl ?_
    refine pv_getR C (ci := 9) (k := 0) gwX10 rfl (Nat.le_of_ble_eq_true rfl) fl_X10_12 rfl rfl rfl (j := 1) rfl rfl dX10_check_4 ?_
    refine pv_callV C (As := []) (rest := [.int x1]) (b := 1) (kd1 := 1) hp (fun q1 h9 => c_X6_functionTotal l D cy h9) wB_yX6_functionTotal ml_X10_46 im_yX6_functionTotal se_yX6_functionTotal (ci := 5) rfl rfl rfl rfl rfl (Nat.le_of_ble_eq_true rfl) ⟨(Nat.le_of_ble_eq_true rfl), (Nat.le_of_ble_eq_true rfl)⟩ dX10_check_7 rfl rfl (fun v1 σ V hp => ?_)
    refine pv_icmp_ge (tgt := 40) C hp dX10_check_10 (by decide) (fun hp => ?_) (fun hp => ?_)
    · refine pv_iconst C hp dX10_check_40 (by decide) (fun v2 hp => ?_)
      exact pv_iret C rfl hp hr dX10_check_41
    · refine pv_aload_n C 0 dX10_check_13 rfl ?_
      refine pv_getR C (ci := 9) (k := 1) gwX10 rfl (Nat.le_of_ble_eq_true rfl) fl_X10_21 rfl rfl rfl (j := 13) rfl rfl dX10_check_14 ?_
      refine pv_iload_n C 1 dX10_check_17 rfl ?_
      refine pv_callV C (As := [.int x1]) (rest := []) (b := 13) (kd1 := 1) hp (fun q1 h9 => c_X9_wrongPlace l D cy h9) wB_yX9_wrongPlace ml_X10_88 im_yX9_wrongPlace se_yX9_wrongPlace (ci := 8) rfl rfl rfl rfl rfl (Nat.le_of_ble_eq_true rfl) ⟨(Nat.le_of_ble_eq_true rfl), (Nat.le_of_ble_eq_true rfl)⟩ dX10_check_18 rfl rfl (fun v3 σ V hp => ?_)
      refine pv_istore_n (loc' := [(2, .int v3), (0, .ref 0), (1, .int x1)]) C dX10_check_21 (by decide) rfl ?_
      refine pv_iload_n C 0 dX10_check_22 rfl ?_
      refine pv_iconst C hp dX10_check_23 (by decide) (fun v4 hp => ?_)
      refine pv_icmp_eq (tgt := 34) C hp dX10_check_24 (by decide) (fun hp => ?_) (fun hp => ?_)
      · refine pv_iinc (L := fun v5 => [(1, .int v5), (2, .int v3), (0, .ref 0)]) C 2 hp dX10_check_34 (by decide) rfl (by decide) (fun _ => rfl) (fun v5 hp => ?_)
        refine pv_goto (tgt := 2) C dX10_check_37 (by decide) ?_
        refine pv_sub [2, 0] rfl ?_
        exact ih _ _ _ hp
      · refine pv_bipush C hp dX10_check_27 (by decide) (fun v6 hp => ?_)
        refine pv_iload_n C 2 dX10_check_29 rfl ?_
        refine pv_imul C hp dX10_check_30 (fun v7 hp => ?_)
        refine pv_iload_n C 0 dX10_check_31 rfl ?_
        refine pv_iadd C hp dX10_check_32 (fun v8 hp => ?_)
        exact pv_iret C rfl hp hr dX10_check_33
def q_X10_check (N : Nat) (V : pvM) : Option pvO :=
  lI (0) fun v9 =>
  q_X10_check_b2 N N v9 V
set_option maxHeartbeats 4000000 in
set_option maxRecDepth 100000 in
theorem c_X10_check (l : Launch) (D : va_G) (cy : Nat → ClassId) {N : Nat} {V : pvM} {q : pvO} (hp : q_X10_check N V = some q) : pv_Met l yX10_check cX10_check 3 (some .int) 5 119 D cy V [.ref 0] 1 q := by
  unfold q_X10_check at hp
  refine pv_ofW (by decide) (Nat.le_of_ble_eq_true rfl) (fun p e s m args below meth c ad A n0 σ C hr => ?_)
  refine pv_iconst C hp dX10_check_0 (by decide) (fun v9 hp => ?_)
  refine pv_istore_n (loc' := [(1, .int v9), (0, .ref 0)]) C dX10_check_1 (by decide) rfl ?_
  refine pv_sub [1, 0] rfl ?_
  exact w_X10_check_b2 C hr N _ _ _ hp
def q_X10_lower (N : Nat) (V : pvM) : Option pvO :=
  cL (q_X10_check N V) fun v1 V =>
  lI (-1) fun v2 =>
  if v1 ≠ v2 then
    lI (-1) fun v3 =>
    rT V v3
  else
  cL (q_X5_make N V) fun v4 V =>
  rT V v4
set_option maxHeartbeats 4000000 in
set_option maxRecDepth 100000 in
theorem c_X10_lower (l : Launch) (D : va_G) (cy : Nat → ClassId) {N : Nat} {V : pvM} {q : pvO} (hp : q_X10_lower N V = some q) : pv_Met l yX10_lower cX10_lower 1 (some .int) 8 202 D cy V [.ref 0] 1 q := by
  unfold q_X10_lower at hp
  refine pv_ofW (by decide) (Nat.le_of_ble_eq_true rfl) (fun p e s m args below meth c ad A n0 σ C hr => ?_)
  refine pv_aload_n C 0 dX10_lower_0 rfl ?_
  refine pv_callV C (As := []) (rest := []) (b := 0) (kd1 := 1) hp (fun q1 h9 => c_X10_check l D cy h9) wB_yX10_check ml_X10_91 im_yX10_check se_yX10_check (ci := 9) rfl rfl rfl rfl rfl (Nat.le_of_ble_eq_true rfl) ⟨(Nat.le_of_ble_eq_true rfl), (Nat.le_of_ble_eq_true rfl)⟩ dX10_lower_1 rfl rfl (fun v1 σ V hp => ?_)
  refine pv_iconst C hp dX10_lower_4 (by decide) (fun v2 hp => ?_)
  refine pv_icmp_ne (tgt := 18) C hp dX10_lower_5 (by decide) (fun hp => ?_) (fun hp => ?_)
  · refine pv_iconst C hp dX10_lower_18 (by decide) (fun v3 hp => ?_)
    exact pv_iret C rfl hp hr dX10_lower_19
  · refine pv_aload_n C 0 dX10_lower_8 rfl ?_
    refine pv_getR C (ci := 9) (k := 2) gwX10 rfl (Nat.le_of_ble_eq_true rfl) fl_X10_30 rfl rfl rfl (j := 16) rfl rfl dX10_lower_9 ?_
    refine pv_callV C (As := []) (rest := []) (b := 16) (kd1 := 1) hp (fun q1 h9 => c_X5_make l D cy h9) wB_yX5_make ml_X10_94 im_yX5_make se_yX5_make (ci := 4) rfl rfl rfl rfl rfl (Nat.le_of_ble_eq_true rfl) ⟨(Nat.le_of_ble_eq_true rfl), (Nat.le_of_ble_eq_true rfl)⟩ dX10_lower_12 rfl rfl (fun v4 σ V hp => ?_)
    refine pv_goto (tgt := 19) C dX10_lower_15 (by decide) ?_
    exact pv_iret C rfl hp hr dX10_lower_19
def q_X10_function (N : Nat) (x1 : Int) (V : pvM) : Option pvO :=
  if x1 < 0 then
    tH V 1
  else
  lI (3) fun v1 =>
  if x1 ≤ v1 then
    cL (q_X6_functionTotal N V) fun v2 V =>
    lI (12) fun v3 =>
    if v2 ≠ v3 then
      cL (q_X5_forget N V) fun _ V =>
      cL (q_X6_addFunction N x1 V) fun v4 V =>
      rT V v4
    else
    tH V 2
  else
  tH V 1
set_option maxHeartbeats 4000000 in
set_option maxRecDepth 100000 in
theorem c_X10_function (l : Launch) (hl0 : l.stackTraces = false) (D : va_G) (cy : Nat → ClassId) {N : Nat} {x1 : Int32} {V : pvM} {q : pvO} (hp : q_X10_function N x1.toInt V = some q) : pv_MetX l yX10_function cX10_function 2 (some .int) 6 91 D cy V [.ref 0, .int x1] q := by
  unfold q_X10_function at hp
  refine pv_ofWX (by decide) (Nat.le_of_ble_eq_true rfl) (fun p e s m args below meth c ad A n0 σ C hr hZ hno => ?_)
  refine pv_iload_n C 1 dX10_function_0 rfl ?_
  refine pv_if_lt (tgt := 9) C hp dX10_function_1 (by decide) (fun hp => ?_) (fun hp => ?_)
  · exact pv_throw C hl0 hZ hno hp dX10_function_9 dX10_function_12 dX10_function_13 dX10_function_16 tf_IA tn_IA tw_IA (Nat.le_of_ble_eq_true rfl) (Nat.le_of_ble_eq_true rfl) (Or.inl rfl)
  · refine pv_iload_n C 1 dX10_function_4 rfl ?_
    refine pv_iconst C hp dX10_function_5 (by decide) (fun v1 hp => ?_)
    refine pv_icmp_le (tgt := 17) C hp dX10_function_6 (by decide) (fun hp => ?_) (fun hp => ?_)
    · refine pv_aload_n C 0 dX10_function_17 rfl ?_
      refine pv_getR C (ci := 9) (k := 0) gwX10 rfl (Nat.le_of_ble_eq_true rfl) fl_X10_12 rfl rfl rfl (j := 1) rfl rfl dX10_function_18 ?_
      refine pv_callV C (As := []) (rest := []) (b := 1) (kd1 := 1) hp (fun q1 h9 => c_X6_functionTotal l D cy h9) wB_yX6_functionTotal ml_X10_46 im_yX6_functionTotal se_yX6_functionTotal (ci := 5) rfl rfl rfl rfl rfl (Nat.le_of_ble_eq_true rfl) ⟨(Nat.le_of_ble_eq_true rfl), (Nat.le_of_ble_eq_true rfl)⟩ dX10_function_21 rfl rfl (fun v2 σ V hp => ?_)
      refine pv_bipush C hp dX10_function_24 (by decide) (fun v3 hp => ?_)
      refine pv_icmp_ne (tgt := 37) C hp dX10_function_26 (by decide) (fun hp => ?_) (fun hp => ?_)
      · refine pv_aload_n C 0 dX10_function_37 rfl ?_
        refine pv_getR C (ci := 9) (k := 2) gwX10 rfl (Nat.le_of_ble_eq_true rfl) fl_X10_30 rfl rfl rfl (j := 16) rfl rfl dX10_function_38 ?_
        refine pv_callV C (As := []) (rest := []) (b := 16) (kd1 := 0) hp (fun q1 h9 => c_X5_forget l D cy h9) wB_yX5_forget ml_X10_53 im_yX5_forget se_yX5_forget (ci := 4) rfl rfl rfl rfl rfl (Nat.le_of_ble_eq_true rfl) ⟨(Nat.le_of_ble_eq_true rfl), (Nat.le_of_ble_eq_true rfl)⟩ dX10_function_41 rfl rfl (fun _ σ V hp => ?_)
        refine pv_aload_n C 0 dX10_function_44 rfl ?_
        refine pv_getR C (ci := 9) (k := 0) gwX10 rfl (Nat.le_of_ble_eq_true rfl) fl_X10_12 rfl rfl rfl (j := 1) rfl rfl dX10_function_45 ?_
        refine pv_iload_n C 1 dX10_function_48 rfl ?_
        refine pv_callV C (As := [.int x1]) (rest := []) (b := 1) (kd1 := 1) hp (fun q1 h9 => c_X6_addFunction l D cy h9) wB_yX6_addFunction ml_X10_56 im_yX6_addFunction se_yX6_addFunction (ci := 5) rfl rfl rfl rfl rfl (Nat.le_of_ble_eq_true rfl) ⟨(Nat.le_of_ble_eq_true rfl), (Nat.le_of_ble_eq_true rfl)⟩ dX10_function_49 rfl rfl (fun v4 σ V hp => ?_)
        exact pv_iretX C hp hr dX10_function_52
      · exact pv_throw C hl0 hZ hno hp dX10_function_29 dX10_function_32 dX10_function_33 dX10_function_36 tf_IS tn_IS tw_IS (Nat.le_of_ble_eq_true rfl) (Nat.le_of_ble_eq_true rfl) (Or.inr rfl)
    · exact pv_throw C hl0 hZ hno hp dX10_function_9 dX10_function_12 dX10_function_13 dX10_function_16 tf_IA tn_IA tw_IA (Nat.le_of_ble_eq_true rfl) (Nat.le_of_ble_eq_true rfl) (Or.inl rfl)
def q_X10_code (N : Nat) (x1 : Int) (x2 : Int) (x3 : Int) (x4 : Int) (V : pvM) : Option pvO :=
  cL (q_X6_hasFunction N x1 V) fun v1 V =>
  if v1 = 0 then
    tH V 1
  else
  if x2 < 0 then
    tH V 1
  else
  lI (15) fun v2 =>
  if x2 ≤ v2 then
    cL (q_X6_lengthOf N x1 V) fun v3 V =>
    lI (40) fun v4 =>
    if v3 ≠ v4 then
      cL (q_X5_forget N V) fun _ V =>
      cL (q_X6_addInstruction N x1 x2 x3 x4 V) fun v5 V =>
      rT V v5
    else
    tH V 2
  else
  tH V 1
set_option maxHeartbeats 4000000 in
set_option maxRecDepth 100000 in
theorem c_X10_code (l : Launch) (hl0 : l.stackTraces = false) (D : va_G) (cy : Nat → ClassId) {N : Nat} {x1 : Int32} {x2 : Int32} {x3 : Int32} {x4 : Int32} {V : pvM} {q : pvO} (hp : q_X10_code N x1.toInt x2.toInt x3.toInt x4.toInt V = some q) : pv_MetX l yX10_code cX10_code 5 (some .int) 6 91 D cy V [.ref 0, .int x1, .int x2, .int x3, .int x4] q := by
  unfold q_X10_code at hp
  refine pv_ofWX (by decide) (Nat.le_of_ble_eq_true rfl) (fun p e s m args below meth c ad A n0 σ C hr hZ hno => ?_)
  refine pv_aload_n C 0 dX10_code_0 rfl ?_
  refine pv_getR C (ci := 9) (k := 0) gwX10 rfl (Nat.le_of_ble_eq_true rfl) fl_X10_12 rfl rfl rfl (j := 1) rfl rfl dX10_code_1 ?_
  refine pv_iload_n C 1 dX10_code_4 rfl ?_
  refine pv_callV C (As := [.int x1]) (rest := []) (b := 1) (kd1 := 1) hp (fun q1 h9 => c_X6_hasFunction l D cy h9) wB_yX6_hasFunction ml_X10_60 im_yX6_hasFunction se_yX6_hasFunction (ci := 5) rfl rfl rfl rfl rfl (Nat.le_of_ble_eq_true rfl) ⟨(Nat.le_of_ble_eq_true rfl), (Nat.le_of_ble_eq_true rfl)⟩ dX10_code_5 rfl rfl (fun v1 σ V hp => ?_)
  refine pv_if_eq (tgt := 21) C hp dX10_code_8 (by decide) (fun hp => ?_) (fun hp => ?_)
  · exact pv_throw C hl0 hZ hno hp dX10_code_21 dX10_code_24 dX10_code_25 dX10_code_28 tf_IA tn_IA tw_IA (Nat.le_of_ble_eq_true rfl) (Nat.le_of_ble_eq_true rfl) (Or.inl rfl)
  · refine pv_iload_n C 2 dX10_code_11 rfl ?_
    refine pv_if_lt (tgt := 21) C hp dX10_code_12 (by decide) (fun hp => ?_) (fun hp => ?_)
    · exact pv_throw C hl0 hZ hno hp dX10_code_21 dX10_code_24 dX10_code_25 dX10_code_28 tf_IA tn_IA tw_IA (Nat.le_of_ble_eq_true rfl) (Nat.le_of_ble_eq_true rfl) (Or.inl rfl)
    · refine pv_iload_n C 2 dX10_code_15 rfl ?_
      refine pv_bipush C hp dX10_code_16 (by decide) (fun v2 hp => ?_)
      refine pv_icmp_le (tgt := 29) C hp dX10_code_18 (by decide) (fun hp => ?_) (fun hp => ?_)
      · refine pv_aload_n C 0 dX10_code_29 rfl ?_
        refine pv_getR C (ci := 9) (k := 0) gwX10 rfl (Nat.le_of_ble_eq_true rfl) fl_X10_12 rfl rfl rfl (j := 1) rfl rfl dX10_code_30 ?_
        refine pv_iload_n C 1 dX10_code_33 rfl ?_
        refine pv_callV C (As := [.int x1]) (rest := []) (b := 1) (kd1 := 1) hp (fun q1 h9 => c_X6_lengthOf l D cy h9) wB_yX6_lengthOf ml_X10_64 im_yX6_lengthOf se_yX6_lengthOf (ci := 5) rfl rfl rfl rfl rfl (Nat.le_of_ble_eq_true rfl) ⟨(Nat.le_of_ble_eq_true rfl), (Nat.le_of_ble_eq_true rfl)⟩ dX10_code_34 rfl rfl (fun v3 σ V hp => ?_)
        refine pv_bipush C hp dX10_code_37 (by decide) (fun v4 hp => ?_)
        refine pv_icmp_ne (tgt := 50) C hp dX10_code_39 (by decide) (fun hp => ?_) (fun hp => ?_)
        · refine pv_aload_n C 0 dX10_code_50 rfl ?_
          refine pv_getR C (ci := 9) (k := 2) gwX10 rfl (Nat.le_of_ble_eq_true rfl) fl_X10_30 rfl rfl rfl (j := 16) rfl rfl dX10_code_51 ?_
          refine pv_callV C (As := []) (rest := []) (b := 16) (kd1 := 0) hp (fun q1 h9 => c_X5_forget l D cy h9) wB_yX5_forget ml_X10_53 im_yX5_forget se_yX5_forget (ci := 4) rfl rfl rfl rfl rfl (Nat.le_of_ble_eq_true rfl) ⟨(Nat.le_of_ble_eq_true rfl), (Nat.le_of_ble_eq_true rfl)⟩ dX10_code_54 rfl rfl (fun _ σ V hp => ?_)
          refine pv_aload_n C 0 dX10_code_57 rfl ?_
          refine pv_getR C (ci := 9) (k := 0) gwX10 rfl (Nat.le_of_ble_eq_true rfl) fl_X10_12 rfl rfl rfl (j := 1) rfl rfl dX10_code_58 ?_
          refine pv_iload_n C 1 dX10_code_61 rfl ?_
          refine pv_iload_n C 2 dX10_code_62 rfl ?_
          refine pv_iload_n C 3 dX10_code_63 rfl ?_
          refine pv_iload C 4 dX10_code_64 rfl ?_
          refine pv_callV C (As := [.int x1, .int x2, .int x3, .int x4]) (rest := []) (b := 1) (kd1 := 1) hp (fun q1 h9 => c_X6_addInstruction l D cy h9) wB_yX6_addInstruction ml_X10_67 im_yX6_addInstruction se_yX6_addInstruction (ci := 5) rfl rfl rfl rfl rfl (Nat.le_of_ble_eq_true rfl) ⟨(Nat.le_of_ble_eq_true rfl), (Nat.le_of_ble_eq_true rfl)⟩ dX10_code_66 rfl rfl (fun v5 σ V hp => ?_)
          exact pv_iretX C hp hr dX10_code_69
        · exact pv_throw C hl0 hZ hno hp dX10_code_42 dX10_code_45 dX10_code_46 dX10_code_49 tf_IS tn_IS tw_IS (Nat.le_of_ble_eq_true rfl) (Nat.le_of_ble_eq_true rfl) (Or.inr rfl)
      · exact pv_throw C hl0 hZ hno hp dX10_code_21 dX10_code_24 dX10_code_25 dX10_code_28 tf_IA tn_IA tw_IA (Nat.le_of_ble_eq_true rfl) (Nat.le_of_ble_eq_true rfl) (Or.inl rfl)
def q_X10_recipe (N : Nat) (x1 : Int) (V : pvM) : Option pvO :=
  cL (q_X7_isReadable N x1 V) fun v1 V =>
  if v1 ≠ 0 then
    cL (q_X6_recipes N V) fun _ V =>
    cL (q_X7_total N V) fun v2 V =>
    lI (8) fun v3 =>
    if v2 ≠ v3 then
      cL (q_X5_forget N V) fun _ V =>
      cL (q_X6_recipes N V) fun _ V =>
      cL (q_X7_add N x1 V) fun v4 V =>
      rT V v4
    else
    tH V 2
  else
  tH V 1
set_option maxHeartbeats 4000000 in
set_option maxRecDepth 100000 in
theorem c_X10_recipe (l : Launch) (hl0 : l.stackTraces = false) (D : va_G) (cy : Nat → ClassId) {N : Nat} {x1 : Int64} {V : pvM} {q : pvO} (hp : q_X10_recipe N x1.toInt V = some q) : pv_MetX l yX10_recipe cX10_recipe 3 (some .int) 6 91 D cy V [.ref 0, .long x1] q := by
  unfold q_X10_recipe at hp
  refine pv_ofWX (by decide) (Nat.le_of_ble_eq_true rfl) (fun p e s m args below meth c ad A n0 σ C hr hZ hno => ?_)
  refine pv_lload_n C 1 dX10_recipe_0 rfl ?_
  refine pv_callS C (As := [.long x1]) (rest := []) (kd1 := 1) hp (fun q1 h9 => c_X7_isReadable l D cy h9) wB_yX7_isReadable ml_X10_71 sm_yX7_isReadable rfl rfl (Nat.le_of_ble_eq_true rfl) ⟨(Nat.le_of_ble_eq_true rfl), (Nat.le_of_ble_eq_true rfl)⟩ dX10_recipe_1 rfl rfl (fun v1 σ V hp => ?_)
  refine pv_if_ne (tgt := 15) C hp dX10_recipe_4 (by decide) (fun hp => ?_) (fun hp => ?_)
  · refine pv_aload_n C 0 dX10_recipe_15 rfl ?_
    refine pv_getR C (ci := 9) (k := 0) gwX10 rfl (Nat.le_of_ble_eq_true rfl) fl_X10_12 rfl rfl rfl (j := 1) rfl rfl dX10_recipe_16 ?_
    refine pv_callV C (As := []) (rest := []) (b := 1) (kd1 := 5) hp (fun q1 h9 => c_X6_recipes l D cy h9) wB_yX6_recipes ml_X10_77 im_yX6_recipes se_yX6_recipes (ci := 5) rfl rfl rfl rfl rfl (Nat.le_of_ble_eq_true rfl) ⟨(Nat.le_of_ble_eq_true rfl), (Nat.le_of_ble_eq_true rfl)⟩ dX10_recipe_19 rfl rfl (fun _ σ V hp => ?_)
    refine pv_callV C (As := []) (rest := []) (b := 2) (kd1 := 1) hp (fun q1 h9 => c_X7_total l D cy h9) wB_yX7_total ml_X10_81 im_yX7_total se_yX7_total (ci := 6) rfl rfl rfl rfl rfl (Nat.le_of_ble_eq_true rfl) ⟨(Nat.le_of_ble_eq_true rfl), (Nat.le_of_ble_eq_true rfl)⟩ dX10_recipe_22 rfl rfl (fun v2 σ V hp => ?_)
    refine pv_bipush C hp dX10_recipe_25 (by decide) (fun v3 hp => ?_)
    refine pv_icmp_ne (tgt := 38) C hp dX10_recipe_27 (by decide) (fun hp => ?_) (fun hp => ?_)
    · refine pv_aload_n C 0 dX10_recipe_38 rfl ?_
      refine pv_getR C (ci := 9) (k := 2) gwX10 rfl (Nat.le_of_ble_eq_true rfl) fl_X10_30 rfl rfl rfl (j := 16) rfl rfl dX10_recipe_39 ?_
      refine pv_callV C (As := []) (rest := []) (b := 16) (kd1 := 0) hp (fun q1 h9 => c_X5_forget l D cy h9) wB_yX5_forget ml_X10_53 im_yX5_forget se_yX5_forget (ci := 4) rfl rfl rfl rfl rfl (Nat.le_of_ble_eq_true rfl) ⟨(Nat.le_of_ble_eq_true rfl), (Nat.le_of_ble_eq_true rfl)⟩ dX10_recipe_42 rfl rfl (fun _ σ V hp => ?_)
      refine pv_aload_n C 0 dX10_recipe_45 rfl ?_
      refine pv_getR C (ci := 9) (k := 0) gwX10 rfl (Nat.le_of_ble_eq_true rfl) fl_X10_12 rfl rfl rfl (j := 1) rfl rfl dX10_recipe_46 ?_
      refine pv_callV C (As := []) (rest := []) (b := 1) (kd1 := 5) hp (fun q1 h9 => c_X6_recipes l D cy h9) wB_yX6_recipes ml_X10_77 im_yX6_recipes se_yX6_recipes (ci := 5) rfl rfl rfl rfl rfl (Nat.le_of_ble_eq_true rfl) ⟨(Nat.le_of_ble_eq_true rfl), (Nat.le_of_ble_eq_true rfl)⟩ dX10_recipe_49 rfl rfl (fun _ σ V hp => ?_)
      refine pv_lload_n C 1 dX10_recipe_52 rfl ?_
      refine pv_callV C (As := [.long x1]) (rest := []) (b := 2) (kd1 := 1) hp (fun q1 h9 => c_X7_add l D cy h9) wB_yX7_add ml_X10_84 im_yX7_add se_yX7_add (ci := 6) rfl rfl rfl rfl rfl (Nat.le_of_ble_eq_true rfl) ⟨(Nat.le_of_ble_eq_true rfl), (Nat.le_of_ble_eq_true rfl)⟩ dX10_recipe_53 rfl rfl (fun v4 σ V hp => ?_)
      exact pv_iretX C hp hr dX10_recipe_56
    · exact pv_throw C hl0 hZ hno hp dX10_recipe_30 dX10_recipe_33 dX10_recipe_34 dX10_recipe_37 tf_IS tn_IS tw_IS (Nat.le_of_ble_eq_true rfl) (Nat.le_of_ble_eq_true rfl) (Or.inr rfl)
  · exact pv_throw C hl0 hZ hno hp dX10_recipe_7 dX10_recipe_10 dX10_recipe_11 dX10_recipe_14 tf_IA tn_IA tw_IA (Nat.le_of_ble_eq_true rfl) (Nat.le_of_ble_eq_true rfl) (Or.inl rfl)
def q_X10_count (N : Nat) (x1 : Int) (V : pvM) : Option pvO :=
  if x1 < 0 then
    tH V 1
  else
  lI (3) fun v1 =>
  if x1 ≤ v1 then
    if x1 ≠ 0 then
      lI (1) fun v2 =>
      if x1 ≠ v2 then
        cL (q_X5_isMade N V) fun v3 V =>
        if v3 ≠ 0 then
          lI (2) fun v4 =>
          if x1 ≠ v4 then
            cL (q_X6_recipes N V) fun _ V =>
            cL (q_X7_letterTotal N V) fun v5 V =>
            rT V v5
          else
          cL (q_X5_classTotal N V) fun v6 V =>
          rT V v6
        else
        tH V 2
      else
      cL (q_X6_recipes N V) fun _ V =>
      cL (q_X7_total N V) fun v7 V =>
      rT V v7
    else
    cL (q_X6_functionTotal N V) fun v8 V =>
    rT V v8
  else
  tH V 1
set_option maxHeartbeats 4000000 in
set_option maxRecDepth 100000 in
theorem c_X10_count (l : Launch) (hl0 : l.stackTraces = false) (D : va_G) (cy : Nat → ClassId) {N : Nat} {x1 : Int32} {V : pvM} {q : pvO} (hp : q_X10_count N x1.toInt V = some q) : pv_MetX l yX10_count cX10_count 2 (some .int) 6 91 D cy V [.ref 0, .int x1] q := by
  unfold q_X10_count at hp
  refine pv_ofWX (by decide) (Nat.le_of_ble_eq_true rfl) (fun p e s m args below meth c ad A n0 σ C hr hZ hno => ?_)
  refine pv_iload_n C 1 dX10_count_0 rfl ?_
  refine pv_if_lt (tgt := 9) C hp dX10_count_1 (by decide) (fun hp => ?_) (fun hp => ?_)
  · exact pv_throw C hl0 hZ hno hp dX10_count_9 dX10_count_12 dX10_count_13 dX10_count_16 tf_IA tn_IA tw_IA (Nat.le_of_ble_eq_true rfl) (Nat.le_of_ble_eq_true rfl) (Or.inl rfl)
  · refine pv_iload_n C 1 dX10_count_4 rfl ?_
    refine pv_iconst C hp dX10_count_5 (by decide) (fun v1 hp => ?_)
    refine pv_icmp_le (tgt := 17) C hp dX10_count_6 (by decide) (fun hp => ?_) (fun hp => ?_)
    · refine pv_iload_n C 1 dX10_count_17 rfl ?_
      refine pv_if_ne (tgt := 29) C hp dX10_count_18 (by decide) (fun hp => ?_) (fun hp => ?_)
      · refine pv_iload_n C 1 dX10_count_29 rfl ?_
        refine pv_iconst C hp dX10_count_30 (by decide) (fun v2 hp => ?_)
        refine pv_icmp_ne (tgt := 45) C hp dX10_count_31 (by decide) (fun hp => ?_) (fun hp => ?_)
        · refine pv_aload_n C 0 dX10_count_45 rfl ?_
          refine pv_getR C (ci := 9) (k := 2) gwX10 rfl (Nat.le_of_ble_eq_true rfl) fl_X10_30 rfl rfl rfl (j := 16) rfl rfl dX10_count_46 ?_
          refine pv_callV C (As := []) (rest := []) (b := 16) (kd1 := 1) hp (fun q1 h9 => c_X5_isMade l D cy h9) wB_yX5_isMade ml_X10_97 im_yX5_isMade se_yX5_isMade (ci := 4) rfl rfl rfl rfl rfl (Nat.le_of_ble_eq_true rfl) ⟨(Nat.le_of_ble_eq_true rfl), (Nat.le_of_ble_eq_true rfl)⟩ dX10_count_49 rfl rfl (fun v3 σ V hp => ?_)
          refine pv_if_ne (tgt := 63) C hp dX10_count_52 (by decide) (fun hp => ?_) (fun hp => ?_)
          · refine pv_iload_n C 1 dX10_count_63 rfl ?_
            refine pv_iconst C hp dX10_count_64 (by decide) (fun v4 hp => ?_)
            refine pv_icmp_ne (tgt := 78) C hp dX10_count_65 (by decide) (fun hp => ?_) (fun hp => ?_)
            · refine pv_aload_n C 0 dX10_count_78 rfl ?_
              refine pv_getR C (ci := 9) (k := 0) gwX10 rfl (Nat.le_of_ble_eq_true rfl) fl_X10_12 rfl rfl rfl (j := 1) rfl rfl dX10_count_79 ?_
              refine pv_callV C (As := []) (rest := []) (b := 1) (kd1 := 5) hp (fun q1 h9 => c_X6_recipes l D cy h9) wB_yX6_recipes ml_X10_77 im_yX6_recipes se_yX6_recipes (ci := 5) rfl rfl rfl rfl rfl (Nat.le_of_ble_eq_true rfl) ⟨(Nat.le_of_ble_eq_true rfl), (Nat.le_of_ble_eq_true rfl)⟩ dX10_count_82 rfl rfl (fun _ σ V hp => ?_)
              refine pv_callV C (As := []) (rest := []) (b := 2) (kd1 := 1) hp (fun q1 h9 => c_X7_letterTotal l D cy h9) wB_yX7_letterTotal ml_X10_104 im_yX7_letterTotal se_yX7_letterTotal (ci := 6) rfl rfl rfl rfl rfl (Nat.le_of_ble_eq_true rfl) ⟨(Nat.le_of_ble_eq_true rfl), (Nat.le_of_ble_eq_true rfl)⟩ dX10_count_85 rfl rfl (fun v5 σ V hp => ?_)
              exact pv_iretX C hp hr dX10_count_88
            · refine pv_aload_n C 0 dX10_count_68 rfl ?_
              refine pv_getR C (ci := 9) (k := 2) gwX10 rfl (Nat.le_of_ble_eq_true rfl) fl_X10_30 rfl rfl rfl (j := 16) rfl rfl dX10_count_69 ?_
              refine pv_callV C (As := []) (rest := []) (b := 16) (kd1 := 1) hp (fun q1 h9 => c_X5_classTotal l D cy h9) wB_yX5_classTotal ml_X10_101 im_yX5_classTotal se_yX5_classTotal (ci := 4) rfl rfl rfl rfl rfl (Nat.le_of_ble_eq_true rfl) ⟨(Nat.le_of_ble_eq_true rfl), (Nat.le_of_ble_eq_true rfl)⟩ dX10_count_72 rfl rfl (fun v6 σ V hp => ?_)
              refine pv_goto (tgt := 88) C dX10_count_75 (by decide) ?_
              exact pv_iretX C hp hr dX10_count_88
          · exact pv_throw C hl0 hZ hno hp dX10_count_55 dX10_count_58 dX10_count_59 dX10_count_62 tf_IS tn_IS tw_IS (Nat.le_of_ble_eq_true rfl) (Nat.le_of_ble_eq_true rfl) (Or.inr rfl)
        · refine pv_aload_n C 0 dX10_count_34 rfl ?_
          refine pv_getR C (ci := 9) (k := 0) gwX10 rfl (Nat.le_of_ble_eq_true rfl) fl_X10_12 rfl rfl rfl (j := 1) rfl rfl dX10_count_35 ?_
          refine pv_callV C (As := []) (rest := []) (b := 1) (kd1 := 5) hp (fun q1 h9 => c_X6_recipes l D cy h9) wB_yX6_recipes ml_X10_77 im_yX6_recipes se_yX6_recipes (ci := 5) rfl rfl rfl rfl rfl (Nat.le_of_ble_eq_true rfl) ⟨(Nat.le_of_ble_eq_true rfl), (Nat.le_of_ble_eq_true rfl)⟩ dX10_count_38 rfl rfl (fun _ σ V hp => ?_)
          refine pv_callV C (As := []) (rest := []) (b := 2) (kd1 := 1) hp (fun q1 h9 => c_X7_total l D cy h9) wB_yX7_total ml_X10_81 im_yX7_total se_yX7_total (ci := 6) rfl rfl rfl rfl rfl (Nat.le_of_ble_eq_true rfl) ⟨(Nat.le_of_ble_eq_true rfl), (Nat.le_of_ble_eq_true rfl)⟩ dX10_count_41 rfl rfl (fun v7 σ V hp => ?_)
          exact pv_iretX C hp hr dX10_count_44
      · refine pv_aload_n C 0 dX10_count_21 rfl ?_
        refine pv_getR C (ci := 9) (k := 0) gwX10 rfl (Nat.le_of_ble_eq_true rfl) fl_X10_12 rfl rfl rfl (j := 1) rfl rfl dX10_count_22 ?_
        refine pv_callV C (As := []) (rest := []) (b := 1) (kd1 := 1) hp (fun q1 h9 => c_X6_functionTotal l D cy h9) wB_yX6_functionTotal ml_X10_46 im_yX6_functionTotal se_yX6_functionTotal (ci := 5) rfl rfl rfl rfl rfl (Nat.le_of_ble_eq_true rfl) ⟨(Nat.le_of_ble_eq_true rfl), (Nat.le_of_ble_eq_true rfl)⟩ dX10_count_25 rfl rfl (fun v8 σ V hp => ?_)
        exact pv_iretX C hp hr dX10_count_28
    · exact pv_throw C hl0 hZ hno hp dX10_count_9 dX10_count_12 dX10_count_13 dX10_count_16 tf_IA tn_IA tw_IA (Nat.le_of_ble_eq_true rfl) (Nat.le_of_ble_eq_true rfl) (Or.inl rfl)
def q_X10_size (N : Nat) (x1 : Int) (x2 : Int) (V : pvM) : Option pvO :=
  cL (q_X6_hasFunction N x1 V) fun v1 V =>
  if v1 = 0 then
    tH V 1
  else
  if x2 < 0 then
    tH V 1
  else
  lI (3) fun v2 =>
  if x2 ≤ v2 then
    if x2 ≠ 0 then
      cL (q_X5_isMade N V) fun v3 V =>
      if v3 ≠ 0 then
        lI (1) fun v4 =>
        if x2 ≠ v4 then
          lI (2) fun v5 =>
          if x2 ≠ v5 then
            cL (q_X5_plainHeightOf N x1 V) fun v6 V =>
            rT V v6
          else
          cL (q_X5_sourceHeightOf N x1 V) fun v7 V =>
          rT V v7
        else
        cL (q_X5_lengthOf N x1 V) fun v8 V =>
        rT V v8
      else
      tH V 2
    else
    cL (q_X6_lengthOf N x1 V) fun v9 V =>
    rT V v9
  else
  tH V 1
set_option maxHeartbeats 4000000 in
set_option maxRecDepth 100000 in
theorem c_X10_size (l : Launch) (hl0 : l.stackTraces = false) (D : va_G) (cy : Nat → ClassId) {N : Nat} {x1 : Int32} {x2 : Int32} {V : pvM} {q : pvO} (hp : q_X10_size N x1.toInt x2.toInt V = some q) : pv_MetX l yX10_size cX10_size 3 (some .int) 6 91 D cy V [.ref 0, .int x1, .int x2] q := by
  unfold q_X10_size at hp
  refine pv_ofWX (by decide) (Nat.le_of_ble_eq_true rfl) (fun p e s m args below meth c ad A n0 σ C hr hZ hno => ?_)
  refine pv_aload_n C 0 dX10_size_0 rfl ?_
  refine pv_getR C (ci := 9) (k := 0) gwX10 rfl (Nat.le_of_ble_eq_true rfl) fl_X10_12 rfl rfl rfl (j := 1) rfl rfl dX10_size_1 ?_
  refine pv_iload_n C 1 dX10_size_4 rfl ?_
  refine pv_callV C (As := [.int x1]) (rest := []) (b := 1) (kd1 := 1) hp (fun q1 h9 => c_X6_hasFunction l D cy h9) wB_yX6_hasFunction ml_X10_60 im_yX6_hasFunction se_yX6_hasFunction (ci := 5) rfl rfl rfl rfl rfl (Nat.le_of_ble_eq_true rfl) ⟨(Nat.le_of_ble_eq_true rfl), (Nat.le_of_ble_eq_true rfl)⟩ dX10_size_5 rfl rfl (fun v1 σ V hp => ?_)
  refine pv_if_eq (tgt := 20) C hp dX10_size_8 (by decide) (fun hp => ?_) (fun hp => ?_)
  · exact pv_throw C hl0 hZ hno hp dX10_size_20 dX10_size_23 dX10_size_24 dX10_size_27 tf_IA tn_IA tw_IA (Nat.le_of_ble_eq_true rfl) (Nat.le_of_ble_eq_true rfl) (Or.inl rfl)
  · refine pv_iload_n C 2 dX10_size_11 rfl ?_
    refine pv_if_lt (tgt := 20) C hp dX10_size_12 (by decide) (fun hp => ?_) (fun hp => ?_)
    · exact pv_throw C hl0 hZ hno hp dX10_size_20 dX10_size_23 dX10_size_24 dX10_size_27 tf_IA tn_IA tw_IA (Nat.le_of_ble_eq_true rfl) (Nat.le_of_ble_eq_true rfl) (Or.inl rfl)
    · refine pv_iload_n C 2 dX10_size_15 rfl ?_
      refine pv_iconst C hp dX10_size_16 (by decide) (fun v2 hp => ?_)
      refine pv_icmp_le (tgt := 28) C hp dX10_size_17 (by decide) (fun hp => ?_) (fun hp => ?_)
      · refine pv_iload_n C 2 dX10_size_28 rfl ?_
        refine pv_if_ne (tgt := 41) C hp dX10_size_29 (by decide) (fun hp => ?_) (fun hp => ?_)
        · refine pv_aload_n C 0 dX10_size_41 rfl ?_
          refine pv_getR C (ci := 9) (k := 2) gwX10 rfl (Nat.le_of_ble_eq_true rfl) fl_X10_30 rfl rfl rfl (j := 16) rfl rfl dX10_size_42 ?_
          refine pv_callV C (As := []) (rest := []) (b := 16) (kd1 := 1) hp (fun q1 h9 => c_X5_isMade l D cy h9) wB_yX5_isMade ml_X10_97 im_yX5_isMade se_yX5_isMade (ci := 4) rfl rfl rfl rfl rfl (Nat.le_of_ble_eq_true rfl) ⟨(Nat.le_of_ble_eq_true rfl), (Nat.le_of_ble_eq_true rfl)⟩ dX10_size_45 rfl rfl (fun v3 σ V hp => ?_)
          refine pv_if_ne (tgt := 59) C hp dX10_size_48 (by decide) (fun hp => ?_) (fun hp => ?_)
          · refine pv_iload_n C 2 dX10_size_59 rfl ?_
            refine pv_iconst C hp dX10_size_60 (by decide) (fun v4 hp => ?_)
            refine pv_icmp_ne (tgt := 73) C hp dX10_size_61 (by decide) (fun hp => ?_) (fun hp => ?_)
            · refine pv_iload_n C 2 dX10_size_73 rfl ?_
              refine pv_iconst C hp dX10_size_74 (by decide) (fun v5 hp => ?_)
              refine pv_icmp_ne (tgt := 89) C hp dX10_size_75 (by decide) (fun hp => ?_) (fun hp => ?_)
              · refine pv_aload_n C 0 dX10_size_89 rfl ?_
                refine pv_getR C (ci := 9) (k := 2) gwX10 rfl (Nat.le_of_ble_eq_true rfl) fl_X10_30 rfl rfl rfl (j := 16) rfl rfl dX10_size_90 ?_
                refine pv_iload_n C 1 dX10_size_93 rfl ?_
                refine pv_callV C (As := [.int x1]) (rest := []) (b := 16) (kd1 := 1) hp (fun q1 h9 => c_X5_plainHeightOf l D cy h9) wB_yX5_plainHeightOf ml_X10_111 im_yX5_plainHeightOf se_yX5_plainHeightOf (ci := 4) rfl rfl rfl rfl rfl (Nat.le_of_ble_eq_true rfl) ⟨(Nat.le_of_ble_eq_true rfl), (Nat.le_of_ble_eq_true rfl)⟩ dX10_size_94 rfl rfl (fun v6 σ V hp => ?_)
                exact pv_iretX C hp hr dX10_size_97
              · refine pv_aload_n C 0 dX10_size_78 rfl ?_
                refine pv_getR C (ci := 9) (k := 2) gwX10 rfl (Nat.le_of_ble_eq_true rfl) fl_X10_30 rfl rfl rfl (j := 16) rfl rfl dX10_size_79 ?_
                refine pv_iload_n C 1 dX10_size_82 rfl ?_
                refine pv_callV C (As := [.int x1]) (rest := []) (b := 16) (kd1 := 1) hp (fun q1 h9 => c_X5_sourceHeightOf l D cy h9) wB_yX5_sourceHeightOf ml_X10_108 im_yX5_sourceHeightOf se_yX5_sourceHeightOf (ci := 4) rfl rfl rfl rfl rfl (Nat.le_of_ble_eq_true rfl) ⟨(Nat.le_of_ble_eq_true rfl), (Nat.le_of_ble_eq_true rfl)⟩ dX10_size_83 rfl rfl (fun v7 σ V hp => ?_)
                refine pv_goto (tgt := 97) C dX10_size_86 (by decide) ?_
                exact pv_iretX C hp hr dX10_size_97
            · refine pv_aload_n C 0 dX10_size_64 rfl ?_
              refine pv_getR C (ci := 9) (k := 2) gwX10 rfl (Nat.le_of_ble_eq_true rfl) fl_X10_30 rfl rfl rfl (j := 16) rfl rfl dX10_size_65 ?_
              refine pv_iload_n C 1 dX10_size_68 rfl ?_
              refine pv_callV C (As := [.int x1]) (rest := []) (b := 16) (kd1 := 1) hp (fun q1 h9 => c_X5_lengthOf l D cy h9) wB_yX5_lengthOf ml_X10_107 im_yX5_lengthOf se_yX5_lengthOf (ci := 4) rfl rfl rfl rfl rfl (Nat.le_of_ble_eq_true rfl) ⟨(Nat.le_of_ble_eq_true rfl), (Nat.le_of_ble_eq_true rfl)⟩ dX10_size_69 rfl rfl (fun v8 σ V hp => ?_)
              exact pv_iretX C hp hr dX10_size_72
          · exact pv_throw C hl0 hZ hno hp dX10_size_51 dX10_size_54 dX10_size_55 dX10_size_58 tf_IS tn_IS tw_IS (Nat.le_of_ble_eq_true rfl) (Nat.le_of_ble_eq_true rfl) (Or.inr rfl)
        · refine pv_aload_n C 0 dX10_size_32 rfl ?_
          refine pv_getR C (ci := 9) (k := 0) gwX10 rfl (Nat.le_of_ble_eq_true rfl) fl_X10_12 rfl rfl rfl (j := 1) rfl rfl dX10_size_33 ?_
          refine pv_iload_n C 1 dX10_size_36 rfl ?_
          refine pv_callV C (As := [.int x1]) (rest := []) (b := 1) (kd1 := 1) hp (fun q1 h9 => c_X6_lengthOf l D cy h9) wB_yX6_lengthOf ml_X10_64 im_yX6_lengthOf se_yX6_lengthOf (ci := 5) rfl rfl rfl rfl rfl (Nat.le_of_ble_eq_true rfl) ⟨(Nat.le_of_ble_eq_true rfl), (Nat.le_of_ble_eq_true rfl)⟩ dX10_size_37 rfl rfl (fun v9 σ V hp => ?_)
          exact pv_iretX C hp hr dX10_size_40
      · exact pv_throw C hl0 hZ hno hp dX10_size_20 dX10_size_23 dX10_size_24 dX10_size_27 tf_IA tn_IA tw_IA (Nat.le_of_ble_eq_true rfl) (Nat.le_of_ble_eq_true rfl) (Or.inl rfl)
def q_X10_plain (N : Nat) (x1 : Int) (x2 : Int) (x3 : Int) (V : pvM) : Option pvO :=
  cL (q_X6_hasFunction N x1 V) fun v1 V =>
  if v1 = 0 then
    tH V 1
  else
  if x2 < 0 then
    tH V 1
  else
  if x3 < 0 then
    tH V 1
  else
  lI (2) fun v2 =>
  if x3 ≤ v2 then
    cL (q_X5_isMade N V) fun v3 V =>
    if v3 ≠ 0 then
      cL (q_X5_lengthOf N x1 V) fun v4 V =>
      if x2 < v4 then
        if x3 ≠ 0 then
          lI (1) fun v5 =>
          if x3 ≠ v5 then
            cL (q_X5_secondNumberAt N x1 x2 V) fun v6 V =>
            rT V v6
          else
          cL (q_X5_firstNumberAt N x1 x2 V) fun v7 V =>
          rT V v7
        else
        cL (q_X5_wordAt N x1 x2 V) fun v8 V =>
        rT V v8
      else
      tH V 1
    else
    tH V 2
  else
  tH V 1
set_option maxHeartbeats 4000000 in
set_option maxRecDepth 100000 in
theorem c_X10_plain (l : Launch) (hl0 : l.stackTraces = false) (D : va_G) (cy : Nat → ClassId) {N : Nat} {x1 : Int32} {x2 : Int32} {x3 : Int32} {V : pvM} {q : pvO} (hp : q_X10_plain N x1.toInt x2.toInt x3.toInt V = some q) : pv_MetX l yX10_plain cX10_plain 4 (some .int) 6 91 D cy V [.ref 0, .int x1, .int x2, .int x3] q := by
  unfold q_X10_plain at hp
  refine pv_ofWX (by decide) (Nat.le_of_ble_eq_true rfl) (fun p e s m args below meth c ad A n0 σ C hr hZ hno => ?_)
  refine pv_aload_n C 0 dX10_plain_0 rfl ?_
  refine pv_getR C (ci := 9) (k := 0) gwX10 rfl (Nat.le_of_ble_eq_true rfl) fl_X10_12 rfl rfl rfl (j := 1) rfl rfl dX10_plain_1 ?_
  refine pv_iload_n C 1 dX10_plain_4 rfl ?_
  refine pv_callV C (As := [.int x1]) (rest := []) (b := 1) (kd1 := 1) hp (fun q1 h9 => c_X6_hasFunction l D cy h9) wB_yX6_hasFunction ml_X10_60 im_yX6_hasFunction se_yX6_hasFunction (ci := 5) rfl rfl rfl rfl rfl (Nat.le_of_ble_eq_true rfl) ⟨(Nat.le_of_ble_eq_true rfl), (Nat.le_of_ble_eq_true rfl)⟩ dX10_plain_5 rfl rfl (fun v1 σ V hp => ?_)
  refine pv_if_eq (tgt := 24) C hp dX10_plain_8 (by decide) (fun hp => ?_) (fun hp => ?_)
  · exact pv_throw C hl0 hZ hno hp dX10_plain_24 dX10_plain_27 dX10_plain_28 dX10_plain_31 tf_IA tn_IA tw_IA (Nat.le_of_ble_eq_true rfl) (Nat.le_of_ble_eq_true rfl) (Or.inl rfl)
  · refine pv_iload_n C 2 dX10_plain_11 rfl ?_
    refine pv_if_lt (tgt := 24) C hp dX10_plain_12 (by decide) (fun hp => ?_) (fun hp => ?_)
    · exact pv_throw C hl0 hZ hno hp dX10_plain_24 dX10_plain_27 dX10_plain_28 dX10_plain_31 tf_IA tn_IA tw_IA (Nat.le_of_ble_eq_true rfl) (Nat.le_of_ble_eq_true rfl) (Or.inl rfl)
    · refine pv_iload_n C 3 dX10_plain_15 rfl ?_
      refine pv_if_lt (tgt := 24) C hp dX10_plain_16 (by decide) (fun hp => ?_) (fun hp => ?_)
      · exact pv_throw C hl0 hZ hno hp dX10_plain_24 dX10_plain_27 dX10_plain_28 dX10_plain_31 tf_IA tn_IA tw_IA (Nat.le_of_ble_eq_true rfl) (Nat.le_of_ble_eq_true rfl) (Or.inl rfl)
      · refine pv_iload_n C 3 dX10_plain_19 rfl ?_
        refine pv_iconst C hp dX10_plain_20 (by decide) (fun v2 hp => ?_)
        refine pv_icmp_le (tgt := 32) C hp dX10_plain_21 (by decide) (fun hp => ?_) (fun hp => ?_)
        · refine pv_aload_n C 0 dX10_plain_32 rfl ?_
          refine pv_getR C (ci := 9) (k := 2) gwX10 rfl (Nat.le_of_ble_eq_true rfl) fl_X10_30 rfl rfl rfl (j := 16) rfl rfl dX10_plain_33 ?_
          refine pv_callV C (As := []) (rest := []) (b := 16) (kd1 := 1) hp (fun q1 h9 => c_X5_isMade l D cy h9) wB_yX5_isMade ml_X10_97 im_yX5_isMade se_yX5_isMade (ci := 4) rfl rfl rfl rfl rfl (Nat.le_of_ble_eq_true rfl) ⟨(Nat.le_of_ble_eq_true rfl), (Nat.le_of_ble_eq_true rfl)⟩ dX10_plain_36 rfl rfl (fun v3 σ V hp => ?_)
          refine pv_if_ne (tgt := 50) C hp dX10_plain_39 (by decide) (fun hp => ?_) (fun hp => ?_)
          · refine pv_iload_n C 2 dX10_plain_50 rfl ?_
            refine pv_aload_n C 0 dX10_plain_51 rfl ?_
            refine pv_getR C (ci := 9) (k := 2) gwX10 rfl (Nat.le_of_ble_eq_true rfl) fl_X10_30 rfl rfl rfl (j := 16) rfl rfl dX10_plain_52 ?_
            refine pv_iload_n C 1 dX10_plain_55 rfl ?_
            refine pv_callV C (As := [.int x1]) (rest := [.int x2]) (b := 16) (kd1 := 1) hp (fun q1 h9 => c_X5_lengthOf l D cy h9) wB_yX5_lengthOf ml_X10_107 im_yX5_lengthOf se_yX5_lengthOf (ci := 4) rfl rfl rfl rfl rfl (Nat.le_of_ble_eq_true rfl) ⟨(Nat.le_of_ble_eq_true rfl), (Nat.le_of_ble_eq_true rfl)⟩ dX10_plain_56 rfl rfl (fun v4 σ V hp => ?_)
            refine pv_icmp_lt (tgt := 70) C hp dX10_plain_59 (by decide) (fun hp => ?_) (fun hp => ?_)
            · refine pv_iload_n C 3 dX10_plain_70 rfl ?_
              refine pv_if_ne (tgt := 84) C hp dX10_plain_71 (by decide) (fun hp => ?_) (fun hp => ?_)
              · refine pv_iload_n C 3 dX10_plain_84 rfl ?_
                refine pv_iconst C hp dX10_plain_85 (by decide) (fun v5 hp => ?_)
                refine pv_icmp_ne (tgt := 101) C hp dX10_plain_86 (by decide) (fun hp => ?_) (fun hp => ?_)
                · refine pv_aload_n C 0 dX10_plain_101 rfl ?_
                  refine pv_getR C (ci := 9) (k := 2) gwX10 rfl (Nat.le_of_ble_eq_true rfl) fl_X10_30 rfl rfl rfl (j := 16) rfl rfl dX10_plain_102 ?_
                  refine pv_iload_n C 1 dX10_plain_105 rfl ?_
                  refine pv_iload_n C 2 dX10_plain_106 rfl ?_
                  refine pv_callV C (As := [.int x1, .int x2]) (rest := []) (b := 16) (kd1 := 1) hp (fun q1 h9 => c_X5_secondNumberAt l D cy h9) wB_yX5_secondNumberAt ml_X10_121 im_yX5_secondNumberAt se_yX5_secondNumberAt (ci := 4) rfl rfl rfl rfl rfl (Nat.le_of_ble_eq_true rfl) ⟨(Nat.le_of_ble_eq_true rfl), (Nat.le_of_ble_eq_true rfl)⟩ dX10_plain_107 rfl rfl (fun v6 σ V hp => ?_)
                  exact pv_iretX C hp hr dX10_plain_110
                · refine pv_aload_n C 0 dX10_plain_89 rfl ?_
                  refine pv_getR C (ci := 9) (k := 2) gwX10 rfl (Nat.le_of_ble_eq_true rfl) fl_X10_30 rfl rfl rfl (j := 16) rfl rfl dX10_plain_90 ?_
                  refine pv_iload_n C 1 dX10_plain_93 rfl ?_
                  refine pv_iload_n C 2 dX10_plain_94 rfl ?_
                  refine pv_callV C (As := [.int x1, .int x2]) (rest := []) (b := 16) (kd1 := 1) hp (fun q1 h9 => c_X5_firstNumberAt l D cy h9) wB_yX5_firstNumberAt ml_X10_118 im_yX5_firstNumberAt se_yX5_firstNumberAt (ci := 4) rfl rfl rfl rfl rfl (Nat.le_of_ble_eq_true rfl) ⟨(Nat.le_of_ble_eq_true rfl), (Nat.le_of_ble_eq_true rfl)⟩ dX10_plain_95 rfl rfl (fun v7 σ V hp => ?_)
                  refine pv_goto (tgt := 110) C dX10_plain_98 (by decide) ?_
                  exact pv_iretX C hp hr dX10_plain_110
              · refine pv_aload_n C 0 dX10_plain_74 rfl ?_
                refine pv_getR C (ci := 9) (k := 2) gwX10 rfl (Nat.le_of_ble_eq_true rfl) fl_X10_30 rfl rfl rfl (j := 16) rfl rfl dX10_plain_75 ?_
                refine pv_iload_n C 1 dX10_plain_78 rfl ?_
                refine pv_iload_n C 2 dX10_plain_79 rfl ?_
                refine pv_callV C (As := [.int x1, .int x2]) (rest := []) (b := 16) (kd1 := 1) hp (fun q1 h9 => c_X5_wordAt l D cy h9) wB_yX5_wordAt ml_X10_114 im_yX5_wordAt se_yX5_wordAt (ci := 4) rfl rfl rfl rfl rfl (Nat.le_of_ble_eq_true rfl) ⟨(Nat.le_of_ble_eq_true rfl), (Nat.le_of_ble_eq_true rfl)⟩ dX10_plain_80 rfl rfl (fun v8 σ V hp => ?_)
                exact pv_iretX C hp hr dX10_plain_83
            · exact pv_throw C hl0 hZ hno hp dX10_plain_62 dX10_plain_65 dX10_plain_66 dX10_plain_69 tf_IA tn_IA tw_IA (Nat.le_of_ble_eq_true rfl) (Nat.le_of_ble_eq_true rfl) (Or.inl rfl)
          · exact pv_throw C hl0 hZ hno hp dX10_plain_42 dX10_plain_45 dX10_plain_46 dX10_plain_49 tf_IS tn_IS tw_IS (Nat.le_of_ble_eq_true rfl) (Nat.le_of_ble_eq_true rfl) (Or.inr rfl)
        · exact pv_throw C hl0 hZ hno hp dX10_plain_24 dX10_plain_27 dX10_plain_28 dX10_plain_31 tf_IA tn_IA tw_IA (Nat.le_of_ble_eq_true rfl) (Nat.le_of_ble_eq_true rfl) (Or.inl rfl)
def q_X10_made (N : Nat) (x1 : Int) (x2 : Int) (V : pvM) : Option pvO :=
  if x1 < 0 then
    tH V 1
  else
  if x2 < 0 then
    tH V 1
  else
  lI (2) fun v1 =>
  if x2 ≤ v1 then
    cL (q_X5_isMade N V) fun v2 V =>
    if v2 ≠ 0 then
      cL (q_X5_classTotal N V) fun v3 V =>
      if x1 < v3 then
        if x2 ≠ 0 then
          lI (1) fun v4 =>
          if x2 ≠ v4 then
            cL (q_X5_methodOfClass N x1 V) fun v5 V =>
            cL (q_X5_lengthOf N v5 V) fun v6 V =>
            rT V v6
          else
          cL (q_X5_functionOfClass N x1 V) fun v7 V =>
          rT V v7
        else
        cL (q_X5_valuesOfClass N x1 V) fun v8 V =>
        rT V v8
      else
      tH V 1
    else
    tH V 2
  else
  tH V 1
set_option maxHeartbeats 4000000 in
set_option maxRecDepth 100000 in
theorem c_X10_made (l : Launch) (hl0 : l.stackTraces = false) (D : va_G) (cy : Nat → ClassId) {N : Nat} {x1 : Int32} {x2 : Int32} {V : pvM} {q : pvO} (hp : q_X10_made N x1.toInt x2.toInt V = some q) : pv_MetX l yX10_made cX10_made 3 (some .int) 6 91 D cy V [.ref 0, .int x1, .int x2] q := by
  unfold q_X10_made at hp
  refine pv_ofWX (by decide) (Nat.le_of_ble_eq_true rfl) (fun p e s m args below meth c ad A n0 σ C hr hZ hno => ?_)
  refine pv_iload_n C 1 dX10_made_0 rfl ?_
  refine pv_if_lt (tgt := 13) C hp dX10_made_1 (by decide) (fun hp => ?_) (fun hp => ?_)
  · exact pv_throw C hl0 hZ hno hp dX10_made_13 dX10_made_16 dX10_made_17 dX10_made_20 tf_IA tn_IA tw_IA (Nat.le_of_ble_eq_true rfl) (Nat.le_of_ble_eq_true rfl) (Or.inl rfl)
  · refine pv_iload_n C 2 dX10_made_4 rfl ?_
    refine pv_if_lt (tgt := 13) C hp dX10_made_5 (by decide) (fun hp => ?_) (fun hp => ?_)
    · exact pv_throw C hl0 hZ hno hp dX10_made_13 dX10_made_16 dX10_made_17 dX10_made_20 tf_IA tn_IA tw_IA (Nat.le_of_ble_eq_true rfl) (Nat.le_of_ble_eq_true rfl) (Or.inl rfl)
    · refine pv_iload_n C 2 dX10_made_8 rfl ?_
      refine pv_iconst C hp dX10_made_9 (by decide) (fun v1 hp => ?_)
      refine pv_icmp_le (tgt := 21) C hp dX10_made_10 (by decide) (fun hp => ?_) (fun hp => ?_)
      · refine pv_aload_n C 0 dX10_made_21 rfl ?_
        refine pv_getR C (ci := 9) (k := 2) gwX10 rfl (Nat.le_of_ble_eq_true rfl) fl_X10_30 rfl rfl rfl (j := 16) rfl rfl dX10_made_22 ?_
        refine pv_callV C (As := []) (rest := []) (b := 16) (kd1 := 1) hp (fun q1 h9 => c_X5_isMade l D cy h9) wB_yX5_isMade ml_X10_97 im_yX5_isMade se_yX5_isMade (ci := 4) rfl rfl rfl rfl rfl (Nat.le_of_ble_eq_true rfl) ⟨(Nat.le_of_ble_eq_true rfl), (Nat.le_of_ble_eq_true rfl)⟩ dX10_made_25 rfl rfl (fun v2 σ V hp => ?_)
        refine pv_if_ne (tgt := 39) C hp dX10_made_28 (by decide) (fun hp => ?_) (fun hp => ?_)
        · refine pv_iload_n C 1 dX10_made_39 rfl ?_
          refine pv_aload_n C 0 dX10_made_40 rfl ?_
          refine pv_getR C (ci := 9) (k := 2) gwX10 rfl (Nat.le_of_ble_eq_true rfl) fl_X10_30 rfl rfl rfl (j := 16) rfl rfl dX10_made_41 ?_
          refine pv_callV C (As := []) (rest := [.int x1]) (b := 16) (kd1 := 1) hp (fun q1 h9 => c_X5_classTotal l D cy h9) wB_yX5_classTotal ml_X10_101 im_yX5_classTotal se_yX5_classTotal (ci := 4) rfl rfl rfl rfl rfl (Nat.le_of_ble_eq_true rfl) ⟨(Nat.le_of_ble_eq_true rfl), (Nat.le_of_ble_eq_true rfl)⟩ dX10_made_44 rfl rfl (fun v3 σ V hp => ?_)
          refine pv_icmp_lt (tgt := 58) C hp dX10_made_47 (by decide) (fun hp => ?_) (fun hp => ?_)
          · refine pv_iload_n C 2 dX10_made_58 rfl ?_
            refine pv_if_ne (tgt := 71) C hp dX10_made_59 (by decide) (fun hp => ?_) (fun hp => ?_)
            · refine pv_iload_n C 2 dX10_made_71 rfl ?_
              refine pv_iconst C hp dX10_made_72 (by decide) (fun v4 hp => ?_)
              refine pv_icmp_ne (tgt := 87) C hp dX10_made_73 (by decide) (fun hp => ?_) (fun hp => ?_)
              · refine pv_aload_n C 0 dX10_made_87 rfl ?_
                refine pv_getR C (ci := 9) (k := 2) gwX10 rfl (Nat.le_of_ble_eq_true rfl) fl_X10_30 rfl rfl rfl (j := 16) rfl rfl dX10_made_88 ?_
                refine pv_aload_n C 0 dX10_made_91 rfl ?_
                refine pv_getR C (ci := 9) (k := 2) gwX10 rfl (Nat.le_of_ble_eq_true rfl) fl_X10_30 rfl rfl rfl (j := 16) rfl rfl dX10_made_92 ?_
                refine pv_iload_n C 1 dX10_made_95 rfl ?_
                refine pv_callV C (As := [.int x1]) (rest := [.ref 16]) (b := 16) (kd1 := 1) hp (fun q1 h9 => c_X5_methodOfClass l D cy h9) wB_yX5_methodOfClass ml_X10_130 im_yX5_methodOfClass se_yX5_methodOfClass (ci := 4) rfl rfl rfl rfl rfl (Nat.le_of_ble_eq_true rfl) ⟨(Nat.le_of_ble_eq_true rfl), (Nat.le_of_ble_eq_true rfl)⟩ dX10_made_96 rfl rfl (fun v5 σ V hp => ?_)
                refine pv_callV C (As := [.int v5]) (rest := []) (b := 16) (kd1 := 1) hp (fun q1 h9 => c_X5_lengthOf l D cy h9) wB_yX5_lengthOf ml_X10_107 im_yX5_lengthOf se_yX5_lengthOf (ci := 4) rfl rfl rfl rfl rfl (Nat.le_of_ble_eq_true rfl) ⟨(Nat.le_of_ble_eq_true rfl), (Nat.le_of_ble_eq_true rfl)⟩ dX10_made_99 rfl rfl (fun v6 σ V hp => ?_)
                exact pv_iretX C hp hr dX10_made_102
              · refine pv_aload_n C 0 dX10_made_76 rfl ?_
                refine pv_getR C (ci := 9) (k := 2) gwX10 rfl (Nat.le_of_ble_eq_true rfl) fl_X10_30 rfl rfl rfl (j := 16) rfl rfl dX10_made_77 ?_
                refine pv_iload_n C 1 dX10_made_80 rfl ?_
                refine pv_callV C (As := [.int x1]) (rest := []) (b := 16) (kd1 := 1) hp (fun q1 h9 => c_X5_functionOfClass l D cy h9) wB_yX5_functionOfClass ml_X10_127 im_yX5_functionOfClass se_yX5_functionOfClass (ci := 4) rfl rfl rfl rfl rfl (Nat.le_of_ble_eq_true rfl) ⟨(Nat.le_of_ble_eq_true rfl), (Nat.le_of_ble_eq_true rfl)⟩ dX10_made_81 rfl rfl (fun v7 σ V hp => ?_)
                refine pv_goto (tgt := 102) C dX10_made_84 (by decide) ?_
                exact pv_iretX C hp hr dX10_made_102
            · refine pv_aload_n C 0 dX10_made_62 rfl ?_
              refine pv_getR C (ci := 9) (k := 2) gwX10 rfl (Nat.le_of_ble_eq_true rfl) fl_X10_30 rfl rfl rfl (j := 16) rfl rfl dX10_made_63 ?_
              refine pv_iload_n C 1 dX10_made_66 rfl ?_
              refine pv_callV C (As := [.int x1]) (rest := []) (b := 16) (kd1 := 1) hp (fun q1 h9 => c_X5_valuesOfClass l D cy h9) wB_yX5_valuesOfClass ml_X10_124 im_yX5_valuesOfClass se_yX5_valuesOfClass (ci := 4) rfl rfl rfl rfl rfl (Nat.le_of_ble_eq_true rfl) ⟨(Nat.le_of_ble_eq_true rfl), (Nat.le_of_ble_eq_true rfl)⟩ dX10_made_67 rfl rfl (fun v8 σ V hp => ?_)
              exact pv_iretX C hp hr dX10_made_70
          · exact pv_throw C hl0 hZ hno hp dX10_made_50 dX10_made_53 dX10_made_54 dX10_made_57 tf_IA tn_IA tw_IA (Nat.le_of_ble_eq_true rfl) (Nat.le_of_ble_eq_true rfl) (Or.inl rfl)
        · exact pv_throw C hl0 hZ hno hp dX10_made_31 dX10_made_34 dX10_made_35 dX10_made_38 tf_IS tn_IS tw_IS (Nat.le_of_ble_eq_true rfl) (Nat.le_of_ble_eq_true rfl) (Or.inr rfl)
      · exact pv_throw C hl0 hZ hno hp dX10_made_13 dX10_made_16 dX10_made_17 dX10_made_20 tf_IA tn_IA tw_IA (Nat.le_of_ble_eq_true rfl) (Nat.le_of_ble_eq_true rfl) (Or.inl rfl)
def q_X10_character (N : Nat) (x1 : Int) (V : pvM) : Option pvO :=
  if 0 ≤ x1 then
    cL (q_X5_isMade N V) fun v1 V =>
    if v1 ≠ 0 then
      cL (q_X6_recipes N V) fun _ V =>
      cL (q_X7_letterTotal N V) fun v2 V =>
      if x1 < v2 then
        cL (q_X6_recipes N V) fun _ V =>
        cL (q_X7_letterAt N x1 V) fun v3 V =>
        rT V v3
      else
      tH V 1
    else
    tH V 2
  else
  tH V 1
set_option maxHeartbeats 4000000 in
set_option maxRecDepth 100000 in
theorem c_X10_character (l : Launch) (hl0 : l.stackTraces = false) (D : va_G) (cy : Nat → ClassId) {N : Nat} {x1 : Int32} {V : pvM} {q : pvO} (hp : q_X10_character N x1.toInt V = some q) : pv_MetX l yX10_character cX10_character 2 (some .int) 6 91 D cy V [.ref 0, .int x1] q := by
  unfold q_X10_character at hp
  refine pv_ofWX (by decide) (Nat.le_of_ble_eq_true rfl) (fun p e s m args below meth c ad A n0 σ C hr hZ hno => ?_)
  refine pv_iload_n C 1 dX10_character_0 rfl ?_
  refine pv_if_ge (tgt := 12) C hp dX10_character_1 (by decide) (fun hp => ?_) (fun hp => ?_)
  · refine pv_aload_n C 0 dX10_character_12 rfl ?_
    refine pv_getR C (ci := 9) (k := 2) gwX10 rfl (Nat.le_of_ble_eq_true rfl) fl_X10_30 rfl rfl rfl (j := 16) rfl rfl dX10_character_13 ?_
    refine pv_callV C (As := []) (rest := []) (b := 16) (kd1 := 1) hp (fun q1 h9 => c_X5_isMade l D cy h9) wB_yX5_isMade ml_X10_97 im_yX5_isMade se_yX5_isMade (ci := 4) rfl rfl rfl rfl rfl (Nat.le_of_ble_eq_true rfl) ⟨(Nat.le_of_ble_eq_true rfl), (Nat.le_of_ble_eq_true rfl)⟩ dX10_character_16 rfl rfl (fun v1 σ V hp => ?_)
    refine pv_if_ne (tgt := 30) C hp dX10_character_19 (by decide) (fun hp => ?_) (fun hp => ?_)
    · refine pv_iload_n C 1 dX10_character_30 rfl ?_
      refine pv_aload_n C 0 dX10_character_31 rfl ?_
      refine pv_getR C (ci := 9) (k := 0) gwX10 rfl (Nat.le_of_ble_eq_true rfl) fl_X10_12 rfl rfl rfl (j := 1) rfl rfl dX10_character_32 ?_
      refine pv_callV C (As := []) (rest := [.int x1]) (b := 1) (kd1 := 5) hp (fun q1 h9 => c_X6_recipes l D cy h9) wB_yX6_recipes ml_X10_77 im_yX6_recipes se_yX6_recipes (ci := 5) rfl rfl rfl rfl rfl (Nat.le_of_ble_eq_true rfl) ⟨(Nat.le_of_ble_eq_true rfl), (Nat.le_of_ble_eq_true rfl)⟩ dX10_character_35 rfl rfl (fun _ σ V hp => ?_)
      refine pv_callV C (As := []) (rest := [.int x1]) (b := 2) (kd1 := 1) hp (fun q1 h9 => c_X7_letterTotal l D cy h9) wB_yX7_letterTotal ml_X10_104 im_yX7_letterTotal se_yX7_letterTotal (ci := 6) rfl rfl rfl rfl rfl (Nat.le_of_ble_eq_true rfl) ⟨(Nat.le_of_ble_eq_true rfl), (Nat.le_of_ble_eq_true rfl)⟩ dX10_character_38 rfl rfl (fun v2 σ V hp => ?_)
      refine pv_icmp_lt (tgt := 52) C hp dX10_character_41 (by decide) (fun hp => ?_) (fun hp => ?_)
      · refine pv_aload_n C 0 dX10_character_52 rfl ?_
        refine pv_getR C (ci := 9) (k := 0) gwX10 rfl (Nat.le_of_ble_eq_true rfl) fl_X10_12 rfl rfl rfl (j := 1) rfl rfl dX10_character_53 ?_
        refine pv_callV C (As := []) (rest := []) (b := 1) (kd1 := 5) hp (fun q1 h9 => c_X6_recipes l D cy h9) wB_yX6_recipes ml_X10_77 im_yX6_recipes se_yX6_recipes (ci := 5) rfl rfl rfl rfl rfl (Nat.le_of_ble_eq_true rfl) ⟨(Nat.le_of_ble_eq_true rfl), (Nat.le_of_ble_eq_true rfl)⟩ dX10_character_56 rfl rfl (fun _ σ V hp => ?_)
        refine pv_iload_n C 1 dX10_character_59 rfl ?_
        refine pv_callV C (As := [.int x1]) (rest := []) (b := 2) (kd1 := 1) hp (fun q1 h9 => c_X7_letterAt l D cy h9) wB_yX7_letterAt ml_X10_133 im_yX7_letterAt se_yX7_letterAt (ci := 6) rfl rfl rfl rfl rfl (Nat.le_of_ble_eq_true rfl) ⟨(Nat.le_of_ble_eq_true rfl), (Nat.le_of_ble_eq_true rfl)⟩ dX10_character_60 rfl rfl (fun v3 σ V hp => ?_)
        exact pv_iretX C hp hr dX10_character_63
      · exact pv_throw C hl0 hZ hno hp dX10_character_44 dX10_character_47 dX10_character_48 dX10_character_51 tf_IA tn_IA tw_IA (Nat.le_of_ble_eq_true rfl) (Nat.le_of_ble_eq_true rfl) (Or.inl rfl)
    · exact pv_throw C hl0 hZ hno hp dX10_character_22 dX10_character_25 dX10_character_26 dX10_character_29 tf_IS tn_IS tw_IS (Nat.le_of_ble_eq_true rfl) (Nat.le_of_ble_eq_true rfl) (Or.inr rfl)
  · exact pv_throw C hl0 hZ hno hp dX10_character_4 dX10_character_7 dX10_character_8 dX10_character_11 tf_IA tn_IA tw_IA (Nat.le_of_ble_eq_true rfl) (Nat.le_of_ble_eq_true rfl) (Or.inl rfl)
def q_X10_run (N : Nat) (x1 : Int) (x2 : Int) (x3 : Int) (x4 : Int) (x5 : Int) (V : pvM) : Option pvO :=
  cL (q_X6_hasFunction N x1 V) fun v1 V =>
  if v1 ≠ 0 then
    cL (q_X5_isMade N V) fun v2 V =>
    if v2 ≠ 0 then
      cL (q_X4_perform N x1 x2 x3 x4 x5 V) fun v3 V =>
      rT V v3
    else
    tH V 2
  else
  tH V 1
set_option maxHeartbeats 4000000 in
set_option maxRecDepth 100000 in
theorem c_X10_run (l : Launch) (hl0 : l.stackTraces = false) (D : va_G) (cy : Nat → ClassId) {N : Nat} {x1 : Int32} {x2 : Int32} {x3 : Int32} {x4 : Int32} {x5 : Int32} {V : pvM} {q : pvO} (hp : q_X10_run N x1.toInt x2.toInt x3.toInt x4.toInt x5.toInt V = some q) : pv_MetX l yX10_run cX10_run 6 (some .int) 8 213 D cy V [.ref 0, .int x1, .int x2, .int x3, .int x4, .int x5] q := by
  unfold q_X10_run at hp
  refine pv_ofWX (by decide) (Nat.le_of_ble_eq_true rfl) (fun p e s m args below meth c ad A n0 σ C hr hZ hno => ?_)
  refine pv_aload_n C 0 dX10_run_0 rfl ?_
  refine pv_getR C (ci := 9) (k := 0) gwX10 rfl (Nat.le_of_ble_eq_true rfl) fl_X10_12 rfl rfl rfl (j := 1) rfl rfl dX10_run_1 ?_
  refine pv_iload_n C 1 dX10_run_4 rfl ?_
  refine pv_callV C (As := [.int x1]) (rest := []) (b := 1) (kd1 := 1) hp (fun q1 h9 => c_X6_hasFunction l D cy h9) wB_yX6_hasFunction ml_X10_60 im_yX6_hasFunction se_yX6_hasFunction (ci := 5) rfl rfl rfl rfl rfl (Nat.le_of_ble_eq_true rfl) ⟨(Nat.le_of_ble_eq_true rfl), (Nat.le_of_ble_eq_true rfl)⟩ dX10_run_5 rfl rfl (fun v1 σ V hp => ?_)
  refine pv_if_ne (tgt := 19) C hp dX10_run_8 (by decide) (fun hp => ?_) (fun hp => ?_)
  · refine pv_aload_n C 0 dX10_run_19 rfl ?_
    refine pv_getR C (ci := 9) (k := 2) gwX10 rfl (Nat.le_of_ble_eq_true rfl) fl_X10_30 rfl rfl rfl (j := 16) rfl rfl dX10_run_20 ?_
    refine pv_callV C (As := []) (rest := []) (b := 16) (kd1 := 1) hp (fun q1 h9 => c_X5_isMade l D cy h9) wB_yX5_isMade ml_X10_97 im_yX5_isMade se_yX5_isMade (ci := 4) rfl rfl rfl rfl rfl (Nat.le_of_ble_eq_true rfl) ⟨(Nat.le_of_ble_eq_true rfl), (Nat.le_of_ble_eq_true rfl)⟩ dX10_run_23 rfl rfl (fun v2 σ V hp => ?_)
    refine pv_if_ne (tgt := 37) C hp dX10_run_26 (by decide) (fun hp => ?_) (fun hp => ?_)
    · refine pv_aload_n C 0 dX10_run_37 rfl ?_
      refine pv_getR C (ci := 9) (k := 3) gwX10 rfl (Nat.le_of_ble_eq_true rfl) fl_X10_39 rfl rfl rfl (j := 28) rfl rfl dX10_run_38 ?_
      refine pv_iload_n C 1 dX10_run_41 rfl ?_
      refine pv_iload_n C 2 dX10_run_42 rfl ?_
      refine pv_iload_n C 3 dX10_run_43 rfl ?_
      refine pv_iload C 4 dX10_run_44 rfl ?_
      refine pv_iload C 5 dX10_run_46 rfl ?_
      refine pv_callV C (As := [.int x1, .int x2, .int x3, .int x4, .int x5]) (rest := []) (b := 28) (kd1 := 1) hp (fun q1 h9 => c_X4_perform l D cy h9) wB_yX4_perform ml_X10_136 im_yX4_perform se_yX4_perform (ci := 3) rfl rfl rfl rfl rfl (Nat.le_of_ble_eq_true rfl) ⟨(Nat.le_of_ble_eq_true rfl), (Nat.le_of_ble_eq_true rfl)⟩ dX10_run_48 rfl rfl (fun v3 σ V hp => ?_)
      exact pv_iretX C hp hr dX10_run_51
    · exact pv_throw C hl0 hZ hno hp dX10_run_29 dX10_run_32 dX10_run_33 dX10_run_36 tf_IS tn_IS tw_IS (Nat.le_of_ble_eq_true rfl) (Nat.le_of_ble_eq_true rfl) (Or.inr rfl)
  · exact pv_throw C hl0 hZ hno hp dX10_run_11 dX10_run_14 dX10_run_15 dX10_run_18 tf_IA tn_IA tw_IA (Nat.le_of_ble_eq_true rfl) (Nat.le_of_ble_eq_true rfl) (Or.inl rfl)
def q_X10_told (N : Nat) (x1 : Int) (V : pvM) : Option pvO :=
  if x1 = 0 then
    cL (q_X4_outputLength N V) fun v1 V =>
    rT V v1
  else
  if x1 = 1 then
    cL (q_X4_stepTotal N V) fun v2 V =>
    rT V v2
  else
  if x1 = 2 then
    cL (q_X4_returnedNumber N V) fun v3 V =>
    rT V v3
  else
  if x1 = 3 then
    cL (q_X4_returnedKind N V) fun v4 V =>
    rT V v4
  else
  tH V 1
set_option maxHeartbeats 4000000 in
set_option maxRecDepth 100000 in
theorem c_X10_told (l : Launch) (hl0 : l.stackTraces = false) (D : va_G) (cy : Nat → ClassId) {N : Nat} {x1 : Int32} {V : pvM} {q : pvO} (hp : q_X10_told N x1.toInt V = some q) : pv_MetX l yX10_told cX10_told 2 (some .int) 6 91 D cy V [.ref 0, .int x1] q := by
  unfold q_X10_told at hp
  refine pv_ofWX (by decide) (Nat.le_of_ble_eq_true rfl) (fun p e s m args below meth c ad A n0 σ C hr hZ hno => ?_)
  refine pv_iload_n C 1 dX10_told_0 rfl ?_
  refine pv_case (x := x1) (v := 0) hp (fun hx hp => ?_) (fun h1_0 hp => ?_)
  · refine pv_tableIn (tgt := 32) C hx dX10_told_1 (by decide) (by decide) (off := 31) rfl (by decide) ?_
    refine pv_aload_n C 0 dX10_told_32 rfl ?_
    refine pv_getR C (ci := 9) (k := 3) gwX10 rfl (Nat.le_of_ble_eq_true rfl) fl_X10_39 rfl rfl rfl (j := 28) rfl rfl dX10_told_33 ?_
    refine pv_callV C (As := []) (rest := []) (b := 28) (kd1 := 1) hp (fun q1 h9 => c_X4_outputLength l D cy h9) wB_yX4_outputLength ml_X10_140 im_yX4_outputLength se_yX4_outputLength (ci := 3) rfl rfl rfl rfl rfl (Nat.le_of_ble_eq_true rfl) ⟨(Nat.le_of_ble_eq_true rfl), (Nat.le_of_ble_eq_true rfl)⟩ dX10_told_36 rfl rfl (fun v1 σ V hp => ?_)
    exact pv_iretX C hp hr dX10_told_39
  refine pv_case (x := x1) (v := 1) hp (fun hx hp => ?_) (fun h1_1 hp => ?_)
  · refine pv_tableIn (tgt := 40) C hx dX10_told_1 (by decide) (by decide) (off := 39) rfl (by decide) ?_
    refine pv_aload_n C 0 dX10_told_40 rfl ?_
    refine pv_getR C (ci := 9) (k := 3) gwX10 rfl (Nat.le_of_ble_eq_true rfl) fl_X10_39 rfl rfl rfl (j := 28) rfl rfl dX10_told_41 ?_
    refine pv_callV C (As := []) (rest := []) (b := 28) (kd1 := 1) hp (fun q1 h9 => c_X4_stepTotal l D cy h9) wB_yX4_stepTotal ml_X10_143 im_yX4_stepTotal se_yX4_stepTotal (ci := 3) rfl rfl rfl rfl rfl (Nat.le_of_ble_eq_true rfl) ⟨(Nat.le_of_ble_eq_true rfl), (Nat.le_of_ble_eq_true rfl)⟩ dX10_told_44 rfl rfl (fun v2 σ V hp => ?_)
    exact pv_iretX C hp hr dX10_told_47
  refine pv_case (x := x1) (v := 2) hp (fun hx hp => ?_) (fun h1_2 hp => ?_)
  · refine pv_tableIn (tgt := 48) C hx dX10_told_1 (by decide) (by decide) (off := 47) rfl (by decide) ?_
    refine pv_aload_n C 0 dX10_told_48 rfl ?_
    refine pv_getR C (ci := 9) (k := 3) gwX10 rfl (Nat.le_of_ble_eq_true rfl) fl_X10_39 rfl rfl rfl (j := 28) rfl rfl dX10_told_49 ?_
    refine pv_callV C (As := []) (rest := []) (b := 28) (kd1 := 1) hp (fun q1 h9 => c_X4_returnedNumber l D cy h9) wB_yX4_returnedNumber ml_X10_146 im_yX4_returnedNumber se_yX4_returnedNumber (ci := 3) rfl rfl rfl rfl rfl (Nat.le_of_ble_eq_true rfl) ⟨(Nat.le_of_ble_eq_true rfl), (Nat.le_of_ble_eq_true rfl)⟩ dX10_told_52 rfl rfl (fun v3 σ V hp => ?_)
    exact pv_iretX C hp hr dX10_told_55
  refine pv_case (x := x1) (v := 3) hp (fun hx hp => ?_) (fun h1_3 hp => ?_)
  · refine pv_tableIn (tgt := 56) C hx dX10_told_1 (by decide) (by decide) (off := 55) rfl (by decide) ?_
    refine pv_aload_n C 0 dX10_told_56 rfl ?_
    refine pv_getR C (ci := 9) (k := 3) gwX10 rfl (Nat.le_of_ble_eq_true rfl) fl_X10_39 rfl rfl rfl (j := 28) rfl rfl dX10_told_57 ?_
    refine pv_callV C (As := []) (rest := []) (b := 28) (kd1 := 1) hp (fun q1 h9 => c_X4_returnedKind l D cy h9) wB_yX4_returnedKind ml_X10_149 im_yX4_returnedKind se_yX4_returnedKind (ci := 3) rfl rfl rfl rfl rfl (Nat.le_of_ble_eq_true rfl) ⟨(Nat.le_of_ble_eq_true rfl), (Nat.le_of_ble_eq_true rfl)⟩ dX10_told_60 rfl rfl (fun v4 σ V hp => ?_)
    exact pv_iretX C hp hr dX10_told_63
  refine pv_tableOut (tgt := 64) C (by omega) dX10_told_1 (by decide) ?_
  exact pv_throw C hl0 hZ hno hp dX10_told_64 dX10_told_67 dX10_told_68 dX10_told_71 tf_IA tn_IA tw_IA (Nat.le_of_ble_eq_true rfl) (Nat.le_of_ble_eq_true rfl) (Or.inl rfl)
def q_X10_said (N : Nat) (x1 : Int) (V : pvM) : Option pvO :=
  if x1 < 0 then
    tH V 1
  else
  cL (q_X4_outputLength N V) fun v1 V =>
  if x1 < v1 then
    cL (q_X4_outputAt N x1 V) fun v2 V =>
    rT V v2
  else
  tH V 1
set_option maxHeartbeats 4000000 in
set_option maxRecDepth 100000 in
theorem c_X10_said (l : Launch) (hl0 : l.stackTraces = false) (D : va_G) (cy : Nat → ClassId) {N : Nat} {x1 : Int32} {V : pvM} {q : pvO} (hp : q_X10_said N x1.toInt V = some q) : pv_MetX l yX10_said cX10_said 2 (some .int) 6 91 D cy V [.ref 0, .int x1] q := by
  unfold q_X10_said at hp
  refine pv_ofWX (by decide) (Nat.le_of_ble_eq_true rfl) (fun p e s m args below meth c ad A n0 σ C hr hZ hno => ?_)
  refine pv_iload_n C 1 dX10_said_0 rfl ?_
  refine pv_if_lt (tgt := 15) C hp dX10_said_1 (by decide) (fun hp => ?_) (fun hp => ?_)
  · exact pv_throw C hl0 hZ hno hp dX10_said_15 dX10_said_18 dX10_said_19 dX10_said_22 tf_IA tn_IA tw_IA (Nat.le_of_ble_eq_true rfl) (Nat.le_of_ble_eq_true rfl) (Or.inl rfl)
  · refine pv_iload_n C 1 dX10_said_4 rfl ?_
    refine pv_aload_n C 0 dX10_said_5 rfl ?_
    refine pv_getR C (ci := 9) (k := 3) gwX10 rfl (Nat.le_of_ble_eq_true rfl) fl_X10_39 rfl rfl rfl (j := 28) rfl rfl dX10_said_6 ?_
    refine pv_callV C (As := []) (rest := [.int x1]) (b := 28) (kd1 := 1) hp (fun q1 h9 => c_X4_outputLength l D cy h9) wB_yX4_outputLength ml_X10_140 im_yX4_outputLength se_yX4_outputLength (ci := 3) rfl rfl rfl rfl rfl (Nat.le_of_ble_eq_true rfl) ⟨(Nat.le_of_ble_eq_true rfl), (Nat.le_of_ble_eq_true rfl)⟩ dX10_said_9 rfl rfl (fun v1 σ V hp => ?_)
    refine pv_icmp_lt (tgt := 23) C hp dX10_said_12 (by decide) (fun hp => ?_) (fun hp => ?_)
    · refine pv_aload_n C 0 dX10_said_23 rfl ?_
      refine pv_getR C (ci := 9) (k := 3) gwX10 rfl (Nat.le_of_ble_eq_true rfl) fl_X10_39 rfl rfl rfl (j := 28) rfl rfl dX10_said_24 ?_
      refine pv_iload_n C 1 dX10_said_27 rfl ?_
      refine pv_callV C (As := [.int x1]) (rest := []) (b := 28) (kd1 := 1) hp (fun q1 h9 => c_X4_outputAt l D cy h9) wB_yX4_outputAt ml_X10_152 im_yX4_outputAt se_yX4_outputAt (ci := 3) rfl rfl rfl rfl rfl (Nat.le_of_ble_eq_true rfl) ⟨(Nat.le_of_ble_eq_true rfl), (Nat.le_of_ble_eq_true rfl)⟩ dX10_said_28 rfl rfl (fun v2 σ V hp => ?_)
      exact pv_iretX C hp hr dX10_said_31
    · exact pv_throw C hl0 hZ hno hp dX10_said_15 dX10_said_18 dX10_said_19 dX10_said_22 tf_IA tn_IA tw_IA (Nat.le_of_ble_eq_true rfl) (Nat.le_of_ble_eq_true rfl) (Or.inl rfl)
