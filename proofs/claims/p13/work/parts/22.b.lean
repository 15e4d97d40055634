def q_X11_walk_b43 (N : Nat) (r9 : Int → Int → Int → pvM → Option pvO) (x1 : Int) (x2 : Int) (x3 : Int) (s0 : Int) (s1 : Int) (V : pvM) : Option pvO :=
  bT s0 <| aW V 54 40 s1 s0 fun V =>
  lI (pv_w (x3 + (1))) fun v1 =>
  r9 x1 x2 v1 V
set_option maxHeartbeats 4000000 in
set_option maxRecDepth 100000 in
theorem w_X11_walk_b43 {p : Program} {l : Launch} {e : Env} {s : State} {m : MethodId} {args : Array Value} {below : List Frame} {meth : Method} {c : Code} {D : va_G} {cy : Nat → ClassId} {A : Nat → Prop} {n0 : Nat} {ad0 : Nat → Nat} {V0 : pvM} {q : pvO} (C : pz_C p s m args meth c cX11_walk 8 yX11_walk.cls D cy A) (hr : meth.sig.returnType = none) {N : Nat} {r9 : Int → Int → Int → pvM → Option pvO} (H9 : ∀ (x1 : Int32) (x2 : Int32) (x3 : Int32) (σ : pzS) (V : pvM), r9 x1.toInt x2.toInt x3.toInt V = some q → pv_W p l e 2 45 s m args below meth c 8 D cy A n0 ad0 (pv_Q below D cy n0 ad0 0 V0 q A args s) V0 σ V 9 [(0, .ref 45), (1, .int x1), (2, .int x2), (3, .int x3)] []) {x1 : Int32} {x2 : Int32} {x3 : Int32} {s0 : Int32} {s1 : Int32} {σ : pzS} {V : pvM} (hp : q_X11_walk_b43 N r9 x1.toInt x2.toInt x3.toInt s0.toInt s1.toInt V = some q) : pv_W p l e 2 45 s m args below meth c 8 D cy A n0 ad0 (pv_Q below D cy n0 ad0 0 V0 q A args s) V0 σ V 43 [(0, .ref 45), (1, .int x1), (2, .int x2), (3, .int x3)] [.int s0, .int s1, .ref 54] := by
  unfold q_X11_walk_b43 at hp
  refine pv_zast C hp rfl rfl rfl (fun _ => rfl) dX11_walk_43 (fun V hp => ?_)
  refine pv_iinc (L := fun v1 => [(3, .int v1), (0, .ref 45), (1, .int x1), (2, .int x2)]) C 3 hp dX11_walk_44 (by decide) rfl (by decide) (fun _ => rfl) (fun v1 hp => ?_)
  refine pv_goto (tgt := 9) C dX11_walk_47 (by decide) ?_
  refine pv_sub [1, 2, 3, 0] rfl ?_
  exact H9 _ _ _ _ _ hp
def q_X11_walk_b28 (N : Nat) (r9 : Int → Int → Int → pvM → Option pvO) (x1 : Int) (x2 : Int) (x3 : Int) (s0 : Int) (s1 : Int) (V : pvM) : Option pvO :=
  aW V 53 40 s1 s0 fun V =>
  if x3 ≠ 0 then
    lI (0) fun v2 =>
    q_X11_walk_b43 N r9 x1 x2 x3 v2 x3 V
  else
  lI (1) fun v3 =>
  q_X11_walk_b43 N r9 x1 x2 x3 v3 x3 V
set_option maxHeartbeats 4000000 in
set_option maxRecDepth 100000 in
theorem w_X11_walk_b28 {p : Program} {l : Launch} {e : Env} {s : State} {m : MethodId} {args : Array Value} {below : List Frame} {meth : Method} {c : Code} {D : va_G} {cy : Nat → ClassId} {A : Nat → Prop} {n0 : Nat} {ad0 : Nat → Nat} {V0 : pvM} {q : pvO} (C : pz_C p s m args meth c cX11_walk 8 yX11_walk.cls D cy A) (hr : meth.sig.returnType = none) {N : Nat} {r9 : Int → Int → Int → pvM → Option pvO} (H9 : ∀ (x1 : Int32) (x2 : Int32) (x3 : Int32) (σ : pzS) (V : pvM), r9 x1.toInt x2.toInt x3.toInt V = some q → pv_W p l e 2 45 s m args below meth c 8 D cy A n0 ad0 (pv_Q below D cy n0 ad0 0 V0 q A args s) V0 σ V 9 [(0, .ref 45), (1, .int x1), (2, .int x2), (3, .int x3)] []) {x1 : Int32} {x2 : Int32} {x3 : Int32} {s0 : Int32} {s1 : Int32} {σ : pzS} {V : pvM} (hp : q_X11_walk_b28 N r9 x1.toInt x2.toInt x3.toInt s0.toInt s1.toInt V = some q) : pv_W p l e 2 45 s m args below meth c 8 D cy A n0 ad0 (pv_Q below D cy n0 ad0 0 V0 q A args s) V0 σ V 28 [(0, .ref 45), (1, .int x1), (2, .int x2), (3, .int x3)] [.int s0, .int s1, .ref 53] := by
  unfold q_X11_walk_b28 at hp
  refine pv_iast C hp rfl rfl rfl (fun _ => rfl) dX11_walk_28 (fun V hp => ?_)
  refine pv_aload_n C 0 dX11_walk_29 rfl ?_
  refine pv_getR C (ci := 10) (k := 12) gwX11 rfl (Nat.le_of_ble_eq_true rfl) fl_X11_34 rfl rfl rfl (j := 54) rfl rfl dX11_walk_30 ?_
  refine pv_iload_n C 3 dX11_walk_33 rfl ?_
  refine pv_iload_n C 3 dX11_walk_34 rfl ?_
  refine pv_if_ne (tgt := 42) C hp dX11_walk_35 (by decide) (fun hp => ?_) (fun hp => ?_)
  · refine pv_iconst C hp dX11_walk_42 (by decide) (fun v2 hp => ?_)
    exact w_X11_walk_b43 C hr H9 hp
  · refine pv_iconst C hp dX11_walk_38 (by decide) (fun v3 hp => ?_)
    refine pv_goto (tgt := 43) C dX11_walk_39 (by decide) ?_
    exact w_X11_walk_b43 C hr H9 hp
def q_X11_walk_b280 (N : Nat) (r63 : Int → Int → Int → pvM → Option pvO) (x1 : Int) (x2 : Int) (V : pvM) : Option pvO :=
  cL (q_X11_least N x2 V) fun v4 V =>
  r63 x1 x2 v4 V
set_option maxHeartbeats 4000000 in
set_option maxRecDepth 100000 in
theorem w_X11_walk_b280 {p : Program} {l : Launch} {e : Env} {s : State} {m : MethodId} {args : Array Value} {below : List Frame} {meth : Method} {c : Code} {D : va_G} {cy : Nat → ClassId} {A : Nat → Prop} {n0 : Nat} {ad0 : Nat → Nat} {V0 : pvM} {q : pvO} (C : pz_C p s m args meth c cX11_walk 8 yX11_walk.cls D cy A) (hr : meth.sig.returnType = none) {N : Nat} {r63 : Int → Int → Int → pvM → Option pvO} (H63 : ∀ (x1 : Int32) (x2 : Int32) (x3 : Int32) (σ : pzS) (V : pvM), r63 x1.toInt x2.toInt x3.toInt V = some q → pv_W p l e 2 45 s m args below meth c 8 D cy A n0 ad0 (pv_Q below D cy n0 ad0 0 V0 q A args s) V0 σ V 63 [(0, .ref 45), (1, .int x1), (2, .int x2), (3, .int x3)] []) {x1 : Int32} {x2 : Int32} {σ : pzS} {V : pvM} (hp : q_X11_walk_b280 N r63 x1.toInt x2.toInt V = some q) : pv_W p l e 2 45 s m args below meth c 8 D cy A n0 ad0 (pv_Q below D cy n0 ad0 0 V0 q A args s) V0 σ V 280 [(0, .ref 45), (1, .int x1), (2, .int x2)] [] := by
  unfold q_X11_walk_b280 at hp
  refine pv_aload_n C 0 dX11_walk_280 rfl ?_
  refine pv_iload_n C 2 dX11_walk_281 rfl ?_
  refine pv_callV C (As := [.int x2]) (rest := []) (b := 45) (kd1 := 1) hp (fun q1 h9 => c_X11_least l D cy h9) wB_yX11_least ml_X11_156 im_yX11_least se_yX11_least (ci := 10) rfl rfl rfl rfl rfl (Nat.le_of_ble_eq_true rfl) ⟨(Nat.le_of_ble_eq_true rfl), (Nat.le_of_ble_eq_true rfl)⟩ dX11_walk_282 rfl rfl (fun v4 σ V hp => ?_)
  refine pv_istore_n (loc' := [(3, .int v4), (0, .ref 45), (1, .int x1), (2, .int x2)]) C dX11_walk_285 (by decide) rfl ?_
  refine pv_goto (tgt := 63) C dX11_walk_286 (by decide) ?_
  refine pv_sub [1, 2, 3, 0] rfl ?_
  exact H63 _ _ _ _ _ hp
def q_X11_walk_b266 (N : Nat) (r63 : Int → Int → Int → pvM → Option pvO) (x1 : Int) (x2 : Int) (x3 : Int) (x4 : Int) (x6 : Int) (V : pvM) : Option pvO :=
  aR V 49 480 x4 fun v5 =>
  cL (q_X11_meet N v5 x6 x3 V) fun _ V =>
  q_X11_walk_b280 N r63 x1 x2 V
set_option maxHeartbeats 4000000 in
set_option maxRecDepth 100000 in
theorem w_X11_walk_b266 {p : Program} {l : Launch} {e : Env} {s : State} {m : MethodId} {args : Array Value} {below : List Frame} {meth : Method} {c : Code} {D : va_G} {cy : Nat → ClassId} {A : Nat → Prop} {n0 : Nat} {ad0 : Nat → Nat} {V0 : pvM} {q : pvO} (C : pz_C p s m args meth c cX11_walk 8 yX11_walk.cls D cy A) (hr : meth.sig.returnType = none) {N : Nat} {r63 : Int → Int → Int → pvM → Option pvO} (H63 : ∀ (x1 : Int32) (x2 : Int32) (x3 : Int32) (σ : pzS) (V : pvM), r63 x1.toInt x2.toInt x3.toInt V = some q → pv_W p l e 2 45 s m args below meth c 8 D cy A n0 ad0 (pv_Q below D cy n0 ad0 0 V0 q A args s) V0 σ V 63 [(0, .ref 45), (1, .int x1), (2, .int x2), (3, .int x3)] []) {x1 : Int32} {x2 : Int32} {x3 : Int32} {x4 : Int32} {x6 : Int32} {σ : pzS} {V : pvM} (hp : q_X11_walk_b266 N r63 x1.toInt x2.toInt x3.toInt x4.toInt x6.toInt V = some q) : pv_W p l e 2 45 s m args below meth c 8 D cy A n0 ad0 (pv_Q below D cy n0 ad0 0 V0 q A args s) V0 σ V 266 [(0, .ref 45), (1, .int x1), (2, .int x2), (3, .int x3), (4, .int x4), (6, .int x6)] [] := by
  unfold q_X11_walk_b266 at hp
  refine pv_aload_n C 0 dX11_walk_266 rfl ?_
  refine pv_aload_n C 0 dX11_walk_267 rfl ?_
  refine pv_getR C (ci := 10) (k := 5) gwX11 rfl (Nat.le_of_ble_eq_true rfl) fl_X11_19 rfl rfl rfl (j := 49) rfl rfl dX11_walk_268 ?_
  refine pv_iload C 4 dX11_walk_271 rfl ?_
  refine pv_iald C hp rfl rfl rfl (fun _ => rfl) dX11_walk_273 (fun v5 hp => ?_)
  refine pv_iload C 5 dX11_walk_274 rfl ?_
  refine pv_iload_n C 3 dX11_walk_276 rfl ?_
  refine pv_callV C (As := [.int v5, .int x6, .int x3]) (rest := []) (b := 45) (kd1 := 0) hp (fun q1 h9 => c_X11_meet l D cy h9) wB_yX11_meet ml_X11_165 im_yX11_meet se_yX11_meet (ci := 10) rfl rfl rfl rfl rfl (Nat.le_of_ble_eq_true rfl) ⟨(Nat.le_of_ble_eq_true rfl), (Nat.le_of_ble_eq_true rfl)⟩ dX11_walk_277 rfl rfl (fun _ σ V hp => ?_)
  refine pv_sub [0, 1, 2] rfl ?_
  exact w_X11_walk_b280 C hr H63 hp
def q_X11_walk_b235 (N : Nat) (r63 : Int → Int → Int → pvM → Option pvO) (x1 : Int) (x2 : Int) (x3 : Int) (x4 : Int) (x6 : Int) (V : pvM) : Option pvO :=
  gR V 45 13 fun v6 =>
  if 0 ≤ v6 then
    q_X11_walk_b280 N r63 x1 x2 V
  else
  aR V 48 480 x4 fun v7 =>
  lI (8) fun v8 =>
  if v7 = v8 then
    q_X11_walk_b266 N r63 x1 x2 x3 x4 x6 V
  else
  aR V 48 480 x4 fun v9 =>
  lI (9) fun v10 =>
  if v9 ≠ v10 then
    q_X11_walk_b280 N r63 x1 x2 V
  else
  q_X11_walk_b266 N r63 x1 x2 x3 x4 x6 V
set_option maxHeartbeats 4000000 in
set_option maxRecDepth 100000 in
theorem w_X11_walk_b235 {p : Program} {l : Launch} {e : Env} {s : State} {m : MethodId} {args : Array Value} {below : List Frame} {meth : Method} {c : Code} {D : va_G} {cy : Nat → ClassId} {A : Nat → Prop} {n0 : Nat} {ad0 : Nat → Nat} {V0 : pvM} {q : pvO} (C : pz_C p s m args meth c cX11_walk 8 yX11_walk.cls D cy A) (hr : meth.sig.returnType = none) {N : Nat} {r63 : Int → Int → Int → pvM → Option pvO} (H63 : ∀ (x1 : Int32) (x2 : Int32) (x3 : Int32) (σ : pzS) (V : pvM), r63 x1.toInt x2.toInt x3.toInt V = some q → pv_W p l e 2 45 s m args below meth c 8 D cy A n0 ad0 (pv_Q below D cy n0 ad0 0 V0 q A args s) V0 σ V 63 [(0, .ref 45), (1, .int x1), (2, .int x2), (3, .int x3)] []) {x1 : Int32} {x2 : Int32} {x3 : Int32} {x4 : Int32} {x6 : Int32} {σ : pzS} {V : pvM} (hp : q_X11_walk_b235 N r63 x1.toInt x2.toInt x3.toInt x4.toInt x6.toInt V = some q) : pv_W p l e 2 45 s m args below meth c 8 D cy A n0 ad0 (pv_Q below D cy n0 ad0 0 V0 q A args s) V0 σ V 235 [(0, .ref 45), (1, .int x1), (2, .int x2), (3, .int x3), (4, .int x4), (6, .int x6)] [] := by
  unfold q_X11_walk_b235 at hp
  refine pv_aload_n C 0 dX11_walk_235 rfl ?_
  refine pv_getI C (ci := 10) (k := 13) gwX11 rfl (Nat.le_of_ble_eq_true rfl) fl_X11_153 rfl rfl hp rfl rfl dX11_walk_236 (fun v6 hp => ?_)
  refine pv_if_ge (tgt := 280) C hp dX11_walk_239 (by decide) (fun hp => ?_) (fun hp => ?_)
  · refine pv_sub [0, 1, 2] rfl ?_
    exact w_X11_walk_b280 C hr H63 hp
  · refine pv_aload_n C 0 dX11_walk_242 rfl ?_
    refine pv_getR C (ci := 10) (k := 4) gwX11 rfl (Nat.le_of_ble_eq_true rfl) fl_X11_16 rfl rfl rfl (j := 48) rfl rfl dX11_walk_243 ?_
    refine pv_iload C 4 dX11_walk_246 rfl ?_
    refine pv_iald C hp rfl rfl rfl (fun _ => rfl) dX11_walk_248 (fun v7 hp => ?_)
    refine pv_bipush C hp dX11_walk_249 (by decide) (fun v8 hp => ?_)
    refine pv_icmp_eq (tgt := 266) C hp dX11_walk_251 (by decide) (fun hp => ?_) (fun hp => ?_)
    · exact w_X11_walk_b266 C hr H63 hp
    · refine pv_aload_n C 0 dX11_walk_254 rfl ?_
      refine pv_getR C (ci := 10) (k := 4) gwX11 rfl (Nat.le_of_ble_eq_true rfl) fl_X11_16 rfl rfl rfl (j := 48) rfl rfl dX11_walk_255 ?_
      refine pv_iload C 4 dX11_walk_258 rfl ?_
      refine pv_iald C hp rfl rfl rfl (fun _ => rfl) dX11_walk_260 (fun v9 hp => ?_)
      refine pv_bipush C hp dX11_walk_261 (by decide) (fun v10 hp => ?_)
      refine pv_icmp_ne (tgt := 280) C hp dX11_walk_263 (by decide) (fun hp => ?_) (fun hp => ?_)
      · refine pv_sub [0, 1, 2] rfl ?_
        exact w_X11_walk_b280 C hr H63 hp
      · exact w_X11_walk_b266 C hr H63 hp
def q_X11_walk_b196 (N : Nat) (r63 : Int → Int → Int → pvM → Option pvO) (x1 : Int) (x2 : Int) (x3 : Int) (x4 : Int) (x6 : Int) (s0 : Int) (V : pvM) : Option pvO :=
  gR V 45 13 fun v11 =>
  if 0 ≤ v11 then
    q_X11_walk_b235 N r63 x1 x2 x3 x4 x6 V
  else
  if s0 ≠ 0 then
    q_X11_walk_b235 N r63 x1 x2 x3 x4 x6 V
  else
  lI (1) fun v12 =>
  lI (pv_w (x3 + v12)) fun v13 =>
  if v13 ≠ x2 then
    lI (1) fun v14 =>
    lI (pv_w (x3 + v14)) fun v15 =>
    cL (q_X11_meet N v15 x6 x3 V) fun _ V =>
    q_X11_walk_b235 N r63 x1 x2 x3 x4 x6 V
  else
  gW V 45 13 x3 fun V =>
  q_X11_walk_b235 N r63 x1 x2 x3 x4 x6 V
set_option maxHeartbeats 4000000 in
set_option maxRecDepth 100000 in
theorem w_X11_walk_b196 {p : Program} {l : Launch} {e : Env} {s : State} {m : MethodId} {args : Array Value} {below : List Frame} {meth : Method} {c : Code} {D : va_G} {cy : Nat → ClassId} {A : Nat → Prop} {n0 : Nat} {ad0 : Nat → Nat} {V0 : pvM} {q : pvO} (C : pz_C p s m args meth c cX11_walk 8 yX11_walk.cls D cy A) (hr : meth.sig.returnType = none) {N : Nat} {r63 : Int → Int → Int → pvM → Option pvO} (H63 : ∀ (x1 : Int32) (x2 : Int32) (x3 : Int32) (σ : pzS) (V : pvM), r63 x1.toInt x2.toInt x3.toInt V = some q → pv_W p l e 2 45 s m args below meth c 8 D cy A n0 ad0 (pv_Q below D cy n0 ad0 0 V0 q A args s) V0 σ V 63 [(0, .ref 45), (1, .int x1), (2, .int x2), (3, .int x3)] []) {x1 : Int32} {x2 : Int32} {x3 : Int32} {x4 : Int32} {x6 : Int32} {s0 : Int32} {σ : pzS} {V : pvM} (hp : q_X11_walk_b196 N r63 x1.toInt x2.toInt x3.toInt x4.toInt x6.toInt s0.toInt V = some q) : pv_W p l e 2 45 s m args below meth c 8 D cy A n0 ad0 (pv_Q below D cy n0 ad0 0 V0 q A args s) V0 σ V 196 [(0, .ref 45), (1, .int x1), (2, .int x2), (3, .int x3), (4, .int x4), (6, .int x6)] [.int s0] := by
  unfold q_X11_walk_b196 at hp
  refine pv_istore (loc' := [(7, .int s0), (0, .ref 45), (1, .int x1), (2, .int x2), (3, .int x3), (4, .int x4), (6, .int x6)]) C dX11_walk_196 (by decide) rfl ?_
  refine pv_aload_n C 1 dX11_walk_198 rfl ?_
  refine pv_getI C (ci := 10) (k := 13) gwX11 rfl (Nat.le_of_ble_eq_true rfl) fl_X11_153 rfl rfl hp rfl rfl dX11_walk_199 (fun v11 hp => ?_)
  refine pv_if_ge (tgt := 235) C hp dX11_walk_202 (by decide) (fun hp => ?_) (fun hp => ?_)
  · refine pv_sub [1, 2, 3, 4, 5, 6] rfl ?_
    exact w_X11_walk_b235 C hr H63 hp
  · refine pv_iload C 0 dX11_walk_205 rfl ?_
    refine pv_if_ne (tgt := 235) C hp dX11_walk_207 (by decide) (fun hp => ?_) (fun hp => ?_)
    · refine pv_sub [1, 2, 3, 4, 5, 6] rfl ?_
      exact w_X11_walk_b235 C hr H63 hp
    · refine pv_iload_n C 4 dX11_walk_210 rfl ?_
      refine pv_iconst C hp dX11_walk_211 (by decide) (fun v12 hp => ?_)
      refine pv_iadd C hp dX11_walk_212 (fun v13 hp => ?_)
      refine pv_iload_n C 3 dX11_walk_213 rfl ?_
      refine pv_icmp_ne (tgt := 225) C hp dX11_walk_214 (by decide) (fun hp => ?_) (fun hp => ?_)
      · refine pv_aload_n C 1 dX11_walk_225 rfl ?_
        refine pv_iload_n C 4 dX11_walk_226 rfl ?_
        refine pv_iconst C hp dX11_walk_227 (by decide) (fun v14 hp => ?_)
        refine pv_iadd C hp dX11_walk_228 (fun v15 hp => ?_)
        refine pv_iload C 6 dX11_walk_229 rfl ?_
        refine pv_iload_n C 4 dX11_walk_231 rfl ?_
        refine pv_callV C (As := [.int v15, .int x6, .int x3]) (rest := []) (b := 45) (kd1 := 0) hp (fun q1 h9 => c_X11_meet l D cy h9) wB_yX11_meet ml_X11_165 im_yX11_meet se_yX11_meet (ci := 10) rfl rfl rfl rfl rfl (Nat.le_of_ble_eq_true rfl) ⟨(Nat.le_of_ble_eq_true rfl), (Nat.le_of_ble_eq_true rfl)⟩ dX11_walk_232 rfl rfl (fun _ σ V hp => ?_)
        refine pv_sub [1, 2, 3, 4, 5, 6] rfl ?_
        exact w_X11_walk_b235 C hr H63 hp
      · refine pv_aload_n C 1 dX11_walk_217 rfl ?_
        refine pv_iload_n C 4 dX11_walk_218 rfl ?_
        refine pv_putI C (ci := 10) (k := 13) gwX11 rfl (Nat.le_of_ble_eq_true rfl) fl_X11_153 rfl rfl tyX11_ok nmX11 hp rfl rfl rfl (by decide +kernel) dX11_walk_219 (fun V hp => ?_)
        refine pv_goto (tgt := 235) C dX11_walk_222 (by decide) ?_
        refine pv_sub [1, 2, 3, 4, 5, 6] rfl ?_
        exact w_X11_walk_b235 C hr H63 hp
def q_X11_walk_b166 (N : Nat) (r63 : Int → Int → Int → pvM → Option pvO) (x1 : Int) (x2 : Int) (x3 : Int) (x4 : Int) (x6 : Int) (s0 : Int) (s1 : Int) (V : pvM) : Option pvO :=
  aW V 55 12 s1 s0 fun V =>
  aR V 48 480 x4 fun v16 =>
  lI (8) fun v17 =>
  if v16 = v17 then
    lI (1) fun v18 =>
    q_X11_walk_b196 N r63 x1 x2 x3 x4 x6 v18 V
  else
  aR V 48 480 x4 fun v19 =>
  lI (11) fun v20 =>
  if v19 ≠ v20 then
    lI (0) fun v21 =>
    q_X11_walk_b196 N r63 x1 x2 x3 x4 x6 v21 V
  else
  lI (1) fun v22 =>
  q_X11_walk_b196 N r63 x1 x2 x3 x4 x6 v22 V
set_option maxHeartbeats 4000000 in
set_option maxRecDepth 100000 in
theorem w_X11_walk_b166 {p : Program} {l : Launch} {e : Env} {s : State} {m : MethodId} {args : Array Value} {below : List Frame} {meth : Method} {c : Code} {D : va_G} {cy : Nat → ClassId} {A : Nat → Prop} {n0 : Nat} {ad0 : Nat → Nat} {V0 : pvM} {q : pvO} (C : pz_C p s m args meth c cX11_walk 8 yX11_walk.cls D cy A) (hr : meth.sig.returnType = none) {N : Nat} {r63 : Int → Int → Int → pvM → Option pvO} (H63 : ∀ (x1 : Int32) (x2 : Int32) (x3 : Int32) (σ : pzS) (V : pvM), r63 x1.toInt x2.toInt x3.toInt V = some q → pv_W p l e 2 45 s m args below meth c 8 D cy A n0 ad0 (pv_Q below D cy n0 ad0 0 V0 q A args s) V0 σ V 63 [(0, .ref 45), (1, .int x1), (2, .int x2), (3, .int x3)] []) {x1 : Int32} {x2 : Int32} {x3 : Int32} {x4 : Int32} {x6 : Int32} {s0 : Int32} {s1 : Int32} {σ : pzS} {V : pvM} (hp : q_X11_walk_b166 N r63 x1.toInt x2.toInt x3.toInt x4.toInt x6.toInt s0.toInt s1.toInt V = some q) : pv_W p l e 2 45 s m args below meth c 8 D cy A n0 ad0 (pv_Q below D cy n0 ad0 0 V0 q A args s) V0 σ V 166 [(0, .ref 45), (1, .int x1), (2, .int x2), (3, .int x3), (4, .int x4), (6, .int x6)] [.int s0, .int s1, .ref 55] := by
  unfold q_X11_walk_b166 at hp
  refine pv_iast C hp rfl rfl rfl (fun _ => rfl) dX11_walk_166 (fun V hp => ?_)
  refine pv_aload_n C 0 dX11_walk_167 rfl ?_
  refine pv_getR C (ci := 10) (k := 4) gwX11 rfl (Nat.le_of_ble_eq_true rfl) fl_X11_16 rfl rfl rfl (j := 48) rfl rfl dX11_walk_168 ?_
  refine pv_iload C 4 dX11_walk_171 rfl ?_
  refine pv_iald C hp rfl rfl rfl (fun _ => rfl) dX11_walk_173 (fun v16 hp => ?_)
  refine pv_bipush C hp dX11_walk_174 (by decide) (fun v17 hp => ?_)
  refine pv_icmp_eq (tgt := 191) C hp dX11_walk_176 (by decide) (fun hp => ?_) (fun hp => ?_)
  · refine pv_iconst C hp dX11_walk_191 (by decide) (fun v18 hp => ?_)
    refine pv_goto (tgt := 196) C dX11_walk_192 (by decide) ?_
    exact w_X11_walk_b196 C hr H63 hp
  · refine pv_aload_n C 0 dX11_walk_179 rfl ?_
    refine pv_getR C (ci := 10) (k := 4) gwX11 rfl (Nat.le_of_ble_eq_true rfl) fl_X11_16 rfl rfl rfl (j := 48) rfl rfl dX11_walk_180 ?_
    refine pv_iload C 4 dX11_walk_183 rfl ?_
    refine pv_iald C hp rfl rfl rfl (fun _ => rfl) dX11_walk_185 (fun v19 hp => ?_)
    refine pv_bipush C hp dX11_walk_186 (by decide) (fun v20 hp => ?_)
    refine pv_icmp_ne (tgt := 195) C hp dX11_walk_188 (by decide) (fun hp => ?_) (fun hp => ?_)
    · refine pv_iconst C hp dX11_walk_195 (by decide) (fun v21 hp => ?_)
      exact w_X11_walk_b196 C hr H63 hp
    · refine pv_iconst C hp dX11_walk_191 (by decide) (fun v22 hp => ?_)
      refine pv_goto (tgt := 196) C dX11_walk_192 (by decide) ?_
      exact w_X11_walk_b196 C hr H63 hp
def q_X11_walk_b136 (N : Nat) (r63 : Int → Int → Int → pvM → Option pvO) (x1 : Int) (x2 : Int) (x3 : Int) (x4 : Int) (x6 : Int) (s0 : Int) (V : pvM) : Option pvO :=
  gW V 45 13 s0 fun V =>
  aR V 55 12 x1 fun v23 =>
  if x6 ≤ v23 then
    aR V 55 12 x1 fun v24 =>
    q_X11_walk_b166 N r63 x1 x2 x3 x4 x6 v24 x1 V
  else
  q_X11_walk_b166 N r63 x1 x2 x3 x4 x6 x6 x1 V
set_option maxHeartbeats 4000000 in
set_option maxRecDepth 100000 in
theorem w_X11_walk_b136 {p : Program} {l : Launch} {e : Env} {s : State} {m : MethodId} {args : Array Value} {below : List Frame} {meth : Method} {c : Code} {D : va_G} {cy : Nat → ClassId} {A : Nat → Prop} {n0 : Nat} {ad0 : Nat → Nat} {V0 : pvM} {q : pvO} (C : pz_C p s m args meth c cX11_walk 8 yX11_walk.cls D cy A) (hr : meth.sig.returnType = none) {N : Nat} {r63 : Int → Int → Int → pvM → Option pvO} (H63 : ∀ (x1 : Int32) (x2 : Int32) (x3 : Int32) (σ : pzS) (V : pvM), r63 x1.toInt x2.toInt x3.toInt V = some q → pv_W p l e 2 45 s m args below meth c 8 D cy A n0 ad0 (pv_Q below D cy n0 ad0 0 V0 q A args s) V0 σ V 63 [(0, .ref 45), (1, .int x1), (2, .int x2), (3, .int x3)] []) {x1 : Int32} {x2 : Int32} {x3 : Int32} {x4 : Int32} {x6 : Int32} {s0 : Int32} {σ : pzS} {V : pvM} (hp : q_X11_walk_b136 N r63 x1.toInt x2.toInt x3.toInt x4.toInt x6.toInt s0.toInt V = some q) : pv_W p l e 2 45 s m args below meth c 8 D cy A n0 ad0 (pv_Q below D cy n0 ad0 0 V0 q A args s) V0 σ V 136 [(0, .ref 45), (1, .int x1), (2, .int x2), (3, .int x3), (4, .int x4), (6, .int x6)] [.int s0, .ref 45] := by
  unfold q_X11_walk_b136 at hp
  refine pv_putI C (ci := 10) (k := 13) gwX11 rfl (Nat.le_of_ble_eq_true rfl) fl_X11_153 rfl rfl tyX11_ok nmX11 hp rfl rfl rfl (by decide +kernel) dX11_walk_136 (fun V hp => ?_)
  refine pv_aload_n C 0 dX11_walk_139 rfl ?_
  refine pv_getR C (ci := 10) (k := 14) gwX11 rfl (Nat.le_of_ble_eq_true rfl) fl_X11_38 rfl rfl rfl (j := 55) rfl rfl dX11_walk_140 ?_
  refine pv_iload_n C 1 dX11_walk_143 rfl ?_
  refine pv_iload C 5 dX11_walk_144 rfl ?_
  refine pv_aload_n C 0 dX11_walk_146 rfl ?_
  refine pv_getR C (ci := 10) (k := 14) gwX11 rfl (Nat.le_of_ble_eq_true rfl) fl_X11_38 rfl rfl rfl (j := 55) rfl rfl dX11_walk_147 ?_
  refine pv_iload_n C 1 dX11_walk_150 rfl ?_
  refine pv_iald C hp rfl rfl rfl (fun _ => rfl) dX11_walk_151 (fun v23 hp => ?_)
  refine pv_icmp_le (tgt := 160) C hp dX11_walk_152 (by decide) (fun hp => ?_) (fun hp => ?_)
  · refine pv_aload_n C 0 dX11_walk_160 rfl ?_
    refine pv_getR C (ci := 10) (k := 14) gwX11 rfl (Nat.le_of_ble_eq_true rfl) fl_X11_38 rfl rfl rfl (j := 55) rfl rfl dX11_walk_161 ?_
    refine pv_iload_n C 1 dX11_walk_164 rfl ?_
    refine pv_iald C hp rfl rfl rfl (fun _ => rfl) dX11_walk_165 (fun v24 hp => ?_)
    exact w_X11_walk_b166 C hr H63 hp
  · refine pv_iload C 5 dX11_walk_155 rfl ?_
    refine pv_goto (tgt := 166) C dX11_walk_157 (by decide) ?_
    exact w_X11_walk_b166 C hr H63 hp
def q_X11_walk_b63 (N : Nat) : Nat → Int → Int → Int → pvM → Option pvO
  | 0 => fun _ _ _ _ => none
  | n + 1 => fun x1 x2 x3 V =>
    if x3 < 0 then
      rT V 0
    else
    gR V 45 13 fun v25 =>
    if 0 ≤ v25 then
      rT V 0
    else
    lI (0) fun v26 =>
    bT v26 <| aW V 54 40 x3 v26 fun V =>
    lI (40) fun v27 =>
    lI (pv_w (v27 * x1)) fun v28 =>
    lI (pv_w (v28 + x3)) fun v29 =>
    aR V 53 40 x3 fun v30 =>
    cL (q_X11_pops N v29 V) fun v31 V =>
    lI (pv_w (v30 - v31)) fun v32 =>
    cL (q_X11_pushes N v29 V) fun v33 V =>
    lI (pv_w (v32 + v33)) fun v34 =>
    if v32 < 0 then
      q_X11_walk_b136 N (q_X11_walk_b63 N n) x1 x2 x3 v29 v34 x3 V
    else
    lI (12) fun v35 =>
    if v34 ≤ v35 then
      gR V 45 13 fun v36 =>
      q_X11_walk_b136 N (q_X11_walk_b63 N n) x1 x2 x3 v29 v34 v36 V
    else
    q_X11_walk_b136 N (q_X11_walk_b63 N n) x1 x2 x3 v29 v34 x3 V
set_option maxHeartbeats 4000000 in
set_option maxRecDepth 100000 in
theorem w_X11_walk_b63 {p : Program} {l : Launch} {e : Env} {s : State} {m : MethodId} {args : Array Value} {below : List Frame} {meth : Method} {c : Code} {D : va_G} {cy : Nat → ClassId} {A : Nat → Prop} {n0 : Nat} {ad0 : Nat → Nat} {V0 : pvM} {q : pvO} (C : pz_C p s m args meth c cX11_walk 8 yX11_walk.cls D cy A) (hr : meth.sig.returnType = none) {N : Nat} : ∀ (n : Nat) (x1 : Int32) (x2 : Int32) (x3 : Int32) (σ : pzS) (V : pvM), q_X11_walk_b63 N n x1.toInt x2.toInt x3.toInt V = some q → pv_W p l e 2 45 s m args below meth c 8 D cy A n0 ad0 (pv_Q below D cy n0 ad0 0 V0 q A args s) V0 σ V 63 [(0, .ref 45), (1, .int x1), (2, .int x2), (3, .int x3)] [] := by
  intro n
  induction n with
  | zero =>
    intro x1 x2 x3 σ V hp
    simp only [q_X11_walk_b63] at hp
    cases hp
  | succ n ih =>
    intro x1 x2 x3 σ V hp
    simp only [q_X11_walk_b63] at hp
    refine pv_iload_n C 3 dX11_walk_63 rfl ?_
    refine pv_if_lt (tgt := 289) C hp dX11_walk_64 (by decide) (fun hp => ?_) (fun hp => ?_)
    · exact pv_vret C rfl hp hr dX11_walk_289
    · refine pv_aload_n C 0 dX11_walk_67 rfl ?_
      refine pv_getI C (ci := 10) (k := 13) gwX11 rfl (Nat.le_of_ble_eq_true rfl) fl_X11_153 rfl rfl hp rfl rfl dX11_walk_68 (fun v25 hp => ?_)
      refine pv_if_ge (tgt := 289) C hp dX11_walk_71 (by decide) (fun hp => ?_) (fun hp => ?_)
      · exact pv_vret C rfl hp hr dX11_walk_289
      · refine pv_aload_n C 0 dX11_walk_74 rfl ?_
        refine pv_getR C (ci := 10) (k := 12) gwX11 rfl (Nat.le_of_ble_eq_true rfl) fl_X11_34 rfl rfl rfl (j := 54) rfl rfl dX11_walk_75 ?_
        refine pv_iload_n C 3 dX11_walk_78 rfl ?_
        refine pv_iconst C hp dX11_walk_79 (by decide) (fun v26 hp => ?_)
        refine pv_zast C hp rfl rfl rfl (fun _ => rfl) dX11_walk_80 (fun V hp => ?_)
        refine pv_bipush C hp dX11_walk_81 (by decide) (fun v27 hp => ?_)
        refine pv_iload_n C 1 dX11_walk_83 rfl ?_
        refine pv_imul C hp dX11_walk_84 (fun v28 hp => ?_)
        refine pv_iload_n C 3 dX11_walk_85 rfl ?_
        refine pv_iadd C hp dX11_walk_86 (fun v29 hp => ?_)
        refine pv_istore (loc' := [(4, .int v29), (0, .ref 45), (1, .int x1), (2, .int x2), (3, .int x3)]) C dX11_walk_87 (by decide) rfl ?_
        refine pv_aload_n C 1 dX11_walk_89 rfl ?_
        refine pv_getR C (ci := 10) (k := 11) gwX11 rfl (Nat.le_of_ble_eq_true rfl) fl_X11_31 rfl rfl rfl (j := 53) rfl rfl dX11_walk_90 ?_
        refine pv_iload_n C 4 dX11_walk_93 rfl ?_
        refine pv_iald C hp rfl rfl rfl (fun _ => rfl) dX11_walk_94 (fun v30 hp => ?_)
        refine pv_aload_n C 1 dX11_walk_95 rfl ?_
        refine pv_iload C 0 dX11_walk_96 rfl ?_
        refine pv_callV C (As := [.int v29]) (rest := [.int v30]) (b := 45) (kd1 := 1) hp (fun q1 h9 => c_X11_pops l D cy h9) wB_yX11_pops ml_X11_159 im_yX11_pops se_yX11_pops (ci := 10) rfl rfl rfl rfl rfl (Nat.le_of_ble_eq_true rfl) ⟨(Nat.le_of_ble_eq_true rfl), (Nat.le_of_ble_eq_true rfl)⟩ dX11_walk_98 rfl rfl (fun v31 σ V hp => ?_)
        refine pv_isub C hp dX11_walk_101 (fun v32 hp => ?_)
        refine pv_istore (loc' := [(5, .int v32), (4, .int v29), (0, .ref 45), (1, .int x1), (2, .int x2), (3, .int x3)]) C dX11_walk_102 (by decide) rfl ?_
        refine pv_iload C 0 dX11_walk_104 rfl ?_
        refine pv_aload_n C 2 dX11_walk_106 rfl ?_
        refine pv_iload C 1 dX11_walk_107 rfl ?_
        refine pv_callV C (As := [.int v29]) (rest := [.int v32]) (b := 45) (kd1 := 1) hp (fun q1 h9 => c_X11_pushes l D cy h9) wB_yX11_pushes ml_X11_162 im_yX11_pushes se_yX11_pushes (ci := 10) rfl rfl rfl rfl rfl (Nat.le_of_ble_eq_true rfl) ⟨(Nat.le_of_ble_eq_true rfl), (Nat.le_of_ble_eq_true rfl)⟩ dX11_walk_109 rfl rfl (fun v33 σ V hp => ?_)
        refine pv_iadd C hp dX11_walk_112 (fun v34 hp => ?_)
        refine pv_istore (loc' := [(6, .int v34), (5, .int v32), (4, .int v29), (0, .ref 45), (1, .int x1), (2, .int x2), (3, .int x3)]) C dX11_walk_113 (by decide) rfl ?_
        refine pv_aload_n C 3 dX11_walk_115 rfl ?_
        refine pv_iload C 1 dX11_walk_116 rfl ?_
        refine pv_if_lt (tgt := 128) C hp dX11_walk_118 (by decide) (fun hp => ?_) (fun hp => ?_)
        · refine pv_iload_n C 6 dX11_walk_128 rfl ?_
          refine pv_goto (tgt := 136) C dX11_walk_129 (by decide) ?_
          refine pv_sub [3, 4, 5, 6, 2, 0] rfl ?_
          exact w_X11_walk_b136 C hr ih hp
        · refine pv_iload C 0 dX11_walk_121 rfl ?_
          refine pv_bipush C hp dX11_walk_123 (by decide) (fun v35 hp => ?_)
          refine pv_icmp_le (tgt := 132) C hp dX11_walk_125 (by decide) (fun hp => ?_) (fun hp => ?_)
          · refine pv_aload_n C 3 dX11_walk_132 rfl ?_
            refine pv_getI C (ci := 10) (k := 13) gwX11 rfl (Nat.le_of_ble_eq_true rfl) fl_X11_153 rfl rfl hp rfl rfl dX11_walk_133 (fun v36 hp => ?_)
            refine pv_sub [3, 4, 5, 6, 2, 0] rfl ?_
            exact w_X11_walk_b136 C hr ih hp
          · refine pv_iload_n C 6 dX11_walk_128 rfl ?_
            refine pv_goto (tgt := 136) C dX11_walk_129 (by decide) ?_
            refine pv_sub [3, 4, 5, 6, 2, 0] rfl ?_
            exact w_X11_walk_b136 C hr ih hp
def q_X11_walk_b9 (N : Nat) : Nat → Int → Int → Int → pvM → Option pvO
  | 0 => fun _ _ _ _ => none
  | n + 1 => fun x1 x2 x3 V =>
    if x2 ≤ x3 then
      lI (0) fun v37 =>
      aW V 55 12 x1 v37 fun V =>
      cL (q_X11_least N x2 V) fun v38 V =>
      q_X11_walk_b63 N N x1 x2 v38 V
    else
    if x3 ≠ 0 then
      lI (-1) fun v39 =>
      q_X11_walk_b28 N (q_X11_walk_b9 N n) x1 x2 x3 v39 x3 V
    else
    lI (0) fun v40 =>
    q_X11_walk_b28 N (q_X11_walk_b9 N n) x1 x2 x3 v40 x3 V
set_option maxHeartbeats 4000000 in
set_option maxRecDepth 100000 in
theorem w_X11_walk_b9 {p : Program} {l : Launch} {e : Env} {s : State} {m : MethodId} {args : Array Value} {below : List Frame} {meth : Method} {c : Code} {D : va_G} {cy : Nat → ClassId} {A : Nat → Prop} {n0 : Nat} {ad0 : Nat → Nat} {V0 : pvM} {q : pvO} (C : pz_C p s m args meth c cX11_walk 8 yX11_walk.cls D cy A) (hr : meth.sig.returnType = none) {N : Nat} : ∀ (n : Nat) (x1 : Int32) (x2 : Int32) (x3 : Int32) (σ : pzS) (V : pvM), q_X11_walk_b9 N n x1.toInt x2.toInt x3.toInt V = some q → pv_W p l e 2 45 s m args below meth c 8 D cy A n0 ad0 (pv_Q below D cy n0 ad0 0 V0 q A args s) V0 σ V 9 [(0, .ref 45), (1, .int x1), (2, .int x2), (3, .int x3)] [] := by
  intro n
  induction n with
  | zero =>
    intro x1 x2 x3 σ V hp
    simp only [q_X11_walk_b9] at hp
    cases hp
  | succ n ih =>
    intro x1 x2 x3 σ V hp
    simp only [q_X11_walk_b9] at hp
    refine pv_iload_n C 3 dX11_walk_9 rfl ?_
    refine pv_iload_n C 2 dX11_walk_10 rfl ?_
    refine pv_icmp_ge (tgt := 50) C hp dX11_walk_11 (by decide) (fun hp => ?_) (fun hp => ?_)
    · refine pv_aload_n C 0 dX11_walk_50 rfl ?_
      refine pv_getR C (ci := 10) (k := 14) gwX11 rfl (Nat.le_of_ble_eq_true rfl) fl_X11_38 rfl rfl rfl (j := 55) rfl rfl dX11_walk_51 ?_
      refine pv_iload_n C 1 dX11_walk_54 rfl ?_
      refine pv_iconst C hp dX11_walk_55 (by decide) (fun v37 hp => ?_)
      refine pv_iast C hp rfl rfl rfl (fun _ => rfl) dX11_walk_56 (fun V hp => ?_)
      refine pv_aload_n C 0 dX11_walk_57 rfl ?_
      refine pv_iload_n C 2 dX11_walk_58 rfl ?_
      refine pv_callV C (As := [.int x2]) (rest := []) (b := 45) (kd1 := 1) hp (fun q1 h9 => c_X11_least l D cy h9) wB_yX11_least ml_X11_156 im_yX11_least se_yX11_least (ci := 10) rfl rfl rfl rfl rfl (Nat.le_of_ble_eq_true rfl) ⟨(Nat.le_of_ble_eq_true rfl), (Nat.le_of_ble_eq_true rfl)⟩ dX11_walk_59 rfl rfl (fun v38 σ V hp => ?_)
      refine pv_istore_n (loc' := [(3, .int v38), (0, .ref 45), (1, .int x1), (2, .int x2)]) C dX11_walk_62 (by decide) rfl ?_
      refine pv_sub [1, 2, 3, 0] rfl ?_
      exact w_X11_walk_b63 C hr N _ _ _ _ _ hp
    · refine pv_aload_n C 0 dX11_walk_14 rfl ?_
      refine pv_getR C (ci := 10) (k := 11) gwX11 rfl (Nat.le_of_ble_eq_true rfl) fl_X11_31 rfl rfl rfl (j := 53) rfl rfl dX11_walk_15 ?_
      refine pv_iload_n C 3 dX11_walk_18 rfl ?_
      refine pv_iload_n C 3 dX11_walk_19 rfl ?_
      refine pv_if_ne (tgt := 27) C hp dX11_walk_20 (by decide) (fun hp => ?_) (fun hp => ?_)
      · refine pv_iconst C hp dX11_walk_27 (by decide) (fun v39 hp => ?_)
        exact w_X11_walk_b28 C hr ih hp
      · refine pv_iconst C hp dX11_walk_23 (by decide) (fun v40 hp => ?_)
        refine pv_goto (tgt := 28) C dX11_walk_24 (by decide) ?_
        exact w_X11_walk_b28 C hr ih hp
def q_X11_walk (N : Nat) (x1 : Int) (V : pvM) : Option pvO :=
  aR V 47 12 x1 fun v41 =>
  lI (0) fun v42 =>
  q_X11_walk_b9 N N x1 v41 v42 V
set_option maxHeartbeats 4000000 in
set_option maxRecDepth 100000 in
theorem c_X11_walk (l : Launch) (D : va_G) (cy : Nat → ClassId) {N : Nat} {x1 : Int32} {V : pvM} {q : pvO} (hp : q_X11_walk N x1.toInt V = some q) : pv_Met l yX11_walk cX11_walk 8 none 2 45 D cy V [.ref 45, .int x1] 0 q := by
  unfold q_X11_walk at hp
  refine pv_ofW (by decide) (Nat.le_of_ble_eq_true rfl) (fun p e s m args below meth c ad A n0 σ C hr => ?_)
  refine pv_aload_n C 0 dX11_walk_0 rfl ?_
  refine pv_getR C (ci := 10) (k := 3) gwX11 rfl (Nat.le_of_ble_eq_true rfl) fl_X11_13 rfl rfl rfl (j := 47) rfl rfl dX11_walk_1 ?_
  refine pv_iload_n C 1 dX11_walk_4 rfl ?_
  refine pv_iald C hp rfl rfl rfl (fun _ => rfl) dX11_walk_5 (fun v41 hp => ?_)
  refine pv_istore_n (loc' := [(2, .int v41), (0, .ref 45), (1, .int x1)]) C dX11_walk_6 (by decide) rfl ?_
  refine pv_iconst C hp dX11_walk_7 (by decide) (fun v42 hp => ?_)
  refine pv_istore_n (loc' := [(3, .int v42), (2, .int v41), (0, .ref 45), (1, .int x1)]) C dX11_walk_8 (by decide) rfl ?_
  refine pv_sub [2, 3, 1, 0] rfl ?_
  exact w_X11_walk_b9 C hr N _ _ _ _ _ hp
def q_X11_checkOne_b49 (N : Nat) (r27 : Int → Int → pvM → Option pvO) (x1 : Int) (x2 : Int) (s0 : Int) (V : pvM) : Option pvO :=
  gW V 45 13 s0 fun V =>
  lI (pv_w (x2 + (-1))) fun v1 =>
  r27 x1 v1 V
set_option maxHeartbeats 4000000 in
set_option maxRecDepth 100000 in
theorem w_X11_checkOne_b49 {p : Program} {l : Launch} {e : Env} {s : State} {m : MethodId} {args : Array Value} {below : List Frame} {meth : Method} {c : Code} {D : va_G} {cy : Nat → ClassId} {A : Nat → Prop} {n0 : Nat} {ad0 : Nat → Nat} {V0 : pvM} {q : pvO} (C : pz_C p s m args meth c cX11_checkOne 3 yX11_checkOne.cls D cy A) (hr : meth.sig.returnType = (some .int)) {N : Nat} {r27 : Int → Int → pvM → Option pvO} (H27 : ∀ (x1 : Int32) (x2 : Int32) (σ : pzS) (V : pvM), r27 x1.toInt x2.toInt V = some q → pv_W p l e 3 72 s m args below meth c 3 D cy A n0 ad0 (pv_Q below D cy n0 ad0 1 V0 q A args s) V0 σ V 27 [(0, .ref 45), (1, .int x1), (2, .int x2)] []) {x1 : Int32} {x2 : Int32} {s0 : Int32} {σ : pzS} {V : pvM} (hp : q_X11_checkOne_b49 N r27 x1.toInt x2.toInt s0.toInt V = some q) : pv_W p l e 3 72 s m args below meth c 3 D cy A n0 ad0 (pv_Q below D cy n0 ad0 1 V0 q A args s) V0 σ V 49 [(0, .ref 45), (1, .int x1), (2, .int x2)] [.int s0, .ref 45] := by
  unfold q_X11_checkOne_b49 at hp
  refine pv_putI C (ci := 10) (k := 13) gwX11 rfl (Nat.le_of_ble_eq_true rfl) fl_X11_153 rfl rfl tyX11_ok nmX11 hp rfl rfl rfl (by decide +kernel) dX11_checkOne_49 (fun V hp => ?_)
  refine pv_iinc (L := fun v1 => [(2, .int v1), (0, .ref 45), (1, .int x1)]) C 2 hp dX11_checkOne_52 (by decide) rfl (by decide) (fun _ => rfl) (fun v1 hp => ?_)
  refine pv_goto (tgt := 27) C dX11_checkOne_55 (by decide) ?_
  refine pv_sub [1, 2, 0] rfl ?_
  exact H27 _ _ _ _ hp
def q_X11_checkOne_b27 (N : Nat) : Nat → Int → Int → pvM → Option pvO
  | 0 => fun _ _ _ => none
  | n + 1 => fun x1 x2 V =>
    if x2 < 0 then
      gR V 45 13 fun v2 =>
      if 0 ≤ v2 then
        gR V 45 13 fun v3 =>
        rT V v3
      else
      cL (q_X11_walk N x1 V) fun _ V =>
      gR V 45 13 fun v4 =>
      rT V v4
    else
    cL (q_X11_isBound N x1 x2 V) fun v5 V =>
    if v5 = 0 then
      q_X11_checkOne_b49 N (q_X11_checkOne_b27 N n) x1 x2 x2 V
    else
    gR V 45 13 fun v6 =>
    q_X11_checkOne_b49 N (q_X11_checkOne_b27 N n) x1 x2 v6 V
set_option maxHeartbeats 4000000 in
set_option maxRecDepth 100000 in
theorem w_X11_checkOne_b27 {p : Program} {l : Launch} {e : Env} {s : State} {m : MethodId} {args : Array Value} {below : List Frame} {meth : Method} {c : Code} {D : va_G} {cy : Nat → ClassId} {A : Nat → Prop} {n0 : Nat} {ad0 : Nat → Nat} {V0 : pvM} {q : pvO} (C : pz_C p s m args meth c cX11_checkOne 3 yX11_checkOne.cls D cy A) (hr : meth.sig.returnType = (some .int)) {N : Nat} : ∀ (n : Nat) (x1 : Int32) (x2 : Int32) (σ : pzS) (V : pvM), q_X11_checkOne_b27 N n x1.toInt x2.toInt V = some q → pv_W p l e 3 72 s m args below meth c 3 D cy A n0 ad0 (pv_Q below D cy n0 ad0 1 V0 q A args s) V0 σ V 27 [(0, .ref 45), (1, .int x1), (2, .int x2)] [] := by
  intro n
  induction n with
  | zero =>
    intro x1 x2 σ V hp
    simp only [q_X11_checkOne_b27] at hp
    cases hp
  | succ n ih =>
    intro x1 x2 σ V hp
    simp only [q_X11_checkOne_b27] at hp
    refine pv_iload_n C 2 dX11_checkOne_27 rfl ?_
    refine pv_if_lt (tgt := 58) C hp dX11_checkOne_28 (by decide) (fun hp => ?_) (fun hp => ?_)
    · refine pv_aload_n C 0 dX11_checkOne_58 rfl ?_
      refine pv_getI C (ci := 10) (k := 13) gwX11 rfl (Nat.le_of_ble_eq_true rfl) fl_X11_153 rfl rfl hp rfl rfl dX11_checkOne_59 (fun v2 hp => ?_)
      refine pv_if_ge (tgt := 70) C hp dX11_checkOne_62 (by decide) (fun hp => ?_) (fun hp => ?_)
      · refine pv_aload_n C 0 dX11_checkOne_70 rfl ?_
        refine pv_getI C (ci := 10) (k := 13) gwX11 rfl (Nat.le_of_ble_eq_true rfl) fl_X11_153 rfl rfl hp rfl rfl dX11_checkOne_71 (fun v3 hp => ?_)
        exact pv_iret C rfl hp hr dX11_checkOne_74
      · refine pv_aload_n C 0 dX11_checkOne_65 rfl ?_
        refine pv_iload_n C 1 dX11_checkOne_66 rfl ?_
        refine pv_callV C (As := [.int x1]) (rest := []) (b := 45) (kd1 := 0) hp (fun q1 h9 => c_X11_walk l D cy h9) wB_yX11_walk ml_X11_173 im_yX11_walk se_yX11_walk (ci := 10) rfl rfl rfl rfl rfl (Nat.le_of_ble_eq_true rfl) ⟨(Nat.le_of_ble_eq_true rfl), (Nat.le_of_ble_eq_true rfl)⟩ dX11_checkOne_67 rfl rfl (fun _ σ V hp => ?_)
        refine pv_aload_n C 0 dX11_checkOne_70 rfl ?_
        refine pv_getI C (ci := 10) (k := 13) gwX11 rfl (Nat.le_of_ble_eq_true rfl) fl_X11_153 rfl rfl hp rfl rfl dX11_checkOne_71 (fun v4 hp => ?_)
        exact pv_iret C rfl hp hr dX11_checkOne_74
    · refine pv_aload_n C 0 dX11_checkOne_31 rfl ?_
      refine pv_aload_n C 0 dX11_checkOne_32 rfl ?_
      refine pv_iload_n C 1 dX11_checkOne_33 rfl ?_
      refine pv_iload_n C 2 dX11_checkOne_34 rfl ?_
      refine pv_callV C (As := [.int x1, .int x2]) (rest := [.ref 45]) (b := 45) (kd1 := 1) hp (fun q1 h9 => c_X11_isBound l D cy h9) wB_yX11_isBound ml_X11_169 im_yX11_isBound se_yX11_isBound (ci := 10) rfl rfl rfl rfl rfl (Nat.le_of_ble_eq_true rfl) ⟨(Nat.le_of_ble_eq_true rfl), (Nat.le_of_ble_eq_true rfl)⟩ dX11_checkOne_35 rfl rfl (fun v5 σ V hp => ?_)
      refine pv_if_eq (tgt := 48) C hp dX11_checkOne_38 (by decide) (fun hp => ?_) (fun hp => ?_)
      · refine pv_iload_n C 2 dX11_checkOne_48 rfl ?_
        exact w_X11_checkOne_b49 C hr ih hp
      · refine pv_aload_n C 0 dX11_checkOne_41 rfl ?_
        refine pv_getI C (ci := 10) (k := 13) gwX11 rfl (Nat.le_of_ble_eq_true rfl) fl_X11_153 rfl rfl hp rfl rfl dX11_checkOne_42 (fun v6 hp => ?_)
        refine pv_goto (tgt := 49) C dX11_checkOne_45 (by decide) ?_
        exact w_X11_checkOne_b49 C hr ih hp
def q_X11_checkOne_b15 (N : Nat) (x1 : Int) (s0 : Int) (V : pvM) : Option pvO :=
  gW V 45 13 s0 fun V =>
  aR V 47 12 x1 fun v7 =>
  lI (1) fun v8 =>
  lI (pv_w (v7 - v8)) fun v9 =>
  q_X11_checkOne_b27 N N x1 v9 V
set_option maxHeartbeats 4000000 in
set_option maxRecDepth 100000 in
theorem w_X11_checkOne_b15 {p : Program} {l : Launch} {e : Env} {s : State} {m : MethodId} {args : Array Value} {below : List Frame} {meth : Method} {c : Code} {D : va_G} {cy : Nat → ClassId} {A : Nat → Prop} {n0 : Nat} {ad0 : Nat → Nat} {V0 : pvM} {q : pvO} (C : pz_C p s m args meth c cX11_checkOne 3 yX11_checkOne.cls D cy A) (hr : meth.sig.returnType = (some .int)) {N : Nat} {x1 : Int32} {s0 : Int32} {σ : pzS} {V : pvM} (hp : q_X11_checkOne_b15 N x1.toInt s0.toInt V = some q) : pv_W p l e 3 72 s m args below meth c 3 D cy A n0 ad0 (pv_Q below D cy n0 ad0 1 V0 q A args s) V0 σ V 15 [(0, .ref 45), (1, .int x1)] [.int s0, .ref 45] := by
  unfold q_X11_checkOne_b15 at hp
  refine pv_putI C (ci := 10) (k := 13) gwX11 rfl (Nat.le_of_ble_eq_true rfl) fl_X11_153 rfl rfl tyX11_ok nmX11 hp rfl rfl rfl (by decide +kernel) dX11_checkOne_15 (fun V hp => ?_)
  refine pv_aload_n C 0 dX11_checkOne_18 rfl ?_
  refine pv_getR C (ci := 10) (k := 3) gwX11 rfl (Nat.le_of_ble_eq_true rfl) fl_X11_13 rfl rfl rfl (j := 47) rfl rfl dX11_checkOne_19 ?_
  refine pv_iload_n C 1 dX11_checkOne_22 rfl ?_
  refine pv_iald C hp rfl rfl rfl (fun _ => rfl) dX11_checkOne_23 (fun v7 hp => ?_)
  refine pv_iconst C hp dX11_checkOne_24 (by decide) (fun v8 hp => ?_)
  refine pv_isub C hp dX11_checkOne_25 (fun v9 hp => ?_)
  refine pv_istore_n (loc' := [(2, .int v9), (0, .ref 45), (1, .int x1)]) C dX11_checkOne_26 (by decide) rfl ?_
  refine pv_sub [1, 2, 0] rfl ?_
  exact w_X11_checkOne_b27 C hr N _ _ _ _ hp
def q_X11_checkOne (N : Nat) (x1 : Int) (V : pvM) : Option pvO :=
  aR V 47 12 x1 fun v10 =>
  if v10 ≠ 0 then
    lI (-1) fun v11 =>
    q_X11_checkOne_b15 N x1 v11 V
  else
  lI (0) fun v12 =>
  q_X11_checkOne_b15 N x1 v12 V
set_option maxHeartbeats 4000000 in
set_option maxRecDepth 100000 in
theorem c_X11_checkOne (l : Launch) (D : va_G) (cy : Nat → ClassId) {N : Nat} {x1 : Int32} {V : pvM} {q : pvO} (hp : q_X11_checkOne N x1.toInt V = some q) : pv_Met l yX11_checkOne cX11_checkOne 3 (some .int) 3 72 D cy V [.ref 45, .int x1] 1 q := by
  unfold q_X11_checkOne at hp
  refine pv_ofW (by decide) (Nat.le_of_ble_eq_true rfl) (fun p e s m args below meth c ad A n0 σ C hr => ?_)
  refine pv_aload_n C 0 dX11_checkOne_0 rfl ?_
  refine pv_aload_n C 0 dX11_checkOne_1 rfl ?_
  refine pv_getR C (ci := 10) (k := 3) gwX11 rfl (Nat.le_of_ble_eq_true rfl) fl_X11_13 rfl rfl rfl (j := 47) rfl rfl dX11_checkOne_2 ?_
  refine pv_iload_n C 1 dX11_checkOne_5 rfl ?_
  refine pv_iald C hp rfl rfl rfl (fun _ => rfl) dX11_checkOne_6 (fun v10 hp => ?_)
  refine pv_if_ne (tgt := 14) C hp dX11_checkOne_7 (by decide) (fun hp => ?_) (fun hp => ?_)
  · refine pv_iconst C hp dX11_checkOne_14 (by decide) (fun v11 hp => ?_)
    exact w_X11_checkOne_b15 C hr hp
  · refine pv_iconst C hp dX11_checkOne_10 (by decide) (fun v12 hp => ?_)
    refine pv_goto (tgt := 15) C dX11_checkOne_11 (by decide) ?_
    exact w_X11_checkOne_b15 C hr hp
def q_X11_checkAll_b2 (N : Nat) : Nat → Int → pvM → Option pvO
  | 0 => fun _ _ => none
  | n + 1 => fun x1 V =>
    gR V 45 1 fun v1 =>
    if v1 ≤ x1 then
      lI (-1) fun v2 =>
      rT V v2
    else
    cL (q_X11_checkOne N x1 V) fun v3 V =>
    if v3 < 0 then
      lI (pv_w (x1 + (1))) fun v4 =>
      q_X11_checkAll_b2 N n v4 V
    else
    lI (64) fun v5 =>
    lI (pv_w (v5 * x1)) fun v6 =>
    lI (pv_w (v6 + v3)) fun v7 =>
    rT V v7
set_option maxHeartbeats 4000000 in
set_option maxRecDepth 100000 in
theorem w_X11_checkAll_b2 {p : Program} {l : Launch} {e : Env} {s : State} {m : MethodId} {args : Array Value} {below : List Frame} {meth : Method} {c : Code} {D : va_G} {cy : Nat → ClassId} {A : Nat → Prop} {n0 : Nat} {ad0 : Nat → Nat} {V0 : pvM} {q : pvO} (C : pz_C p s m args meth c cX11_checkAll 3 yX11_checkAll.cls D cy A) (hr : meth.sig.returnType = (some .int)) {N : Nat} : ∀ (n : Nat) (x1 : Int32) (σ : pzS) (V : pvM), q_X11_checkAll_b2 N n x1.toInt V = some q → pv_W p l e 4 94 s m args below meth c 3 D cy A n0 ad0 (pv_Q below D cy n0 ad0 1 V0 q A args s) V0 σ V 2 [(0, .ref 45), (1, .int x1)] [] := by
  intro n
  induction n with
  | zero =>
    intro x1 σ V hp
    simp only [q_X11_checkAll_b2] at hp
    cases hp
  | succ n ih =>
    intro x1 σ V hp
    simp only [q_X11_checkAll_b2] at hp
    refine pv_iload_n C 1 dX11_checkAll_2 rfl ?_
    refine pv_aload_n C 0 dX11_checkAll_3 rfl ?_
    refine pv_getI C (ci := 10) (k := 1) gwX11 rfl (Nat.le_of_ble_eq_true rfl) fl_X11_127 rfl rfl hp rfl rfl dX11_checkAll_4 (fun v1 hp => ?_)
    refine pv_icmp_ge (tgt := 33) C hp dX11_checkAll_7 (by decide) (fun hp => ?_) (fun hp => ?_)
    · refine pv_iconst C hp dX11_checkAll_33 (by decide) (fun v2 hp => ?_)
      exact pv_iret C rfl hp hr dX11_checkAll_34
    · refine pv_aload_n C 0 dX11_checkAll_10 rfl ?_
      refine pv_iload_n C 1 dX11_checkAll_11 rfl ?_
      refine pv_callV C (As := [.int x1]) (rest := []) (b := 45) (kd1 := 1) hp (fun q1 h9 => c_X11_checkOne l D cy h9) wB_yX11_checkOne ml_X11_177 im_yX11_checkOne se_yX11_checkOne (ci := 10) rfl rfl rfl rfl rfl (Nat.le_of_ble_eq_true rfl) ⟨(Nat.le_of_ble_eq_true rfl), (Nat.le_of_ble_eq_true rfl)⟩ dX11_checkAll_12 rfl rfl (fun v3 σ V hp => ?_)
      refine pv_istore_n (loc' := [(2, .int v3), (0, .ref 45), (1, .int x1)]) C dX11_checkAll_15 (by decide) rfl ?_
      refine pv_iload_n C 0 dX11_checkAll_16 rfl ?_
      refine pv_if_lt (tgt := 27) C hp dX11_checkAll_17 (by decide) (fun hp => ?_) (fun hp => ?_)
      · refine pv_iinc (L := fun v4 => [(1, .int v4), (2, .int v3), (0, .ref 45)]) C 2 hp dX11_checkAll_27 (by decide) rfl (by decide) (fun _ => rfl) (fun v4 hp => ?_)
        refine pv_goto (tgt := 2) C dX11_checkAll_30 (by decide) ?_
        refine pv_sub [2, 0] rfl ?_
        exact ih _ _ _ hp
      · refine pv_bipush C hp dX11_checkAll_20 (by decide) (fun v5 hp => ?_)
        refine pv_iload_n C 2 dX11_checkAll_22 rfl ?_
        refine pv_imul C hp dX11_checkAll_23 (fun v6 hp => ?_)
        refine pv_iload_n C 0 dX11_checkAll_24 rfl ?_
        refine pv_iadd C hp dX11_checkAll_25 (fun v7 hp => ?_)
        exact pv_iret C rfl hp hr dX11_checkAll_26
def q_X11_checkAll (N : Nat) (V : pvM) : Option pvO :=
  lI (0) fun v8 =>
  q_X11_checkAll_b2 N N v8 V
set_option maxHeartbeats 4000000 in
set_option maxRecDepth 100000 in
theorem c_X11_checkAll (l : Launch) (D : va_G) (cy : Nat → ClassId) {N : Nat} {V : pvM} {q : pvO} (hp : q_X11_checkAll N V = some q) : pv_Met l yX11_checkAll cX11_checkAll 3 (some .int) 4 94 D cy V [.ref 45] 1 q := by
  unfold q_X11_checkAll at hp
  refine pv_ofW (by decide) (Nat.le_of_ble_eq_true rfl) (fun p e s m args below meth c ad A n0 σ C hr => ?_)
  refine pv_iconst C hp dX11_checkAll_0 (by decide) (fun v8 hp => ?_)
  refine pv_istore_n (loc' := [(1, .int v8), (0, .ref 45)]) C dX11_checkAll_1 (by decide) rfl ?_
  refine pv_sub [1, 0] rfl ?_
  exact w_X11_checkAll_b2 C hr N _ _ _ hp
def q_X11_check (N : Nat) (V : pvM) : Option pvO :=
  lI (0) fun v1 =>
  gW V 45 0 v1 fun V =>
  cL (q_X11_checkAll N V) fun v2 V =>
  rT V v2
set_option maxHeartbeats 4000000 in
set_option maxRecDepth 100000 in
theorem c_X11_check (l : Launch) (D : va_G) (cy : Nat → ClassId) {N : Nat} {V : pvM} {q : pvO} (hp : q_X11_check N V = some q) : pv_Met l yX11_check cX11_check 1 (some .int) 5 116 D cy V [.ref 45] 1 q := by
  unfold q_X11_check at hp
  refine pv_ofW (by decide) (Nat.le_of_ble_eq_true rfl) (fun p e s m args below meth c ad A n0 σ C hr => ?_)
  refine pv_aload_n C 0 dX11_check_0 rfl ?_
  refine pv_iconst C hp dX11_check_1 (by decide) (fun v1 hp => ?_)
  refine pv_putI C (ci := 10) (k := 0) gwX11 rfl (Nat.le_of_ble_eq_true rfl) fl_X11_123 rfl rfl tyX11_ok nmX11 hp rfl rfl rfl (by decide +kernel) dX11_check_2 (fun V hp => ?_)
  refine pv_aload_n C 0 dX11_check_5 rfl ?_
  refine pv_callV C (As := []) (rest := []) (b := 45) (kd1 := 1) hp (fun q1 h9 => c_X11_checkAll l D cy h9) wB_yX11_checkAll ml_X11_180 im_yX11_checkAll se_yX11_checkAll (ci := 10) rfl rfl rfl rfl rfl (Nat.le_of_ble_eq_true rfl) ⟨(Nat.le_of_ble_eq_true rfl), (Nat.le_of_ble_eq_true rfl)⟩ dX11_check_6 rfl rfl (fun v2 σ V hp => ?_)
  exact pv_iret C rfl hp hr dX11_check_9
def q_X11_put (N : Nat) (x1 : Int) (x2 : Int) (x3 : Int) (x4 : Int) (V : pvM) : Option pvO :=
  lI (1500) fun v1 =>
  lI (pv_w (v1 * x1)) fun v2 =>
  aR V 57 12 x1 fun v3 =>
  lI (pv_w (v2 + v3)) fun v4 =>
  aW V 58 18000 v4 x2 fun V =>
  aW V 59 18000 v4 x3 fun V =>
  aW V 60 18000 v4 x4 fun V =>
  aR V 57 12 x1 fun v5 =>
  lI (1) fun v6 =>
  lI (pv_w (v5 + v6)) fun v7 =>
  aW V 57 12 x1 v7 fun V =>
  rT V 0
set_option maxHeartbeats 4000000 in
set_option maxRecDepth 100000 in
theorem c_X11_put (l : Launch) (D : va_G) (cy : Nat → ClassId) {N : Nat} {x1 : Int32} {x2 : Int32} {x3 : Int32} {x4 : Int32} {V : pvM} {q : pvO} (hp : q_X11_put N x1.toInt x2.toInt x3.toInt x4.toInt V = some q) : pv_Met l yX11_put cX11_put 6 none 0 0 D cy V [.ref 45, .int x1, .int x2, .int x3, .int x4] 0 q := by
  unfold q_X11_put at hp
  refine pv_ofW (by decide) (Nat.le_of_ble_eq_true rfl) (fun p e s m args below meth c ad A n0 σ C hr => ?_)
  refine pv_sipush C hp dX11_put_0 (by decide) (fun v1 hp => ?_)
  refine pv_iload_n C 1 dX11_put_3 rfl ?_
  refine pv_imul C hp dX11_put_4 (fun v2 hp => ?_)
  refine pv_aload_n C 0 dX11_put_5 rfl ?_
  refine pv_getR C (ci := 10) (k := 16) gwX11 rfl (Nat.le_of_ble_eq_true rfl) fl_X11_44 rfl rfl rfl (j := 57) rfl rfl dX11_put_6 ?_
  refine pv_iload_n C 1 dX11_put_9 rfl ?_
  refine pv_iald C hp rfl rfl rfl (fun _ => rfl) dX11_put_10 (fun v3 hp => ?_)
  refine pv_iadd C hp dX11_put_11 (fun v4 hp => ?_)
  refine pv_istore (loc' := [(5, .int v4), (0, .ref 45), (1, .int x1), (2, .int x2), (3, .int x3), (4, .int x4)]) C dX11_put_12 (by decide) rfl ?_
  refine pv_aload_n C 1 dX11_put_14 rfl ?_
  refine pv_getR C (ci := 10) (k := 17) gwX11 rfl (Nat.le_of_ble_eq_true rfl) fl_X11_47 rfl rfl rfl (j := 58) rfl rfl dX11_put_15 ?_
  refine pv_iload C 0 dX11_put_18 rfl ?_
  refine pv_iload_n C 3 dX11_put_20 rfl ?_
  refine pv_iast C hp rfl rfl rfl (fun _ => rfl) dX11_put_21 (fun V hp => ?_)
  refine pv_aload_n C 1 dX11_put_22 rfl ?_
  refine pv_getR C (ci := 10) (k := 18) gwX11 rfl (Nat.le_of_ble_eq_true rfl) fl_X11_50 rfl rfl rfl (j := 59) rfl rfl dX11_put_23 ?_
  refine pv_iload C 0 dX11_put_26 rfl ?_
  refine pv_iload_n C 4 dX11_put_28 rfl ?_
  refine pv_iast C hp rfl rfl rfl (fun _ => rfl) dX11_put_29 (fun V hp => ?_)
  refine pv_aload_n C 1 dX11_put_30 rfl ?_
  refine pv_getR C (ci := 10) (k := 19) gwX11 rfl (Nat.le_of_ble_eq_true rfl) fl_X11_53 rfl rfl rfl (j := 60) rfl rfl dX11_put_31 ?_
  refine pv_iload C 0 dX11_put_34 rfl ?_
  refine pv_iload C 5 dX11_put_36 rfl ?_
  refine pv_iast C hp rfl rfl rfl (fun _ => rfl) dX11_put_38 (fun V hp => ?_)
  refine pv_aload_n C 1 dX11_put_39 rfl ?_
  refine pv_getR C (ci := 10) (k := 16) gwX11 rfl (Nat.le_of_ble_eq_true rfl) fl_X11_44 rfl rfl rfl (j := 57) rfl rfl dX11_put_40 ?_
  refine pv_iload_n C 2 dX11_put_43 rfl ?_
  refine pv_dup2 C dX11_put_44 rfl rfl ?_
  refine pv_iald C hp rfl rfl rfl (fun _ => rfl) dX11_put_45 (fun v5 hp => ?_)
  refine pv_iconst C hp dX11_put_46 (by decide) (fun v6 hp => ?_)
  refine pv_iadd C hp dX11_put_47 (fun v7 hp => ?_)
  refine pv_iast C hp rfl rfl rfl (fun _ => rfl) dX11_put_48 (fun V hp => ?_)
  exact pv_vret C rfl hp hr dX11_put_49
def q_X11_putFunction_b95 (N : Nat) : Nat → Int → Int → Int → pvM → Option pvO
  | 0 => fun _ _ _ _ => none
  | n + 1 => fun x1 x3 x4 V =>
    if x3 ≤ x4 then
      rT V 0
    else
    lI (1) fun v1 =>
    lI (9) fun v2 =>
    lI (pv_w (v2 + x4)) fun v3 =>
    lI (0) fun v4 =>
    cL (q_X11_put N x1 v1 v3 v4 V) fun _ V =>
    lI (21) fun v5 =>
    lI (0) fun v6 =>
    cL (q_X11_put N x1 v5 x4 v6 V) fun _ V =>
    lI (pv_w (x4 + (1))) fun v7 =>
    q_X11_putFunction_b95 N n x1 x3 v7 V
set_option maxHeartbeats 4000000 in
set_option maxRecDepth 100000 in
theorem w_X11_putFunction_b95 {p : Program} {l : Launch} {e : Env} {s : State} {m : MethodId} {args : Array Value} {below : List Frame} {meth : Method} {c : Code} {D : va_G} {cy : Nat → ClassId} {A : Nat → Prop} {n0 : Nat} {ad0 : Nat → Nat} {V0 : pvM} {q : pvO} (C : pz_C p s m args meth c cX11_putFunction 5 yX11_putFunction.cls D cy A) (hr : meth.sig.returnType = none) {N : Nat} : ∀ (n : Nat) (x1 : Int32) (x3 : Int32) (x4 : Int32) (σ : pzS) (V : pvM), q_X11_putFunction_b95 N n x1.toInt x3.toInt x4.toInt V = some q → pv_W p l e 1 25 s m args below meth c 5 D cy A n0 ad0 (pv_Q below D cy n0 ad0 0 V0 q A args s) V0 σ V 95 [(0, .ref 45), (1, .int x1), (3, .int x3), (4, .int x4)] [] := by
  intro n
  induction n with
  | zero =>
    intro x1 x3 x4 σ V hp
    simp only [q_X11_putFunction_b95] at hp
    cases hp
  | succ n ih =>
    intro x1 x3 x4 σ V hp
    simp only [q_X11_putFunction_b95] at hp
    refine pv_iload C 3 dX11_putFunction_95 rfl ?_
    refine pv_iload_n C 2 dX11_putFunction_97 rfl ?_
    refine pv_icmp_ge (tgt := 129) C hp dX11_putFunction_98 (by decide) (fun hp => ?_) (fun hp => ?_)
    · exact pv_vret C rfl hp hr dX11_putFunction_129
    · refine pv_aload_n C 0 dX11_putFunction_101 rfl ?_
      refine pv_iload_n C 1 dX11_putFunction_102 rfl ?_
      refine pv_iconst C hp dX11_putFunction_103 (by decide) (fun v1 hp => ?_)
      refine pv_bipush C hp dX11_putFunction_104 (by decide) (fun v2 hp => ?_)
      refine pv_iload C 3 dX11_putFunction_106 rfl ?_
      refine pv_iadd C hp dX11_putFunction_108 (fun v3 hp => ?_)
      refine pv_iconst C hp dX11_putFunction_109 (by decide) (fun v4 hp => ?_)
      refine pv_callV C (As := [.int x1, .int v1, .int v3, .int v4]) (rest := []) (b := 45) (kd1 := 0) hp (fun q1 h9 => c_X11_put l D cy h9) wB_yX11_put ml_X11_187 im_yX11_put se_yX11_put (ci := 10) rfl rfl rfl rfl rfl (Nat.le_of_ble_eq_true rfl) ⟨(Nat.le_of_ble_eq_true rfl), (Nat.le_of_ble_eq_true rfl)⟩ dX11_putFunction_110 rfl rfl (fun _ σ V hp => ?_)
      refine pv_aload_n C 0 dX11_putFunction_113 rfl ?_
      refine pv_iload_n C 1 dX11_putFunction_114 rfl ?_
      refine pv_bipush C hp dX11_putFunction_115 (by decide) (fun v5 hp => ?_)
      refine pv_iload C 3 dX11_putFunction_117 rfl ?_
      refine pv_iconst C hp dX11_putFunction_119 (by decide) (fun v6 hp => ?_)
      refine pv_callV C (As := [.int x1, .int v5, .int x4, .int v6]) (rest := []) (b := 45) (kd1 := 0) hp (fun q1 h9 => c_X11_put l D cy h9) wB_yX11_put ml_X11_187 im_yX11_put se_yX11_put (ci := 10) rfl rfl rfl rfl rfl (Nat.le_of_ble_eq_true rfl) ⟨(Nat.le_of_ble_eq_true rfl), (Nat.le_of_ble_eq_true rfl)⟩ dX11_putFunction_120 rfl rfl (fun _ σ V hp => ?_)
      refine pv_iinc (L := fun v7 => [(4, .int v7), (0, .ref 45), (1, .int x1), (3, .int x3)]) C 3 hp dX11_putFunction_123 (by decide) rfl (by decide) (fun _ => rfl) (fun v7 hp => ?_)
      refine pv_goto (tgt := 95) C dX11_putFunction_126 (by decide) ?_
      refine pv_sub [1, 2, 3, 0] rfl ?_
      exact ih _ _ _ _ _ hp
def q_X11_putFunction_b59 (N : Nat) : Nat → Int → Int → Int → pvM → Option pvO
  | 0 => fun _ _ _ _ => none
  | n + 1 => fun x1 x3 x4 V =>
    lI (1) fun v8 =>
    if x4 < v8 then
      lI (1) fun v9 =>
      lI (8) fun v10 =>
      lI (0) fun v11 =>
      cL (q_X11_put N x1 v9 v10 v11 V) fun _ V =>
      lI (0) fun v12 =>
      q_X11_putFunction_b95 N N x1 x3 v12 V
    else
    lI (2) fun v13 =>
    lI (8) fun v14 =>
    lI (pv_w (v14 + x4)) fun v15 =>
    lI (0) fun v16 =>
    cL (q_X11_put N x1 v13 v15 v16 V) fun _ V =>
    lI (pv_w (x4 + (-1))) fun v17 =>
    q_X11_putFunction_b59 N n x1 x3 v17 V
set_option maxHeartbeats 4000000 in
set_option maxRecDepth 100000 in
theorem w_X11_putFunction_b59 {p : Program} {l : Launch} {e : Env} {s : State} {m : MethodId} {args : Array Value} {below : List Frame} {meth : Method} {c : Code} {D : va_G} {cy : Nat → ClassId} {A : Nat → Prop} {n0 : Nat} {ad0 : Nat → Nat} {V0 : pvM} {q : pvO} (C : pz_C p s m args meth c cX11_putFunction 5 yX11_putFunction.cls D cy A) (hr : meth.sig.returnType = none) {N : Nat} : ∀ (n : Nat) (x1 : Int32) (x3 : Int32) (x4 : Int32) (σ : pzS) (V : pvM), q_X11_putFunction_b59 N n x1.toInt x3.toInt x4.toInt V = some q → pv_W p l e 1 25 s m args below meth c 5 D cy A n0 ad0 (pv_Q below D cy n0 ad0 0 V0 q A args s) V0 σ V 59 [(0, .ref 45), (1, .int x1), (3, .int x3), (4, .int x4)] [] := by
  intro n
  induction n with
  | zero =>
    intro x1 x3 x4 σ V hp
    simp only [q_X11_putFunction_b59] at hp
    cases hp
  | succ n ih =>
    intro x1 x3 x4 σ V hp
    simp only [q_X11_putFunction_b59] at hp
    refine pv_iload C 3 dX11_putFunction_59 rfl ?_
    refine pv_iconst C hp dX11_putFunction_61 (by decide) (fun v8 hp => ?_)
    refine pv_icmp_lt (tgt := 83) C hp dX11_putFunction_62 (by decide) (fun hp => ?_) (fun hp => ?_)
    · refine pv_aload_n C 0 dX11_putFunction_83 rfl ?_
      refine pv_iload_n C 1 dX11_putFunction_84 rfl ?_
      refine pv_iconst C hp dX11_putFunction_85 (by decide) (fun v9 hp => ?_)
      refine pv_bipush C hp dX11_putFunction_86 (by decide) (fun v10 hp => ?_)
      refine pv_iconst C hp dX11_putFunction_88 (by decide) (fun v11 hp => ?_)
      refine pv_callV C (As := [.int x1, .int v9, .int v10, .int v11]) (rest := []) (b := 45) (kd1 := 0) hp (fun q1 h9 => c_X11_put l D cy h9) wB_yX11_put ml_X11_187 im_yX11_put se_yX11_put (ci := 10) rfl rfl rfl rfl rfl (Nat.le_of_ble_eq_true rfl) ⟨(Nat.le_of_ble_eq_true rfl), (Nat.le_of_ble_eq_true rfl)⟩ dX11_putFunction_89 rfl rfl (fun _ σ V hp => ?_)
      refine pv_iconst C hp dX11_putFunction_92 (by decide) (fun v12 hp => ?_)
      refine pv_istore (loc' := [(4, .int v12), (0, .ref 45), (1, .int x1), (3, .int x3)]) C dX11_putFunction_93 (by decide) rfl ?_
      refine pv_sub [1, 2, 3, 0] rfl ?_
      exact w_X11_putFunction_b95 C hr N _ _ _ _ _ hp
    · refine pv_aload_n C 0 dX11_putFunction_65 rfl ?_
      refine pv_iload_n C 1 dX11_putFunction_66 rfl ?_
      refine pv_iconst C hp dX11_putFunction_67 (by decide) (fun v13 hp => ?_)
      refine pv_bipush C hp dX11_putFunction_68 (by decide) (fun v14 hp => ?_)
      refine pv_iload C 3 dX11_putFunction_70 rfl ?_
      refine pv_iadd C hp dX11_putFunction_72 (fun v15 hp => ?_)
      refine pv_iconst C hp dX11_putFunction_73 (by decide) (fun v16 hp => ?_)
      refine pv_callV C (As := [.int x1, .int v13, .int v15, .int v16]) (rest := []) (b := 45) (kd1 := 0) hp (fun q1 h9 => c_X11_put l D cy h9) wB_yX11_put ml_X11_187 im_yX11_put se_yX11_put (ci := 10) rfl rfl rfl rfl rfl (Nat.le_of_ble_eq_true rfl) ⟨(Nat.le_of_ble_eq_true rfl), (Nat.le_of_ble_eq_true rfl)⟩ dX11_putFunction_74 rfl rfl (fun _ σ V hp => ?_)
      refine pv_iinc (L := fun v17 => [(4, .int v17), (0, .ref 45), (1, .int x1), (3, .int x3)]) C 3 hp dX11_putFunction_77 (by decide) rfl (by decide) (fun _ => rfl) (fun v17 hp => ?_)
      refine pv_goto (tgt := 59) C dX11_putFunction_80 (by decide) ?_
      refine pv_sub [1, 2, 3, 0] rfl ?_
      exact ih _ _ _ _ _ hp
def q_X11_putFunction (N : Nat) (x1 : Int) (x2 : Int) (x3 : Int) (V : pvM) : Option pvO :=
  lI (20) fun v18 =>
  gR V 45 21 fun v19 =>
  lI (0) fun v20 =>
  cL (q_X11_put N x1 v18 v19 v20 V) fun _ V =>
  gR V 45 21 fun v21 =>
  aW V 62 480 v21 x3 fun V =>
  gR V 45 21 fun v22 =>
  aW V 63 480 v22 x2 fun V =>
  gR V 45 21 fun v23 =>
  lI (1) fun v24 =>
  lI (pv_w (v23 + v24)) fun v25 =>
  gW V 45 21 v25 fun V =>
  if x3 ≠ 0 then
    lI (2) fun v26 =>
    lI (8) fun v27 =>
    lI (0) fun v28 =>
    cL (q_X11_put N x1 v26 v27 v28 V) fun _ V =>
    q_X11_putFunction_b59 N N x1 x3 x3 V
  else
  rT V 0
set_option maxHeartbeats 4000000 in
set_option maxRecDepth 100000 in
theorem c_X11_putFunction (l : Launch) (D : va_G) (cy : Nat → ClassId) {N : Nat} {x1 : Int32} {x2 : Int32} {x3 : Int32} {V : pvM} {q : pvO} (hp : q_X11_putFunction N x1.toInt x2.toInt x3.toInt V = some q) : pv_Met l yX11_putFunction cX11_putFunction 5 none 1 25 D cy V [.ref 45, .int x1, .int x2, .int x3] 0 q := by
  unfold q_X11_putFunction at hp
  refine pv_ofW (by decide) (Nat.le_of_ble_eq_true rfl) (fun p e s m args below meth c ad A n0 σ C hr => ?_)
  refine pv_aload_n C 0 dX11_putFunction_0 rfl ?_
  refine pv_iload_n C 1 dX11_putFunction_1 rfl ?_
  refine pv_bipush C hp dX11_putFunction_2 (by decide) (fun v18 hp => ?_)
  refine pv_aload_n C 0 dX11_putFunction_4 rfl ?_
  refine pv_getI C (ci := 10) (k := 21) gwX11 rfl (Nat.le_of_ble_eq_true rfl) fl_X11_184 rfl rfl hp rfl rfl dX11_putFunction_5 (fun v19 hp => ?_)
  refine pv_iconst C hp dX11_putFunction_8 (by decide) (fun v20 hp => ?_)
  refine pv_callV C (As := [.int x1, .int v18, .int v19, .int v20]) (rest := []) (b := 45) (kd1 := 0) hp (fun q1 h9 => c_X11_put l D cy h9) wB_yX11_put ml_X11_187 im_yX11_put se_yX11_put (ci := 10) rfl rfl rfl rfl rfl (Nat.le_of_ble_eq_true rfl) ⟨(Nat.le_of_ble_eq_true rfl), (Nat.le_of_ble_eq_true rfl)⟩ dX11_putFunction_9 rfl rfl (fun _ σ V hp => ?_)
  refine pv_aload_n C 0 dX11_putFunction_12 rfl ?_
  refine pv_getR C (ci := 10) (k := 22) gwX11 rfl (Nat.le_of_ble_eq_true rfl) fl_X11_59 rfl rfl rfl (j := 62) rfl rfl dX11_putFunction_13 ?_
  refine pv_aload_n C 0 dX11_putFunction_16 rfl ?_
  refine pv_getI C (ci := 10) (k := 21) gwX11 rfl (Nat.le_of_ble_eq_true rfl) fl_X11_184 rfl rfl hp rfl rfl dX11_putFunction_17 (fun v21 hp => ?_)
  refine pv_iload_n C 3 dX11_putFunction_20 rfl ?_
  refine pv_iast C hp rfl rfl rfl (fun _ => rfl) dX11_putFunction_21 (fun V hp => ?_)
  refine pv_aload_n C 0 dX11_putFunction_22 rfl ?_
  refine pv_getR C (ci := 10) (k := 23) gwX11 rfl (Nat.le_of_ble_eq_true rfl) fl_X11_62 rfl rfl rfl (j := 63) rfl rfl dX11_putFunction_23 ?_
  refine pv_aload_n C 0 dX11_putFunction_26 rfl ?_
  refine pv_getI C (ci := 10) (k := 21) gwX11 rfl (Nat.le_of_ble_eq_true rfl) fl_X11_184 rfl rfl hp rfl rfl dX11_putFunction_27 (fun v22 hp => ?_)
  refine pv_iload_n C 2 dX11_putFunction_30 rfl ?_
  refine pv_iast C hp rfl rfl rfl (fun _ => rfl) dX11_putFunction_31 (fun V hp => ?_)
  refine pv_aload_n C 0 dX11_putFunction_32 rfl ?_
  refine pv_dup C dX11_putFunction_33 rfl ?_
  refine pv_getI C (ci := 10) (k := 21) gwX11 rfl (Nat.le_of_ble_eq_true rfl) fl_X11_184 rfl rfl hp rfl rfl dX11_putFunction_34 (fun v23 hp => ?_)
  refine pv_iconst C hp dX11_putFunction_37 (by decide) (fun v24 hp => ?_)
  refine pv_iadd C hp dX11_putFunction_38 (fun v25 hp => ?_)
  refine pv_putI C (ci := 10) (k := 21) gwX11 rfl (Nat.le_of_ble_eq_true rfl) fl_X11_184 rfl rfl tyX11_ok nmX11 hp rfl rfl rfl (by decide +kernel) dX11_putFunction_39 (fun V hp => ?_)
  refine pv_iload_n C 3 dX11_putFunction_42 rfl ?_
  refine pv_if_ne (tgt := 47) C hp dX11_putFunction_43 (by decide) (fun hp => ?_) (fun hp => ?_)
  · refine pv_aload_n C 0 dX11_putFunction_47 rfl ?_
    refine pv_iload_n C 1 dX11_putFunction_48 rfl ?_
    refine pv_iconst C hp dX11_putFunction_49 (by decide) (fun v26 hp => ?_)
    refine pv_bipush C hp dX11_putFunction_50 (by decide) (fun v27 hp => ?_)
    refine pv_iconst C hp dX11_putFunction_52 (by decide) (fun v28 hp => ?_)
    refine pv_callV C (As := [.int x1, .int v26, .int v27, .int v28]) (rest := []) (b := 45) (kd1 := 0) hp (fun q1 h9 => c_X11_put l D cy h9) wB_yX11_put ml_X11_187 im_yX11_put se_yX11_put (ci := 10) rfl rfl rfl rfl rfl (Nat.le_of_ble_eq_true rfl) ⟨(Nat.le_of_ble_eq_true rfl), (Nat.le_of_ble_eq_true rfl)⟩ dX11_putFunction_53 rfl rfl (fun _ σ V hp => ?_)
    refine pv_iload_n C 3 dX11_putFunction_56 rfl ?_
    refine pv_istore (loc' := [(4, .int x3), (0, .ref 45), (1, .int x1), (2, .int x2), (3, .int x3)]) C dX11_putFunction_57 (by decide) rfl ?_
    refine pv_sub [1, 2, 4, 0] rfl ?_
    exact w_X11_putFunction_b59 C hr N _ _ _ _ _ hp
  · exact pv_vret C rfl hp hr dX11_putFunction_46
def q_X11_putJoin_b162 (N : Nat) (r51 : Int → Int → Int → Int → Int → pvM → Option pvO) (x1 : Int) (x2 : Int) (x3 : Int) (x4 : Int) (x5 : Int) (V : pvM) : Option pvO :=
  r51 x1 x2 x3 x4 x5 V
set_option maxHeartbeats 4000000 in
set_option maxRecDepth 100000 in
theorem w_X11_putJoin_b162 {p : Program} {l : Launch} {e : Env} {s : State} {m : MethodId} {args : Array Value} {below : List Frame} {meth : Method} {c : Code} {D : va_G} {cy : Nat → ClassId} {A : Nat → Prop} {n0 : Nat} {ad0 : Nat → Nat} {V0 : pvM} {q : pvO} (C : pz_C p s m args meth c cX11_putJoin 7 yX11_putJoin.cls D cy A) (hr : meth.sig.returnType = none) {N : Nat} {r51 : Int → Int → Int → Int → Int → pvM → Option pvO} (H51 : ∀ (x1 : Int32) (x2 : Int32) (x3 : Int32) (x4 : Int32) (x5 : Int32) (σ : pzS) (V : pvM), r51 x1.toInt x2.toInt x3.toInt x4.toInt x5.toInt V = some q → pv_W p l e 1 25 s m args below meth c 7 D cy A n0 ad0 (pv_Q below D cy n0 ad0 0 V0 q A args s) V0 σ V 51 [(0, .ref 45), (1, .int x1), (2, .int x2), (3, .int x3), (4, .int x4), (5, .int x5)] []) {x1 : Int32} {x2 : Int32} {x3 : Int32} {x4 : Int32} {x5 : Int32} {σ : pzS} {V : pvM} (hp : q_X11_putJoin_b162 N r51 x1.toInt x2.toInt x3.toInt x4.toInt x5.toInt V = some q) : pv_W p l e 1 25 s m args below meth c 7 D cy A n0 ad0 (pv_Q below D cy n0 ad0 0 V0 q A args s) V0 σ V 162 [(0, .ref 45), (1, .int x1), (2, .int x2), (3, .int x3), (4, .int x4), (5, .int x5)] [] := by
  unfold q_X11_putJoin_b162 at hp
  refine pv_goto (tgt := 51) C dX11_putJoin_162 (by decide) ?_
  exact H51 _ _ _ _ _ _ _ hp
def q_X11_putJoin_b105 (N : Nat) (r51 : Int → Int → Int → Int → Int → pvM → Option pvO) (x1 : Int) (x2 : Int) (x3 : Int) (x4 : Int) (x5 : Int) (x6 : Int) (V : pvM) : Option pvO :=
  if x6 ≤ 0 then
    lI (1) fun v1 =>
    lI (8) fun v2 =>
    lI (pv_w (v2 + x4)) fun v3 =>
    lI (0) fun v4 =>
    cL (q_X11_put N x1 v1 v3 v4 V) fun _ V =>
    lI (26) fun v5 =>
    lI (0) fun v6 =>
    lI (0) fun v7 =>
    cL (q_X11_put N x1 v5 v6 v7 V) fun _ V =>
    lI (pv_w (x4 + (1))) fun v8 =>
    lI (pv_w (x5 + (1))) fun v9 =>
    q_X11_putJoin_b162 N r51 x1 x2 x3 v8 v9 V
  else
  lI (25) fun v10 =>
  cL (q_X11_put N x1 v10 x3 x6 V) fun _ V =>
  lI (pv_w (x3 + x6)) fun v11 =>
  lI (pv_w (x5 + x6)) fun v12 =>
  q_X11_putJoin_b162 N r51 x1 x2 v11 x4 v12 V
set_option maxHeartbeats 4000000 in
set_option maxRecDepth 100000 in
theorem w_X11_putJoin_b105 {p : Program} {l : Launch} {e : Env} {s : State} {m : MethodId} {args : Array Value} {below : List Frame} {meth : Method} {c : Code} {D : va_G} {cy : Nat → ClassId} {A : Nat → Prop} {n0 : Nat} {ad0 : Nat → Nat} {V0 : pvM} {q : pvO} (C : pz_C p s m args meth c cX11_putJoin 7 yX11_putJoin.cls D cy A) (hr : meth.sig.returnType = none) {N : Nat} {r51 : Int → Int → Int → Int → Int → pvM → Option pvO} (H51 : ∀ (x1 : Int32) (x2 : Int32) (x3 : Int32) (x4 : Int32) (x5 : Int32) (σ : pzS) (V : pvM), r51 x1.toInt x2.toInt x3.toInt x4.toInt x5.toInt V = some q → pv_W p l e 1 25 s m args below meth c 7 D cy A n0 ad0 (pv_Q below D cy n0 ad0 0 V0 q A args s) V0 σ V 51 [(0, .ref 45), (1, .int x1), (2, .int x2), (3, .int x3), (4, .int x4), (5, .int x5)] []) {x1 : Int32} {x2 : Int32} {x3 : Int32} {x4 : Int32} {x5 : Int32} {x6 : Int32} {σ : pzS} {V : pvM} (hp : q_X11_putJoin_b105 N r51 x1.toInt x2.toInt x3.toInt x4.toInt x5.toInt x6.toInt V = some q) : pv_W p l e 1 25 s m args below meth c 7 D cy A n0 ad0 (pv_Q below D cy n0 ad0 0 V0 q A args s) V0 σ V 105 [(0, .ref 45), (1, .int x1), (2, .int x2), (3, .int x3), (4, .int x4), (5, .int x5), (6, .int x6)] [] := by
  unfold q_X11_putJoin_b105 at hp
  refine pv_iload C 6 dX11_putJoin_105 rfl ?_
  refine pv_if_le (tgt := 135) C hp dX11_putJoin_107 (by decide) (fun hp => ?_) (fun hp => ?_)
  · refine pv_aload_n C 0 dX11_putJoin_135 rfl ?_
    refine pv_iload_n C 1 dX11_putJoin_136 rfl ?_
    refine pv_iconst C hp dX11_putJoin_137 (by decide) (fun v1 hp => ?_)
    refine pv_bipush C hp dX11_putJoin_138 (by decide) (fun v2 hp => ?_)
    refine pv_iload C 4 dX11_putJoin_140 rfl ?_
    refine pv_iadd C hp dX11_putJoin_142 (fun v3 hp => ?_)
    refine pv_iconst C hp dX11_putJoin_143 (by decide) (fun v4 hp => ?_)
    refine pv_callV C (As := [.int x1, .int v1, .int v3, .int v4]) (rest := []) (b := 45) (kd1 := 0) hp (fun q1 h9 => c_X11_put l D cy h9) wB_yX11_put ml_X11_187 im_yX11_put se_yX11_put (ci := 10) rfl rfl rfl rfl rfl (Nat.le_of_ble_eq_true rfl) ⟨(Nat.le_of_ble_eq_true rfl), (Nat.le_of_ble_eq_true rfl)⟩ dX11_putJoin_144 rfl rfl (fun _ σ V hp => ?_)
    refine pv_aload_n C 0 dX11_putJoin_147 rfl ?_
    refine pv_iload_n C 1 dX11_putJoin_148 rfl ?_
    refine pv_bipush C hp dX11_putJoin_149 (by decide) (fun v5 hp => ?_)
    refine pv_iconst C hp dX11_putJoin_151 (by decide) (fun v6 hp => ?_)
    refine pv_iconst C hp dX11_putJoin_152 (by decide) (fun v7 hp => ?_)
    refine pv_callV C (As := [.int x1, .int v5, .int v6, .int v7]) (rest := []) (b := 45) (kd1 := 0) hp (fun q1 h9 => c_X11_put l D cy h9) wB_yX11_put ml_X11_187 im_yX11_put se_yX11_put (ci := 10) rfl rfl rfl rfl rfl (Nat.le_of_ble_eq_true rfl) ⟨(Nat.le_of_ble_eq_true rfl), (Nat.le_of_ble_eq_true rfl)⟩ dX11_putJoin_153 rfl rfl (fun _ σ V hp => ?_)
    refine pv_iinc (L := fun v8 => [(4, .int v8), (0, .ref 45), (1, .int x1), (2, .int x2), (3, .int x3), (5, .int x5), (6, .int x6)]) C 4 hp dX11_putJoin_156 (by decide) rfl (by decide) (fun _ => rfl) (fun v8 hp => ?_)
    refine pv_iinc (L := fun v9 => [(5, .int v9), (4, .int v8), (0, .ref 45), (1, .int x1), (2, .int x2), (3, .int x3), (6, .int x6)]) C 5 hp dX11_putJoin_159 (by decide) rfl (by decide) (fun _ => rfl) (fun v9 hp => ?_)
    refine pv_sub [2, 3, 4, 5, 1, 0] rfl ?_
    exact w_X11_putJoin_b162 C hr H51 hp
  · refine pv_aload_n C 0 dX11_putJoin_110 rfl ?_
    refine pv_iload_n C 1 dX11_putJoin_111 rfl ?_
    refine pv_bipush C hp dX11_putJoin_112 (by decide) (fun v10 hp => ?_)
    refine pv_iload_n C 3 dX11_putJoin_114 rfl ?_
    refine pv_iload C 6 dX11_putJoin_115 rfl ?_
    refine pv_callV C (As := [.int x1, .int v10, .int x3, .int x6]) (rest := []) (b := 45) (kd1 := 0) hp (fun q1 h9 => c_X11_put l D cy h9) wB_yX11_put ml_X11_187 im_yX11_put se_yX11_put (ci := 10) rfl rfl rfl rfl rfl (Nat.le_of_ble_eq_true rfl) ⟨(Nat.le_of_ble_eq_true rfl), (Nat.le_of_ble_eq_true rfl)⟩ dX11_putJoin_117 rfl rfl (fun _ σ V hp => ?_)
    refine pv_iload_n C 3 dX11_putJoin_120 rfl ?_
    refine pv_iload C 6 dX11_putJoin_121 rfl ?_
    refine pv_iadd C hp dX11_putJoin_123 (fun v11 hp => ?_)
    refine pv_istore_n (loc' := [(3, .int v11), (0, .ref 45), (1, .int x1), (2, .int x2), (4, .int x4), (5, .int x5), (6, .int x6)]) C dX11_putJoin_124 (by decide) rfl ?_
    refine pv_iload C 5 dX11_putJoin_125 rfl ?_
    refine pv_iload C 6 dX11_putJoin_127 rfl ?_
    refine pv_iadd C hp dX11_putJoin_129 (fun v12 hp => ?_)
    refine pv_istore (loc' := [(5, .int v12), (3, .int v11), (0, .ref 45), (1, .int x1), (2, .int x2), (4, .int x4), (6, .int x6)]) C dX11_putJoin_130 (by decide) rfl ?_
    refine pv_goto (tgt := 162) C dX11_putJoin_132 (by decide) ?_
    refine pv_sub [2, 3, 4, 1, 5, 0] rfl ?_
    exact w_X11_putJoin_b162 C hr H51 hp
def q_X11_putJoin_b65 (N : Nat) (r51 : Int → Int → Int → Int → Int → pvM → Option pvO) : Nat → Int → Int → Int → Int → Int → Int → pvM → Option pvO
  | 0 => fun _ _ _ _ _ _ _ => none
  | n + 1 => fun x1 x2 x3 x4 x5 x6 V =>
    lI (pv_w (x5 + x6)) fun v13 =>
    aR V 51 8 x2 fun v14 =>
    if v14 ≤ v13 then
      q_X11_putJoin_b105 N r51 x1 x2 x3 x4 x5 x6 V
    else
    lI (12) fun v15 =>
    lI (pv_w (v15 * x2)) fun v16 =>
    lI (pv_w (v16 + x5)) fun v17 =>
    lI (pv_w (v17 + x6)) fun v18 =>
    aR V 52 96 v18 fun v19 =>
    lI (27) fun v20 =>
    if v20 ≤ v19 then
      q_X11_putJoin_b105 N r51 x1 x2 x3 x4 x5 x6 V
    else
    lI (pv_w (x6 + (1))) fun v21 =>
    q_X11_putJoin_b65 N r51 n x1 x2 x3 x4 x5 v21 V
set_option maxHeartbeats 4000000 in
set_option maxRecDepth 100000 in
theorem w_X11_putJoin_b65 {p : Program} {l : Launch} {e : Env} {s : State} {m : MethodId} {args : Array Value} {below : List Frame} {meth : Method} {c : Code} {D : va_G} {cy : Nat → ClassId} {A : Nat → Prop} {n0 : Nat} {ad0 : Nat → Nat} {V0 : pvM} {q : pvO} (C : pz_C p s m args meth c cX11_putJoin 7 yX11_putJoin.cls D cy A) (hr : meth.sig.returnType = none) {N : Nat} {r51 : Int → Int → Int → Int → Int → pvM → Option pvO} (H51 : ∀ (x1 : Int32) (x2 : Int32) (x3 : Int32) (x4 : Int32) (x5 : Int32) (σ : pzS) (V : pvM), r51 x1.toInt x2.toInt x3.toInt x4.toInt x5.toInt V = some q → pv_W p l e 1 25 s m args below meth c 7 D cy A n0 ad0 (pv_Q below D cy n0 ad0 0 V0 q A args s) V0 σ V 51 [(0, .ref 45), (1, .int x1), (2, .int x2), (3, .int x3), (4, .int x4), (5, .int x5)] []) : ∀ (n : Nat) (x1 : Int32) (x2 : Int32) (x3 : Int32) (x4 : Int32) (x5 : Int32) (x6 : Int32) (σ : pzS) (V : pvM), q_X11_putJoin_b65 N r51 n x1.toInt x2.toInt x3.toInt x4.toInt x5.toInt x6.toInt V = some q → pv_W p l e 1 25 s m args below meth c 7 D cy A n0 ad0 (pv_Q below D cy n0 ad0 0 V0 q A args s) V0 σ V 65 [(0, .ref 45), (1, .int x1), (2, .int x2), (3, .int x3), (4, .int x4), (5, .int x5), (6, .int x6)] [] := by
  intro n
  induction n with
  | zero =>
    intro x1 x2 x3 x4 x5 x6 σ V hp
    simp only [q_X11_putJoin_b65] at hp
    cases hp
  | succ n ih =>
    intro x1 x2 x3 x4 x5 x6 σ V hp
    simp only [q_X11_putJoin_b65] at hp
    refine pv_iload C 5 dX11_putJoin_65 rfl ?_
    refine pv_iload C 6 dX11_putJoin_67 rfl ?_
    refine pv_iadd C hp dX11_putJoin_69 (fun v13 hp => ?_)
    refine pv_aload_n C 0 dX11_putJoin_70 rfl ?_
    refine pv_getR C (ci := 10) (k := 8) gwX11 rfl (Nat.le_of_ble_eq_true rfl) fl_X11_25 rfl rfl rfl (j := 51) rfl rfl dX11_putJoin_71 ?_
    refine pv_iload_n C 2 dX11_putJoin_74 rfl ?_
    refine pv_iald C hp rfl rfl rfl (fun _ => rfl) dX11_putJoin_75 (fun v14 hp => ?_)
    refine pv_icmp_ge (tgt := 105) C hp dX11_putJoin_76 (by decide) (fun hp => ?_) (fun hp => ?_)
    · exact w_X11_putJoin_b105 C hr H51 hp
    · refine pv_aload_n C 0 dX11_putJoin_79 rfl ?_
      refine pv_getR C (ci := 10) (k := 9) gwX11 rfl (Nat.le_of_ble_eq_true rfl) fl_X11_28 rfl rfl rfl (j := 52) rfl rfl dX11_putJoin_80 ?_
      refine pv_bipush C hp dX11_putJoin_83 (by decide) (fun v15 hp => ?_)
      refine pv_iload_n C 2 dX11_putJoin_85 rfl ?_
      refine pv_imul C hp dX11_putJoin_86 (fun v16 hp => ?_)
      refine pv_iload C 5 dX11_putJoin_87 rfl ?_
      refine pv_iadd C hp dX11_putJoin_89 (fun v17 hp => ?_)
      refine pv_iload C 6 dX11_putJoin_90 rfl ?_
      refine pv_iadd C hp dX11_putJoin_92 (fun v18 hp => ?_)
      refine pv_iald C hp rfl rfl rfl (fun _ => rfl) dX11_putJoin_93 (fun v19 hp => ?_)
      refine pv_bipush C hp dX11_putJoin_94 (by decide) (fun v20 hp => ?_)
      refine pv_icmp_ge (tgt := 105) C hp dX11_putJoin_96 (by decide) (fun hp => ?_) (fun hp => ?_)
      · exact w_X11_putJoin_b105 C hr H51 hp
      · refine pv_iinc (L := fun v21 => [(6, .int v21), (0, .ref 45), (1, .int x1), (2, .int x2), (3, .int x3), (4, .int x4), (5, .int x5)]) C 6 hp dX11_putJoin_99 (by decide) rfl (by decide) (fun _ => rfl) (fun v21 hp => ?_)
        refine pv_goto (tgt := 65) C dX11_putJoin_102 (by decide) ?_
        refine pv_sub [1, 2, 3, 4, 5, 6, 0] rfl ?_
        exact ih _ _ _ _ _ _ _ _ hp
def q_X11_putJoin_b51 (N : Nat) : Nat → Int → Int → Int → Int → Int → pvM → Option pvO
  | 0 => fun _ _ _ _ _ _ => none
  | n + 1 => fun x1 x2 x3 x4 x5 V =>
    aR V 51 8 x2 fun v22 =>
    if v22 ≤ x5 then
      rT V 0
    else
    lI (0) fun v23 =>
    q_X11_putJoin_b65 N (q_X11_putJoin_b51 N n) N x1 x2 x3 x4 x5 v23 V
set_option maxHeartbeats 4000000 in
set_option maxRecDepth 100000 in
theorem w_X11_putJoin_b51 {p : Program} {l : Launch} {e : Env} {s : State} {m : MethodId} {args : Array Value} {below : List Frame} {meth : Method} {c : Code} {D : va_G} {cy : Nat → ClassId} {A : Nat → Prop} {n0 : Nat} {ad0 : Nat → Nat} {V0 : pvM} {q : pvO} (C : pz_C p s m args meth c cX11_putJoin 7 yX11_putJoin.cls D cy A) (hr : meth.sig.returnType = none) {N : Nat} : ∀ (n : Nat) (x1 : Int32) (x2 : Int32) (x3 : Int32) (x4 : Int32) (x5 : Int32) (σ : pzS) (V : pvM), q_X11_putJoin_b51 N n x1.toInt x2.toInt x3.toInt x4.toInt x5.toInt V = some q → pv_W p l e 1 25 s m args below meth c 7 D cy A n0 ad0 (pv_Q below D cy n0 ad0 0 V0 q A args s) V0 σ V 51 [(0, .ref 45), (1, .int x1), (2, .int x2), (3, .int x3), (4, .int x4), (5, .int x5)] [] := by
  intro n
  induction n with
  | zero =>
    intro x1 x2 x3 x4 x5 σ V hp
    simp only [q_X11_putJoin_b51] at hp
    cases hp
  | succ n ih =>
    intro x1 x2 x3 x4 x5 σ V hp
    simp only [q_X11_putJoin_b51] at hp
    refine pv_iload C 5 dX11_putJoin_51 rfl ?_
    refine pv_aload_n C 0 dX11_putJoin_53 rfl ?_
    refine pv_getR C (ci := 10) (k := 8) gwX11 rfl (Nat.le_of_ble_eq_true rfl) fl_X11_25 rfl rfl rfl (j := 51) rfl rfl dX11_putJoin_54 ?_
    refine pv_iload_n C 2 dX11_putJoin_57 rfl ?_
    refine pv_iald C hp rfl rfl rfl (fun _ => rfl) dX11_putJoin_58 (fun v22 hp => ?_)
    refine pv_icmp_ge (tgt := 165) C hp dX11_putJoin_59 (by decide) (fun hp => ?_) (fun hp => ?_)
    · exact pv_vret C rfl hp hr dX11_putJoin_165
    · refine pv_iconst C hp dX11_putJoin_62 (by decide) (fun v23 hp => ?_)
      refine pv_istore (loc' := [(6, .int v23), (0, .ref 45), (1, .int x1), (2, .int x2), (3, .int x3), (4, .int x4), (5, .int x5)]) C dX11_putJoin_63 (by decide) rfl ?_
      refine pv_sub [1, 2, 3, 4, 5, 6, 0] rfl ?_
      exact w_X11_putJoin_b65 C hr ih N _ _ _ _ _ _ _ _ hp
def q_X11_putJoin_b8 (N : Nat) : Nat → Int → Int → Int → pvM → Option pvO
  | 0 => fun _ _ _ _ => none
  | n + 1 => fun x1 x2 x3 V =>
    if x3 < 0 then
      lI (24) fun v24 =>
      lI (0) fun v25 =>
      lI (0) fun v26 =>
      cL (q_X11_put N x1 v24 v25 v26 V) fun _ V =>
      aR V 65 8 x2 fun v27 =>
      lI (0) fun v28 =>
      lI (0) fun v29 =>
      q_X11_putJoin_b51 N N x1 x2 v27 v28 v29 V
    else
    lI (2) fun v30 =>
    lI (8) fun v31 =>
    lI (pv_w (v31 + x3)) fun v32 =>
    lI (0) fun v33 =>
    cL (q_X11_put N x1 v30 v32 v33 V) fun _ V =>
    lI (pv_w (x3 + (-1))) fun v34 =>
    q_X11_putJoin_b8 N n x1 x2 v34 V
set_option maxHeartbeats 4000000 in
set_option maxRecDepth 100000 in
theorem w_X11_putJoin_b8 {p : Program} {l : Launch} {e : Env} {s : State} {m : MethodId} {args : Array Value} {below : List Frame} {meth : Method} {c : Code} {D : va_G} {cy : Nat → ClassId} {A : Nat → Prop} {n0 : Nat} {ad0 : Nat → Nat} {V0 : pvM} {q : pvO} (C : pz_C p s m args meth c cX11_putJoin 7 yX11_putJoin.cls D cy A) (hr : meth.sig.returnType = none) {N : Nat} : ∀ (n : Nat) (x1 : Int32) (x2 : Int32) (x3 : Int32) (σ : pzS) (V : pvM), q_X11_putJoin_b8 N n x1.toInt x2.toInt x3.toInt V = some q → pv_W p l e 1 25 s m args below meth c 7 D cy A n0 ad0 (pv_Q below D cy n0 ad0 0 V0 q A args s) V0 σ V 8 [(0, .ref 45), (1, .int x1), (2, .int x2), (3, .int x3)] [] := by
  intro n
  induction n with
  | zero =>
    intro x1 x2 x3 σ V hp
    simp only [q_X11_putJoin_b8] at hp
    cases hp
  | succ n ih =>
    intro x1 x2 x3 σ V hp
    simp only [q_X11_putJoin_b8] at hp
    refine pv_iload_n C 3 dX11_putJoin_8 rfl ?_
    refine pv_if_lt (tgt := 29) C hp dX11_putJoin_9 (by decide) (fun hp => ?_) (fun hp => ?_)
    · refine pv_aload_n C 0 dX11_putJoin_29 rfl ?_
      refine pv_iload_n C 1 dX11_putJoin_30 rfl ?_
      refine pv_bipush C hp dX11_putJoin_31 (by decide) (fun v24 hp => ?_)
      refine pv_iconst C hp dX11_putJoin_33 (by decide) (fun v25 hp => ?_)
      refine pv_iconst C hp dX11_putJoin_34 (by decide) (fun v26 hp => ?_)
      refine pv_callV C (As := [.int x1, .int v24, .int v25, .int v26]) (rest := []) (b := 45) (kd1 := 0) hp (fun q1 h9 => c_X11_put l D cy h9) wB_yX11_put ml_X11_187 im_yX11_put se_yX11_put (ci := 10) rfl rfl rfl rfl rfl (Nat.le_of_ble_eq_true rfl) ⟨(Nat.le_of_ble_eq_true rfl), (Nat.le_of_ble_eq_true rfl)⟩ dX11_putJoin_35 rfl rfl (fun _ σ V hp => ?_)
      refine pv_aload_n C 0 dX11_putJoin_38 rfl ?_
      refine pv_getR C (ci := 10) (k := 26) gwX11 rfl (Nat.le_of_ble_eq_true rfl) fl_X11_68 rfl rfl rfl (j := 65) rfl rfl dX11_putJoin_39 ?_
      refine pv_iload_n C 2 dX11_putJoin_42 rfl ?_
      refine pv_iald C hp rfl rfl rfl (fun _ => rfl) dX11_putJoin_43 (fun v27 hp => ?_)
      refine pv_istore_n (loc' := [(3, .int v27), (0, .ref 45), (1, .int x1), (2, .int x2)]) C dX11_putJoin_44 (by decide) rfl ?_
      refine pv_iconst C hp dX11_putJoin_45 (by decide) (fun v28 hp => ?_)
      refine pv_istore (loc' := [(4, .int v28), (3, .int v27), (0, .ref 45), (1, .int x1), (2, .int x2)]) C dX11_putJoin_46 (by decide) rfl ?_
      refine pv_iconst C hp dX11_putJoin_48 (by decide) (fun v29 hp => ?_)
      refine pv_istore (loc' := [(5, .int v29), (4, .int v28), (3, .int v27), (0, .ref 45), (1, .int x1), (2, .int x2)]) C dX11_putJoin_49 (by decide) rfl ?_
      refine pv_sub [3, 4, 5, 2, 1, 0] rfl ?_
      exact w_X11_putJoin_b51 C hr N _ _ _ _ _ _ _ hp
    · refine pv_aload_n C 0 dX11_putJoin_12 rfl ?_
      refine pv_iload_n C 1 dX11_putJoin_13 rfl ?_
      refine pv_iconst C hp dX11_putJoin_14 (by decide) (fun v30 hp => ?_)
      refine pv_bipush C hp dX11_putJoin_15 (by decide) (fun v31 hp => ?_)
      refine pv_iload_n C 3 dX11_putJoin_17 rfl ?_
      refine pv_iadd C hp dX11_putJoin_18 (fun v32 hp => ?_)
      refine pv_iconst C hp dX11_putJoin_19 (by decide) (fun v33 hp => ?_)
      refine pv_callV C (As := [.int x1, .int v30, .int v32, .int v33]) (rest := []) (b := 45) (kd1 := 0) hp (fun q1 h9 => c_X11_put l D cy h9) wB_yX11_put ml_X11_187 im_yX11_put se_yX11_put (ci := 10) rfl rfl rfl rfl rfl (Nat.le_of_ble_eq_true rfl) ⟨(Nat.le_of_ble_eq_true rfl), (Nat.le_of_ble_eq_true rfl)⟩ dX11_putJoin_20 rfl rfl (fun _ σ V hp => ?_)
      refine pv_iinc (L := fun v34 => [(3, .int v34), (0, .ref 45), (1, .int x1), (2, .int x2)]) C 3 hp dX11_putJoin_23 (by decide) rfl (by decide) (fun _ => rfl) (fun v34 hp => ?_)
      refine pv_goto (tgt := 8) C dX11_putJoin_26 (by decide) ?_
      refine pv_sub [1, 2, 3, 0] rfl ?_
      exact ih _ _ _ _ _ hp
def q_X11_putJoin (N : Nat) (x1 : Int) (x2 : Int) (V : pvM) : Option pvO :=
  cL (q_X11_holes N x2 V) fun v35 V =>
  lI (1) fun v36 =>
  lI (pv_w (v35 - v36)) fun v37 =>
  q_X11_putJoin_b8 N N x1 x2 v37 V
set_option maxHeartbeats 4000000 in
set_option maxRecDepth 100000 in
theorem c_X11_putJoin (l : Launch) (D : va_G) (cy : Nat → ClassId) {N : Nat} {x1 : Int32} {x2 : Int32} {V : pvM} {q : pvO} (hp : q_X11_putJoin N x1.toInt x2.toInt V = some q) : pv_Met l yX11_putJoin cX11_putJoin 7 none 1 25 D cy V [.ref 45, .int x1, .int x2] 0 q := by
  unfold q_X11_putJoin at hp
  refine pv_ofW (by decide) (Nat.le_of_ble_eq_true rfl) (fun p e s m args below meth c ad A n0 σ C hr => ?_)
  refine pv_aload_n C 0 dX11_putJoin_0 rfl ?_
  refine pv_iload_n C 2 dX11_putJoin_1 rfl ?_
  refine pv_callV C (As := [.int x2]) (rest := []) (b := 45) (kd1 := 1) hp (fun q1 h9 => c_X11_holes l D cy h9) wB_yX11_holes ml_X11_149 im_yX11_holes se_yX11_holes (ci := 10) rfl rfl rfl rfl rfl (Nat.le_of_ble_eq_true rfl) ⟨(Nat.le_of_ble_eq_true rfl), (Nat.le_of_ble_eq_true rfl)⟩ dX11_putJoin_2 rfl rfl (fun v35 σ V hp => ?_)
  refine pv_iconst C hp dX11_putJoin_5 (by decide) (fun v36 hp => ?_)
  refine pv_isub C hp dX11_putJoin_6 (fun v37 hp => ?_)
  refine pv_istore_n (loc' := [(3, .int v37), (0, .ref 45), (1, .int x1), (2, .int x2)]) C dX11_putJoin_7 (by decide) rfl ?_
  refine pv_sub [1, 2, 3, 0] rfl ?_
  exact w_X11_putJoin_b8 C hr N _ _ _ _ _ hp
def q_X11_within_b52 (N : Nat) (x2 : Int) (x3 : Int) (s0 : Int) (V : pvM) : Option pvO :=
  if x3 ≤ 0 then
    rT V s0
  else
  lI (1) fun v1 =>
  lI (pv_w (x2 - v1)) fun v2 =>
  if v2 ≤ s0 then
    rT V s0
  else
  lI (1) fun v3 =>
  lI (pv_w (x2 - v3)) fun v4 =>
  rT V v4
set_option maxHeartbeats 4000000 in
set_option maxRecDepth 100000 in
theorem w_X11_within_b52 {p : Program} {l : Launch} {e : Env} {s : State} {m : MethodId} {args : Array Value} {below : List Frame} {meth : Method} {c : Code} {D : va_G} {cy : Nat → ClassId} {A : Nat → Prop} {n0 : Nat} {ad0 : Nat → Nat} {V0 : pvM} {q : pvO} (C : pz_C p s m args meth c cX11_within 5 yX11_within.cls D cy A) (hr : meth.sig.returnType = (some .int)) {N : Nat} {x2 : Int32} {x3 : Int32} {s0 : Int32} {σ : pzS} {V : pvM} (hp : q_X11_within_b52 N x2.toInt x3.toInt s0.toInt V = some q) : pv_W p l e 2 45 s m args below meth c 5 D cy A n0 ad0 (pv_Q below D cy n0 ad0 1 V0 q A args s) V0 σ V 52 [(2, .int x2), (3, .int x3)] [.int s0] := by
  unfold q_X11_within_b52 at hp
  refine pv_istore (loc' := [(4, .int s0), (2, .int x2), (3, .int x3)]) C dX11_within_52 (by decide) rfl ?_
  refine pv_iload_n C 2 dX11_within_54 rfl ?_
  refine pv_if_le (tgt := 72) C hp dX11_within_55 (by decide) (fun hp => ?_) (fun hp => ?_)
  · refine pv_iload C 0 dX11_within_72 rfl ?_
    exact pv_iret C rfl hp hr dX11_within_74
  · refine pv_iload_n C 1 dX11_within_58 rfl ?_
    refine pv_iconst C hp dX11_within_59 (by decide) (fun v1 hp => ?_)
    refine pv_isub C hp dX11_within_60 (fun v2 hp => ?_)
    refine pv_iload C 0 dX11_within_61 rfl ?_
    refine pv_icmp_le (tgt := 72) C hp dX11_within_63 (by decide) (fun hp => ?_) (fun hp => ?_)
    · refine pv_iload C 0 dX11_within_72 rfl ?_
      exact pv_iret C rfl hp hr dX11_within_74
    · refine pv_iload_n C 1 dX11_within_66 rfl ?_
      refine pv_iconst C hp dX11_within_67 (by decide) (fun v3 hp => ?_)
      refine pv_isub C hp dX11_within_68 (fun v4 hp => ?_)
      refine pv_goto (tgt := 74) C dX11_within_69 (by decide) ?_
      exact pv_iret C rfl hp hr dX11_within_74
def q_X11_within (N : Nat) (x1 : Int) (x2 : Int) (V : pvM) : Option pvO :=
  aR V 48 480 x1 fun v5 =>
  lI (13) fun v6 =>
  if v5 ≠ v6 then
    aR V 48 480 x1 fun v7 =>
    lI (15) fun v8 =>
    if v7 ≠ v8 then
      cL (q_X11_pops N x1 V) fun v9 V =>
      lI (pv_w (x2 - v9)) fun v10 =>
      cL (q_X11_pushes N x1 V) fun v11 V =>
      lI (pv_w (v10 + v11)) fun v12 =>
      rT V v12
    else
    aR V 49 480 x1 fun v13 =>
    cL (q_X11_holes N v13 V) fun v14 V =>
    if v14 ≠ 0 then
      lI (pv_w (x2 - v14)) fun v15 =>
      lI (2) fun v16 =>
      lI (pv_w (v15 + v16)) fun v17 =>
      q_X11_within_b52 N x2 v14 v17 V
    else
    lI (1) fun v18 =>
    lI (pv_w (x2 + v18)) fun v19 =>
    q_X11_within_b52 N x2 v14 v19 V
  else
  lI (1) fun v20 =>
  lI (pv_w (x2 + v20)) fun v21 =>
  rT V v21
set_option maxHeartbeats 4000000 in
set_option maxRecDepth 100000 in
theorem c_X11_within (l : Launch) (D : va_G) (cy : Nat → ClassId) {N : Nat} {x1 : Int32} {x2 : Int32} {V : pvM} {q : pvO} (hp : q_X11_within N x1.toInt x2.toInt V = some q) : pv_Met l yX11_within cX11_within 5 (some .int) 2 45 D cy V [.ref 45, .int x1, .int x2] 1 q := by
  unfold q_X11_within at hp
  refine pv_ofW (by decide) (Nat.le_of_ble_eq_true rfl) (fun p e s m args below meth c ad A n0 σ C hr => ?_)
  refine pv_aload_n C 0 dX11_within_0 rfl ?_
  refine pv_getR C (ci := 10) (k := 4) gwX11 rfl (Nat.le_of_ble_eq_true rfl) fl_X11_16 rfl rfl rfl (j := 48) rfl rfl dX11_within_1 ?_
  refine pv_iload_n C 1 dX11_within_4 rfl ?_
  refine pv_iald C hp rfl rfl rfl (fun _ => rfl) dX11_within_5 (fun v5 hp => ?_)
  refine pv_bipush C hp dX11_within_6 (by decide) (fun v6 hp => ?_)
  refine pv_icmp_ne (tgt := 15) C hp dX11_within_8 (by decide) (fun hp => ?_) (fun hp => ?_)
  · refine pv_aload_n C 0 dX11_within_15 rfl ?_
    refine pv_getR C (ci := 10) (k := 4) gwX11 rfl (Nat.le_of_ble_eq_true rfl) fl_X11_16 rfl rfl rfl (j := 48) rfl rfl dX11_within_16 ?_
    refine pv_iload_n C 1 dX11_within_19 rfl ?_
    refine pv_iald C hp rfl rfl rfl (fun _ => rfl) dX11_within_20 (fun v7 hp => ?_)
    refine pv_bipush C hp dX11_within_21 (by decide) (fun v8 hp => ?_)
    refine pv_icmp_ne (tgt := 75) C hp dX11_within_23 (by decide) (fun hp => ?_) (fun hp => ?_)
    · refine pv_iload_n C 2 dX11_within_75 rfl ?_
      refine pv_aload_n C 0 dX11_within_76 rfl ?_
      refine pv_iload_n C 1 dX11_within_77 rfl ?_
      refine pv_callV C (As := [.int x1]) (rest := [.int x2]) (b := 45) (kd1 := 1) hp (fun q1 h9 => c_X11_pops l D cy h9) wB_yX11_pops ml_X11_159 im_yX11_pops se_yX11_pops (ci := 10) rfl rfl rfl rfl rfl (Nat.le_of_ble_eq_true rfl) ⟨(Nat.le_of_ble_eq_true rfl), (Nat.le_of_ble_eq_true rfl)⟩ dX11_within_78 rfl rfl (fun v9 σ V hp => ?_)
      refine pv_isub C hp dX11_within_81 (fun v10 hp => ?_)
      refine pv_aload_n C 0 dX11_within_82 rfl ?_
      refine pv_iload_n C 1 dX11_within_83 rfl ?_
      refine pv_callV C (As := [.int x1]) (rest := [.int v10]) (b := 45) (kd1 := 1) hp (fun q1 h9 => c_X11_pushes l D cy h9) wB_yX11_pushes ml_X11_162 im_yX11_pushes se_yX11_pushes (ci := 10) rfl rfl rfl rfl rfl (Nat.le_of_ble_eq_true rfl) ⟨(Nat.le_of_ble_eq_true rfl), (Nat.le_of_ble_eq_true rfl)⟩ dX11_within_84 rfl rfl (fun v11 σ V hp => ?_)
      refine pv_iadd C hp dX11_within_87 (fun v12 hp => ?_)
      exact pv_iret C rfl hp hr dX11_within_88
    · refine pv_aload_n C 0 dX11_within_26 rfl ?_
      refine pv_aload_n C 0 dX11_within_27 rfl ?_
      refine pv_getR C (ci := 10) (k := 5) gwX11 rfl (Nat.le_of_ble_eq_true rfl) fl_X11_19 rfl rfl rfl (j := 49) rfl rfl dX11_within_28 ?_
      refine pv_iload_n C 1 dX11_within_31 rfl ?_
      refine pv_iald C hp rfl rfl rfl (fun _ => rfl) dX11_within_32 (fun v13 hp => ?_)
      refine pv_callV C (As := [.int v13]) (rest := []) (b := 45) (kd1 := 1) hp (fun q1 h9 => c_X11_holes l D cy h9) wB_yX11_holes ml_X11_149 im_yX11_holes se_yX11_holes (ci := 10) rfl rfl rfl rfl rfl (Nat.le_of_ble_eq_true rfl) ⟨(Nat.le_of_ble_eq_true rfl), (Nat.le_of_ble_eq_true rfl)⟩ dX11_within_33 rfl rfl (fun v14 σ V hp => ?_)
      refine pv_istore_n (loc' := [(3, .int v14), (0, .ref 45), (1, .int x1), (2, .int x2)]) C dX11_within_36 (by decide) rfl ?_
      refine pv_iload_n C 0 dX11_within_37 rfl ?_
      refine pv_if_ne (tgt := 47) C hp dX11_within_38 (by decide) (fun hp => ?_) (fun hp => ?_)
      · refine pv_iload_n C 3 dX11_within_47 rfl ?_
        refine pv_iload_n C 0 dX11_within_48 rfl ?_
        refine pv_isub C hp dX11_within_49 (fun v15 hp => ?_)
        refine pv_iconst C hp dX11_within_50 (by decide) (fun v16 hp => ?_)
        refine pv_iadd C hp dX11_within_51 (fun v17 hp => ?_)
        refine pv_sub [3, 0] rfl ?_
        exact w_X11_within_b52 C hr hp
      · refine pv_iload_n C 3 dX11_within_41 rfl ?_
        refine pv_iconst C hp dX11_within_42 (by decide) (fun v18 hp => ?_)
        refine pv_iadd C hp dX11_within_43 (fun v19 hp => ?_)
        refine pv_goto (tgt := 52) C dX11_within_44 (by decide) ?_
        refine pv_sub [3, 0] rfl ?_
        exact w_X11_within_b52 C hr hp
  · refine pv_iload_n C 2 dX11_within_11 rfl ?_
    refine pv_iconst C hp dX11_within_12 (by decide) (fun v20 hp => ?_)
    refine pv_iadd C hp dX11_within_13 (fun v21 hp => ?_)
    exact pv_iret C rfl hp hr dX11_within_14
def q_X11_lowerOne_b239 (N : Nat) (r26 : Int → Int → pvM → Option pvO) (x1 : Int) (x2 : Int) (V : pvM) : Option pvO :=
  lI (pv_w (x2 + (1))) fun v1 =>
  r26 x1 v1 V
set_option maxHeartbeats 4000000 in
set_option maxRecDepth 100000 in
theorem w_X11_lowerOne_b239 {p : Program} {l : Launch} {e : Env} {s : State} {m : MethodId} {args : Array Value} {below : List Frame} {meth : Method} {c : Code} {D : va_G} {cy : Nat → ClassId} {A : Nat → Prop} {n0 : Nat} {ad0 : Nat → Nat} {V0 : pvM} {q : pvO} (C : pz_C p s m args meth c cX11_lowerOne 7 yX11_lowerOne.cls D cy A) (hr : meth.sig.returnType = none) {N : Nat} {r26 : Int → Int → pvM → Option pvO} (H26 : ∀ (x1 : Int32) (x2 : Int32) (σ : pzS) (V : pvM), r26 x1.toInt x2.toInt V = some q → pv_W p l e 3 72 s m args below meth c 7 D cy A n0 ad0 (pv_Q below D cy n0 ad0 0 V0 q A args s) V0 σ V 26 [(0, .ref 45), (1, .int x1), (2, .int x2)] []) {x1 : Int32} {x2 : Int32} {σ : pzS} {V : pvM} (hp : q_X11_lowerOne_b239 N r26 x1.toInt x2.toInt V = some q) : pv_W p l e 3 72 s m args below meth c 7 D cy A n0 ad0 (pv_Q below D cy n0 ad0 0 V0 q A args s) V0 σ V 239 [(0, .ref 45), (1, .int x1), (2, .int x2)] [] := by
  unfold q_X11_lowerOne_b239 at hp
  refine pv_iinc (L := fun v1 => [(2, .int v1), (0, .ref 45), (1, .int x1)]) C 2 hp dX11_lowerOne_239 (by decide) rfl (by decide) (fun _ => rfl) (fun v1 hp => ?_)
  refine pv_goto (tgt := 26) C dX11_lowerOne_242 (by decide) ?_
  refine pv_sub [1, 2, 0] rfl ?_
  exact H26 _ _ _ _ hp
def q_X11_lowerOne_b235 (N : Nat) (r26 : Int → Int → pvM → Option pvO) (x1 : Int) (x2 : Int) (s0 : Int) (s1 : Int) (s2 : Int) (V : pvM) : Option pvO :=
  lI (0) fun v2 =>
  cL (q_X11_put N s2 s1 s0 v2 V) fun _ V =>
  q_X11_lowerOne_b239 N r26 x1 x2 V
set_option maxHeartbeats 4000000 in
set_option maxRecDepth 100000 in
theorem w_X11_lowerOne_b235 {p : Program} {l : Launch} {e : Env} {s : State} {m : MethodId} {args : Array Value} {below : List Frame} {meth : Method} {c : Code} {D : va_G} {cy : Nat → ClassId} {A : Nat → Prop} {n0 : Nat} {ad0 : Nat → Nat} {V0 : pvM} {q : pvO} (C : pz_C p s m args meth c cX11_lowerOne 7 yX11_lowerOne.cls D cy A) (hr : meth.sig.returnType = none) {N : Nat} {r26 : Int → Int → pvM → Option pvO} (H26 : ∀ (x1 : Int32) (x2 : Int32) (σ : pzS) (V : pvM), r26 x1.toInt x2.toInt V = some q → pv_W p l e 3 72 s m args below meth c 7 D cy A n0 ad0 (pv_Q below D cy n0 ad0 0 V0 q A args s) V0 σ V 26 [(0, .ref 45), (1, .int x1), (2, .int x2)] []) {x1 : Int32} {x2 : Int32} {s0 : Int32} {s1 : Int32} {s2 : Int32} {σ : pzS} {V : pvM} (hp : q_X11_lowerOne_b235 N r26 x1.toInt x2.toInt s0.toInt s1.toInt s2.toInt V = some q) : pv_W p l e 3 72 s m args below meth c 7 D cy A n0 ad0 (pv_Q below D cy n0 ad0 0 V0 q A args s) V0 σ V 235 [(0, .ref 45), (1, .int x1), (2, .int x2)] [.int s0, .int s1, .int s2, .ref 45] := by
  unfold q_X11_lowerOne_b235 at hp
  refine pv_iconst C hp dX11_lowerOne_235 (by decide) (fun v2 hp => ?_)
  refine pv_callV C (As := [.int s2, .int s1, .int s0, .int v2]) (rest := []) (b := 45) (kd1 := 0) hp (fun q1 h9 => c_X11_put l D cy h9) wB_yX11_put ml_X11_187 im_yX11_put se_yX11_put (ci := 10) rfl rfl rfl rfl rfl (Nat.le_of_ble_eq_true rfl) ⟨(Nat.le_of_ble_eq_true rfl), (Nat.le_of_ble_eq_true rfl)⟩ dX11_lowerOne_236 rfl rfl (fun _ σ V hp => ?_)
  exact w_X11_lowerOne_b239 C hr H26 hp
def q_X11_lowerOne_b214 (N : Nat) (r26 : Int → Int → pvM → Option pvO) (x1 : Int) (x2 : Int) (x3 : Int) (x5 : Int) (s0 : Int) (V : pvM) : Option pvO :=
  if s0 = 0 then
    lI (0) fun v3 =>
    q_X11_lowerOne_b235 N r26 x1 x2 v3 x5 x1 V
  else
  aR V 49 480 x3 fun v4 =>
  q_X11_lowerOne_b235 N r26 x1 x2 v4 x5 x1 V
set_option maxHeartbeats 4000000 in
set_option maxRecDepth 100000 in
theorem w_X11_lowerOne_b214 {p : Program} {l : Launch} {e : Env} {s : State} {m : MethodId} {args : Array Value} {below : List Frame} {meth : Method} {c : Code} {D : va_G} {cy : Nat → ClassId} {A : Nat → Prop} {n0 : Nat} {ad0 : Nat → Nat} {V0 : pvM} {q : pvO} (C : pz_C p s m args meth c cX11_lowerOne 7 yX11_lowerOne.cls D cy A) (hr : meth.sig.returnType = none) {N : Nat} {r26 : Int → Int → pvM → Option pvO} (H26 : ∀ (x1 : Int32) (x2 : Int32) (σ : pzS) (V : pvM), r26 x1.toInt x2.toInt V = some q → pv_W p l e 3 72 s m args below meth c 7 D cy A n0 ad0 (pv_Q below D cy n0 ad0 0 V0 q A args s) V0 σ V 26 [(0, .ref 45), (1, .int x1), (2, .int x2)] []) {x1 : Int32} {x2 : Int32} {x3 : Int32} {x5 : Int32} {s0 : Int32} {σ : pzS} {V : pvM} (hp : q_X11_lowerOne_b214 N r26 x1.toInt x2.toInt x3.toInt x5.toInt s0.toInt V = some q) : pv_W p l e 3 72 s m args below meth c 7 D cy A n0 ad0 (pv_Q below D cy n0 ad0 0 V0 q A args s) V0 σ V 214 [(0, .ref 45), (1, .int x1), (2, .int x2), (3, .int x3), (5, .int x5)] [.int s0] := by
  unfold q_X11_lowerOne_b214 at hp
  refine pv_istore (loc' := [(6, .int s0), (0, .ref 45), (1, .int x1), (2, .int x2), (3, .int x3), (5, .int x5)]) C dX11_lowerOne_214 (by decide) rfl ?_
  refine pv_aload_n C 1 dX11_lowerOne_216 rfl ?_
  refine pv_iload_n C 2 dX11_lowerOne_217 rfl ?_
  refine pv_iload C 5 dX11_lowerOne_218 rfl ?_
  refine pv_iload C 0 dX11_lowerOne_220 rfl ?_
  refine pv_if_eq (tgt := 234) C hp dX11_lowerOne_222 (by decide) (fun hp => ?_) (fun hp => ?_)
  · refine pv_iconst C hp dX11_lowerOne_234 (by decide) (fun v3 hp => ?_)
    refine pv_sub [1, 2, 3] rfl ?_
    exact w_X11_lowerOne_b235 C hr H26 hp
  · refine pv_aload_n C 1 dX11_lowerOne_225 rfl ?_
    refine pv_getR C (ci := 10) (k := 5) gwX11 rfl (Nat.le_of_ble_eq_true rfl) fl_X11_19 rfl rfl rfl (j := 49) rfl rfl dX11_lowerOne_226 ?_
    refine pv_iload_n C 4 dX11_lowerOne_229 rfl ?_
    refine pv_iald C hp rfl rfl rfl (fun _ => rfl) dX11_lowerOne_230 (fun v4 hp => ?_)
    refine pv_goto (tgt := 235) C dX11_lowerOne_231 (by decide) ?_
    refine pv_sub [1, 2, 3] rfl ?_
    exact w_X11_lowerOne_b235 C hr H26 hp
def q_X11_lowerOne_b108 (N : Nat) (r26 : Int → Int → pvM → Option pvO) (x1 : Int) (x2 : Int) (x3 : Int) (s0 : Int) (s1 : Int) (V : pvM) : Option pvO :=
  aW V 56 12 s1 s0 fun V =>
  aR V 48 480 x3 fun v5 =>
  lI (13) fun v6 =>
  if v5 ≠ v6 then
    lI (14) fun v7 =>
    if v5 ≠ v7 then
      lI (15) fun v8 =>
      if v5 ≠ v8 then
        lI (3) fun v9 =>
        if v5 < v9 then
          lI (1) fun v10 =>
          q_X11_lowerOne_b214 N r26 x1 x2 x3 v5 v10 V
        else
        lI (7) fun v11 =>
        if v5 ≤ v11 then
          lI (0) fun v12 =>
          q_X11_lowerOne_b214 N r26 x1 x2 x3 v5 v12 V
        else
        lI (11) fun v13 =>
        if v13 ≤ v5 then
          lI (0) fun v14 =>
          q_X11_lowerOne_b214 N r26 x1 x2 x3 v5 v14 V
        else
        lI (1) fun v15 =>
        q_X11_lowerOne_b214 N r26 x1 x2 x3 v5 v15 V
      else
      aR V 49 480 x3 fun v16 =>
      cL (q_X11_putJoin N x1 v16 V) fun _ V =>
      q_X11_lowerOne_b239 N r26 x1 x2 V
    else
    lI (22) fun v17 =>
    aR V 49 480 x3 fun v18 =>
    lI (0) fun v19 =>
    cL (q_X11_put N x1 v17 v18 v19 V) fun _ V =>
    q_X11_lowerOne_b239 N r26 x1 x2 V
  else
  aR V 49 480 x3 fun v20 =>
  aR V 50 480 x3 fun v21 =>
  cL (q_X11_putFunction N x1 v20 v21 V) fun _ V =>
  q_X11_lowerOne_b239 N r26 x1 x2 V
set_option maxHeartbeats 4000000 in
set_option maxRecDepth 100000 in
theorem w_X11_lowerOne_b108 {p : Program} {l : Launch} {e : Env} {s : State} {m : MethodId} {args : Array Value} {below : List Frame} {meth : Method} {c : Code} {D : va_G} {cy : Nat → ClassId} {A : Nat → Prop} {n0 : Nat} {ad0 : Nat → Nat} {V0 : pvM} {q : pvO} (C : pz_C p s m args meth c cX11_lowerOne 7 yX11_lowerOne.cls D cy A) (hr : meth.sig.returnType = none) {N : Nat} {r26 : Int → Int → pvM → Option pvO} (H26 : ∀ (x1 : Int32) (x2 : Int32) (σ : pzS) (V : pvM), r26 x1.toInt x2.toInt V = some q → pv_W p l e 3 72 s m args below meth c 7 D cy A n0 ad0 (pv_Q below D cy n0 ad0 0 V0 q A args s) V0 σ V 26 [(0, .ref 45), (1, .int x1), (2, .int x2)] []) {x1 : Int32} {x2 : Int32} {x3 : Int32} {s0 : Int32} {s1 : Int32} {σ : pzS} {V : pvM} (hp : q_X11_lowerOne_b108 N r26 x1.toInt x2.toInt x3.toInt s0.toInt s1.toInt V = some q) : pv_W p l e 3 72 s m args below meth c 7 D cy A n0 ad0 (pv_Q below D cy n0 ad0 0 V0 q A args s) V0 σ V 108 [(0, .ref 45), (1, .int x1), (2, .int x2), (3, .int x3)] [.int s0, .int s1, .ref 56] := by
  unfold q_X11_lowerOne_b108 at hp
  refine pv_iast C hp rfl rfl rfl (fun _ => rfl) dX11_lowerOne_108 (fun V hp => ?_)
  refine pv_aload_n C 0 dX11_lowerOne_109 rfl ?_
  refine pv_getR C (ci := 10) (k := 4) gwX11 rfl (Nat.le_of_ble_eq_true rfl) fl_X11_16 rfl rfl rfl (j := 48) rfl rfl dX11_lowerOne_110 ?_
  refine pv_iload_n C 3 dX11_lowerOne_113 rfl ?_
  refine pv_iald C hp rfl rfl rfl (fun _ => rfl) dX11_lowerOne_114 (fun v5 hp => ?_)
  refine pv_istore (loc' := [(5, .int v5), (0, .ref 45), (1, .int x1), (2, .int x2), (3, .int x3)]) C dX11_lowerOne_115 (by decide) rfl ?_
  refine pv_iload C 0 dX11_lowerOne_117 rfl ?_
  refine pv_bipush C hp dX11_lowerOne_119 (by decide) (fun v6 hp => ?_)
  refine pv_icmp_ne (tgt := 144) C hp dX11_lowerOne_121 (by decide) (fun hp => ?_) (fun hp => ?_)
  · refine pv_iload C 0 dX11_lowerOne_144 rfl ?_
    refine pv_bipush C hp dX11_lowerOne_146 (by decide) (fun v7 hp => ?_)
    refine pv_icmp_ne (tgt := 168) C hp dX11_lowerOne_148 (by decide) (fun hp => ?_) (fun hp => ?_)
    · refine pv_iload C 0 dX11_lowerOne_168 rfl ?_
      refine pv_bipush C hp dX11_lowerOne_170 (by decide) (fun v8 hp => ?_)
      refine pv_icmp_ne (tgt := 189) C hp dX11_lowerOne_172 (by decide) (fun hp => ?_) (fun hp => ?_)
      · refine pv_iload C 0 dX11_lowerOne_189 rfl ?_
        refine pv_iconst C hp dX11_lowerOne_191 (by decide) (fun v9 hp => ?_)
        refine pv_icmp_lt (tgt := 209) C hp dX11_lowerOne_192 (by decide) (fun hp => ?_) (fun hp => ?_)
        · refine pv_iconst C hp dX11_lowerOne_209 (by decide) (fun v10 hp => ?_)
          refine pv_goto (tgt := 214) C dX11_lowerOne_210 (by decide) ?_
          refine pv_sub [1, 2, 3, 4, 0] rfl ?_
          exact w_X11_lowerOne_b214 C hr H26 hp
        · refine pv_iload C 0 dX11_lowerOne_195 rfl ?_
          refine pv_bipush C hp dX11_lowerOne_197 (by decide) (fun v11 hp => ?_)
          refine pv_icmp_le (tgt := 213) C hp dX11_lowerOne_199 (by decide) (fun hp => ?_) (fun hp => ?_)
          · refine pv_iconst C hp dX11_lowerOne_213 (by decide) (fun v12 hp => ?_)
            refine pv_sub [1, 2, 3, 4, 0] rfl ?_
            exact w_X11_lowerOne_b214 C hr H26 hp
          · refine pv_iload C 0 dX11_lowerOne_202 rfl ?_
            refine pv_bipush C hp dX11_lowerOne_204 (by decide) (fun v13 hp => ?_)
            refine pv_icmp_ge (tgt := 213) C hp dX11_lowerOne_206 (by decide) (fun hp => ?_) (fun hp => ?_)
            · refine pv_iconst C hp dX11_lowerOne_213 (by decide) (fun v14 hp => ?_)
              refine pv_sub [1, 2, 3, 4, 0] rfl ?_
              exact w_X11_lowerOne_b214 C hr H26 hp
            · refine pv_iconst C hp dX11_lowerOne_209 (by decide) (fun v15 hp => ?_)
              refine pv_goto (tgt := 214) C dX11_lowerOne_210 (by decide) ?_
              refine pv_sub [1, 2, 3, 4, 0] rfl ?_
              exact w_X11_lowerOne_b214 C hr H26 hp
      · refine pv_aload_n C 1 dX11_lowerOne_175 rfl ?_
        refine pv_iload_n C 2 dX11_lowerOne_176 rfl ?_
        refine pv_aload_n C 1 dX11_lowerOne_177 rfl ?_
        refine pv_getR C (ci := 10) (k := 5) gwX11 rfl (Nat.le_of_ble_eq_true rfl) fl_X11_19 rfl rfl rfl (j := 49) rfl rfl dX11_lowerOne_178 ?_
        refine pv_iload_n C 4 dX11_lowerOne_181 rfl ?_
        refine pv_iald C hp rfl rfl rfl (fun _ => rfl) dX11_lowerOne_182 (fun v16 hp => ?_)
        refine pv_callV C (As := [.int x1, .int v16]) (rest := []) (b := 45) (kd1 := 0) hp (fun q1 h9 => c_X11_putJoin l D cy h9) wB_yX11_putJoin ml_X11_198 im_yX11_putJoin se_yX11_putJoin (ci := 10) rfl rfl rfl rfl rfl (Nat.le_of_ble_eq_true rfl) ⟨(Nat.le_of_ble_eq_true rfl), (Nat.le_of_ble_eq_true rfl)⟩ dX11_lowerOne_183 rfl rfl (fun _ σ V hp => ?_)
        refine pv_goto (tgt := 239) C dX11_lowerOne_186 (by decide) ?_
        refine pv_sub [1, 2, 3] rfl ?_
        exact w_X11_lowerOne_b239 C hr H26 hp
    · refine pv_aload_n C 1 dX11_lowerOne_151 rfl ?_
      refine pv_iload_n C 2 dX11_lowerOne_152 rfl ?_
      refine pv_bipush C hp dX11_lowerOne_153 (by decide) (fun v17 hp => ?_)
      refine pv_aload_n C 1 dX11_lowerOne_155 rfl ?_
      refine pv_getR C (ci := 10) (k := 5) gwX11 rfl (Nat.le_of_ble_eq_true rfl) fl_X11_19 rfl rfl rfl (j := 49) rfl rfl dX11_lowerOne_156 ?_
      refine pv_iload_n C 4 dX11_lowerOne_159 rfl ?_
      refine pv_iald C hp rfl rfl rfl (fun _ => rfl) dX11_lowerOne_160 (fun v18 hp => ?_)
      refine pv_iconst C hp dX11_lowerOne_161 (by decide) (fun v19 hp => ?_)
      refine pv_callV C (As := [.int x1, .int v17, .int v18, .int v19]) (rest := []) (b := 45) (kd1 := 0) hp (fun q1 h9 => c_X11_put l D cy h9) wB_yX11_put ml_X11_187 im_yX11_put se_yX11_put (ci := 10) rfl rfl rfl rfl rfl (Nat.le_of_ble_eq_true rfl) ⟨(Nat.le_of_ble_eq_true rfl), (Nat.le_of_ble_eq_true rfl)⟩ dX11_lowerOne_162 rfl rfl (fun _ σ V hp => ?_)
      refine pv_goto (tgt := 239) C dX11_lowerOne_165 (by decide) ?_
      refine pv_sub [1, 2, 3] rfl ?_
      exact w_X11_lowerOne_b239 C hr H26 hp
  · refine pv_aload_n C 1 dX11_lowerOne_124 rfl ?_
    refine pv_iload_n C 2 dX11_lowerOne_125 rfl ?_
    refine pv_aload_n C 1 dX11_lowerOne_126 rfl ?_
    refine pv_getR C (ci := 10) (k := 5) gwX11 rfl (Nat.le_of_ble_eq_true rfl) fl_X11_19 rfl rfl rfl (j := 49) rfl rfl dX11_lowerOne_127 ?_
    refine pv_iload_n C 4 dX11_lowerOne_130 rfl ?_
    refine pv_iald C hp rfl rfl rfl (fun _ => rfl) dX11_lowerOne_131 (fun v20 hp => ?_)
    refine pv_aload_n C 1 dX11_lowerOne_132 rfl ?_
    refine pv_getR C (ci := 10) (k := 6) gwX11 rfl (Nat.le_of_ble_eq_true rfl) fl_X11_22 rfl rfl rfl (j := 50) rfl rfl dX11_lowerOne_133 ?_
    refine pv_iload_n C 4 dX11_lowerOne_136 rfl ?_
    refine pv_iald C hp rfl rfl rfl (fun _ => rfl) dX11_lowerOne_137 (fun v21 hp => ?_)
    refine pv_callV C (As := [.int x1, .int v20, .int v21]) (rest := []) (b := 45) (kd1 := 0) hp (fun q1 h9 => c_X11_putFunction l D cy h9) wB_yX11_putFunction ml_X11_195 im_yX11_putFunction se_yX11_putFunction (ci := 10) rfl rfl rfl rfl rfl (Nat.le_of_ble_eq_true rfl) ⟨(Nat.le_of_ble_eq_true rfl), (Nat.le_of_ble_eq_true rfl)⟩ dX11_lowerOne_138 rfl rfl (fun _ σ V hp => ?_)
    refine pv_goto (tgt := 239) C dX11_lowerOne_141 (by decide) ?_
    refine pv_sub [1, 2, 3] rfl ?_
    exact w_X11_lowerOne_b239 C hr H26 hp
def q_X11_lowerOne_b79 (N : Nat) (r26 : Int → Int → pvM → Option pvO) (x1 : Int) (x2 : Int) (x3 : Int) (s0 : Int) (V : pvM) : Option pvO :=
  aR V 56 12 x1 fun v22 =>
  if s0 ≤ v22 then
    aR V 56 12 x1 fun v23 =>
    q_X11_lowerOne_b108 N r26 x1 x2 x3 v23 x1 V
  else
  q_X11_lowerOne_b108 N r26 x1 x2 x3 s0 x1 V
set_option maxHeartbeats 4000000 in
set_option maxRecDepth 100000 in
theorem w_X11_lowerOne_b79 {p : Program} {l : Launch} {e : Env} {s : State} {m : MethodId} {args : Array Value} {below : List Frame} {meth : Method} {c : Code} {D : va_G} {cy : Nat → ClassId} {A : Nat → Prop} {n0 : Nat} {ad0 : Nat → Nat} {V0 : pvM} {q : pvO} (C : pz_C p s m args meth c cX11_lowerOne 7 yX11_lowerOne.cls D cy A) (hr : meth.sig.returnType = none) {N : Nat} {r26 : Int → Int → pvM → Option pvO} (H26 : ∀ (x1 : Int32) (x2 : Int32) (σ : pzS) (V : pvM), r26 x1.toInt x2.toInt V = some q → pv_W p l e 3 72 s m args below meth c 7 D cy A n0 ad0 (pv_Q below D cy n0 ad0 0 V0 q A args s) V0 σ V 26 [(0, .ref 45), (1, .int x1), (2, .int x2)] []) {x1 : Int32} {x2 : Int32} {x3 : Int32} {s0 : Int32} {σ : pzS} {V : pvM} (hp : q_X11_lowerOne_b79 N r26 x1.toInt x2.toInt x3.toInt s0.toInt V = some q) : pv_W p l e 3 72 s m args below meth c 7 D cy A n0 ad0 (pv_Q below D cy n0 ad0 0 V0 q A args s) V0 σ V 79 [(0, .ref 45), (1, .int x1), (2, .int x2), (3, .int x3)] [.int s0] := by
  unfold q_X11_lowerOne_b79 at hp
  refine pv_istore (loc' := [(4, .int s0), (0, .ref 45), (1, .int x1), (2, .int x2), (3, .int x3)]) C dX11_lowerOne_79 (by decide) rfl ?_
  refine pv_aload_n C 1 dX11_lowerOne_81 rfl ?_
  refine pv_getR C (ci := 10) (k := 15) gwX11 rfl (Nat.le_of_ble_eq_true rfl) fl_X11_41 rfl rfl rfl (j := 56) rfl rfl dX11_lowerOne_82 ?_
  refine pv_iload_n C 2 dX11_lowerOne_85 rfl ?_
  refine pv_iload C 0 dX11_lowerOne_86 rfl ?_
  refine pv_aload_n C 1 dX11_lowerOne_88 rfl ?_
  refine pv_getR C (ci := 10) (k := 15) gwX11 rfl (Nat.le_of_ble_eq_true rfl) fl_X11_41 rfl rfl rfl (j := 56) rfl rfl dX11_lowerOne_89 ?_
  refine pv_iload_n C 2 dX11_lowerOne_92 rfl ?_
  refine pv_iald C hp rfl rfl rfl (fun _ => rfl) dX11_lowerOne_93 (fun v22 hp => ?_)
  refine pv_icmp_le (tgt := 102) C hp dX11_lowerOne_94 (by decide) (fun hp => ?_) (fun hp => ?_)
  · refine pv_aload_n C 1 dX11_lowerOne_102 rfl ?_
    refine pv_getR C (ci := 10) (k := 15) gwX11 rfl (Nat.le_of_ble_eq_true rfl) fl_X11_41 rfl rfl rfl (j := 56) rfl rfl dX11_lowerOne_103 ?_
    refine pv_iload_n C 2 dX11_lowerOne_106 rfl ?_
    refine pv_iald C hp rfl rfl rfl (fun _ => rfl) dX11_lowerOne_107 (fun v23 hp => ?_)
    refine pv_sub [1, 2, 3, 4] rfl ?_
    exact w_X11_lowerOne_b108 C hr H26 hp
  · refine pv_iload C 0 dX11_lowerOne_97 rfl ?_
    refine pv_goto (tgt := 108) C dX11_lowerOne_99 (by decide) ?_
    refine pv_sub [1, 2, 3, 4] rfl ?_
    exact w_X11_lowerOne_b108 C hr H26 hp
def q_X11_lowerOne_b312 (N : Nat) (r247 : Int → Int → pvM → Option pvO) (x1 : Int) (x2 : Int) (s0 : Int) (s1 : Int) (V : pvM) : Option pvO :=
  aW V 59 18000 s1 s0 fun V =>
  lI (pv_w (x2 + (1))) fun v24 =>
  r247 x1 v24 V
set_option maxHeartbeats 4000000 in
set_option maxRecDepth 100000 in
theorem w_X11_lowerOne_b312 {p : Program} {l : Launch} {e : Env} {s : State} {m : MethodId} {args : Array Value} {below : List Frame} {meth : Method} {c : Code} {D : va_G} {cy : Nat → ClassId} {A : Nat → Prop} {n0 : Nat} {ad0 : Nat → Nat} {V0 : pvM} {q : pvO} (C : pz_C p s m args meth c cX11_lowerOne 7 yX11_lowerOne.cls D cy A) (hr : meth.sig.returnType = none) {N : Nat} {r247 : Int → Int → pvM → Option pvO} (H247 : ∀ (x1 : Int32) (x2 : Int32) (σ : pzS) (V : pvM), r247 x1.toInt x2.toInt V = some q → pv_W p l e 3 72 s m args below meth c 7 D cy A n0 ad0 (pv_Q below D cy n0 ad0 0 V0 q A args s) V0 σ V 247 [(0, .ref 45), (1, .int x1), (2, .int x2)] []) {x1 : Int32} {x2 : Int32} {s0 : Int32} {s1 : Int32} {σ : pzS} {V : pvM} (hp : q_X11_lowerOne_b312 N r247 x1.toInt x2.toInt s0.toInt s1.toInt V = some q) : pv_W p l e 3 72 s m args below meth c 7 D cy A n0 ad0 (pv_Q below D cy n0 ad0 0 V0 q A args s) V0 σ V 312 [(0, .ref 45), (1, .int x1), (2, .int x2)] [.int s0, .int s1, .ref 59] := by
  unfold q_X11_lowerOne_b312 at hp
  refine pv_iast C hp rfl rfl rfl (fun _ => rfl) dX11_lowerOne_312 (fun V hp => ?_)
  refine pv_iinc (L := fun v24 => [(2, .int v24), (0, .ref 45), (1, .int x1)]) C 2 hp dX11_lowerOne_313 (by decide) rfl (by decide) (fun _ => rfl) (fun v24 hp => ?_)
  refine pv_goto (tgt := 247) C dX11_lowerOne_316 (by decide) ?_
  refine pv_sub [1, 2, 0] rfl ?_
  exact H247 _ _ _ _ hp
def q_X11_lowerOne_b292 (N : Nat) (r247 : Int → Int → pvM → Option pvO) (x1 : Int) (x2 : Int) (x3 : Int) (s0 : Int) (V : pvM) : Option pvO :=
  aR V 59 18000 x3 fun v25 =>
  aR V 61 40 v25 fun v26 =>
  q_X11_lowerOne_b312 N r247 x1 x2 v26 s0 V
set_option maxHeartbeats 4000000 in
set_option maxRecDepth 100000 in
theorem w_X11_lowerOne_b292 {p : Program} {l : Launch} {e : Env} {s : State} {m : MethodId} {args : Array Value} {below : List Frame} {meth : Method} {c : Code} {D : va_G} {cy : Nat → ClassId} {A : Nat → Prop} {n0 : Nat} {ad0 : Nat → Nat} {V0 : pvM} {q : pvO} (C : pz_C p s m args meth c cX11_lowerOne 7 yX11_lowerOne.cls D cy A) (hr : meth.sig.returnType = none) {N : Nat} {r247 : Int → Int → pvM → Option pvO} (H247 : ∀ (x1 : Int32) (x2 : Int32) (σ : pzS) (V : pvM), r247 x1.toInt x2.toInt V = some q → pv_W p l e 3 72 s m args below meth c 7 D cy A n0 ad0 (pv_Q below D cy n0 ad0 0 V0 q A args s) V0 σ V 247 [(0, .ref 45), (1, .int x1), (2, .int x2)] []) {x1 : Int32} {x2 : Int32} {x3 : Int32} {s0 : Int32} {σ : pzS} {V : pvM} (hp : q_X11_lowerOne_b292 N r247 x1.toInt x2.toInt x3.toInt s0.toInt V = some q) : pv_W p l e 3 72 s m args below meth c 7 D cy A n0 ad0 (pv_Q below D cy n0 ad0 0 V0 q A args s) V0 σ V 292 [(0, .ref 45), (1, .int x1), (2, .int x2), (3, .int x3)] [.int s0, .ref 59] := by
  unfold q_X11_lowerOne_b292 at hp
  refine pv_aload_n C 0 dX11_lowerOne_292 rfl ?_
  refine pv_getR C (ci := 10) (k := 20) gwX11 rfl (Nat.le_of_ble_eq_true rfl) fl_X11_56 rfl rfl rfl (j := 61) rfl rfl dX11_lowerOne_293 ?_
  refine pv_aload_n C 0 dX11_lowerOne_296 rfl ?_
  refine pv_getR C (ci := 10) (k := 18) gwX11 rfl (Nat.le_of_ble_eq_true rfl) fl_X11_50 rfl rfl rfl (j := 59) rfl rfl dX11_lowerOne_297 ?_
  refine pv_iload_n C 3 dX11_lowerOne_300 rfl ?_
  refine pv_iald C hp rfl rfl rfl (fun _ => rfl) dX11_lowerOne_301 (fun v25 hp => ?_)
  refine pv_iald C hp rfl rfl rfl (fun _ => rfl) dX11_lowerOne_302 (fun v26 hp => ?_)
  refine pv_goto (tgt := 312) C dX11_lowerOne_303 (by decide) ?_
  refine pv_sub [0, 1, 2] rfl ?_
  exact w_X11_lowerOne_b312 C hr H247 hp
def q_X11_lowerOne_b247 (N : Nat) : Nat → Int → Int → pvM → Option pvO
  | 0 => fun _ _ _ => none
  | n + 1 => fun x1 x2 V =>
    aR V 57 12 x1 fun v27 =>
    if v27 ≤ x2 then
      rT V 0
    else
    lI (1500) fun v28 =>
    lI (pv_w (v28 * x1)) fun v29 =>
    lI (pv_w (v29 + x2)) fun v30 =>
    aR V 58 18000 v30 fun v31 =>
    lI (8) fun v32 =>
    if v31 = v32 then
      q_X11_lowerOne_b292 N (q_X11_lowerOne_b247 N n) x1 x2 v30 v30 V
    else
    aR V 58 18000 v30 fun v33 =>
    lI (9) fun v34 =>
    if v33 ≠ v34 then
      aR V 59 18000 v30 fun v35 =>
      q_X11_lowerOne_b312 N (q_X11_lowerOne_b247 N n) x1 x2 v35 v30 V
    else
    q_X11_lowerOne_b292 N (q_X11_lowerOne_b247 N n) x1 x2 v30 v30 V
set_option maxHeartbeats 4000000 in
set_option maxRecDepth 100000 in
theorem w_X11_lowerOne_b247 {p : Program} {l : Launch} {e : Env} {s : State} {m : MethodId} {args : Array Value} {below : List Frame} {meth : Method} {c : Code} {D : va_G} {cy : Nat → ClassId} {A : Nat → Prop} {n0 : Nat} {ad0 : Nat → Nat} {V0 : pvM} {q : pvO} (C : pz_C p s m args meth c cX11_lowerOne 7 yX11_lowerOne.cls D cy A) (hr : meth.sig.returnType = none) {N : Nat} : ∀ (n : Nat) (x1 : Int32) (x2 : Int32) (σ : pzS) (V : pvM), q_X11_lowerOne_b247 N n x1.toInt x2.toInt V = some q → pv_W p l e 3 72 s m args below meth c 7 D cy A n0 ad0 (pv_Q below D cy n0 ad0 0 V0 q A args s) V0 σ V 247 [(0, .ref 45), (1, .int x1), (2, .int x2)] [] := by
  intro n
  induction n with
  | zero =>
    intro x1 x2 σ V hp
    simp only [q_X11_lowerOne_b247] at hp
    cases hp
  | succ n ih =>
    intro x1 x2 σ V hp
    simp only [q_X11_lowerOne_b247] at hp
    refine pv_iload_n C 2 dX11_lowerOne_247 rfl ?_
    refine pv_aload_n C 0 dX11_lowerOne_248 rfl ?_
    refine pv_getR C (ci := 10) (k := 16) gwX11 rfl (Nat.le_of_ble_eq_true rfl) fl_X11_44 rfl rfl rfl (j := 57) rfl rfl dX11_lowerOne_249 ?_
    refine pv_iload_n C 1 dX11_lowerOne_252 rfl ?_
    refine pv_iald C hp rfl rfl rfl (fun _ => rfl) dX11_lowerOne_253 (fun v27 hp => ?_)
    refine pv_icmp_ge (tgt := 319) C hp dX11_lowerOne_254 (by decide) (fun hp => ?_) (fun hp => ?_)
    · exact pv_vret C rfl hp hr dX11_lowerOne_319
    · refine pv_sipush C hp dX11_lowerOne_257 (by decide) (fun v28 hp => ?_)
      refine pv_iload_n C 1 dX11_lowerOne_260 rfl ?_
      refine pv_imul C hp dX11_lowerOne_261 (fun v29 hp => ?_)
      refine pv_iload_n C 2 dX11_lowerOne_262 rfl ?_
      refine pv_iadd C hp dX11_lowerOne_263 (fun v30 hp => ?_)
      refine pv_istore_n (loc' := [(3, .int v30), (0, .ref 45), (1, .int x1), (2, .int x2)]) C dX11_lowerOne_264 (by decide) rfl ?_
      refine pv_aload_n C 1 dX11_lowerOne_265 rfl ?_
      refine pv_getR C (ci := 10) (k := 18) gwX11 rfl (Nat.le_of_ble_eq_true rfl) fl_X11_50 rfl rfl rfl (j := 59) rfl rfl dX11_lowerOne_266 ?_
      refine pv_iload_n C 0 dX11_lowerOne_269 rfl ?_
      refine pv_aload_n C 1 dX11_lowerOne_270 rfl ?_
      refine pv_getR C (ci := 10) (k := 17) gwX11 rfl (Nat.le_of_ble_eq_true rfl) fl_X11_47 rfl rfl rfl (j := 58) rfl rfl dX11_lowerOne_271 ?_
      refine pv_iload_n C 0 dX11_lowerOne_274 rfl ?_
      refine pv_iald C hp rfl rfl rfl (fun _ => rfl) dX11_lowerOne_275 (fun v31 hp => ?_)
      refine pv_bipush C hp dX11_lowerOne_276 (by decide) (fun v32 hp => ?_)
      refine pv_icmp_eq (tgt := 292) C hp dX11_lowerOne_278 (by decide) (fun hp => ?_) (fun hp => ?_)
      · refine pv_sub [1, 2, 3, 0] rfl ?_
        exact w_X11_lowerOne_b292 C hr ih hp
      · refine pv_aload_n C 1 dX11_lowerOne_281 rfl ?_
        refine pv_getR C (ci := 10) (k := 17) gwX11 rfl (Nat.le_of_ble_eq_true rfl) fl_X11_47 rfl rfl rfl (j := 58) rfl rfl dX11_lowerOne_282 ?_
        refine pv_iload_n C 0 dX11_lowerOne_285 rfl ?_
        refine pv_iald C hp rfl rfl rfl (fun _ => rfl) dX11_lowerOne_286 (fun v33 hp => ?_)
        refine pv_bipush C hp dX11_lowerOne_287 (by decide) (fun v34 hp => ?_)
        refine pv_icmp_ne (tgt := 306) C hp dX11_lowerOne_289 (by decide) (fun hp => ?_) (fun hp => ?_)
        · refine pv_aload_n C 1 dX11_lowerOne_306 rfl ?_
          refine pv_getR C (ci := 10) (k := 18) gwX11 rfl (Nat.le_of_ble_eq_true rfl) fl_X11_50 rfl rfl rfl (j := 59) rfl rfl dX11_lowerOne_307 ?_
          refine pv_iload_n C 0 dX11_lowerOne_310 rfl ?_
          refine pv_iald C hp rfl rfl rfl (fun _ => rfl) dX11_lowerOne_311 (fun v35 hp => ?_)
          refine pv_sub [1, 2, 3] rfl ?_
          exact w_X11_lowerOne_b312 C hr ih hp
        · refine pv_sub [1, 2, 3, 0] rfl ?_
          exact w_X11_lowerOne_b292 C hr ih hp
def q_X11_lowerOne_b26 (N : Nat) : Nat → Int → Int → pvM → Option pvO
  | 0 => fun _ _ _ => none
  | n + 1 => fun x1 x2 V =>
    aR V 47 12 x1 fun v36 =>
    if v36 ≤ x2 then
      lI (0) fun v37 =>
      q_X11_lowerOne_b247 N N x1 v37 V
    else
    lI (40) fun v38 =>
    lI (pv_w (v38 * x1)) fun v39 =>
    lI (pv_w (v39 + x2)) fun v40 =>
    aR V 57 12 x1 fun v41 =>
    aW V 61 40 x2 v41 fun V =>
    aR V 53 40 x2 fun v42 =>
    if 0 ≤ v42 then
      aR V 53 40 x2 fun v43 =>
      cL (q_X11_within N v40 v43 V) fun v44 V =>
      q_X11_lowerOne_b79 N (q_X11_lowerOne_b26 N n) x1 x2 v40 v44 V
    else
    lI (0) fun v45 =>
    q_X11_lowerOne_b79 N (q_X11_lowerOne_b26 N n) x1 x2 v40 v45 V
set_option maxHeartbeats 4000000 in
set_option maxRecDepth 100000 in
theorem w_X11_lowerOne_b26 {p : Program} {l : Launch} {e : Env} {s : State} {m : MethodId} {args : Array Value} {below : List Frame} {meth : Method} {c : Code} {D : va_G} {cy : Nat → ClassId} {A : Nat → Prop} {n0 : Nat} {ad0 : Nat → Nat} {V0 : pvM} {q : pvO} (C : pz_C p s m args meth c cX11_lowerOne 7 yX11_lowerOne.cls D cy A) (hr : meth.sig.returnType = none) {N : Nat} : ∀ (n : Nat) (x1 : Int32) (x2 : Int32) (σ : pzS) (V : pvM), q_X11_lowerOne_b26 N n x1.toInt x2.toInt V = some q → pv_W p l e 3 72 s m args below meth c 7 D cy A n0 ad0 (pv_Q below D cy n0 ad0 0 V0 q A args s) V0 σ V 26 [(0, .ref 45), (1, .int x1), (2, .int x2)] [] := by
  intro n
  induction n with
  | zero =>
    intro x1 x2 σ V hp
    simp only [q_X11_lowerOne_b26] at hp
    cases hp
  | succ n ih =>
    intro x1 x2 σ V hp
    simp only [q_X11_lowerOne_b26] at hp
    refine pv_iload_n C 2 dX11_lowerOne_26 rfl ?_
    refine pv_aload_n C 0 dX11_lowerOne_27 rfl ?_
    refine pv_getR C (ci := 10) (k := 3) gwX11 rfl (Nat.le_of_ble_eq_true rfl) fl_X11_13 rfl rfl rfl (j := 47) rfl rfl dX11_lowerOne_28 ?_
    refine pv_iload_n C 1 dX11_lowerOne_31 rfl ?_
    refine pv_iald C hp rfl rfl rfl (fun _ => rfl) dX11_lowerOne_32 (fun v36 hp => ?_)
    refine pv_icmp_ge (tgt := 245) C hp dX11_lowerOne_33 (by decide) (fun hp => ?_) (fun hp => ?_)
    · refine pv_iconst C hp dX11_lowerOne_245 (by decide) (fun v37 hp => ?_)
      refine pv_istore_n (loc' := [(2, .int v37), (0, .ref 45), (1, .int x1)]) C dX11_lowerOne_246 (by decide) rfl ?_
      refine pv_sub [1, 2, 0] rfl ?_
      exact w_X11_lowerOne_b247 C hr N _ _ _ _ hp
    · refine pv_bipush C hp dX11_lowerOne_36 (by decide) (fun v38 hp => ?_)
      refine pv_iload_n C 1 dX11_lowerOne_38 rfl ?_
      refine pv_imul C hp dX11_lowerOne_39 (fun v39 hp => ?_)
      refine pv_iload_n C 2 dX11_lowerOne_40 rfl ?_
      refine pv_iadd C hp dX11_lowerOne_41 (fun v40 hp => ?_)
      refine pv_istore_n (loc' := [(3, .int v40), (0, .ref 45), (1, .int x1), (2, .int x2)]) C dX11_lowerOne_42 (by decide) rfl ?_
      refine pv_aload_n C 1 dX11_lowerOne_43 rfl ?_
      refine pv_getR C (ci := 10) (k := 20) gwX11 rfl (Nat.le_of_ble_eq_true rfl) fl_X11_56 rfl rfl rfl (j := 61) rfl rfl dX11_lowerOne_44 ?_
      refine pv_iload_n C 3 dX11_lowerOne_47 rfl ?_
      refine pv_aload_n C 1 dX11_lowerOne_48 rfl ?_
      refine pv_getR C (ci := 10) (k := 16) gwX11 rfl (Nat.le_of_ble_eq_true rfl) fl_X11_44 rfl rfl rfl (j := 57) rfl rfl dX11_lowerOne_49 ?_
      refine pv_iload_n C 2 dX11_lowerOne_52 rfl ?_
      refine pv_iald C hp rfl rfl rfl (fun _ => rfl) dX11_lowerOne_53 (fun v41 hp => ?_)
      refine pv_iast C hp rfl rfl rfl (fun _ => rfl) dX11_lowerOne_54 (fun V hp => ?_)
      refine pv_aload_n C 1 dX11_lowerOne_55 rfl ?_
      refine pv_getR C (ci := 10) (k := 11) gwX11 rfl (Nat.le_of_ble_eq_true rfl) fl_X11_31 rfl rfl rfl (j := 53) rfl rfl dX11_lowerOne_56 ?_
      refine pv_iload_n C 3 dX11_lowerOne_59 rfl ?_
      refine pv_iald C hp rfl rfl rfl (fun _ => rfl) dX11_lowerOne_60 (fun v42 hp => ?_)
      refine pv_if_ge (tgt := 68) C hp dX11_lowerOne_61 (by decide) (fun hp => ?_) (fun hp => ?_)
      · refine pv_aload_n C 1 dX11_lowerOne_68 rfl ?_
        refine pv_iload_n C 0 dX11_lowerOne_69 rfl ?_
        refine pv_aload_n C 1 dX11_lowerOne_70 rfl ?_
        refine pv_getR C (ci := 10) (k := 11) gwX11 rfl (Nat.le_of_ble_eq_true rfl) fl_X11_31 rfl rfl rfl (j := 53) rfl rfl dX11_lowerOne_71 ?_
        refine pv_iload_n C 3 dX11_lowerOne_74 rfl ?_
        refine pv_iald C hp rfl rfl rfl (fun _ => rfl) dX11_lowerOne_75 (fun v43 hp => ?_)
        refine pv_callV C (As := [.int v40, .int v43]) (rest := []) (b := 45) (kd1 := 1) hp (fun q1 h9 => c_X11_within l D cy h9) wB_yX11_within ml_X11_191 im_yX11_within se_yX11_within (ci := 10) rfl rfl rfl rfl rfl (Nat.le_of_ble_eq_true rfl) ⟨(Nat.le_of_ble_eq_true rfl), (Nat.le_of_ble_eq_true rfl)⟩ dX11_lowerOne_76 rfl rfl (fun v44 σ V hp => ?_)
        refine pv_sub [1, 2, 3, 0] rfl ?_
        exact w_X11_lowerOne_b79 C hr ih hp
      · refine pv_iconst C hp dX11_lowerOne_64 (by decide) (fun v45 hp => ?_)
        refine pv_goto (tgt := 79) C dX11_lowerOne_65 (by decide) ?_
        refine pv_sub [1, 2, 3, 0] rfl ?_
        exact w_X11_lowerOne_b79 C hr ih hp
def q_X11_lowerOne (N : Nat) (x1 : Int) (V : pvM) : Option pvO :=
  lI (0) fun v46 =>
  aW V 57 12 x1 v46 fun V =>
  lI (0) fun v47 =>
  aW V 56 12 x1 v47 fun V =>
  lI (-1) fun v48 =>
  gW V 45 13 v48 fun V =>
  cL (q_X11_walk N x1 V) fun _ V =>
  lI (0) fun v49 =>
  q_X11_lowerOne_b26 N N x1 v49 V
set_option maxHeartbeats 4000000 in
set_option maxRecDepth 100000 in
theorem c_X11_lowerOne (l : Launch) (D : va_G) (cy : Nat → ClassId) {N : Nat} {x1 : Int32} {V : pvM} {q : pvO} (hp : q_X11_lowerOne N x1.toInt V = some q) : pv_Met l yX11_lowerOne cX11_lowerOne 7 none 3 72 D cy V [.ref 45, .int x1] 0 q := by
  unfold q_X11_lowerOne at hp
  refine pv_ofW (by decide) (Nat.le_of_ble_eq_true rfl) (fun p e s m args below meth c ad A n0 σ C hr => ?_)
  refine pv_aload_n C 0 dX11_lowerOne_0 rfl ?_
  refine pv_getR C (ci := 10) (k := 16) gwX11 rfl (Nat.le_of_ble_eq_true rfl) fl_X11_44 rfl rfl rfl (j := 57) rfl rfl dX11_lowerOne_1 ?_
  refine pv_iload_n C 1 dX11_lowerOne_4 rfl ?_
  refine pv_iconst C hp dX11_lowerOne_5 (by decide) (fun v46 hp => ?_)
  refine pv_iast C hp rfl rfl rfl (fun _ => rfl) dX11_lowerOne_6 (fun V hp => ?_)
  refine pv_aload_n C 0 dX11_lowerOne_7 rfl ?_
  refine pv_getR C (ci := 10) (k := 15) gwX11 rfl (Nat.le_of_ble_eq_true rfl) fl_X11_41 rfl rfl rfl (j := 56) rfl rfl dX11_lowerOne_8 ?_
  refine pv_iload_n C 1 dX11_lowerOne_11 rfl ?_
  refine pv_iconst C hp dX11_lowerOne_12 (by decide) (fun v47 hp => ?_)
  refine pv_iast C hp rfl rfl rfl (fun _ => rfl) dX11_lowerOne_13 (fun V hp => ?_)
  refine pv_aload_n C 0 dX11_lowerOne_14 rfl ?_
  refine pv_iconst C hp dX11_lowerOne_15 (by decide) (fun v48 hp => ?_)
  refine pv_putI C (ci := 10) (k := 13) gwX11 rfl (Nat.le_of_ble_eq_true rfl) fl_X11_153 rfl rfl tyX11_ok nmX11 hp rfl rfl rfl (by decide +kernel) dX11_lowerOne_16 (fun V hp => ?_)
  refine pv_aload_n C 0 dX11_lowerOne_19 rfl ?_
  refine pv_iload_n C 1 dX11_lowerOne_20 rfl ?_
  refine pv_callV C (As := [.int x1]) (rest := []) (b := 45) (kd1 := 0) hp (fun q1 h9 => c_X11_walk l D cy h9) wB_yX11_walk ml_X11_173 im_yX11_walk se_yX11_walk (ci := 10) rfl rfl rfl rfl rfl (Nat.le_of_ble_eq_true rfl) ⟨(Nat.le_of_ble_eq_true rfl), (Nat.le_of_ble_eq_true rfl)⟩ dX11_lowerOne_21 rfl rfl (fun _ σ V hp => ?_)
  refine pv_iconst C hp dX11_lowerOne_24 (by decide) (fun v49 hp => ?_)
  refine pv_istore_n (loc' := [(2, .int v49), (0, .ref 45), (1, .int x1)]) C dX11_lowerOne_25 (by decide) rfl ?_
  refine pv_sub [1, 2, 0] rfl ?_
  exact w_X11_lowerOne_b26 C hr N _ _ _ _ hp
def q_X11_lower_b104 (N : Nat) (r26 : Int → pvM → Option pvO) (r46 : Int → Int → pvM → Option pvO) (x1 : Int) (x2 : Int) (V : pvM) : Option pvO :=
  lI (pv_w (x2 + (1))) fun v1 =>
  r46 x1 v1 V
set_option maxHeartbeats 4000000 in
set_option maxRecDepth 100000 in
theorem w_X11_lower_b104 {p : Program} {l : Launch} {e : Env} {s : State} {m : MethodId} {args : Array Value} {below : List Frame} {meth : Method} {c : Code} {D : va_G} {cy : Nat → ClassId} {A : Nat → Prop} {n0 : Nat} {ad0 : Nat → Nat} {V0 : pvM} {q : pvO} (C : pz_C p s m args meth c cX11_lower 3 yX11_lower.cls D cy A) (hr : meth.sig.returnType = (some .int)) {N : Nat} {r26 : Int → pvM → Option pvO} (H26 : ∀ (x1 : Int32) (σ : pzS) (V : pvM), r26 x1.toInt V = some q → pv_W p l e 5 116 s m args below meth c 3 D cy A n0 ad0 (pv_Q below D cy n0 ad0 1 V0 q A args s) V0 σ V 26 [(0, .ref 45), (1, .int x1)] []) {r46 : Int → Int → pvM → Option pvO} (H46 : ∀ (x1 : Int32) (x2 : Int32) (σ : pzS) (V : pvM), r46 x1.toInt x2.toInt V = some q → pv_W p l e 5 116 s m args below meth c 3 D cy A n0 ad0 (pv_Q below D cy n0 ad0 1 V0 q A args s) V0 σ V 46 [(0, .ref 45), (1, .int x1), (2, .int x2)] []) {x1 : Int32} {x2 : Int32} {σ : pzS} {V : pvM} (hp : q_X11_lower_b104 N r26 r46 x1.toInt x2.toInt V = some q) : pv_W p l e 5 116 s m args below meth c 3 D cy A n0 ad0 (pv_Q below D cy n0 ad0 1 V0 q A args s) V0 σ V 104 [(0, .ref 45), (1, .int x1), (2, .int x2)] [] := by
  unfold q_X11_lower_b104 at hp
  refine pv_iinc (L := fun v1 => [(2, .int v1), (0, .ref 45), (1, .int x1)]) C 2 hp dX11_lower_104 (by decide) rfl (by decide) (fun _ => rfl) (fun v1 hp => ?_)
  refine pv_goto (tgt := 46) C dX11_lower_107 (by decide) ?_
  refine pv_sub [1, 2, 0] rfl ?_
  exact H46 _ _ _ _ hp
def q_X11_lower_b46 (N : Nat) (r26 : Int → pvM → Option pvO) : Nat → Int → Int → pvM → Option pvO
  | 0 => fun _ _ _ => none
  | n + 1 => fun x1 x2 V =>
    aR V 51 8 x1 fun v2 =>
    if v2 ≤ x2 then
      lI (pv_w (x1 + (1))) fun v3 =>
      r26 v3 V
    else
    lI (12) fun v4 =>
    lI (pv_w (v4 * x1)) fun v5 =>
    lI (pv_w (v5 + x2)) fun v6 =>
    aR V 52 96 v6 fun v7 =>
    lI (27) fun v8 =>
    if v8 ≤ v7 then
      q_X11_lower_b104 N r26 (q_X11_lower_b46 N r26 n) x1 x2 V
    else
    gR V 45 24 fun v9 =>
    lI (12) fun v10 =>
    lI (pv_w (v10 * x1)) fun v11 =>
    lI (pv_w (v11 + x2)) fun v12 =>
    aR V 52 96 v12 fun v13 =>
    lI (1) fun v14 =>
    lI (pv_w (v13 - v14)) fun v15 =>
    aW V 64 96 v9 v15 fun V =>
    gR V 45 24 fun v16 =>
    lI (1) fun v17 =>
    lI (pv_w (v16 + v17)) fun v18 =>
    gW V 45 24 v18 fun V =>
    q_X11_lower_b104 N r26 (q_X11_lower_b46 N r26 n) x1 x2 V
set_option maxHeartbeats 4000000 in
set_option maxRecDepth 100000 in
theorem w_X11_lower_b46 {p : Program} {l : Launch} {e : Env} {s : State} {m : MethodId} {args : Array Value} {below : List Frame} {meth : Method} {c : Code} {D : va_G} {cy : Nat → ClassId} {A : Nat → Prop} {n0 : Nat} {ad0 : Nat → Nat} {V0 : pvM} {q : pvO} (C : pz_C p s m args meth c cX11_lower 3 yX11_lower.cls D cy A) (hr : meth.sig.returnType = (some .int)) {N : Nat} {r26 : Int → pvM → Option pvO} (H26 : ∀ (x1 : Int32) (σ : pzS) (V : pvM), r26 x1.toInt V = some q → pv_W p l e 5 116 s m args below meth c 3 D cy A n0 ad0 (pv_Q below D cy n0 ad0 1 V0 q A args s) V0 σ V 26 [(0, .ref 45), (1, .int x1)] []) : ∀ (n : Nat) (x1 : Int32) (x2 : Int32) (σ : pzS) (V : pvM), q_X11_lower_b46 N r26 n x1.toInt x2.toInt V = some q → pv_W p l e 5 116 s m args below meth c 3 D cy A n0 ad0 (pv_Q below D cy n0 ad0 1 V0 q A args s) V0 σ V 46 [(0, .ref 45), (1, .int x1), (2, .int x2)] [] := by
  intro n
  induction n with
  | zero =>
    intro x1 x2 σ V hp
    simp only [q_X11_lower_b46] at hp
    cases hp
  | succ n ih =>
    intro x1 x2 σ V hp
    simp only [q_X11_lower_b46] at hp
    refine pv_iload_n C 2 dX11_lower_46 rfl ?_
    refine pv_aload_n C 0 dX11_lower_47 rfl ?_
    refine pv_getR C (ci := 10) (k := 8) gwX11 rfl (Nat.le_of_ble_eq_true rfl) fl_X11_25 rfl rfl rfl (j := 51) rfl rfl dX11_lower_48 ?_
    refine pv_iload_n C 1 dX11_lower_51 rfl ?_
    refine pv_iald C hp rfl rfl rfl (fun _ => rfl) dX11_lower_52 (fun v2 hp => ?_)
    refine pv_icmp_ge (tgt := 110) C hp dX11_lower_53 (by decide) (fun hp => ?_) (fun hp => ?_)
    · refine pv_iinc (L := fun v3 => [(1, .int v3), (0, .ref 45), (2, .int x2)]) C 1 hp dX11_lower_110 (by decide) rfl (by decide) (fun _ => rfl) (fun v3 hp => ?_)
      refine pv_goto (tgt := 26) C dX11_lower_113 (by decide) ?_
      refine pv_sub [1, 0] rfl ?_
      exact H26 _ _ _ hp
    · refine pv_aload_n C 0 dX11_lower_56 rfl ?_
      refine pv_getR C (ci := 10) (k := 9) gwX11 rfl (Nat.le_of_ble_eq_true rfl) fl_X11_28 rfl rfl rfl (j := 52) rfl rfl dX11_lower_57 ?_
      refine pv_bipush C hp dX11_lower_60 (by decide) (fun v4 hp => ?_)
      refine pv_iload_n C 1 dX11_lower_62 rfl ?_
      refine pv_imul C hp dX11_lower_63 (fun v5 hp => ?_)
      refine pv_iload_n C 2 dX11_lower_64 rfl ?_
      refine pv_iadd C hp dX11_lower_65 (fun v6 hp => ?_)
      refine pv_iald C hp rfl rfl rfl (fun _ => rfl) dX11_lower_66 (fun v7 hp => ?_)
      refine pv_bipush C hp dX11_lower_67 (by decide) (fun v8 hp => ?_)
      refine pv_icmp_ge (tgt := 104) C hp dX11_lower_69 (by decide) (fun hp => ?_) (fun hp => ?_)
      · exact w_X11_lower_b104 C hr H26 ih hp
      · refine pv_aload_n C 0 dX11_lower_72 rfl ?_
        refine pv_getR C (ci := 10) (k := 25) gwX11 rfl (Nat.le_of_ble_eq_true rfl) fl_X11_65 rfl rfl rfl (j := 64) rfl rfl dX11_lower_73 ?_
        refine pv_aload_n C 0 dX11_lower_76 rfl ?_
        refine pv_getI C (ci := 10) (k := 24) gwX11 rfl (Nat.le_of_ble_eq_true rfl) fl_X11_202 rfl rfl hp rfl rfl dX11_lower_77 (fun v9 hp => ?_)
        refine pv_aload_n C 0 dX11_lower_80 rfl ?_
        refine pv_getR C (ci := 10) (k := 9) gwX11 rfl (Nat.le_of_ble_eq_true rfl) fl_X11_28 rfl rfl rfl (j := 52) rfl rfl dX11_lower_81 ?_
        refine pv_bipush C hp dX11_lower_84 (by decide) (fun v10 hp => ?_)
        refine pv_iload_n C 1 dX11_lower_86 rfl ?_
        refine pv_imul C hp dX11_lower_87 (fun v11 hp => ?_)
        refine pv_iload_n C 2 dX11_lower_88 rfl ?_
        refine pv_iadd C hp dX11_lower_89 (fun v12 hp => ?_)
        refine pv_iald C hp rfl rfl rfl (fun _ => rfl) dX11_lower_90 (fun v13 hp => ?_)
        refine pv_iconst C hp dX11_lower_91 (by decide) (fun v14 hp => ?_)
        refine pv_isub C hp dX11_lower_92 (fun v15 hp => ?_)
        refine pv_iast C hp rfl rfl rfl (fun _ => rfl) dX11_lower_93 (fun V hp => ?_)
        refine pv_aload_n C 0 dX11_lower_94 rfl ?_
        refine pv_dup C dX11_lower_95 rfl ?_
        refine pv_getI C (ci := 10) (k := 24) gwX11 rfl (Nat.le_of_ble_eq_true rfl) fl_X11_202 rfl rfl hp rfl rfl dX11_lower_96 (fun v16 hp => ?_)
        refine pv_iconst C hp dX11_lower_99 (by decide) (fun v17 hp => ?_)
        refine pv_iadd C hp dX11_lower_100 (fun v18 hp => ?_)
        refine pv_putI C (ci := 10) (k := 24) gwX11 rfl (Nat.le_of_ble_eq_true rfl) fl_X11_202 rfl rfl tyX11_ok nmX11 hp rfl rfl rfl (by decide +kernel) dX11_lower_101 (fun V hp => ?_)
        exact w_X11_lower_b104 C hr H26 ih hp
def q_X11_lower_b120 (N : Nat) : Nat → Int → Int → pvM → Option pvO
  | 0 => fun _ _ _ => none
  | n + 1 => fun x1 x2 V =>
    gR V 45 1 fun v19 =>
    if v19 ≤ x2 then
      lI (1) fun v20 =>
      bT v20 <| gW V 45 10 v20 fun V =>
      rT V x1
    else
    cL (q_X11_lowerOne N x2 V) fun _ V =>
    aR V 57 12 x2 fun v21 =>
    lI (pv_w (x1 + v21)) fun v22 =>
    lI (pv_w (x2 + (1))) fun v23 =>
    q_X11_lower_b120 N n v22 v23 V
set_option maxHeartbeats 4000000 in
set_option maxRecDepth 100000 in
theorem w_X11_lower_b120 {p : Program} {l : Launch} {e : Env} {s : State} {m : MethodId} {args : Array Value} {below : List Frame} {meth : Method} {c : Code} {D : va_G} {cy : Nat → ClassId} {A : Nat → Prop} {n0 : Nat} {ad0 : Nat → Nat} {V0 : pvM} {q : pvO} (C : pz_C p s m args meth c cX11_lower 3 yX11_lower.cls D cy A) (hr : meth.sig.returnType = (some .int)) {N : Nat} : ∀ (n : Nat) (x1 : Int32) (x2 : Int32) (σ : pzS) (V : pvM), q_X11_lower_b120 N n x1.toInt x2.toInt V = some q → pv_W p l e 5 116 s m args below meth c 3 D cy A n0 ad0 (pv_Q below D cy n0 ad0 1 V0 q A args s) V0 σ V 120 [(0, .ref 45), (1, .int x1), (2, .int x2)] [] := by
  intro n
  induction n with
  | zero =>
    intro x1 x2 σ V hp
    simp only [q_X11_lower_b120] at hp
    cases hp
  | succ n ih =>
    intro x1 x2 σ V hp
    simp only [q_X11_lower_b120] at hp
    refine pv_iload_n C 2 dX11_lower_120 rfl ?_
    refine pv_aload_n C 0 dX11_lower_121 rfl ?_
    refine pv_getI C (ci := 10) (k := 1) gwX11 rfl (Nat.le_of_ble_eq_true rfl) fl_X11_127 rfl rfl hp rfl rfl dX11_lower_122 (fun v19 hp => ?_)
    refine pv_icmp_ge (tgt := 148) C hp dX11_lower_125 (by decide) (fun hp => ?_) (fun hp => ?_)
    · refine pv_aload_n C 0 dX11_lower_148 rfl ?_
      refine pv_iconst C hp dX11_lower_149 (by decide) (fun v20 hp => ?_)
      refine pv_putZ C (ci := 10) (k := 10) gwX11 rfl (Nat.le_of_ble_eq_true rfl) fl_X11_134 rfl rfl tyX11_ok nmX11 hp rfl rfl rfl (by decide +kernel) dX11_lower_150 (fun V hp => ?_)
      refine pv_iload_n C 1 dX11_lower_153 rfl ?_
      exact pv_iret C rfl hp hr dX11_lower_154
    · refine pv_aload_n C 0 dX11_lower_128 rfl ?_
      refine pv_iload_n C 2 dX11_lower_129 rfl ?_
      refine pv_callV C (As := [.int x2]) (rest := []) (b := 45) (kd1 := 0) hp (fun q1 h9 => c_X11_lowerOne l D cy h9) wB_yX11_lowerOne ml_X11_205 im_yX11_lowerOne se_yX11_lowerOne (ci := 10) rfl rfl rfl rfl rfl (Nat.le_of_ble_eq_true rfl) ⟨(Nat.le_of_ble_eq_true rfl), (Nat.le_of_ble_eq_true rfl)⟩ dX11_lower_130 rfl rfl (fun _ σ V hp => ?_)
      refine pv_iload_n C 1 dX11_lower_133 rfl ?_
      refine pv_aload_n C 0 dX11_lower_134 rfl ?_
      refine pv_getR C (ci := 10) (k := 16) gwX11 rfl (Nat.le_of_ble_eq_true rfl) fl_X11_44 rfl rfl rfl (j := 57) rfl rfl dX11_lower_135 ?_
      refine pv_iload_n C 2 dX11_lower_138 rfl ?_
      refine pv_iald C hp rfl rfl rfl (fun _ => rfl) dX11_lower_139 (fun v21 hp => ?_)
      refine pv_iadd C hp dX11_lower_140 (fun v22 hp => ?_)
      refine pv_istore_n (loc' := [(1, .int v22), (0, .ref 45), (2, .int x2)]) C dX11_lower_141 (by decide) rfl ?_
      refine pv_iinc (L := fun v23 => [(2, .int v23), (1, .int v22), (0, .ref 45)]) C 2 hp dX11_lower_142 (by decide) rfl (by decide) (fun _ => rfl) (fun v23 hp => ?_)
      refine pv_goto (tgt := 120) C dX11_lower_145 (by decide) ?_
      refine pv_sub [2, 1, 0] rfl ?_
      exact ih _ _ _ _ hp
def q_X11_lower_b26 (N : Nat) : Nat → Int → pvM → Option pvO
  | 0 => fun _ _ => none
  | n + 1 => fun x1 V =>
    gR V 45 7 fun v24 =>
    if v24 ≤ x1 then
      lI (0) fun v25 =>
      lI (0) fun v26 =>
      q_X11_lower_b120 N N v25 v26 V
    else
    gR V 45 24 fun v27 =>
    aW V 65 8 x1 v27 fun V =>
    lI (0) fun v28 =>
    q_X11_lower_b46 N (q_X11_lower_b26 N n) N x1 v28 V
set_option maxHeartbeats 4000000 in
set_option maxRecDepth 100000 in
theorem w_X11_lower_b26 {p : Program} {l : Launch} {e : Env} {s : State} {m : MethodId} {args : Array Value} {below : List Frame} {meth : Method} {c : Code} {D : va_G} {cy : Nat → ClassId} {A : Nat → Prop} {n0 : Nat} {ad0 : Nat → Nat} {V0 : pvM} {q : pvO} (C : pz_C p s m args meth c cX11_lower 3 yX11_lower.cls D cy A) (hr : meth.sig.returnType = (some .int)) {N : Nat} : ∀ (n : Nat) (x1 : Int32) (σ : pzS) (V : pvM), q_X11_lower_b26 N n x1.toInt V = some q → pv_W p l e 5 116 s m args below meth c 3 D cy A n0 ad0 (pv_Q below D cy n0 ad0 1 V0 q A args s) V0 σ V 26 [(0, .ref 45), (1, .int x1)] [] := by
  intro n
  induction n with
  | zero =>
    intro x1 σ V hp
    simp only [q_X11_lower_b26] at hp
    cases hp
  | succ n ih =>
    intro x1 σ V hp
    simp only [q_X11_lower_b26] at hp
    refine pv_iload_n C 1 dX11_lower_26 rfl ?_
    refine pv_aload_n C 0 dX11_lower_27 rfl ?_
    refine pv_getI C (ci := 10) (k := 7) gwX11 rfl (Nat.le_of_ble_eq_true rfl) fl_X11_146 rfl rfl hp rfl rfl dX11_lower_28 (fun v24 hp => ?_)
    refine pv_icmp_ge (tgt := 116) C hp dX11_lower_31 (by decide) (fun hp => ?_) (fun hp => ?_)
    · refine pv_iconst C hp dX11_lower_116 (by decide) (fun v25 hp => ?_)
      refine pv_istore_n (loc' := [(1, .int v25), (0, .ref 45)]) C dX11_lower_117 (by decide) rfl ?_
      refine pv_iconst C hp dX11_lower_118 (by decide) (fun v26 hp => ?_)
      refine pv_istore_n (loc' := [(2, .int v26), (1, .int v25), (0, .ref 45)]) C dX11_lower_119 (by decide) rfl ?_
      refine pv_sub [2, 1, 0] rfl ?_
      exact w_X11_lower_b120 C hr N _ _ _ _ hp
    · refine pv_aload_n C 0 dX11_lower_34 rfl ?_
      refine pv_getR C (ci := 10) (k := 26) gwX11 rfl (Nat.le_of_ble_eq_true rfl) fl_X11_68 rfl rfl rfl (j := 65) rfl rfl dX11_lower_35 ?_
      refine pv_iload_n C 1 dX11_lower_38 rfl ?_
      refine pv_aload_n C 0 dX11_lower_39 rfl ?_
      refine pv_getI C (ci := 10) (k := 24) gwX11 rfl (Nat.le_of_ble_eq_true rfl) fl_X11_202 rfl rfl hp rfl rfl dX11_lower_40 (fun v27 hp => ?_)
      refine pv_iast C hp rfl rfl rfl (fun _ => rfl) dX11_lower_43 (fun V hp => ?_)
      refine pv_iconst C hp dX11_lower_44 (by decide) (fun v28 hp => ?_)
      refine pv_istore_n (loc' := [(2, .int v28), (0, .ref 45), (1, .int x1)]) C dX11_lower_45 (by decide) rfl ?_
      refine pv_sub [1, 2, 0] rfl ?_
      exact w_X11_lower_b46 C hr ih N _ _ _ _ hp
def q_X11_lower (N : Nat) (V : pvM) : Option pvO :=
  lI (0) fun v29 =>
  gW V 45 0 v29 fun V =>
  cL (q_X11_checkAll N V) fun v30 V =>
  if v30 < 0 then
    lI (0) fun v31 =>
    gW V 45 21 v31 fun V =>
    lI (0) fun v32 =>
    gW V 45 24 v32 fun V =>
    lI (0) fun v33 =>
    q_X11_lower_b26 N N v33 V
  else
  lI (-1) fun v34 =>
  rT V v34
set_option maxHeartbeats 4000000 in
set_option maxRecDepth 100000 in
theorem c_X11_lower (l : Launch) (D : va_G) (cy : Nat → ClassId) {N : Nat} {V : pvM} {q : pvO} (hp : q_X11_lower N V = some q) : pv_Met l yX11_lower cX11_lower 3 (some .int) 5 116 D cy V [.ref 45] 1 q := by
  unfold q_X11_lower at hp
  refine pv_ofW (by decide) (Nat.le_of_ble_eq_true rfl) (fun p e s m args below meth c ad A n0 σ C hr => ?_)
  refine pv_aload_n C 0 dX11_lower_0 rfl ?_
  refine pv_iconst C hp dX11_lower_1 (by decide) (fun v29 hp => ?_)
  refine pv_putI C (ci := 10) (k := 0) gwX11 rfl (Nat.le_of_ble_eq_true rfl) fl_X11_123 rfl rfl tyX11_ok nmX11 hp rfl rfl rfl (by decide +kernel) dX11_lower_2 (fun V hp => ?_)
  refine pv_aload_n C 0 dX11_lower_5 rfl ?_
  refine pv_callV C (As := []) (rest := []) (b := 45) (kd1 := 1) hp (fun q1 h9 => c_X11_checkAll l D cy h9) wB_yX11_checkAll ml_X11_180 im_yX11_checkAll se_yX11_checkAll (ci := 10) rfl rfl rfl rfl rfl (Nat.le_of_ble_eq_true rfl) ⟨(Nat.le_of_ble_eq_true rfl), (Nat.le_of_ble_eq_true rfl)⟩ dX11_lower_6 rfl rfl (fun v30 σ V hp => ?_)
  refine pv_if_lt (tgt := 14) C hp dX11_lower_9 (by decide) (fun hp => ?_) (fun hp => ?_)
  · refine pv_aload_n C 0 dX11_lower_14 rfl ?_
    refine pv_iconst C hp dX11_lower_15 (by decide) (fun v31 hp => ?_)
    refine pv_putI C (ci := 10) (k := 21) gwX11 rfl (Nat.le_of_ble_eq_true rfl) fl_X11_184 rfl rfl tyX11_ok nmX11 hp rfl rfl rfl (by decide +kernel) dX11_lower_16 (fun V hp => ?_)
    refine pv_aload_n C 0 dX11_lower_19 rfl ?_
    refine pv_iconst C hp dX11_lower_20 (by decide) (fun v32 hp => ?_)
    refine pv_putI C (ci := 10) (k := 24) gwX11 rfl (Nat.le_of_ble_eq_true rfl) fl_X11_202 rfl rfl tyX11_ok nmX11 hp rfl rfl rfl (by decide +kernel) dX11_lower_21 (fun V hp => ?_)
    refine pv_iconst C hp dX11_lower_24 (by decide) (fun v33 hp => ?_)
    refine pv_istore_n (loc' := [(1, .int v33), (0, .ref 45)]) C dX11_lower_25 (by decide) rfl ?_
    refine pv_sub [1, 0] rfl ?_
    exact w_X11_lower_b26 C hr N _ _ _ hp
  · refine pv_iconst C hp dX11_lower_12 (by decide) (fun v34 hp => ?_)
    exact pv_iret C rfl hp hr dX11_lower_13
