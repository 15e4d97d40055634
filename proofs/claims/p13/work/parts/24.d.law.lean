def q_law_b650 (xs : Nat → Int32) (L : Nat) (N : Nat) (r23 : Int → pvM → Option pvO) (x4 : Int) (V : pvM) : Option pvO :=
  lI (pv_w (x4 + (6))) fun v1 =>
  r23 v1 V
set_option maxHeartbeats 4000000 in
set_option maxRecDepth 100000 in
theorem w_law_b650 {p : Program} {l : Launch} {e : Env} {s : State} {m : MethodId} {b : Nat} {below : List Frame} {meth : Method} {c : Code} {D : va_G} {cy : Nat → ClassId} {q : pvO} {L : Nat} {xs : Nat → Int32} (C : pz_C p s m #[Value.ref b] meth c cL_law 7 RL D cy (fun q : Nat => s.heap.size ≤ q)) (hr : meth.sig.returnType = ret) (hX : va_X b L xs s s.heap) (hbl : b < s.heap.size) (hL : L ≤ 3072) (hZ : pz_Z (fun q : Nat => s.heap.size ≤ q) s s.heap) (hl0 : l.stackTraces = false) {N : Nat} {r23 : Int → pvM → Option pvO} (H23 : ∀ (x4 : Int32) (σ : pzS) (V : pvM), r23 x4.toInt V = some q → pl_W p l e s m b below meth c D cy σ V 23 [(0, .ref 999), (1, .ref 0), (2, .ref 45), (3, .ref 83), (4, .int x4)] []) {x4 : Int32} {σ : pzS} {V : pvM} (hp : q_law_b650 xs L N r23 x4.toInt V = some q) : pl_W p l e s m b below meth c D cy σ V 650 [(0, .ref 999), (1, .ref 0), (2, .ref 45), (3, .ref 83), (4, .int x4)] [] := by
  unfold q_law_b650 at hp
  refine pl_iinc (Lf := fun v1 => [(4, .int v1), (0, .ref 999), (1, .ref 0), (2, .ref 45), (3, .ref 83)]) C 4 hp dL_law_650 (by decide) rfl (by decide) (fun _ => rfl) (fun v1 hp => ?_)
  refine pl_goto (tgt := 23) C dL_law_653 (by decide) ?_
  refine pl_sub [1, 2, 3, 4, 0] rfl ?_
  exact H23 _ _ _ hp
def q_law_b558 (xs : Nat → Int32) (L : Nat) (N : Nat) (r23 : Int → pvM → Option pvO) (x4 : Int) (s0 : Int) (s1 : Int) (s2 : Int) (s3 : Int) (s4 : Int) (V : pvM) : Option pvO :=
  cL (q_X11_run N s4 s3 s2 s1 s0 V) fun v2 V =>
  q_law_b650 xs L N r23 x4 V
set_option maxHeartbeats 4000000 in
set_option maxRecDepth 100000 in
theorem w_law_b558 {p : Program} {l : Launch} {e : Env} {s : State} {m : MethodId} {b : Nat} {below : List Frame} {meth : Method} {c : Code} {D : va_G} {cy : Nat → ClassId} {q : pvO} {L : Nat} {xs : Nat → Int32} (C : pz_C p s m #[Value.ref b] meth c cL_law 7 RL D cy (fun q : Nat => s.heap.size ≤ q)) (hr : meth.sig.returnType = ret) (hX : va_X b L xs s s.heap) (hbl : b < s.heap.size) (hL : L ≤ 3072) (hZ : pz_Z (fun q : Nat => s.heap.size ≤ q) s s.heap) (hl0 : l.stackTraces = false) {N : Nat} {r23 : Int → pvM → Option pvO} (H23 : ∀ (x4 : Int32) (σ : pzS) (V : pvM), r23 x4.toInt V = some q → pl_W p l e s m b below meth c D cy σ V 23 [(0, .ref 999), (1, .ref 0), (2, .ref 45), (3, .ref 83), (4, .int x4)] []) {x4 : Int32} {s0 : Int32} {s1 : Int32} {s2 : Int32} {s3 : Int32} {s4 : Int32} {σ : pzS} {V : pvM} (hp : q_law_b558 xs L N r23 x4.toInt s0.toInt s1.toInt s2.toInt s3.toInt s4.toInt V = some q) : pl_W p l e s m b below meth c D cy σ V 558 [(0, .ref 999), (1, .ref 0), (2, .ref 45), (3, .ref 83), (4, .int x4)] [.int s0, .int s1, .int s2, .int s3, .int s4, .ref 45] := by
  unfold q_law_b558 at hp
  refine pl_callV C (As := [.int s4, .int s3, .int s2, .int s1, .int s0]) (rest := []) (b1 := 45) (kd1 := 1) hp (fun q1 h9 => c_X11_run l D cy h9) wB_yX11_run ml_L_101 im_yX11_run se_yX11_run (ci := 10) rfl rfl rfl rfl rfl (Nat.le_of_ble_eq_true rfl) ⟨(Nat.le_of_ble_eq_true rfl), (Nat.le_of_ble_eq_true rfl)⟩ dL_law_558 rfl rfl rfl (fun v2 σ V hp => ?_)
  refine pl_istore (loc' := [(6, .int v2), (0, .ref 999), (1, .ref 0), (2, .ref 45), (3, .ref 83), (4, .int x4)]) C dL_law_561 (by decide) rfl ?_
  refine pl_goto (tgt := 650) C dL_law_563 (by decide) ?_
  refine pl_sub [1, 2, 3, 4, 5] rfl ?_
  exact w_law_b650 C hr hX hbl hL hZ hl0 H23 hp
def q_law_b513 (xs : Nat → Int32) (L : Nat) (N : Nat) (r23 : Int → pvM → Option pvO) (x4 : Int) (s0 : Int) (s1 : Int) (s2 : Int) (s3 : Int) (s4 : Int) (V : pvM) : Option pvO :=
  cL (q_L_run N s4 s3 s2 s1 s0 V) fun v3 V =>
  lI (1) fun v4 =>
  lI (pv_w (x4 + v4)) fun v5 =>
  sR xs L v5 fun v6 =>
  lI (2) fun v7 =>
  lI (pv_w (x4 + v7)) fun v8 =>
  sR xs L v8 fun v9 =>
  lI (3) fun v10 =>
  lI (pv_w (x4 + v10)) fun v11 =>
  sR xs L v11 fun v12 =>
  lI (4) fun v13 =>
  lI (pv_w (x4 + v13)) fun v14 =>
  sR xs L v14 fun v15 =>
  lI (5) fun v16 =>
  lI (pv_w (x4 + v16)) fun v17 =>
  sR xs L v17 fun v18 =>
  if v18 = 0 then
    lI (0) fun v19 =>
    q_law_b558 xs L N r23 x4 v19 v15 v12 v9 v6 V
  else
  lI (1) fun v20 =>
  q_law_b558 xs L N r23 x4 v20 v15 v12 v9 v6 V
set_option maxHeartbeats 4000000 in
set_option maxRecDepth 100000 in
theorem w_law_b513 {p : Program} {l : Launch} {e : Env} {s : State} {m : MethodId} {b : Nat} {below : List Frame} {meth : Method} {c : Code} {D : va_G} {cy : Nat → ClassId} {q : pvO} {L : Nat} {xs : Nat → Int32} (C : pz_C p s m #[Value.ref b] meth c cL_law 7 RL D cy (fun q : Nat => s.heap.size ≤ q)) (hr : meth.sig.returnType = ret) (hX : va_X b L xs s s.heap) (hbl : b < s.heap.size) (hL : L ≤ 3072) (hZ : pz_Z (fun q : Nat => s.heap.size ≤ q) s s.heap) (hl0 : l.stackTraces = false) {N : Nat} {r23 : Int → pvM → Option pvO} (H23 : ∀ (x4 : Int32) (σ : pzS) (V : pvM), r23 x4.toInt V = some q → pl_W p l e s m b below meth c D cy σ V 23 [(0, .ref 999), (1, .ref 0), (2, .ref 45), (3, .ref 83), (4, .int x4)] []) {x4 : Int32} {s0 : Int32} {s1 : Int32} {s2 : Int32} {s3 : Int32} {s4 : Int32} {σ : pzS} {V : pvM} (hp : q_law_b513 xs L N r23 x4.toInt s0.toInt s1.toInt s2.toInt s3.toInt s4.toInt V = some q) : pl_W p l e s m b below meth c D cy σ V 513 [(0, .ref 999), (1, .ref 0), (2, .ref 45), (3, .ref 83), (4, .int x4)] [.int s0, .int s1, .int s2, .int s3, .int s4, .ref 0] := by
  unfold q_law_b513 at hp
  refine pl_aload_n C 3 dL_law_513 rfl ?_
  refine pl_callSH C (As := [.ref 0, .int s4, .int s3, .int s2, .int s1, .int s0, .ref 83]) (rest := []) hZ hp (fun q1 h9 => c_L_run l hl0 D cy h9) ini_L wH_yL_run wD_yL_run ml_L_98 sm_yL_run rfl rfl (Nat.le_of_ble_eq_true rfl) ⟨(Nat.le_of_ble_eq_true rfl), (Nat.le_of_ble_eq_true rfl)⟩ dL_law_514 rfl rfl rfl (fun v3 σ V hp => ?_)
  refine pl_istore (loc' := [(5, .int v3), (0, .ref 999), (1, .ref 0), (2, .ref 45), (3, .ref 83), (4, .int x4)]) C dL_law_517 (by decide) rfl ?_
  refine pl_aload_n C 3 dL_law_519 rfl ?_
  refine pl_aload_n C 1 dL_law_520 rfl ?_
  refine pl_iload C 5 dL_law_521 rfl ?_
  refine pl_iconst C hp dL_law_523 (by decide) (fun v4 hp => ?_)
  refine pl_iadd C hp dL_law_524 (fun v5 hp => ?_)
  refine pl_sld C hX hbl hp dL_law_525 (fun v6 hp => ?_)
  refine pl_aload_n C 1 dL_law_526 rfl ?_
  refine pl_iload C 5 dL_law_527 rfl ?_
  refine pl_iconst C hp dL_law_529 (by decide) (fun v7 hp => ?_)
  refine pl_iadd C hp dL_law_530 (fun v8 hp => ?_)
  refine pl_sld C hX hbl hp dL_law_531 (fun v9 hp => ?_)
  refine pl_aload_n C 1 dL_law_532 rfl ?_
  refine pl_iload C 5 dL_law_533 rfl ?_
  refine pl_iconst C hp dL_law_535 (by decide) (fun v10 hp => ?_)
  refine pl_iadd C hp dL_law_536 (fun v11 hp => ?_)
  refine pl_sld C hX hbl hp dL_law_537 (fun v12 hp => ?_)
  refine pl_aload_n C 1 dL_law_538 rfl ?_
  refine pl_iload C 5 dL_law_539 rfl ?_
  refine pl_iconst C hp dL_law_541 (by decide) (fun v13 hp => ?_)
  refine pl_iadd C hp dL_law_542 (fun v14 hp => ?_)
  refine pl_sld C hX hbl hp dL_law_543 (fun v15 hp => ?_)
  refine pl_aload_n C 1 dL_law_544 rfl ?_
  refine pl_iload C 5 dL_law_545 rfl ?_
  refine pl_iconst C hp dL_law_547 (by decide) (fun v16 hp => ?_)
  refine pl_iadd C hp dL_law_548 (fun v17 hp => ?_)
  refine pl_sld C hX hbl hp dL_law_549 (fun v18 hp => ?_)
  refine pl_if_eq (tgt := 557) C hp dL_law_550 (by decide) (fun hp => ?_) (fun hp => ?_)
  · refine pl_iconst C hp dL_law_557 (by decide) (fun v19 hp => ?_)
    refine pl_sub [1, 2, 3, 4, 5] rfl ?_
    exact w_law_b558 C hr hX hbl hL hZ hl0 H23 hp
  · refine pl_iconst C hp dL_law_553 (by decide) (fun v20 hp => ?_)
    refine pl_goto (tgt := 558) C dL_law_554 (by decide) ?_
    refine pl_sub [1, 2, 3, 4, 5] rfl ?_
    exact w_law_b558 C hr hX hbl hL hZ hl0 H23 hp
def q_law_b23 (xs : Nat → Int32) (L : Nat) (N : Nat) : Nat → Int → pvM → Option pvO
  | 0 => fun _ _ => none
  | n + 1 => fun x4 V =>
    lI (L : Int) fun v21 =>
    lI (6) fun v22 =>
    lI (pv_w (v21 - v22)) fun v23 =>
    if v23 < x4 then
      lI (1) fun v24 =>
      rL V v24
    else
    sR xs L x4 fun v26 =>
    lI (15) fun v27 =>
    lI (pv_andi v26 v27) fun v28 =>
    if v28 = 0 then
      lI (1) fun v29 =>
      lI (pv_w (x4 + v29)) fun v30 =>
      sR xs L v30 fun v31 =>
      cL (q_L_function N v31 V) fun v32 V =>
      lI (1) fun v33 =>
      lI (pv_w (x4 + v33)) fun v34 =>
      sR xs L v34 fun v35 =>
      cL (q_X11_function N v35 V) fun v36 V =>
      q_law_b650 xs L N (q_law_b23 xs L N n) x4 V
    else
    if v28 = 1 then
      lI (1) fun v37 =>
      lI (pv_w (x4 + v37)) fun v38 =>
      sR xs L v38 fun v39 =>
      lI (2) fun v40 =>
      lI (pv_w (x4 + v40)) fun v41 =>
      sR xs L v41 fun v42 =>
      lI (3) fun v43 =>
      lI (pv_w (x4 + v43)) fun v44 =>
      sR xs L v44 fun v45 =>
      lI (4) fun v46 =>
      lI (pv_w (x4 + v46)) fun v47 =>
      sR xs L v47 fun v48 =>
      cL (q_L_code N v39 v42 v45 v48 V) fun v49 V =>
      lI (1) fun v50 =>
      lI (pv_w (x4 + v50)) fun v51 =>
      sR xs L v51 fun v52 =>
      lI (2) fun v53 =>
      lI (pv_w (x4 + v53)) fun v54 =>
      sR xs L v54 fun v55 =>
      lI (3) fun v56 =>
      lI (pv_w (x4 + v56)) fun v57 =>
      sR xs L v57 fun v58 =>
      lI (4) fun v59 =>
      lI (pv_w (x4 + v59)) fun v60 =>
      sR xs L v60 fun v61 =>
      cL (q_X11_code N v52 v55 v58 v61 V) fun v62 V =>
      q_law_b650 xs L N (q_law_b23 xs L N n) x4 V
    else
    if v28 = 2 then
      lI (1) fun v63 =>
      lI (pv_w (x4 + v63)) fun v64 =>
      sR xs L v64 fun v65 =>
      lI (v65) fun v66 =>
      lI (32) fun v67 =>
      lI (pv_shl v66 v67) fun v68 =>
      lI (2) fun v69 =>
      lI (pv_w (x4 + v69)) fun v70 =>
      sR xs L v70 fun v71 =>
      lI (v71) fun v72 =>
      lI (4294967295) fun v73 =>
      lI (pv_andl v72 v73) fun v74 =>
      lI (pv_orl v68 v74) fun v75 =>
      cL (q_L_recipe N v75 V) fun v76 V =>
      lI (1) fun v77 =>
      lI (pv_w (x4 + v77)) fun v78 =>
      sR xs L v78 fun v79 =>
      lI (v79) fun v80 =>
      lI (32) fun v81 =>
      lI (pv_shl v80 v81) fun v82 =>
      lI (2) fun v83 =>
      lI (pv_w (x4 + v83)) fun v84 =>
      sR xs L v84 fun v85 =>
      lI (v85) fun v86 =>
      lI (4294967295) fun v87 =>
      lI (pv_andl v86 v87) fun v88 =>
      lI (pv_orl v82 v88) fun v89 =>
      cL (q_X11_recipe N v89 V) fun v90 V =>
      q_law_b650 xs L N (q_law_b23 xs L N n) x4 V
    else
    if v28 = 3 then
      cL (q_X10_check N V) fun v91 V =>
      cL (q_X11_check N V) fun v92 V =>
      q_law_b650 xs L N (q_law_b23 xs L N n) x4 V
    else
    if v28 = 4 then
      cL (q_X10_lower N V) fun v93 V =>
      cL (q_X11_lower N V) fun v94 V =>
      q_law_b650 xs L N (q_law_b23 xs L N n) x4 V
    else
    if v28 = 5 then
      lI (1) fun v95 =>
      lI (pv_w (x4 + v95)) fun v96 =>
      sR xs L v96 fun v97 =>
      cL (q_L_count N v97 V) fun v98 V =>
      lI (1) fun v99 =>
      lI (pv_w (x4 + v99)) fun v100 =>
      sR xs L v100 fun v101 =>
      cL (q_X11_count N v101 V) fun v102 V =>
      q_law_b650 xs L N (q_law_b23 xs L N n) x4 V
    else
    if v28 = 6 then
      lI (1) fun v103 =>
      lI (pv_w (x4 + v103)) fun v104 =>
      sR xs L v104 fun v105 =>
      lI (2) fun v106 =>
      lI (pv_w (x4 + v106)) fun v107 =>
      sR xs L v107 fun v108 =>
      cL (q_L_size N v105 v108 V) fun v109 V =>
      lI (1) fun v110 =>
      lI (pv_w (x4 + v110)) fun v111 =>
      sR xs L v111 fun v112 =>
      lI (2) fun v113 =>
      lI (pv_w (x4 + v113)) fun v114 =>
      sR xs L v114 fun v115 =>
      cL (q_X11_size N v112 v115 V) fun v116 V =>
      q_law_b650 xs L N (q_law_b23 xs L N n) x4 V
    else
    if v28 = 7 then
      lI (1) fun v117 =>
      lI (pv_w (x4 + v117)) fun v118 =>
      sR xs L v118 fun v119 =>
      lI (2) fun v120 =>
      lI (pv_w (x4 + v120)) fun v121 =>
      sR xs L v121 fun v122 =>
      lI (3) fun v123 =>
      lI (pv_w (x4 + v123)) fun v124 =>
      sR xs L v124 fun v125 =>
      cL (q_L_plain N v119 v122 v125 V) fun v126 V =>
      lI (1) fun v127 =>
      lI (pv_w (x4 + v127)) fun v128 =>
      sR xs L v128 fun v129 =>
      lI (2) fun v130 =>
      lI (pv_w (x4 + v130)) fun v131 =>
      sR xs L v131 fun v132 =>
      lI (3) fun v133 =>
      lI (pv_w (x4 + v133)) fun v134 =>
      sR xs L v134 fun v135 =>
      cL (q_X11_plain N v129 v132 v135 V) fun v136 V =>
      q_law_b650 xs L N (q_law_b23 xs L N n) x4 V
    else
    if v28 = 8 then
      lI (1) fun v137 =>
      lI (pv_w (x4 + v137)) fun v138 =>
      sR xs L v138 fun v139 =>
      lI (2) fun v140 =>
      lI (pv_w (x4 + v140)) fun v141 =>
      sR xs L v141 fun v142 =>
      cL (q_L_made N v139 v142 V) fun v143 V =>
      lI (1) fun v144 =>
      lI (pv_w (x4 + v144)) fun v145 =>
      sR xs L v145 fun v146 =>
      lI (2) fun v147 =>
      lI (pv_w (x4 + v147)) fun v148 =>
      sR xs L v148 fun v149 =>
      cL (q_X11_made N v146 v149 V) fun v150 V =>
      q_law_b650 xs L N (q_law_b23 xs L N n) x4 V
    else
    if v28 = 9 then
      lI (1) fun v151 =>
      lI (pv_w (x4 + v151)) fun v152 =>
      sR xs L v152 fun v153 =>
      cL (q_L_character N v153 V) fun v154 V =>
      lI (1) fun v155 =>
      lI (pv_w (x4 + v155)) fun v156 =>
      sR xs L v156 fun v157 =>
      cL (q_X11_character N v157 V) fun v158 V =>
      q_law_b650 xs L N (q_law_b23 xs L N n) x4 V
    else
    if v28 = 10 then
      lI (1) fun v159 =>
      lI (pv_w (x4 + v159)) fun v160 =>
      sR xs L v160 fun v161 =>
      lI (2) fun v162 =>
      lI (pv_w (x4 + v162)) fun v163 =>
      sR xs L v163 fun v164 =>
      lI (3) fun v165 =>
      lI (pv_w (x4 + v165)) fun v166 =>
      sR xs L v166 fun v167 =>
      lI (4) fun v168 =>
      lI (pv_w (x4 + v168)) fun v169 =>
      sR xs L v169 fun v170 =>
      lI (5) fun v171 =>
      lI (pv_w (x4 + v171)) fun v172 =>
      sR xs L v172 fun v173 =>
      if v173 = 0 then
        lI (0) fun v174 =>
        q_law_b513 xs L N (q_law_b23 xs L N n) x4 v174 v170 v167 v164 v161 V
      else
      lI (1) fun v175 =>
      q_law_b513 xs L N (q_law_b23 xs L N n) x4 v175 v170 v167 v164 v161 V
    else
    if v28 = 11 then
      lI (1) fun v176 =>
      lI (pv_w (x4 + v176)) fun v177 =>
      sR xs L v177 fun v178 =>
      cL (q_L_told N v178 V) fun v179 V =>
      lI (1) fun v180 =>
      lI (pv_w (x4 + v180)) fun v181 =>
      sR xs L v181 fun v182 =>
      cL (q_X11_told N v182 V) fun v183 V =>
      cL (q_X11_thrown N V) fun v184 V =>
      if v184 = v179 then
        if v179 ≠ 0 then
          q_law_b650 xs L N (q_law_b23 xs L N n) x4 V
        else
        lI (0) fun v185 =>
        aR V 83 1 v185 fun v186 =>
        lI (v183) fun v187 =>
        lI (pv_cmp v186 v187) fun v188 =>
        if v188 = 0 then
          q_law_b650 xs L N (q_law_b23 xs L N n) x4 V
        else
        lI (0) fun v189 =>
        rL V v189
      else
      lI (0) fun v191 =>
      rL V v191
    else
    if v28 = 12 then
      lI (1) fun v193 =>
      lI (pv_w (x4 + v193)) fun v194 =>
      sR xs L v194 fun v195 =>
      cL (q_L_said N v195 V) fun v196 V =>
      lI (1) fun v197 =>
      lI (pv_w (x4 + v197)) fun v198 =>
      sR xs L v198 fun v199 =>
      cL (q_X11_said N v199 V) fun v200 V =>
      q_law_b650 xs L N (q_law_b23 xs L N n) x4 V
    else
    q_law_b650 xs L N (q_law_b23 xs L N n) x4 V
set_option maxHeartbeats 4000000 in
set_option maxRecDepth 100000 in
theorem w_law_b23 {p : Program} {l : Launch} {e : Env} {s : State} {m : MethodId} {b : Nat} {below : List Frame} {meth : Method} {c : Code} {D : va_G} {cy : Nat → ClassId} {q : pvO} {L : Nat} {xs : Nat → Int32} (C : pz_C p s m #[Value.ref b] meth c cL_law 7 RL D cy (fun q : Nat => s.heap.size ≤ q)) (hr : meth.sig.returnType = ret) (hX : va_X b L xs s s.heap) (hbl : b < s.heap.size) (hL : L ≤ 3072) (hZ : pz_Z (fun q : Nat => s.heap.size ≤ q) s s.heap) (hl0 : l.stackTraces = false) {N : Nat} : ∀ (n : Nat) (x4 : Int32) (σ : pzS) (V : pvM), q_law_b23 xs L N n x4.toInt V = some q → pl_W p l e s m b below meth c D cy σ V 23 [(0, .ref 999), (1, .ref 0), (2, .ref 45), (3, .ref 83), (4, .int x4)] [] := by
  intro n
  induction n with
  | zero =>
    intro x4 σ V hp
    simp only [q_law_b23] at hp
    cases hp
  | succ n ih =>
    intro x4 σ V hp
    simp only [q_law_b23] at hp
    refine pl_iload C 4 dL_law_23 rfl ?_
    refine pl_aload_n C 0 dL_law_25 rfl ?_
    refine pl_slen C hX hbl hL hp dL_law_26 (fun v21 hp => ?_)
    refine pl_bipush C hp dL_law_27 (by decide) (fun v22 hp => ?_)
    refine pl_isub C hp dL_law_29 (fun v23 hp => ?_)
    refine pl_icmp_gt (tgt := 656) C hp dL_law_30 (by decide) (fun hp => ?_) (fun hp => ?_)
    · refine pl_iconst C hp dL_law_656 (by decide) (fun v24 hp => ?_)
      exact pl_ret C hr hp dL_law_657
    · refine pl_aload_n C 0 dL_law_33 rfl ?_
      refine pl_iload C 4 dL_law_34 rfl ?_
      refine pl_sld C hX hbl hp dL_law_36 (fun v26 hp => ?_)
      refine pl_bipush C hp dL_law_37 (by decide) (fun v27 hp => ?_)
      refine pl_iand C hp dL_law_39 (fun v28 hp => ?_)
      refine pv_case (x := v28) (v := 0) hp (fun hx hp => ?_) (fun h40_0 hp => ?_)
      · refine pl_tableIn (tgt := 108) C hx dL_law_40 (by decide) (by decide) (off := 68) rfl (by decide) ?_
        refine pl_aload_n C 1 dL_law_108 rfl ?_
        refine pl_aload_n C 0 dL_law_109 rfl ?_
        refine pl_iload C 4 dL_law_110 rfl ?_
        refine pl_iconst C hp dL_law_112 (by decide) (fun v29 hp => ?_)
        refine pl_iadd C hp dL_law_113 (fun v30 hp => ?_)
        refine pl_sld C hX hbl hp dL_law_114 (fun v31 hp => ?_)
        refine pl_aload_n C 3 dL_law_115 rfl ?_
        refine pl_callSH C (As := [.ref 0, .int v31, .ref 83]) (rest := []) hZ hp (fun q1 h9 => c_L_function l hl0 D cy h9) ini_L wH_yL_function wD_yL_function ml_L_56 sm_yL_function rfl rfl (Nat.le_of_ble_eq_true rfl) ⟨(Nat.le_of_ble_eq_true rfl), (Nat.le_of_ble_eq_true rfl)⟩ dL_law_116 rfl rfl rfl (fun v32 σ V hp => ?_)
        refine pl_istore (loc' := [(5, .int v32), (0, .ref 999), (1, .ref 0), (2, .ref 45), (3, .ref 83), (4, .int x4)]) C dL_law_119 (by decide) rfl ?_
        refine pl_aload_n C 3 dL_law_121 rfl ?_
        refine pl_aload_n C 1 dL_law_122 rfl ?_
        refine pl_iload C 5 dL_law_123 rfl ?_
        refine pl_iconst C hp dL_law_125 (by decide) (fun v33 hp => ?_)
        refine pl_iadd C hp dL_law_126 (fun v34 hp => ?_)
        refine pl_sld C hX hbl hp dL_law_127 (fun v35 hp => ?_)
        refine pl_callV C (As := [.int v35]) (rest := []) (b1 := 45) (kd1 := 1) hp (fun q1 h9 => c_X11_function l D cy h9) wB_yX11_function ml_L_61 im_yX11_function se_yX11_function (ci := 10) rfl rfl rfl rfl rfl (Nat.le_of_ble_eq_true rfl) ⟨(Nat.le_of_ble_eq_true rfl), (Nat.le_of_ble_eq_true rfl)⟩ dL_law_128 rfl rfl rfl (fun v36 σ V hp => ?_)
        refine pl_istore (loc' := [(6, .int v36), (5, .int v32), (0, .ref 999), (1, .ref 0), (2, .ref 45), (3, .ref 83), (4, .int x4)]) C dL_law_131 (by decide) rfl ?_
        refine pl_goto (tgt := 650) C dL_law_133 (by decide) ?_
        refine pl_sub [2, 3, 4, 5, 6] rfl ?_
        exact w_law_b650 C hr hX hbl hL hZ hl0 ih hp
      refine pv_case (x := v28) (v := 1) hp (fun hx hp => ?_) (fun h40_1 hp => ?_)
      · refine pl_tableIn (tgt := 136) C hx dL_law_40 (by decide) (by decide) (off := 96) rfl (by decide) ?_
        refine pl_aload_n C 1 dL_law_136 rfl ?_
        refine pl_aload_n C 0 dL_law_137 rfl ?_
        refine pl_iload C 4 dL_law_138 rfl ?_
        refine pl_iconst C hp dL_law_140 (by decide) (fun v37 hp => ?_)
        refine pl_iadd C hp dL_law_141 (fun v38 hp => ?_)
        refine pl_sld C hX hbl hp dL_law_142 (fun v39 hp => ?_)
        refine pl_aload_n C 0 dL_law_143 rfl ?_
        refine pl_iload C 4 dL_law_144 rfl ?_
        refine pl_iconst C hp dL_law_146 (by decide) (fun v40 hp => ?_)
        refine pl_iadd C hp dL_law_147 (fun v41 hp => ?_)
        refine pl_sld C hX hbl hp dL_law_148 (fun v42 hp => ?_)
        refine pl_aload_n C 0 dL_law_149 rfl ?_
        refine pl_iload C 4 dL_law_150 rfl ?_
        refine pl_iconst C hp dL_law_152 (by decide) (fun v43 hp => ?_)
        refine pl_iadd C hp dL_law_153 (fun v44 hp => ?_)
        refine pl_sld C hX hbl hp dL_law_154 (fun v45 hp => ?_)
        refine pl_aload_n C 0 dL_law_155 rfl ?_
        refine pl_iload C 4 dL_law_156 rfl ?_
        refine pl_iconst C hp dL_law_158 (by decide) (fun v46 hp => ?_)
        refine pl_iadd C hp dL_law_159 (fun v47 hp => ?_)
        refine pl_sld C hX hbl hp dL_law_160 (fun v48 hp => ?_)
        refine pl_aload_n C 3 dL_law_161 rfl ?_
        refine pl_callSH C (As := [.ref 0, .int v39, .int v42, .int v45, .int v48, .ref 83]) (rest := []) hZ hp (fun q1 h9 => c_L_code l hl0 D cy h9) ini_L wH_yL_code wD_yL_code ml_L_62 sm_yL_code rfl rfl (Nat.le_of_ble_eq_true rfl) ⟨(Nat.le_of_ble_eq_true rfl), (Nat.le_of_ble_eq_true rfl)⟩ dL_law_162 rfl rfl rfl (fun v49 σ V hp => ?_)
        refine pl_istore (loc' := [(5, .int v49), (0, .ref 999), (1, .ref 0), (2, .ref 45), (3, .ref 83), (4, .int x4)]) C dL_law_165 (by decide) rfl ?_
        refine pl_aload_n C 3 dL_law_167 rfl ?_
        refine pl_aload_n C 1 dL_law_168 rfl ?_
        refine pl_iload C 5 dL_law_169 rfl ?_
        refine pl_iconst C hp dL_law_171 (by decide) (fun v50 hp => ?_)
        refine pl_iadd C hp dL_law_172 (fun v51 hp => ?_)
        refine pl_sld C hX hbl hp dL_law_173 (fun v52 hp => ?_)
        refine pl_aload_n C 1 dL_law_174 rfl ?_
        refine pl_iload C 5 dL_law_175 rfl ?_
        refine pl_iconst C hp dL_law_177 (by decide) (fun v53 hp => ?_)
        refine pl_iadd C hp dL_law_178 (fun v54 hp => ?_)
        refine pl_sld C hX hbl hp dL_law_179 (fun v55 hp => ?_)
        refine pl_aload_n C 1 dL_law_180 rfl ?_
        refine pl_iload C 5 dL_law_181 rfl ?_
        refine pl_iconst C hp dL_law_183 (by decide) (fun v56 hp => ?_)
        refine pl_iadd C hp dL_law_184 (fun v57 hp => ?_)
        refine pl_sld C hX hbl hp dL_law_185 (fun v58 hp => ?_)
        refine pl_aload_n C 1 dL_law_186 rfl ?_
        refine pl_iload C 5 dL_law_187 rfl ?_
        refine pl_iconst C hp dL_law_189 (by decide) (fun v59 hp => ?_)
        refine pl_iadd C hp dL_law_190 (fun v60 hp => ?_)
        refine pl_sld C hX hbl hp dL_law_191 (fun v61 hp => ?_)
        refine pl_callV C (As := [.int v52, .int v55, .int v58, .int v61]) (rest := []) (b1 := 45) (kd1 := 1) hp (fun q1 h9 => c_X11_code l D cy h9) wB_yX11_code ml_L_65 im_yX11_code se_yX11_code (ci := 10) rfl rfl rfl rfl rfl (Nat.le_of_ble_eq_true rfl) ⟨(Nat.le_of_ble_eq_true rfl), (Nat.le_of_ble_eq_true rfl)⟩ dL_law_192 rfl rfl rfl (fun v62 σ V hp => ?_)
        refine pl_istore (loc' := [(6, .int v62), (5, .int v49), (0, .ref 999), (1, .ref 0), (2, .ref 45), (3, .ref 83), (4, .int x4)]) C dL_law_195 (by decide) rfl ?_
        refine pl_goto (tgt := 650) C dL_law_197 (by decide) ?_
        refine pl_sub [2, 3, 4, 5, 6] rfl ?_
        exact w_law_b650 C hr hX hbl hL hZ hl0 ih hp
      refine pv_case (x := v28) (v := 2) hp (fun hx hp => ?_) (fun h40_2 hp => ?_)
      · refine pl_tableIn (tgt := 200) C hx dL_law_40 (by decide) (by decide) (off := 160) rfl (by decide) ?_
        refine pl_aload_n C 1 dL_law_200 rfl ?_
        refine pl_aload_n C 0 dL_law_201 rfl ?_
        refine pl_iload C 4 dL_law_202 rfl ?_
        refine pl_iconst C hp dL_law_204 (by decide) (fun v63 hp => ?_)
        refine pl_iadd C hp dL_law_205 (fun v64 hp => ?_)
        refine pl_sld C hX hbl hp dL_law_206 (fun v65 hp => ?_)
        refine pl_i2l C hp dL_law_207 (fun v66 hp => ?_)
        refine pl_bipush C hp dL_law_208 (by decide) (fun v67 hp => ?_)
        refine pl_lshl C hp dL_law_210 (fun v68 hp => ?_)
        refine pl_aload_n C 0 dL_law_211 rfl ?_
        refine pl_iload C 4 dL_law_212 rfl ?_
        refine pl_iconst C hp dL_law_214 (by decide) (fun v69 hp => ?_)
        refine pl_iadd C hp dL_law_215 (fun v70 hp => ?_)
        refine pl_sld C hX hbl hp dL_law_216 (fun v71 hp => ?_)
        refine pl_i2l C hp dL_law_217 (fun v72 hp => ?_)
        refine pl_ldc2 C hp dL_law_218 kl_L_66 (by decide) (fun v73 hp => ?_)
        refine pl_land C hp dL_law_221 (fun v74 hp => ?_)
        refine pl_lor C hp dL_law_222 (fun v75 hp => ?_)
        refine pl_aload_n C 3 dL_law_223 rfl ?_
        refine pl_callSH C (As := [.ref 0, .long v75, .ref 83]) (rest := []) hZ hp (fun q1 h9 => c_L_recipe l hl0 D cy h9) ini_L wH_yL_recipe wD_yL_recipe ml_L_68 sm_yL_recipe rfl rfl (Nat.le_of_ble_eq_true rfl) ⟨(Nat.le_of_ble_eq_true rfl), (Nat.le_of_ble_eq_true rfl)⟩ dL_law_224 rfl rfl rfl (fun v76 σ V hp => ?_)
        refine pl_istore (loc' := [(5, .int v76), (0, .ref 999), (1, .ref 0), (2, .ref 45), (3, .ref 83), (4, .int x4)]) C dL_law_227 (by decide) rfl ?_
        refine pl_aload_n C 3 dL_law_229 rfl ?_
        refine pl_aload_n C 1 dL_law_230 rfl ?_
        refine pl_iload C 5 dL_law_231 rfl ?_
        refine pl_iconst C hp dL_law_233 (by decide) (fun v77 hp => ?_)
        refine pl_iadd C hp dL_law_234 (fun v78 hp => ?_)
        refine pl_sld C hX hbl hp dL_law_235 (fun v79 hp => ?_)
        refine pl_i2l C hp dL_law_236 (fun v80 hp => ?_)
        refine pl_bipush C hp dL_law_237 (by decide) (fun v81 hp => ?_)
        refine pl_lshl C hp dL_law_239 (fun v82 hp => ?_)
        refine pl_aload_n C 1 dL_law_240 rfl ?_
        refine pl_iload C 5 dL_law_241 rfl ?_
        refine pl_iconst C hp dL_law_243 (by decide) (fun v83 hp => ?_)
        refine pl_iadd C hp dL_law_244 (fun v84 hp => ?_)
        refine pl_sld C hX hbl hp dL_law_245 (fun v85 hp => ?_)
        refine pl_i2l C hp dL_law_246 (fun v86 hp => ?_)
        refine pl_ldc2 C hp dL_law_247 kl_L_66 (by decide) (fun v87 hp => ?_)
        refine pl_land C hp dL_law_250 (fun v88 hp => ?_)
        refine pl_lor C hp dL_law_251 (fun v89 hp => ?_)
        refine pl_callV C (As := [.long v89]) (rest := []) (b1 := 45) (kd1 := 1) hp (fun q1 h9 => c_X11_recipe l D cy h9) wB_yX11_recipe ml_L_71 im_yX11_recipe se_yX11_recipe (ci := 10) rfl rfl rfl rfl rfl (Nat.le_of_ble_eq_true rfl) ⟨(Nat.le_of_ble_eq_true rfl), (Nat.le_of_ble_eq_true rfl)⟩ dL_law_252 rfl rfl rfl (fun v90 σ V hp => ?_)
        refine pl_istore (loc' := [(6, .int v90), (5, .int v76), (0, .ref 999), (1, .ref 0), (2, .ref 45), (3, .ref 83), (4, .int x4)]) C dL_law_255 (by decide) rfl ?_
        refine pl_goto (tgt := 650) C dL_law_257 (by decide) ?_
        refine pl_sub [2, 3, 4, 5, 6] rfl ?_
        exact w_law_b650 C hr hX hbl hL hZ hl0 ih hp
      refine pv_case (x := v28) (v := 3) hp (fun hx hp => ?_) (fun h40_3 hp => ?_)
      · refine pl_tableIn (tgt := 260) C hx dL_law_40 (by decide) (by decide) (off := 220) rfl (by decide) ?_
        refine pl_aload_n C 1 dL_law_260 rfl ?_
        refine pl_callV C (As := []) (rest := []) (b1 := 0) (kd1 := 1) hp (fun q1 h9 => c_X10_check l D cy h9) wB_yX10_check ml_L_72 im_yX10_check se_yX10_check (ci := 9) rfl rfl rfl rfl rfl (Nat.le_of_ble_eq_true rfl) ⟨(Nat.le_of_ble_eq_true rfl), (Nat.le_of_ble_eq_true rfl)⟩ dL_law_261 rfl rfl rfl (fun v91 σ V hp => ?_)
        refine pl_pop C dL_law_264 rfl ?_
        refine pl_aload_n C 2 dL_law_265 rfl ?_
        refine pl_callV C (As := []) (rest := []) (b1 := 45) (kd1 := 1) hp (fun q1 h9 => c_X11_check l D cy h9) wB_yX11_check ml_L_76 im_yX11_check se_yX11_check (ci := 10) rfl rfl rfl rfl rfl (Nat.le_of_ble_eq_true rfl) ⟨(Nat.le_of_ble_eq_true rfl), (Nat.le_of_ble_eq_true rfl)⟩ dL_law_266 rfl rfl rfl (fun v92 σ V hp => ?_)
        refine pl_pop C dL_law_269 rfl ?_
        refine pl_goto (tgt := 650) C dL_law_270 (by decide) ?_
        exact w_law_b650 C hr hX hbl hL hZ hl0 ih hp
      refine pv_case (x := v28) (v := 4) hp (fun hx hp => ?_) (fun h40_4 hp => ?_)
      · refine pl_tableIn (tgt := 273) C hx dL_law_40 (by decide) (by decide) (off := 233) rfl (by decide) ?_
        refine pl_aload_n C 1 dL_law_273 rfl ?_
        refine pl_callV C (As := []) (rest := []) (b1 := 0) (kd1 := 1) hp (fun q1 h9 => c_X10_lower l D cy h9) wB_yX10_lower ml_L_77 im_yX10_lower se_yX10_lower (ci := 9) rfl rfl rfl rfl rfl (Nat.le_of_ble_eq_true rfl) ⟨(Nat.le_of_ble_eq_true rfl), (Nat.le_of_ble_eq_true rfl)⟩ dL_law_274 rfl rfl rfl (fun v93 σ V hp => ?_)
        refine pl_pop C dL_law_277 rfl ?_
        refine pl_aload_n C 2 dL_law_278 rfl ?_
        refine pl_callV C (As := []) (rest := []) (b1 := 45) (kd1 := 1) hp (fun q1 h9 => c_X11_lower l D cy h9) wB_yX11_lower ml_L_80 im_yX11_lower se_yX11_lower (ci := 10) rfl rfl rfl rfl rfl (Nat.le_of_ble_eq_true rfl) ⟨(Nat.le_of_ble_eq_true rfl), (Nat.le_of_ble_eq_true rfl)⟩ dL_law_279 rfl rfl rfl (fun v94 σ V hp => ?_)
        refine pl_pop C dL_law_282 rfl ?_
        refine pl_goto (tgt := 650) C dL_law_283 (by decide) ?_
        exact w_law_b650 C hr hX hbl hL hZ hl0 ih hp
      refine pv_case (x := v28) (v := 5) hp (fun hx hp => ?_) (fun h40_5 hp => ?_)
      · refine pl_tableIn (tgt := 286) C hx dL_law_40 (by decide) (by decide) (off := 246) rfl (by decide) ?_
        refine pl_aload_n C 1 dL_law_286 rfl ?_
        refine pl_aload_n C 0 dL_law_287 rfl ?_
        refine pl_iload C 4 dL_law_288 rfl ?_
        refine pl_iconst C hp dL_law_290 (by decide) (fun v95 hp => ?_)
        refine pl_iadd C hp dL_law_291 (fun v96 hp => ?_)
        refine pl_sld C hX hbl hp dL_law_292 (fun v97 hp => ?_)
        refine pl_aload_n C 3 dL_law_293 rfl ?_
        refine pl_callSH C (As := [.ref 0, .int v97, .ref 83]) (rest := []) hZ hp (fun q1 h9 => c_L_count l hl0 D cy h9) ini_L wH_yL_count wD_yL_count ml_L_81 sm_yL_count rfl rfl (Nat.le_of_ble_eq_true rfl) ⟨(Nat.le_of_ble_eq_true rfl), (Nat.le_of_ble_eq_true rfl)⟩ dL_law_294 rfl rfl rfl (fun v98 σ V hp => ?_)
        refine pl_istore (loc' := [(5, .int v98), (0, .ref 999), (1, .ref 0), (2, .ref 45), (3, .ref 83), (4, .int x4)]) C dL_law_297 (by decide) rfl ?_
        refine pl_aload_n C 3 dL_law_299 rfl ?_
        refine pl_aload_n C 1 dL_law_300 rfl ?_
        refine pl_iload C 5 dL_law_301 rfl ?_
        refine pl_iconst C hp dL_law_303 (by decide) (fun v99 hp => ?_)
        refine pl_iadd C hp dL_law_304 (fun v100 hp => ?_)
        refine pl_sld C hX hbl hp dL_law_305 (fun v101 hp => ?_)
        refine pl_callV C (As := [.int v101]) (rest := []) (b1 := 45) (kd1 := 1) hp (fun q1 h9 => c_X11_count l D cy h9) wB_yX11_count ml_L_83 im_yX11_count se_yX11_count (ci := 10) rfl rfl rfl rfl rfl (Nat.le_of_ble_eq_true rfl) ⟨(Nat.le_of_ble_eq_true rfl), (Nat.le_of_ble_eq_true rfl)⟩ dL_law_306 rfl rfl rfl (fun v102 σ V hp => ?_)
        refine pl_istore (loc' := [(6, .int v102), (5, .int v98), (0, .ref 999), (1, .ref 0), (2, .ref 45), (3, .ref 83), (4, .int x4)]) C dL_law_309 (by decide) rfl ?_
        refine pl_goto (tgt := 650) C dL_law_311 (by decide) ?_
        refine pl_sub [2, 3, 4, 5, 6] rfl ?_
        exact w_law_b650 C hr hX hbl hL hZ hl0 ih hp
      refine pv_case (x := v28) (v := 6) hp (fun hx hp => ?_) (fun h40_6 hp => ?_)
      · refine pl_tableIn (tgt := 314) C hx dL_law_40 (by decide) (by decide) (off := 274) rfl (by decide) ?_
        refine pl_aload_n C 1 dL_law_314 rfl ?_
        refine pl_aload_n C 0 dL_law_315 rfl ?_
        refine pl_iload C 4 dL_law_316 rfl ?_
        refine pl_iconst C hp dL_law_318 (by decide) (fun v103 hp => ?_)
        refine pl_iadd C hp dL_law_319 (fun v104 hp => ?_)
        refine pl_sld C hX hbl hp dL_law_320 (fun v105 hp => ?_)
        refine pl_aload_n C 0 dL_law_321 rfl ?_
        refine pl_iload C 4 dL_law_322 rfl ?_
        refine pl_iconst C hp dL_law_324 (by decide) (fun v106 hp => ?_)
        refine pl_iadd C hp dL_law_325 (fun v107 hp => ?_)
        refine pl_sld C hX hbl hp dL_law_326 (fun v108 hp => ?_)
        refine pl_aload_n C 3 dL_law_327 rfl ?_
        refine pl_callSH C (As := [.ref 0, .int v105, .int v108, .ref 83]) (rest := []) hZ hp (fun q1 h9 => c_L_size l hl0 D cy h9) ini_L wH_yL_size wD_yL_size ml_L_84 sm_yL_size rfl rfl (Nat.le_of_ble_eq_true rfl) ⟨(Nat.le_of_ble_eq_true rfl), (Nat.le_of_ble_eq_true rfl)⟩ dL_law_328 rfl rfl rfl (fun v109 σ V hp => ?_)
        refine pl_istore (loc' := [(5, .int v109), (0, .ref 999), (1, .ref 0), (2, .ref 45), (3, .ref 83), (4, .int x4)]) C dL_law_331 (by decide) rfl ?_
        refine pl_aload_n C 3 dL_law_333 rfl ?_
        refine pl_aload_n C 1 dL_law_334 rfl ?_
        refine pl_iload C 5 dL_law_335 rfl ?_
        refine pl_iconst C hp dL_law_337 (by decide) (fun v110 hp => ?_)
        refine pl_iadd C hp dL_law_338 (fun v111 hp => ?_)
        refine pl_sld C hX hbl hp dL_law_339 (fun v112 hp => ?_)
        refine pl_aload_n C 1 dL_law_340 rfl ?_
        refine pl_iload C 5 dL_law_341 rfl ?_
        refine pl_iconst C hp dL_law_343 (by decide) (fun v113 hp => ?_)
        refine pl_iadd C hp dL_law_344 (fun v114 hp => ?_)
        refine pl_sld C hX hbl hp dL_law_345 (fun v115 hp => ?_)
        refine pl_callV C (As := [.int v112, .int v115]) (rest := []) (b1 := 45) (kd1 := 1) hp (fun q1 h9 => c_X11_size l D cy h9) wB_yX11_size ml_L_87 im_yX11_size se_yX11_size (ci := 10) rfl rfl rfl rfl rfl (Nat.le_of_ble_eq_true rfl) ⟨(Nat.le_of_ble_eq_true rfl), (Nat.le_of_ble_eq_true rfl)⟩ dL_law_346 rfl rfl rfl (fun v116 σ V hp => ?_)
        refine pl_istore (loc' := [(6, .int v116), (5, .int v109), (0, .ref 999), (1, .ref 0), (2, .ref 45), (3, .ref 83), (4, .int x4)]) C dL_law_349 (by decide) rfl ?_
        refine pl_goto (tgt := 650) C dL_law_351 (by decide) ?_
        refine pl_sub [2, 3, 4, 5, 6] rfl ?_
        exact w_law_b650 C hr hX hbl hL hZ hl0 ih hp
      refine pv_case (x := v28) (v := 7) hp (fun hx hp => ?_) (fun h40_7 hp => ?_)
      · refine pl_tableIn (tgt := 354) C hx dL_law_40 (by decide) (by decide) (off := 314) rfl (by decide) ?_
        refine pl_aload_n C 1 dL_law_354 rfl ?_
        refine pl_aload_n C 0 dL_law_355 rfl ?_
        refine pl_iload C 4 dL_law_356 rfl ?_
        refine pl_iconst C hp dL_law_358 (by decide) (fun v117 hp => ?_)
        refine pl_iadd C hp dL_law_359 (fun v118 hp => ?_)
        refine pl_sld C hX hbl hp dL_law_360 (fun v119 hp => ?_)
        refine pl_aload_n C 0 dL_law_361 rfl ?_
        refine pl_iload C 4 dL_law_362 rfl ?_
        refine pl_iconst C hp dL_law_364 (by decide) (fun v120 hp => ?_)
        refine pl_iadd C hp dL_law_365 (fun v121 hp => ?_)
        refine pl_sld C hX hbl hp dL_law_366 (fun v122 hp => ?_)
        refine pl_aload_n C 0 dL_law_367 rfl ?_
        refine pl_iload C 4 dL_law_368 rfl ?_
        refine pl_iconst C hp dL_law_370 (by decide) (fun v123 hp => ?_)
        refine pl_iadd C hp dL_law_371 (fun v124 hp => ?_)
        refine pl_sld C hX hbl hp dL_law_372 (fun v125 hp => ?_)
        refine pl_aload_n C 3 dL_law_373 rfl ?_
        refine pl_callSH C (As := [.ref 0, .int v119, .int v122, .int v125, .ref 83]) (rest := []) hZ hp (fun q1 h9 => c_L_plain l hl0 D cy h9) ini_L wH_yL_plain wD_yL_plain ml_L_88 sm_yL_plain rfl rfl (Nat.le_of_ble_eq_true rfl) ⟨(Nat.le_of_ble_eq_true rfl), (Nat.le_of_ble_eq_true rfl)⟩ dL_law_374 rfl rfl rfl (fun v126 σ V hp => ?_)
        refine pl_istore (loc' := [(5, .int v126), (0, .ref 999), (1, .ref 0), (2, .ref 45), (3, .ref 83), (4, .int x4)]) C dL_law_377 (by decide) rfl ?_
        refine pl_aload_n C 3 dL_law_379 rfl ?_
        refine pl_aload_n C 1 dL_law_380 rfl ?_
        refine pl_iload C 5 dL_law_381 rfl ?_
        refine pl_iconst C hp dL_law_383 (by decide) (fun v127 hp => ?_)
        refine pl_iadd C hp dL_law_384 (fun v128 hp => ?_)
        refine pl_sld C hX hbl hp dL_law_385 (fun v129 hp => ?_)
        refine pl_aload_n C 1 dL_law_386 rfl ?_
        refine pl_iload C 5 dL_law_387 rfl ?_
        refine pl_iconst C hp dL_law_389 (by decide) (fun v130 hp => ?_)
        refine pl_iadd C hp dL_law_390 (fun v131 hp => ?_)
        refine pl_sld C hX hbl hp dL_law_391 (fun v132 hp => ?_)
        refine pl_aload_n C 1 dL_law_392 rfl ?_
        refine pl_iload C 5 dL_law_393 rfl ?_
        refine pl_iconst C hp dL_law_395 (by decide) (fun v133 hp => ?_)
        refine pl_iadd C hp dL_law_396 (fun v134 hp => ?_)
        refine pl_sld C hX hbl hp dL_law_397 (fun v135 hp => ?_)
        refine pl_callV C (As := [.int v129, .int v132, .int v135]) (rest := []) (b1 := 45) (kd1 := 1) hp (fun q1 h9 => c_X11_plain l D cy h9) wB_yX11_plain ml_L_91 im_yX11_plain se_yX11_plain (ci := 10) rfl rfl rfl rfl rfl (Nat.le_of_ble_eq_true rfl) ⟨(Nat.le_of_ble_eq_true rfl), (Nat.le_of_ble_eq_true rfl)⟩ dL_law_398 rfl rfl rfl (fun v136 σ V hp => ?_)
        refine pl_istore (loc' := [(6, .int v136), (5, .int v126), (0, .ref 999), (1, .ref 0), (2, .ref 45), (3, .ref 83), (4, .int x4)]) C dL_law_401 (by decide) rfl ?_
        refine pl_goto (tgt := 650) C dL_law_403 (by decide) ?_
        refine pl_sub [2, 3, 4, 5, 6] rfl ?_
        exact w_law_b650 C hr hX hbl hL hZ hl0 ih hp
      refine pv_case (x := v28) (v := 8) hp (fun hx hp => ?_) (fun h40_8 hp => ?_)
      · refine pl_tableIn (tgt := 406) C hx dL_law_40 (by decide) (by decide) (off := 366) rfl (by decide) ?_
        refine pl_aload_n C 1 dL_law_406 rfl ?_
        refine pl_aload_n C 0 dL_law_407 rfl ?_
        refine pl_iload C 4 dL_law_408 rfl ?_
        refine pl_iconst C hp dL_law_410 (by decide) (fun v137 hp => ?_)
        refine pl_iadd C hp dL_law_411 (fun v138 hp => ?_)
        refine pl_sld C hX hbl hp dL_law_412 (fun v139 hp => ?_)
        refine pl_aload_n C 0 dL_law_413 rfl ?_
        refine pl_iload C 4 dL_law_414 rfl ?_
        refine pl_iconst C hp dL_law_416 (by decide) (fun v140 hp => ?_)
        refine pl_iadd C hp dL_law_417 (fun v141 hp => ?_)
        refine pl_sld C hX hbl hp dL_law_418 (fun v142 hp => ?_)
        refine pl_aload_n C 3 dL_law_419 rfl ?_
        refine pl_callSH C (As := [.ref 0, .int v139, .int v142, .ref 83]) (rest := []) hZ hp (fun q1 h9 => c_L_made l hl0 D cy h9) ini_L wH_yL_made wD_yL_made ml_L_92 sm_yL_made rfl rfl (Nat.le_of_ble_eq_true rfl) ⟨(Nat.le_of_ble_eq_true rfl), (Nat.le_of_ble_eq_true rfl)⟩ dL_law_420 rfl rfl rfl (fun v143 σ V hp => ?_)
        refine pl_istore (loc' := [(5, .int v143), (0, .ref 999), (1, .ref 0), (2, .ref 45), (3, .ref 83), (4, .int x4)]) C dL_law_423 (by decide) rfl ?_
        refine pl_aload_n C 3 dL_law_425 rfl ?_
        refine pl_aload_n C 1 dL_law_426 rfl ?_
        refine pl_iload C 5 dL_law_427 rfl ?_
        refine pl_iconst C hp dL_law_429 (by decide) (fun v144 hp => ?_)
        refine pl_iadd C hp dL_law_430 (fun v145 hp => ?_)
        refine pl_sld C hX hbl hp dL_law_431 (fun v146 hp => ?_)
        refine pl_aload_n C 1 dL_law_432 rfl ?_
        refine pl_iload C 5 dL_law_433 rfl ?_
        refine pl_iconst C hp dL_law_435 (by decide) (fun v147 hp => ?_)
        refine pl_iadd C hp dL_law_436 (fun v148 hp => ?_)
        refine pl_sld C hX hbl hp dL_law_437 (fun v149 hp => ?_)
        refine pl_callV C (As := [.int v146, .int v149]) (rest := []) (b1 := 45) (kd1 := 1) hp (fun q1 h9 => c_X11_made l D cy h9) wB_yX11_made ml_L_94 im_yX11_made se_yX11_made (ci := 10) rfl rfl rfl rfl rfl (Nat.le_of_ble_eq_true rfl) ⟨(Nat.le_of_ble_eq_true rfl), (Nat.le_of_ble_eq_true rfl)⟩ dL_law_438 rfl rfl rfl (fun v150 σ V hp => ?_)
        refine pl_istore (loc' := [(6, .int v150), (5, .int v143), (0, .ref 999), (1, .ref 0), (2, .ref 45), (3, .ref 83), (4, .int x4)]) C dL_law_441 (by decide) rfl ?_
        refine pl_goto (tgt := 650) C dL_law_443 (by decide) ?_
        refine pl_sub [2, 3, 4, 5, 6] rfl ?_
        exact w_law_b650 C hr hX hbl hL hZ hl0 ih hp
      refine pv_case (x := v28) (v := 9) hp (fun hx hp => ?_) (fun h40_9 hp => ?_)
      · refine pl_tableIn (tgt := 446) C hx dL_law_40 (by decide) (by decide) (off := 406) rfl (by decide) ?_
        refine pl_aload_n C 1 dL_law_446 rfl ?_
        refine pl_aload_n C 0 dL_law_447 rfl ?_
        refine pl_iload C 4 dL_law_448 rfl ?_
        refine pl_iconst C hp dL_law_450 (by decide) (fun v151 hp => ?_)
        refine pl_iadd C hp dL_law_451 (fun v152 hp => ?_)
        refine pl_sld C hX hbl hp dL_law_452 (fun v153 hp => ?_)
        refine pl_aload_n C 3 dL_law_453 rfl ?_
        refine pl_callSH C (As := [.ref 0, .int v153, .ref 83]) (rest := []) hZ hp (fun q1 h9 => c_L_character l hl0 D cy h9) ini_L wH_yL_character wD_yL_character ml_L_95 sm_yL_character rfl rfl (Nat.le_of_ble_eq_true rfl) ⟨(Nat.le_of_ble_eq_true rfl), (Nat.le_of_ble_eq_true rfl)⟩ dL_law_454 rfl rfl rfl (fun v154 σ V hp => ?_)
        refine pl_istore (loc' := [(5, .int v154), (0, .ref 999), (1, .ref 0), (2, .ref 45), (3, .ref 83), (4, .int x4)]) C dL_law_457 (by decide) rfl ?_
        refine pl_aload_n C 3 dL_law_459 rfl ?_
        refine pl_aload_n C 1 dL_law_460 rfl ?_
        refine pl_iload C 5 dL_law_461 rfl ?_
        refine pl_iconst C hp dL_law_463 (by decide) (fun v155 hp => ?_)
        refine pl_iadd C hp dL_law_464 (fun v156 hp => ?_)
        refine pl_sld C hX hbl hp dL_law_465 (fun v157 hp => ?_)
        refine pl_callV C (As := [.int v157]) (rest := []) (b1 := 45) (kd1 := 1) hp (fun q1 h9 => c_X11_character l D cy h9) wB_yX11_character ml_L_97 im_yX11_character se_yX11_character (ci := 10) rfl rfl rfl rfl rfl (Nat.le_of_ble_eq_true rfl) ⟨(Nat.le_of_ble_eq_true rfl), (Nat.le_of_ble_eq_true rfl)⟩ dL_law_466 rfl rfl rfl (fun v158 σ V hp => ?_)
        refine pl_istore (loc' := [(6, .int v158), (5, .int v154), (0, .ref 999), (1, .ref 0), (2, .ref 45), (3, .ref 83), (4, .int x4)]) C dL_law_469 (by decide) rfl ?_
        refine pl_goto (tgt := 650) C dL_law_471 (by decide) ?_
        refine pl_sub [2, 3, 4, 5, 6] rfl ?_
        exact w_law_b650 C hr hX hbl hL hZ hl0 ih hp
      refine pv_case (x := v28) (v := 10) hp (fun hx hp => ?_) (fun h40_10 hp => ?_)
      · refine pl_tableIn (tgt := 474) C hx dL_law_40 (by decide) (by decide) (off := 434) rfl (by decide) ?_
        refine pl_aload_n C 1 dL_law_474 rfl ?_
        refine pl_aload_n C 0 dL_law_475 rfl ?_
        refine pl_iload C 4 dL_law_476 rfl ?_
        refine pl_iconst C hp dL_law_478 (by decide) (fun v159 hp => ?_)
        refine pl_iadd C hp dL_law_479 (fun v160 hp => ?_)
        refine pl_sld C hX hbl hp dL_law_480 (fun v161 hp => ?_)
        refine pl_aload_n C 0 dL_law_481 rfl ?_
        refine pl_iload C 4 dL_law_482 rfl ?_
        refine pl_iconst C hp dL_law_484 (by decide) (fun v162 hp => ?_)
        refine pl_iadd C hp dL_law_485 (fun v163 hp => ?_)
        refine pl_sld C hX hbl hp dL_law_486 (fun v164 hp => ?_)
        refine pl_aload_n C 0 dL_law_487 rfl ?_
        refine pl_iload C 4 dL_law_488 rfl ?_
        refine pl_iconst C hp dL_law_490 (by decide) (fun v165 hp => ?_)
        refine pl_iadd C hp dL_law_491 (fun v166 hp => ?_)
        refine pl_sld C hX hbl hp dL_law_492 (fun v167 hp => ?_)
        refine pl_aload_n C 0 dL_law_493 rfl ?_
        refine pl_iload C 4 dL_law_494 rfl ?_
        refine pl_iconst C hp dL_law_496 (by decide) (fun v168 hp => ?_)
        refine pl_iadd C hp dL_law_497 (fun v169 hp => ?_)
        refine pl_sld C hX hbl hp dL_law_498 (fun v170 hp => ?_)
        refine pl_aload_n C 0 dL_law_499 rfl ?_
        refine pl_iload C 4 dL_law_500 rfl ?_
        refine pl_iconst C hp dL_law_502 (by decide) (fun v171 hp => ?_)
        refine pl_iadd C hp dL_law_503 (fun v172 hp => ?_)
        refine pl_sld C hX hbl hp dL_law_504 (fun v173 hp => ?_)
        refine pl_if_eq (tgt := 512) C hp dL_law_505 (by decide) (fun hp => ?_) (fun hp => ?_)
        · refine pl_iconst C hp dL_law_512 (by decide) (fun v174 hp => ?_)
          exact w_law_b513 C hr hX hbl hL hZ hl0 ih hp
        · refine pl_iconst C hp dL_law_508 (by decide) (fun v175 hp => ?_)
          refine pl_goto (tgt := 513) C dL_law_509 (by decide) ?_
          exact w_law_b513 C hr hX hbl hL hZ hl0 ih hp
      refine pv_case (x := v28) (v := 11) hp (fun hx hp => ?_) (fun h40_11 hp => ?_)
      · refine pl_tableIn (tgt := 566) C hx dL_law_40 (by decide) (by decide) (off := 526) rfl (by decide) ?_
        refine pl_aload_n C 1 dL_law_566 rfl ?_
        refine pl_aload_n C 0 dL_law_567 rfl ?_
        refine pl_iload C 4 dL_law_568 rfl ?_
        refine pl_iconst C hp dL_law_570 (by decide) (fun v176 hp => ?_)
        refine pl_iadd C hp dL_law_571 (fun v177 hp => ?_)
        refine pl_sld C hX hbl hp dL_law_572 (fun v178 hp => ?_)
        refine pl_aload_n C 3 dL_law_573 rfl ?_
        refine pl_callSH C (As := [.ref 0, .int v178, .ref 83]) (rest := []) hZ hp (fun q1 h9 => c_L_told l hl0 D cy h9) ini_L wH_yL_told wD_yL_told ml_L_102 sm_yL_told rfl rfl (Nat.le_of_ble_eq_true rfl) ⟨(Nat.le_of_ble_eq_true rfl), (Nat.le_of_ble_eq_true rfl)⟩ dL_law_574 rfl rfl rfl (fun v179 σ V hp => ?_)
        refine pl_istore (loc' := [(5, .int v179), (0, .ref 999), (1, .ref 0), (2, .ref 45), (3, .ref 83), (4, .int x4)]) C dL_law_577 (by decide) rfl ?_
        refine pl_aload_n C 3 dL_law_579 rfl ?_
        refine pl_aload_n C 1 dL_law_580 rfl ?_
        refine pl_iload C 5 dL_law_581 rfl ?_
        refine pl_iconst C hp dL_law_583 (by decide) (fun v180 hp => ?_)
        refine pl_iadd C hp dL_law_584 (fun v181 hp => ?_)
        refine pl_sld C hX hbl hp dL_law_585 (fun v182 hp => ?_)
        refine pl_callV C (As := [.int v182]) (rest := []) (b1 := 45) (kd1 := 1) hp (fun q1 h9 => c_X11_told l D cy h9) wB_yX11_told ml_L_104 im_yX11_told se_yX11_told (ci := 10) rfl rfl rfl rfl rfl (Nat.le_of_ble_eq_true rfl) ⟨(Nat.le_of_ble_eq_true rfl), (Nat.le_of_ble_eq_true rfl)⟩ dL_law_586 rfl rfl rfl (fun v183 σ V hp => ?_)
        refine pl_istore (loc' := [(6, .int v183), (5, .int v179), (0, .ref 999), (1, .ref 0), (2, .ref 45), (3, .ref 83), (4, .int x4)]) C dL_law_589 (by decide) rfl ?_
        refine pl_aload_n C 4 dL_law_591 rfl ?_
        refine pl_callV C (As := []) (rest := []) (b1 := 45) (kd1 := 1) hp (fun q1 h9 => c_X11_thrown l D cy h9) wB_yX11_thrown ml_L_105 im_yX11_thrown se_yX11_thrown (ci := 10) rfl rfl rfl rfl rfl (Nat.le_of_ble_eq_true rfl) ⟨(Nat.le_of_ble_eq_true rfl), (Nat.le_of_ble_eq_true rfl)⟩ dL_law_592 rfl rfl rfl (fun v184 σ V hp => ?_)
        refine pl_iload C 1 dL_law_595 rfl ?_
        refine pl_icmp_eq (tgt := 602) C hp dL_law_597 (by decide) (fun hp => ?_) (fun hp => ?_)
        · refine pl_iload C 1 dL_law_602 rfl ?_
          refine pl_if_ne (tgt := 619) C hp dL_law_604 (by decide) (fun hp => ?_) (fun hp => ?_)
          · refine pl_goto (tgt := 650) C dL_law_619 (by decide) ?_
            refine pl_sub [2, 3, 4, 5, 6] rfl ?_
            exact w_law_b650 C hr hX hbl hL hZ hl0 ih hp
          · refine pl_aload_n C 5 dL_law_607 rfl ?_
            refine pl_iconst C hp dL_law_608 (by decide) (fun v185 hp => ?_)
            refine pl_lald C hp dL_law_609 (fun v186 hp => ?_)
            refine pl_iload C 0 dL_law_610 rfl ?_
            refine pl_i2l C hp dL_law_612 (fun v187 hp => ?_)
            refine pl_lcmp C hp dL_law_613 (fun v188 hp => ?_)
            refine pl_if_eq (tgt := 619) C hp dL_law_614 (by decide) (fun hp => ?_) (fun hp => ?_)
            · refine pl_goto (tgt := 650) C dL_law_619 (by decide) ?_
              refine pl_sub [2, 3, 4, 5, 6] rfl ?_
              exact w_law_b650 C hr hX hbl hL hZ hl0 ih hp
            · refine pl_iconst C hp dL_law_617 (by decide) (fun v189 hp => ?_)
              exact pl_ret C hr hp dL_law_618
        · refine pl_iconst C hp dL_law_600 (by decide) (fun v191 hp => ?_)
          exact pl_ret C hr hp dL_law_601
      refine pv_case (x := v28) (v := 12) hp (fun hx hp => ?_) (fun h40_12 hp => ?_)
      · refine pl_tableIn (tgt := 622) C hx dL_law_40 (by decide) (by decide) (off := 582) rfl (by decide) ?_
        refine pl_aload_n C 1 dL_law_622 rfl ?_
        refine pl_aload_n C 0 dL_law_623 rfl ?_
        refine pl_iload C 4 dL_law_624 rfl ?_
        refine pl_iconst C hp dL_law_626 (by decide) (fun v193 hp => ?_)
        refine pl_iadd C hp dL_law_627 (fun v194 hp => ?_)
        refine pl_sld C hX hbl hp dL_law_628 (fun v195 hp => ?_)
        refine pl_aload_n C 3 dL_law_629 rfl ?_
        refine pl_callSH C (As := [.ref 0, .int v195, .ref 83]) (rest := []) hZ hp (fun q1 h9 => c_L_said l hl0 D cy h9) ini_L wH_yL_said wD_yL_said ml_L_108 sm_yL_said rfl rfl (Nat.le_of_ble_eq_true rfl) ⟨(Nat.le_of_ble_eq_true rfl), (Nat.le_of_ble_eq_true rfl)⟩ dL_law_630 rfl rfl rfl (fun v196 σ V hp => ?_)
        refine pl_istore (loc' := [(5, .int v196), (0, .ref 999), (1, .ref 0), (2, .ref 45), (3, .ref 83), (4, .int x4)]) C dL_law_633 (by decide) rfl ?_
        refine pl_aload_n C 3 dL_law_635 rfl ?_
        refine pl_aload_n C 1 dL_law_636 rfl ?_
        refine pl_iload C 5 dL_law_637 rfl ?_
        refine pl_iconst C hp dL_law_639 (by decide) (fun v197 hp => ?_)
        refine pl_iadd C hp dL_law_640 (fun v198 hp => ?_)
        refine pl_sld C hX hbl hp dL_law_641 (fun v199 hp => ?_)
        refine pl_callV C (As := [.int v199]) (rest := []) (b1 := 45) (kd1 := 1) hp (fun q1 h9 => c_X11_said l D cy h9) wB_yX11_said ml_L_110 im_yX11_said se_yX11_said (ci := 10) rfl rfl rfl rfl rfl (Nat.le_of_ble_eq_true rfl) ⟨(Nat.le_of_ble_eq_true rfl), (Nat.le_of_ble_eq_true rfl)⟩ dL_law_642 rfl rfl rfl (fun v200 σ V hp => ?_)
        refine pl_istore (loc' := [(6, .int v200), (5, .int v196), (0, .ref 999), (1, .ref 0), (2, .ref 45), (3, .ref 83), (4, .int x4)]) C dL_law_645 (by decide) rfl ?_
        refine pl_goto (tgt := 650) C dL_law_647 (by decide) ?_
        refine pl_sub [2, 3, 4, 5, 6] rfl ?_
        exact w_law_b650 C hr hX hbl hL hZ hl0 ih hp
      refine pl_tableOut (tgt := 650) C (by omega) dL_law_40 (by decide) ?_
      exact w_law_b650 C hr hX hbl hL hZ hl0 ih hp
