/-! THE REFERENCE'S STEP -/
def mbd (N : Nat) (v13 v14 v19 : Int) (V : pvM) : Option pvO :=
  if v19 = 0 then
    lI (1) fun v20 =>
    cL (q_X11_push N v20 v14 V) fun _ V =>
    rT V 0
  else
  if v19 = 1 then
    lI (8) fun v21 =>
    gR V 45 36 fun v22 =>
    lI (pv_w (v21 * v22)) fun v23 =>
    lI (pv_w (v23 + v14)) fun v24 =>
    aR V 72 256 v24 fun v25 =>
    lI (8) fun v26 =>
    gR V 45 36 fun v27 =>
    lI (pv_w (v26 * v27)) fun v28 =>
    lI (pv_w (v28 + v14)) fun v29 =>
    aR V 73 256 v29 fun v30 =>
    cL (q_X11_push N v25 v30 V) fun _ V =>
    rT V 0
  else
  if v19 = 2 then
    gR V 45 33 fun v31 =>
    lI (1) fun v32 =>
    lI (pv_w (v31 - v32)) fun v33 =>
    gW V 45 33 v33 fun V =>
    lI (8) fun v34 =>
    gR V 45 36 fun v35 =>
    lI (pv_w (v34 * v35)) fun v36 =>
    lI (pv_w (v36 + v14)) fun v37 =>
    gR V 45 33 fun v38 =>
    aR V 67 500 v38 fun v39 =>
    aW V 72 256 v37 v39 fun V =>
    lI (8) fun v40 =>
    gR V 45 36 fun v41 =>
    lI (pv_w (v40 * v41)) fun v42 =>
    lI (pv_w (v42 + v14)) fun v43 =>
    gR V 45 33 fun v44 =>
    aR V 68 500 v44 fun v45 =>
    aW V 73 256 v43 v45 fun V =>
    rT V 0
  else
  if v19 = 3 then
    aR V 48 480 v13 fun v46 =>
    cL (q_X11_reckon N v46 V) fun _ V =>
    rT V 0
  else
  if v19 = 4 then
    aR V 48 480 v13 fun v47 =>
    cL (q_X11_reckon N v47 V) fun _ V =>
    rT V 0
  else
  if v19 = 5 then
    aR V 48 480 v13 fun v48 =>
    cL (q_X11_reckon N v48 V) fun _ V =>
    rT V 0
  else
  if v19 = 6 then
    gR V 45 33 fun v49 =>
    lI (1) fun v50 =>
    lI (pv_w (v49 - v50)) fun v51 =>
    aR V 67 500 v51 fun v52 =>
    gR V 45 33 fun v53 =>
    lI (1) fun v54 =>
    lI (pv_w (v53 - v54)) fun v55 =>
    aR V 68 500 v55 fun v56 =>
    cL (q_X11_push N v52 v56 V) fun _ V =>
    rT V 0
  else
  if v19 = 7 then
    gR V 45 33 fun v57 =>
    lI (1) fun v58 =>
    lI (pv_w (v57 - v58)) fun v59 =>
    gW V 45 33 v59 fun V =>
    rT V 0
  else
  if v19 = 8 then
    gR V 45 36 fun v60 =>
    aW V 70 32 v60 v14 fun V =>
    rT V 0
  else
  if v19 = 9 then
    gR V 45 33 fun v61 =>
    lI (1) fun v62 =>
    lI (pv_w (v61 - v62)) fun v63 =>
    gW V 45 33 v63 fun V =>
    gR V 45 33 fun v64 =>
    aR V 67 500 v64 fun v65 =>
    lI (1) fun v66 =>
    if v65 ≠ v66 then
      lI (1) fun v67 =>
      q_X11_step_b324 N v14 v67 V
    else
    lI (0) fun v68 =>
    q_X11_step_b324 N v14 v68 V
  else
  if v19 = 10 then
    aR V 46 12 v14 fun v69 =>
    lI (0) fun v70 =>
    cL (q_X11_take N v69 v70 V) fun _ V =>
    aR V 46 12 v14 fun v71 =>
    cL (q_X11_begin N v14 v71 V) fun _ V =>
    rT V 0
  else
  if v19 = 11 then
    cL (q_X11_leave N V) fun _ V =>
    rT V 0
  else
  if v19 = 12 then
    cL (q_X11_say N V) fun _ V =>
    rT V 0
  else
  if v19 = 13 then
    aR V 50 480 v13 fun v72 =>
    cL (q_X11_close N v14 v72 V) fun _ V =>
    rT V 0
  else
  if v19 = 14 then
    cL (q_X11_apply N v14 V) fun _ V =>
    rT V 0
  else
  cL (q_X11_join N v14 V) fun _ V =>
  rT V 0

set_option maxHeartbeats 4000000 in
set_option maxRecDepth 100000 in
theorem s_mstep {N d f p : Nat} {w a : Int} {W : pvM} {Q : Nat → Int → pvM → Prop} (hD : W 45 36 = ((d + 1 : Nat) : Int)) (hd : d + 1 < 32) (h69 : W 69 (d + 1) = f) (h70 : W 70 (d + 1) = p) (hf : f < 12) (hp : p < 40) (h48 : W 48 (40 * f + p) = w) (h49 : W 49 (40 * f + p) = a) (h : wp (mbd N (40 * (f : Int) + p) a w (pz_u W 70 (d + 1) ((p + 1 : Nat) : Int))) Q) : wp (q_X11_step N W) Q := by
  unfold q_X11_step
  refine wp_lI (wp_gR ?_)
  rw [hD]
  refine wp_aR (by omega) ?_
  rw [show (((d + 1 : Nat)) : Int).toNat = d + 1 by omega, h69]
  refine wp_lw (by omega) (wp_gR ?_)
  rw [hD]
  refine wp_aR (by omega) ?_
  rw [show (((d + 1 : Nat)) : Int).toNat = d + 1 by omega, h70]
  refine wp_lw (by omega) (wp_aR (by omega) (wp_gR ?_))
  rw [show (40 * (f : Int) + (p : Int)).toNat = 40 * f + p by omega, h49, hD]
  refine wp_aR (by omega) (wp_lI ?_)
  rw [show (((d + 1 : Nat)) : Int).toNat = d + 1 by omega, h70]
  refine wp_lw (by omega) (wp_aW (by omega) (wp_aR (by omega) ?_))
  rw [show (((d + 1 : Nat)) : Int).toNat = d + 1 by omega, show (40 * (f : Int) + (p : Int)).toNat = 40 * f + p by omega, pu_off (show (48 : Nat) ≠ 70 by decide), h48, show (p : Int) + 1 = ((p + 1 : Nat) : Int) by omega]
  exact h
