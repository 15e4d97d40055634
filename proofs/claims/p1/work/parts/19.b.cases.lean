set_option maxHeartbeats 4000000 in
set_option maxRecDepth 100000 in
theorem law_tail {p : Program} {l : Launch} {e : Env} {s : State} {m : MethodId} {below : List Frame} {meth : Method} {c : Code} {b : Nat} {xs : Nat → Int32} {D : va_G} {cy : Nat → ClassId} {H : Heap} {locs : List Loc} {ls : Array Slot} (C : pz_C p s m #[Value.ref b] meth c cL_law 7 RL D cy (fun q : Nat => s.heap.size ≤ q)) (hr : meth.sig.returnType = ret) (hX : va_X b 6 xs s s.heap) (hbl : b < s.heap.size) {cells slots : Nat} (hc : cells ≤ 600002) (hs : slots ≤ 7302232) (hS : va_S (fun q : Nat => s.heap.size ≤ q) s.heap H locs) (hl : lv_has ls 7 [(4, .int 0), (0, .ref b)]) : W p l e room_1 s m #[Value.ref b] below meth c H locs cells slots (lw_Z below #[Value.ref b] s) (F0 m 930 ls []) := by
  have hbA : ¬ (fun q : Nat => s.heap.size ≤ q) b := Nat.not_le.mpr hbl
  refine lv_iinc (v := 6) (lv' := [(4, .int 6), (0, .ref b)]) C.1.1 C.1.2.1 dL_law_930 hl (k := 0) rfl (by decide) (by decide) rfl (fun ls hl => ?_)
  refine lv_goto (tgt := 23) C.1.1 C.1.2.1 dL_law_933 (by decide) ?_
  refine lv_iload C.1.1 C.1.2.1 dL_law_23 (lv_at hl 0 rfl) ?_
  refine lv_aload_n C.1.1 C.1.2.1 dL_law_25 rfl (lv_at hl 1 rfl) ?_
  refine va_slen C.1.1 C.1.2.1 hX hbl hbA hS dL_law_26 ?_
  refine lv_bipush (v := 6) C.1.1 C.1.2.1 dL_law_27 (by decide) ?_
  refine lv_isub C.1.1 C.1.2.1 dL_law_29 ?_
  refine lv_icmp_gt (tgt := 936) C.1.1 C.1.2.1 dL_law_30 (by decide) (fun h30 => ?_) (fun h30 => ?_)
  · refine lv_iconst (v := 1) C.1.1 C.1.2.1 dL_law_936 (by decide) ?_
    refine va_forget (fun q hq => hS.2.2 q hq) ?_
    refine W.widen (k := 600002) (n := 7302232) hc hs ?_
    exact lw_ret C.1.1 C.1.2.1 hr C.2.2.2.1 dL_law_937
  · exact absurd (by decide) h30
set_option maxHeartbeats 4000000 in
set_option maxRecDepth 100000 in
theorem law_c0 {p : Program} {l : Launch} {e : Env} {s : State} {m : MethodId} {below : List Frame} {meth : Method} {c : Code} {b : Nat} {xs : Nat → Int32} {D : va_G} {cy : Nat → ClassId} {ad : Nat → Nat} {H : Heap} {locs : List Loc} {ls : Array Slot} {M : pzM} (C : pz_C p s m #[Value.ref b] meth c cL_law 7 RL D cy (fun q : Nat => s.heap.size ≤ q)) (hr : meth.sig.returnType = ret) (hX : va_X b 6 xs s s.heap) (hbl : b < s.heap.size) (hZ : pz_Z (fun q : Nat => s.heap.size ≤ q) s s.heap) (hl0 : l.stackTraces = false) (h : pz_sh pz_si) (zc : pz_fc M) (zm : pz_fm M) (zo : M.2 83 0 = 0) (hP : va_P D pz_cl (pz_w cy ad pz_si M) H) (hD : va_D (fun q : Nat => s.heap.size ≤ q) (pz_w cy ad pz_si M)) (hS : va_S (fun q : Nat => s.heap.size ≤ q) s.heap H locs) (hl : lv_has ls 7 [(4, .int 0), (3, .ref (ad 83)), (2, .ref (ad 45)), (1, .ref (ad 0)), (0, .ref b)]) : W p l e room_1 s m #[Value.ref b] below meth c H locs 84 154143 (lw_Z below #[Value.ref b] s) (F0 m 108 ls []) := by
  have hbA : ¬ (fun q : Nat => s.heap.size ≤ q) b := Nat.not_le.mpr hbl
  refine lv_aload_n C.1.1 C.1.2.1 dL_law_108 rfl (lv_at hl 3 rfl) ?_
  refine lv_aload_n C.1.1 C.1.2.1 dL_law_109 rfl (lv_at hl 4 rfl) ?_
  refine lv_iload C.1.1 C.1.2.1 dL_law_110 (lv_at hl 0 rfl) ?_
  refine lv_iconst (v := 1) C.1.1 C.1.2.1 dL_law_112 (by decide) ?_
  refine lv_iadd C.1.1 C.1.2.1 dL_law_113 ?_
  refine va_sld C.1.1 C.1.2.1 hX hbl hbA hS (show vp_in ((0 : Int32) + 1) 6 by unfold vp_in; decide) dL_law_114 ?_
  refine lv_aload_n C.1.1 C.1.2.1 dL_law_115 rfl (lv_at hl 1 rfl) ?_
  refine lx_callSH C hZ (As := [_, _, _]) (c_L_function l D cy h zc hl0) (fun _ => rfl) ini_L wH_yL_function wD_yL_function ml_L_56 sm_yL_function rfl rfl (Nat.le_of_ble_eq_true rfl) ⟨(Nat.le_of_ble_eq_true rfl), (Nat.le_of_ble_eq_true rfl)⟩ ⟨(Nat.le_of_ble_eq_true rfl), (Nat.le_of_ble_eq_true rfl)⟩ dL_law_116 h.2.2.2 hP hD hS hl.1 (fun M1 H locs hq1 hP hD hS => ?_)
  have zm1 : pz_fm M1 := pz_am_fm hq1.1 zm
  refine lv_topi (fun k5 ek5 => ?_)
  refine lv_istore (lv' := [(5, .int k5), (4, .int 0), (3, .ref (ad 83)), (2, .ref (ad 45)), (1, .ref (ad 0)), (0, .ref b)]) C.1.1 C.1.2.1 dL_law_119 hl (by decide) rfl (fun ls hl => ?_)
  refine lv_aload_n C.1.1 C.1.2.1 dL_law_121 rfl (lv_at hl 3 rfl) ?_
  refine lv_aload_n C.1.1 C.1.2.1 dL_law_122 rfl (lv_at hl 5 rfl) ?_
  refine lv_iload C.1.1 C.1.2.1 dL_law_123 (lv_at hl 1 rfl) ?_
  refine lv_iconst (v := 1) C.1.1 C.1.2.1 dL_law_125 (by decide) ?_
  refine lv_iadd C.1.1 C.1.2.1 dL_law_126 ?_
  refine va_sld C.1.1 C.1.2.1 hX hbl hbA hS (show vp_in ((0 : Int32) + 1) 6 by unfold vp_in; decide) dL_law_127 ?_
  refine lx_callV C (As := [_]) (b := 45) (c_X11_function l D cy h zm1) (fun _ => rfl) wB_yX11_function ml_L_61 im_yX11_function se_yX11_function (ci := 10) rfl (shL h 45 rfl) (shK h 45 rfl rfl) rfl rfl (Nat.le_of_ble_eq_true rfl) ⟨(Nat.le_of_ble_eq_true rfl), (Nat.le_of_ble_eq_true rfl)⟩ ⟨(Nat.le_of_ble_eq_true rfl), (Nat.le_of_ble_eq_true rfl)⟩ dL_law_128 h.2.2.2 hP hD hS hl.1 (fun M2 H locs hq2 hP hD hS => ?_)
  refine lv_istore (lv' := [(6, .int 0), (5, .int k5), (4, .int 0), (3, .ref (ad 83)), (2, .ref (ad 45)), (1, .ref (ad 0)), (0, .ref b)]) C.1.1 C.1.2.1 dL_law_131 hl (by decide) rfl (fun ls hl => ?_)
  refine lv_aload_n C.1.1 C.1.2.1 dL_law_133 rfl (lv_at hl 4 rfl) ?_
  refine lx_callV C (As := []) (b := 45) (c_X11_thrown l D cy h) (fun _ => rfl) wB_yX11_thrown ml_L_62 im_yX11_thrown se_yX11_thrown (ci := 10) rfl (shL h 45 rfl) (shK h 45 rfl rfl) rfl rfl (Nat.le_of_ble_eq_true rfl) ⟨(Nat.le_of_ble_eq_true rfl), (Nat.le_of_ble_eq_true rfl)⟩ ⟨(Nat.le_of_ble_eq_true rfl), (Nat.le_of_ble_eq_true rfl)⟩ dL_law_134 h.2.2.2 hP hD hS hl.1 (fun M3 H locs hq3 hP hD hS => ?_)
  have hq3 := hq3.symm; subst hq3
  refine lv_iload C.1.1 C.1.2.1 dL_law_137 (lv_at hl 1 rfl) ?_
  refine lv_icmp_eq (tgt := 144) C.1.1 C.1.2.1 dL_law_139 (by decide) (fun h139 => ?_) (fun h139 => ?_)
  · refine lv_iload C.1.1 C.1.2.1 dL_law_144 (lv_at hl 1 rfl) ?_
    refine lv_if_ne (tgt := 161) C.1.1 C.1.2.1 dL_law_146 (by decide) (fun h146 => ?_) (fun h146 => ?_)
    · refine lv_goto (tgt := 930) C.1.1 C.1.2.1 dL_law_161 (by decide) ?_
      exact law_tail C hr hX hbl (Nat.le_of_ble_eq_true rfl) (Nat.le_of_ble_eq_true rfl) hS (lv_sub hl [2, 6] rfl)
    · refine lv_aload_n C.1.1 C.1.2.1 dL_law_149 rfl (lv_at hl 3 rfl) ?_
      refine lv_iconst (v := 0) C.1.1 C.1.2.1 dL_law_150 (by decide) ?_
      refine lx_lald (M := M2) C (shL h 83 rfl) (shK h 83 rfl rfl) (shB h 83 rfl rfl (vp_in0 (by decide))) dL_law_151 hP ?_
      refine lv_iload C.1.1 C.1.2.1 dL_law_152 (lv_at hl 0 rfl) ?_
      refine lv_i2l C.1.1 C.1.2.1 dL_law_154 rfl ?_
      refine W.lcmp C.1.1 C.1.2.1 dL_law_155 ?_
      refine lv_if_eq (tgt := 161) C.1.1 C.1.2.1 dL_law_156 (by decide) (fun h156 => ?_) (fun h156 => ?_)
      · refine lv_goto (tgt := 930) C.1.1 C.1.2.1 dL_law_161 (by decide) ?_
        exact law_tail C hr hX hbl (Nat.le_of_ble_eq_true rfl) (Nat.le_of_ble_eq_true rfl) hS (lv_sub hl [2, 6] rfl)
      · exact absurd (by rw [show M2.2 83 (0 : Int32).toNatClampNeg = 0 from (congrFun (congrFun hq2.2 83) 0).trans (hq1.2 (ek5.symm.trans (h146)))]; decide) h156
  · exact absurd (hq2.1.trans ek5.symm) h139
set_option maxHeartbeats 4000000 in
set_option maxRecDepth 100000 in
theorem law_c1 {p : Program} {l : Launch} {e : Env} {s : State} {m : MethodId} {below : List Frame} {meth : Method} {c : Code} {b : Nat} {xs : Nat → Int32} {D : va_G} {cy : Nat → ClassId} {ad : Nat → Nat} {H : Heap} {locs : List Loc} {ls : Array Slot} {M : pzM} (C : pz_C p s m #[Value.ref b] meth c cL_law 7 RL D cy (fun q : Nat => s.heap.size ≤ q)) (hr : meth.sig.returnType = ret) (hX : va_X b 6 xs s s.heap) (hbl : b < s.heap.size) (hZ : pz_Z (fun q : Nat => s.heap.size ≤ q) s s.heap) (hl0 : l.stackTraces = false) (h : pz_sh pz_si) (zc : pz_fc M) (zm : pz_fm M) (zo : M.2 83 0 = 0) (hP : va_P D pz_cl (pz_w cy ad pz_si M) H) (hD : va_D (fun q : Nat => s.heap.size ≤ q) (pz_w cy ad pz_si M)) (hS : va_S (fun q : Nat => s.heap.size ≤ q) s.heap H locs) (hl : lv_has ls 7 [(4, .int 0), (3, .ref (ad 83)), (2, .ref (ad 45)), (1, .ref (ad 0)), (0, .ref b)]) : W p l e room_1 s m #[Value.ref b] below meth c H locs 84 154143 (lw_Z below #[Value.ref b] s) (F0 m 164 ls []) := by
  have hbA : ¬ (fun q : Nat => s.heap.size ≤ q) b := Nat.not_le.mpr hbl
  refine lv_aload_n C.1.1 C.1.2.1 dL_law_164 rfl (lv_at hl 3 rfl) ?_
  refine lv_aload_n C.1.1 C.1.2.1 dL_law_165 rfl (lv_at hl 4 rfl) ?_
  refine lv_iload C.1.1 C.1.2.1 dL_law_166 (lv_at hl 0 rfl) ?_
  refine lv_iconst (v := 1) C.1.1 C.1.2.1 dL_law_168 (by decide) ?_
  refine lv_iadd C.1.1 C.1.2.1 dL_law_169 ?_
  refine va_sld C.1.1 C.1.2.1 hX hbl hbA hS (show vp_in ((0 : Int32) + 1) 6 by unfold vp_in; decide) dL_law_170 ?_
  refine lv_aload_n C.1.1 C.1.2.1 dL_law_171 rfl (lv_at hl 4 rfl) ?_
  refine lv_iload C.1.1 C.1.2.1 dL_law_172 (lv_at hl 0 rfl) ?_
  refine lv_iconst (v := 2) C.1.1 C.1.2.1 dL_law_174 (by decide) ?_
  refine lv_iadd C.1.1 C.1.2.1 dL_law_175 ?_
  refine va_sld C.1.1 C.1.2.1 hX hbl hbA hS (show vp_in ((0 : Int32) + 2) 6 by unfold vp_in; decide) dL_law_176 ?_
  refine lv_aload_n C.1.1 C.1.2.1 dL_law_177 rfl (lv_at hl 4 rfl) ?_
  refine lv_iload C.1.1 C.1.2.1 dL_law_178 (lv_at hl 0 rfl) ?_
  refine lv_iconst (v := 3) C.1.1 C.1.2.1 dL_law_180 (by decide) ?_
  refine lv_iadd C.1.1 C.1.2.1 dL_law_181 ?_
  refine va_sld C.1.1 C.1.2.1 hX hbl hbA hS (show vp_in ((0 : Int32) + 3) 6 by unfold vp_in; decide) dL_law_182 ?_
  refine lv_aload_n C.1.1 C.1.2.1 dL_law_183 rfl (lv_at hl 4 rfl) ?_
  refine lv_iload C.1.1 C.1.2.1 dL_law_184 (lv_at hl 0 rfl) ?_
  refine lv_iconst (v := 4) C.1.1 C.1.2.1 dL_law_186 (by decide) ?_
  refine lv_iadd C.1.1 C.1.2.1 dL_law_187 ?_
  refine va_sld C.1.1 C.1.2.1 hX hbl hbA hS (show vp_in ((0 : Int32) + 4) 6 by unfold vp_in; decide) dL_law_188 ?_
  refine lv_aload_n C.1.1 C.1.2.1 dL_law_189 rfl (lv_at hl 1 rfl) ?_
  refine lx_callSH C hZ (As := [_, _, _, _, _, _]) (c_L_code l D cy h zc hl0) (fun _ => rfl) ini_L wH_yL_code wD_yL_code ml_L_66 sm_yL_code rfl rfl (Nat.le_of_ble_eq_true rfl) ⟨(Nat.le_of_ble_eq_true rfl), (Nat.le_of_ble_eq_true rfl)⟩ ⟨(Nat.le_of_ble_eq_true rfl), (Nat.le_of_ble_eq_true rfl)⟩ dL_law_190 h.2.2.2 hP hD hS hl.1 (fun M1 H locs hq1 hP hD hS => ?_)
  have zm1 : pz_fm M1 := pz_am_fm hq1.1 zm
  refine lv_topi (fun k5 ek5 => ?_)
  refine lv_istore (lv' := [(5, .int k5), (4, .int 0), (3, .ref (ad 83)), (2, .ref (ad 45)), (1, .ref (ad 0)), (0, .ref b)]) C.1.1 C.1.2.1 dL_law_193 hl (by decide) rfl (fun ls hl => ?_)
  refine lv_aload_n C.1.1 C.1.2.1 dL_law_195 rfl (lv_at hl 3 rfl) ?_
  refine lv_aload_n C.1.1 C.1.2.1 dL_law_196 rfl (lv_at hl 5 rfl) ?_
  refine lv_iload C.1.1 C.1.2.1 dL_law_197 (lv_at hl 1 rfl) ?_
  refine lv_iconst (v := 1) C.1.1 C.1.2.1 dL_law_199 (by decide) ?_
  refine lv_iadd C.1.1 C.1.2.1 dL_law_200 ?_
  refine va_sld C.1.1 C.1.2.1 hX hbl hbA hS (show vp_in ((0 : Int32) + 1) 6 by unfold vp_in; decide) dL_law_201 ?_
  refine lv_aload_n C.1.1 C.1.2.1 dL_law_202 rfl (lv_at hl 5 rfl) ?_
  refine lv_iload C.1.1 C.1.2.1 dL_law_203 (lv_at hl 1 rfl) ?_
  refine lv_iconst (v := 2) C.1.1 C.1.2.1 dL_law_205 (by decide) ?_
  refine lv_iadd C.1.1 C.1.2.1 dL_law_206 ?_
  refine va_sld C.1.1 C.1.2.1 hX hbl hbA hS (show vp_in ((0 : Int32) + 2) 6 by unfold vp_in; decide) dL_law_207 ?_
  refine lv_aload_n C.1.1 C.1.2.1 dL_law_208 rfl (lv_at hl 5 rfl) ?_
  refine lv_iload C.1.1 C.1.2.1 dL_law_209 (lv_at hl 1 rfl) ?_
  refine lv_iconst (v := 3) C.1.1 C.1.2.1 dL_law_211 (by decide) ?_
  refine lv_iadd C.1.1 C.1.2.1 dL_law_212 ?_
  refine va_sld C.1.1 C.1.2.1 hX hbl hbA hS (show vp_in ((0 : Int32) + 3) 6 by unfold vp_in; decide) dL_law_213 ?_
  refine lv_aload_n C.1.1 C.1.2.1 dL_law_214 rfl (lv_at hl 5 rfl) ?_
  refine lv_iload C.1.1 C.1.2.1 dL_law_215 (lv_at hl 1 rfl) ?_
  refine lv_iconst (v := 4) C.1.1 C.1.2.1 dL_law_217 (by decide) ?_
  refine lv_iadd C.1.1 C.1.2.1 dL_law_218 ?_
  refine va_sld C.1.1 C.1.2.1 hX hbl hbA hS (show vp_in ((0 : Int32) + 4) 6 by unfold vp_in; decide) dL_law_219 ?_
  refine lx_callV C (As := [_, _, _, _]) (b := 45) (c_X11_code l D cy h zm1) (fun _ => rfl) wB_yX11_code ml_L_69 im_yX11_code se_yX11_code (ci := 10) rfl (shL h 45 rfl) (shK h 45 rfl rfl) rfl rfl (Nat.le_of_ble_eq_true rfl) ⟨(Nat.le_of_ble_eq_true rfl), (Nat.le_of_ble_eq_true rfl)⟩ ⟨(Nat.le_of_ble_eq_true rfl), (Nat.le_of_ble_eq_true rfl)⟩ dL_law_220 h.2.2.2 hP hD hS hl.1 (fun M2 H locs hq2 hP hD hS => ?_)
  refine lv_istore (lv' := [(6, .int 0), (5, .int k5), (4, .int 0), (3, .ref (ad 83)), (2, .ref (ad 45)), (1, .ref (ad 0)), (0, .ref b)]) C.1.1 C.1.2.1 dL_law_223 hl (by decide) rfl (fun ls hl => ?_)
  refine lv_aload_n C.1.1 C.1.2.1 dL_law_225 rfl (lv_at hl 4 rfl) ?_
  refine lx_callV C (As := []) (b := 45) (c_X11_thrown l D cy h) (fun _ => rfl) wB_yX11_thrown ml_L_62 im_yX11_thrown se_yX11_thrown (ci := 10) rfl (shL h 45 rfl) (shK h 45 rfl rfl) rfl rfl (Nat.le_of_ble_eq_true rfl) ⟨(Nat.le_of_ble_eq_true rfl), (Nat.le_of_ble_eq_true rfl)⟩ ⟨(Nat.le_of_ble_eq_true rfl), (Nat.le_of_ble_eq_true rfl)⟩ dL_law_226 h.2.2.2 hP hD hS hl.1 (fun M3 H locs hq3 hP hD hS => ?_)
  have hq3 := hq3.symm; subst hq3
  refine lv_iload C.1.1 C.1.2.1 dL_law_229 (lv_at hl 1 rfl) ?_
  refine lv_icmp_eq (tgt := 236) C.1.1 C.1.2.1 dL_law_231 (by decide) (fun h231 => ?_) (fun h231 => ?_)
  · refine lv_iload C.1.1 C.1.2.1 dL_law_236 (lv_at hl 1 rfl) ?_
    refine lv_if_ne (tgt := 253) C.1.1 C.1.2.1 dL_law_238 (by decide) (fun h238 => ?_) (fun h238 => ?_)
    · refine lv_goto (tgt := 930) C.1.1 C.1.2.1 dL_law_253 (by decide) ?_
      exact law_tail C hr hX hbl (Nat.le_of_ble_eq_true rfl) (Nat.le_of_ble_eq_true rfl) hS (lv_sub hl [2, 6] rfl)
    · refine lv_aload_n C.1.1 C.1.2.1 dL_law_241 rfl (lv_at hl 3 rfl) ?_
      refine lv_iconst (v := 0) C.1.1 C.1.2.1 dL_law_242 (by decide) ?_
      refine lx_lald (M := M2) C (shL h 83 rfl) (shK h 83 rfl rfl) (shB h 83 rfl rfl (vp_in0 (by decide))) dL_law_243 hP ?_
      refine lv_iload C.1.1 C.1.2.1 dL_law_244 (lv_at hl 0 rfl) ?_
      refine lv_i2l C.1.1 C.1.2.1 dL_law_246 rfl ?_
      refine W.lcmp C.1.1 C.1.2.1 dL_law_247 ?_
      refine lv_if_eq (tgt := 253) C.1.1 C.1.2.1 dL_law_248 (by decide) (fun h248 => ?_) (fun h248 => ?_)
      · refine lv_goto (tgt := 930) C.1.1 C.1.2.1 dL_law_253 (by decide) ?_
        exact law_tail C hr hX hbl (Nat.le_of_ble_eq_true rfl) (Nat.le_of_ble_eq_true rfl) hS (lv_sub hl [2, 6] rfl)
      · exact absurd (by rw [show M2.2 83 (0 : Int32).toNatClampNeg = 0 from (congrFun (congrFun hq2.2 83) 0).trans (hq1.2 (ek5.symm.trans (h238)))]; decide) h248
  · exact absurd (hq2.1.trans ek5.symm) h231
set_option maxHeartbeats 4000000 in
set_option maxRecDepth 100000 in
theorem law_c2 {p : Program} {l : Launch} {e : Env} {s : State} {m : MethodId} {below : List Frame} {meth : Method} {c : Code} {b : Nat} {xs : Nat → Int32} {D : va_G} {cy : Nat → ClassId} {ad : Nat → Nat} {H : Heap} {locs : List Loc} {ls : Array Slot} {M : pzM} (C : pz_C p s m #[Value.ref b] meth c cL_law 7 RL D cy (fun q : Nat => s.heap.size ≤ q)) (hr : meth.sig.returnType = ret) (hX : va_X b 6 xs s s.heap) (hbl : b < s.heap.size) (hZ : pz_Z (fun q : Nat => s.heap.size ≤ q) s s.heap) (hl0 : l.stackTraces = false) (h : pz_sh pz_si) (zc : pz_fc M) (zm : pz_fm M) (zo : M.2 83 0 = 0) (hP : va_P D pz_cl (pz_w cy ad pz_si M) H) (hD : va_D (fun q : Nat => s.heap.size ≤ q) (pz_w cy ad pz_si M)) (hS : va_S (fun q : Nat => s.heap.size ≤ q) s.heap H locs) (hl : lv_has ls 7 [(4, .int 0), (3, .ref (ad 83)), (2, .ref (ad 45)), (1, .ref (ad 0)), (0, .ref b)]) : W p l e room_1 s m #[Value.ref b] below meth c H locs 84 154143 (lw_Z below #[Value.ref b] s) (F0 m 256 ls []) := by
  have hbA : ¬ (fun q : Nat => s.heap.size ≤ q) b := Nat.not_le.mpr hbl
  refine lv_aload_n C.1.1 C.1.2.1 dL_law_256 rfl (lv_at hl 3 rfl) ?_
  refine lv_aload_n C.1.1 C.1.2.1 dL_law_257 rfl (lv_at hl 4 rfl) ?_
  refine lv_iload C.1.1 C.1.2.1 dL_law_258 (lv_at hl 0 rfl) ?_
  refine lv_iconst (v := 1) C.1.1 C.1.2.1 dL_law_260 (by decide) ?_
  refine lv_iadd C.1.1 C.1.2.1 dL_law_261 ?_
  refine va_sld C.1.1 C.1.2.1 hX hbl hbA hS (show vp_in ((0 : Int32) + 1) 6 by unfold vp_in; decide) dL_law_262 ?_
  refine lv_i2l C.1.1 C.1.2.1 dL_law_263 rfl ?_
  refine lv_bipush (v := 32) C.1.1 C.1.2.1 dL_law_264 (by decide) ?_
  refine lv_lshl C.1.1 C.1.2.1 dL_law_266 rfl ?_
  refine lv_aload_n C.1.1 C.1.2.1 dL_law_267 rfl (lv_at hl 4 rfl) ?_
  refine lv_iload C.1.1 C.1.2.1 dL_law_268 (lv_at hl 0 rfl) ?_
  refine lv_iconst (v := 2) C.1.1 C.1.2.1 dL_law_270 (by decide) ?_
  refine lv_iadd C.1.1 C.1.2.1 dL_law_271 ?_
  refine va_sld C.1.1 C.1.2.1 hX hbl hbA hS (show vp_in ((0 : Int32) + 2) 6 by unfold vp_in; decide) dL_law_272 ?_
  refine lv_i2l C.1.1 C.1.2.1 dL_law_273 rfl ?_
  refine lv_ldc2 C.1.1 C.1.2.1 C.1.2.2.2.1 (C.1.2.2.2.2 _ kl_L_70) dL_law_274 ?_
  refine lv_land C.1.1 C.1.2.1 dL_law_277 ?_
  refine lv_lor C.1.1 C.1.2.1 dL_law_278 ?_
  refine lv_aload_n C.1.1 C.1.2.1 dL_law_279 rfl (lv_at hl 1 rfl) ?_
  refine lx_callSH C hZ (As := [_, _, _]) (c_L_recipe l D cy h zc hl0) (fun _ => rfl) ini_L wH_yL_recipe wD_yL_recipe ml_L_72 sm_yL_recipe rfl rfl (Nat.le_of_ble_eq_true rfl) ⟨(Nat.le_of_ble_eq_true rfl), (Nat.le_of_ble_eq_true rfl)⟩ ⟨(Nat.le_of_ble_eq_true rfl), (Nat.le_of_ble_eq_true rfl)⟩ dL_law_280 h.2.2.2 hP hD hS hl.1 (fun M1 H locs hq1 hP hD hS => ?_)
  have zm1 : pz_fm M1 := pz_am_fm hq1.1 zm
  refine lv_topi (fun k5 ek5 => ?_)
  refine lv_istore (lv' := [(5, .int k5), (4, .int 0), (3, .ref (ad 83)), (2, .ref (ad 45)), (1, .ref (ad 0)), (0, .ref b)]) C.1.1 C.1.2.1 dL_law_283 hl (by decide) rfl (fun ls hl => ?_)
  refine lv_aload_n C.1.1 C.1.2.1 dL_law_285 rfl (lv_at hl 3 rfl) ?_
  refine lv_aload_n C.1.1 C.1.2.1 dL_law_286 rfl (lv_at hl 5 rfl) ?_
  refine lv_iload C.1.1 C.1.2.1 dL_law_287 (lv_at hl 1 rfl) ?_
  refine lv_iconst (v := 1) C.1.1 C.1.2.1 dL_law_289 (by decide) ?_
  refine lv_iadd C.1.1 C.1.2.1 dL_law_290 ?_
  refine va_sld C.1.1 C.1.2.1 hX hbl hbA hS (show vp_in ((0 : Int32) + 1) 6 by unfold vp_in; decide) dL_law_291 ?_
  refine lv_i2l C.1.1 C.1.2.1 dL_law_292 rfl ?_
  refine lv_bipush (v := 32) C.1.1 C.1.2.1 dL_law_293 (by decide) ?_
  refine lv_lshl C.1.1 C.1.2.1 dL_law_295 rfl ?_
  refine lv_aload_n C.1.1 C.1.2.1 dL_law_296 rfl (lv_at hl 5 rfl) ?_
  refine lv_iload C.1.1 C.1.2.1 dL_law_297 (lv_at hl 1 rfl) ?_
  refine lv_iconst (v := 2) C.1.1 C.1.2.1 dL_law_299 (by decide) ?_
  refine lv_iadd C.1.1 C.1.2.1 dL_law_300 ?_
  refine va_sld C.1.1 C.1.2.1 hX hbl hbA hS (show vp_in ((0 : Int32) + 2) 6 by unfold vp_in; decide) dL_law_301 ?_
  refine lv_i2l C.1.1 C.1.2.1 dL_law_302 rfl ?_
  refine lv_ldc2 C.1.1 C.1.2.1 C.1.2.2.2.1 (C.1.2.2.2.2 _ kl_L_70) dL_law_303 ?_
  refine lv_land C.1.1 C.1.2.1 dL_law_306 ?_
  refine lv_lor C.1.1 C.1.2.1 dL_law_307 ?_
  refine lx_callV C (As := [_]) (b := 45) (c_X11_recipe l D cy h zm1) (fun _ => rfl) wB_yX11_recipe ml_L_75 im_yX11_recipe se_yX11_recipe (ci := 10) rfl (shL h 45 rfl) (shK h 45 rfl rfl) rfl rfl (Nat.le_of_ble_eq_true rfl) ⟨(Nat.le_of_ble_eq_true rfl), (Nat.le_of_ble_eq_true rfl)⟩ ⟨(Nat.le_of_ble_eq_true rfl), (Nat.le_of_ble_eq_true rfl)⟩ dL_law_308 h.2.2.2 hP hD hS hl.1 (fun M2 H locs hq2 hP hD hS => ?_)
  refine lv_istore (lv' := [(6, .int 0), (5, .int k5), (4, .int 0), (3, .ref (ad 83)), (2, .ref (ad 45)), (1, .ref (ad 0)), (0, .ref b)]) C.1.1 C.1.2.1 dL_law_311 hl (by decide) rfl (fun ls hl => ?_)
  refine lv_aload_n C.1.1 C.1.2.1 dL_law_313 rfl (lv_at hl 4 rfl) ?_
  refine lx_callV C (As := []) (b := 45) (c_X11_thrown l D cy h) (fun _ => rfl) wB_yX11_thrown ml_L_62 im_yX11_thrown se_yX11_thrown (ci := 10) rfl (shL h 45 rfl) (shK h 45 rfl rfl) rfl rfl (Nat.le_of_ble_eq_true rfl) ⟨(Nat.le_of_ble_eq_true rfl), (Nat.le_of_ble_eq_true rfl)⟩ ⟨(Nat.le_of_ble_eq_true rfl), (Nat.le_of_ble_eq_true rfl)⟩ dL_law_314 h.2.2.2 hP hD hS hl.1 (fun M3 H locs hq3 hP hD hS => ?_)
  have hq3 := hq3.symm; subst hq3
  refine lv_iload C.1.1 C.1.2.1 dL_law_317 (lv_at hl 1 rfl) ?_
  refine lv_icmp_eq (tgt := 324) C.1.1 C.1.2.1 dL_law_319 (by decide) (fun h319 => ?_) (fun h319 => ?_)
  · refine lv_iload C.1.1 C.1.2.1 dL_law_324 (lv_at hl 1 rfl) ?_
    refine lv_if_ne (tgt := 341) C.1.1 C.1.2.1 dL_law_326 (by decide) (fun h326 => ?_) (fun h326 => ?_)
    · refine lv_goto (tgt := 930) C.1.1 C.1.2.1 dL_law_341 (by decide) ?_
      exact law_tail C hr hX hbl (Nat.le_of_ble_eq_true rfl) (Nat.le_of_ble_eq_true rfl) hS (lv_sub hl [2, 6] rfl)
    · refine lv_aload_n C.1.1 C.1.2.1 dL_law_329 rfl (lv_at hl 3 rfl) ?_
      refine lv_iconst (v := 0) C.1.1 C.1.2.1 dL_law_330 (by decide) ?_
      refine lx_lald (M := M2) C (shL h 83 rfl) (shK h 83 rfl rfl) (shB h 83 rfl rfl (vp_in0 (by decide))) dL_law_331 hP ?_
      refine lv_iload C.1.1 C.1.2.1 dL_law_332 (lv_at hl 0 rfl) ?_
      refine lv_i2l C.1.1 C.1.2.1 dL_law_334 rfl ?_
      refine W.lcmp C.1.1 C.1.2.1 dL_law_335 ?_
      refine lv_if_eq (tgt := 341) C.1.1 C.1.2.1 dL_law_336 (by decide) (fun h336 => ?_) (fun h336 => ?_)
      · refine lv_goto (tgt := 930) C.1.1 C.1.2.1 dL_law_341 (by decide) ?_
        exact law_tail C hr hX hbl (Nat.le_of_ble_eq_true rfl) (Nat.le_of_ble_eq_true rfl) hS (lv_sub hl [2, 6] rfl)
      · exact absurd (by rw [show M2.2 83 (0 : Int32).toNatClampNeg = 0 from (congrFun (congrFun hq2.2 83) 0).trans (hq1.2 (ek5.symm.trans (h326)))]; decide) h336
  · exact absurd (hq2.1.trans ek5.symm) h319
set_option maxHeartbeats 4000000 in
set_option maxRecDepth 100000 in
theorem law_c3 {p : Program} {l : Launch} {e : Env} {s : State} {m : MethodId} {below : List Frame} {meth : Method} {c : Code} {b : Nat} {xs : Nat → Int32} {D : va_G} {cy : Nat → ClassId} {ad : Nat → Nat} {H : Heap} {locs : List Loc} {ls : Array Slot} {M : pzM} (C : pz_C p s m #[Value.ref b] meth c cL_law 7 RL D cy (fun q : Nat => s.heap.size ≤ q)) (hr : meth.sig.returnType = ret) (hX : va_X b 6 xs s s.heap) (hbl : b < s.heap.size) (hZ : pz_Z (fun q : Nat => s.heap.size ≤ q) s s.heap) (hl0 : l.stackTraces = false) (h : pz_sh pz_si) (zc : pz_fc M) (zm : pz_fm M) (zo : M.2 83 0 = 0) (hP : va_P D pz_cl (pz_w cy ad pz_si M) H) (hD : va_D (fun q : Nat => s.heap.size ≤ q) (pz_w cy ad pz_si M)) (hS : va_S (fun q : Nat => s.heap.size ≤ q) s.heap H locs) (hl : lv_has ls 7 [(4, .int 0), (3, .ref (ad 83)), (2, .ref (ad 45)), (1, .ref (ad 0)), (0, .ref b)]) : W p l e room_1 s m #[Value.ref b] below meth c H locs 84 154143 (lw_Z below #[Value.ref b] s) (F0 m 344 ls []) := by
  have hbA : ¬ (fun q : Nat => s.heap.size ≤ q) b := Nat.not_le.mpr hbl
  refine lv_aload_n C.1.1 C.1.2.1 dL_law_344 rfl (lv_at hl 3 rfl) ?_
  refine lx_callV C (As := []) (b := 0) (c_X10_check l D cy h zc) (fun _ => rfl) wB_yX10_check ml_L_76 im_yX10_check se_yX10_check (ci := 9) rfl (shL h 0 rfl) (shK h 0 rfl rfl) rfl rfl (Nat.le_of_ble_eq_true rfl) ⟨(Nat.le_of_ble_eq_true rfl), (Nat.le_of_ble_eq_true rfl)⟩ ⟨(Nat.le_of_ble_eq_true rfl), (Nat.le_of_ble_eq_true rfl)⟩ dL_law_345 h.2.2.2 hP hD hS hl.1 (fun M1 H locs hq1 hP hD hS => ?_)
  have zm1 : pz_fm M1 := (by rw [hq1]; exact zm)
  refine lv_aload_n C.1.1 C.1.2.1 dL_law_348 rfl (lv_at hl 2 rfl) ?_
  refine lx_callV C (As := []) (b := 45) (c_X11_check l D cy h zm1) (fun _ => rfl) wB_yX11_check ml_L_79 im_yX11_check se_yX11_check (ci := 10) rfl (shL h 45 rfl) (shK h 45 rfl rfl) rfl rfl (Nat.le_of_ble_eq_true rfl) ⟨(Nat.le_of_ble_eq_true rfl), (Nat.le_of_ble_eq_true rfl)⟩ ⟨(Nat.le_of_ble_eq_true rfl), (Nat.le_of_ble_eq_true rfl)⟩ dL_law_349 h.2.2.2 hP hD hS hl.1 (fun M2 H locs hq2 hP hD hS => ?_)
  refine lv_icmp_eq (tgt := 930) C.1.1 C.1.2.1 dL_law_352 (by decide) (fun h352 => ?_) (fun h352 => ?_)
  · exact law_tail C hr hX hbl (Nat.le_of_ble_eq_true rfl) (Nat.le_of_ble_eq_true rfl) hS (lv_sub hl [0, 4] rfl)
  · exact absurd (rfl) h352
set_option maxHeartbeats 4000000 in
set_option maxRecDepth 100000 in
theorem law_c4 {p : Program} {l : Launch} {e : Env} {s : State} {m : MethodId} {below : List Frame} {meth : Method} {c : Code} {b : Nat} {xs : Nat → Int32} {D : va_G} {cy : Nat → ClassId} {ad : Nat → Nat} {H : Heap} {locs : List Loc} {ls : Array Slot} {M : pzM} (C : pz_C p s m #[Value.ref b] meth c cL_law 7 RL D cy (fun q : Nat => s.heap.size ≤ q)) (hr : meth.sig.returnType = ret) (hX : va_X b 6 xs s s.heap) (hbl : b < s.heap.size) (hZ : pz_Z (fun q : Nat => s.heap.size ≤ q) s s.heap) (hl0 : l.stackTraces = false) (h : pz_sh pz_si) (zc : pz_fc M) (zm : pz_fm M) (zo : M.2 83 0 = 0) (hP : va_P D pz_cl (pz_w cy ad pz_si M) H) (hD : va_D (fun q : Nat => s.heap.size ≤ q) (pz_w cy ad pz_si M)) (hS : va_S (fun q : Nat => s.heap.size ≤ q) s.heap H locs) (hl : lv_has ls 7 [(4, .int 0), (3, .ref (ad 83)), (2, .ref (ad 45)), (1, .ref (ad 0)), (0, .ref b)]) : W p l e room_1 s m #[Value.ref b] below meth c H locs 84 154143 (lw_Z below #[Value.ref b] s) (F0 m 357 ls []) := by
  have hbA : ¬ (fun q : Nat => s.heap.size ≤ q) b := Nat.not_le.mpr hbl
  refine lv_aload_n C.1.1 C.1.2.1 dL_law_357 rfl (lv_at hl 3 rfl) ?_
  refine lx_callV C (As := []) (b := 0) (c_X10_lower l D cy h zc) (fun _ => rfl) wB_yX10_lower ml_L_80 im_yX10_lower se_yX10_lower (ci := 9) rfl (shL h 0 rfl) (shK h 0 rfl rfl) rfl rfl (Nat.le_of_ble_eq_true rfl) ⟨(Nat.le_of_ble_eq_true rfl), (Nat.le_of_ble_eq_true rfl)⟩ ⟨(Nat.le_of_ble_eq_true rfl), (Nat.le_of_ble_eq_true rfl)⟩ dL_law_358 h.2.2.2 hP hD hS hl.1 (fun M1 H locs hq1 hP hD hS => ?_)
  have zm1 : pz_fm M1 := pz_am_fm (pz_am_ag hq1) zm
  refine lv_aload_n C.1.1 C.1.2.1 dL_law_361 rfl (lv_at hl 2 rfl) ?_
  refine lx_callV C (As := []) (b := 45) (c_X11_lower l D cy h zm1) (fun _ => rfl) wB_yX11_lower ml_L_83 im_yX11_lower se_yX11_lower (ci := 10) rfl (shL h 45 rfl) (shK h 45 rfl rfl) rfl rfl (Nat.le_of_ble_eq_true rfl) ⟨(Nat.le_of_ble_eq_true rfl), (Nat.le_of_ble_eq_true rfl)⟩ ⟨(Nat.le_of_ble_eq_true rfl), (Nat.le_of_ble_eq_true rfl)⟩ dL_law_362 h.2.2.2 hP hD hS hl.1 (fun M2 H locs hq2 hP hD hS => ?_)
  refine lv_icmp_eq (tgt := 930) C.1.1 C.1.2.1 dL_law_365 (by decide) (fun h365 => ?_) (fun h365 => ?_)
  · exact law_tail C hr hX hbl (Nat.le_of_ble_eq_true rfl) (Nat.le_of_ble_eq_true rfl) hS (lv_sub hl [0, 4] rfl)
  · exact absurd (rfl) h365
set_option maxHeartbeats 4000000 in
set_option maxRecDepth 100000 in
theorem law_c5 {p : Program} {l : Launch} {e : Env} {s : State} {m : MethodId} {below : List Frame} {meth : Method} {c : Code} {b : Nat} {xs : Nat → Int32} {D : va_G} {cy : Nat → ClassId} {ad : Nat → Nat} {H : Heap} {locs : List Loc} {ls : Array Slot} {M : pzM} (C : pz_C p s m #[Value.ref b] meth c cL_law 7 RL D cy (fun q : Nat => s.heap.size ≤ q)) (hr : meth.sig.returnType = ret) (hX : va_X b 6 xs s s.heap) (hbl : b < s.heap.size) (hZ : pz_Z (fun q : Nat => s.heap.size ≤ q) s s.heap) (hl0 : l.stackTraces = false) (h : pz_sh pz_si) (zc : pz_fc M) (zm : pz_fm M) (zo : M.2 83 0 = 0) (hP : va_P D pz_cl (pz_w cy ad pz_si M) H) (hD : va_D (fun q : Nat => s.heap.size ≤ q) (pz_w cy ad pz_si M)) (hS : va_S (fun q : Nat => s.heap.size ≤ q) s.heap H locs) (hl : lv_has ls 7 [(4, .int 0), (3, .ref (ad 83)), (2, .ref (ad 45)), (1, .ref (ad 0)), (0, .ref b)]) : W p l e room_1 s m #[Value.ref b] below meth c H locs 84 154143 (lw_Z below #[Value.ref b] s) (F0 m 370 ls []) := by
  have hbA : ¬ (fun q : Nat => s.heap.size ≤ q) b := Nat.not_le.mpr hbl
  refine lv_aload_n C.1.1 C.1.2.1 dL_law_370 rfl (lv_at hl 3 rfl) ?_
  refine lv_aload_n C.1.1 C.1.2.1 dL_law_371 rfl (lv_at hl 4 rfl) ?_
  refine lv_iload C.1.1 C.1.2.1 dL_law_372 (lv_at hl 0 rfl) ?_
  refine lv_iconst (v := 1) C.1.1 C.1.2.1 dL_law_374 (by decide) ?_
  refine lv_iadd C.1.1 C.1.2.1 dL_law_375 ?_
  refine va_sld C.1.1 C.1.2.1 hX hbl hbA hS (show vp_in ((0 : Int32) + 1) 6 by unfold vp_in; decide) dL_law_376 ?_
  refine lv_aload_n C.1.1 C.1.2.1 dL_law_377 rfl (lv_at hl 1 rfl) ?_
  refine lx_callSH C hZ (As := [_, _, _]) (c_L_count l D cy h zc hl0) (fun _ => rfl) ini_L wH_yL_count wD_yL_count ml_L_84 sm_yL_count rfl rfl (Nat.le_of_ble_eq_true rfl) ⟨(Nat.le_of_ble_eq_true rfl), (Nat.le_of_ble_eq_true rfl)⟩ ⟨(Nat.le_of_ble_eq_true rfl), (Nat.le_of_ble_eq_true rfl)⟩ dL_law_378 h.2.2.2 hP hD hS hl.1 (fun M1 H locs hq1 hP hD hS => ?_)
  have zm1 : pz_fm M1 := pz_am_fm hq1.1 zm
  refine lv_topi (fun k5 ek5 => ?_)
  refine lv_istore (lv' := [(5, .int k5), (4, .int 0), (3, .ref (ad 83)), (2, .ref (ad 45)), (1, .ref (ad 0)), (0, .ref b)]) C.1.1 C.1.2.1 dL_law_381 hl (by decide) rfl (fun ls hl => ?_)
  refine lv_aload_n C.1.1 C.1.2.1 dL_law_383 rfl (lv_at hl 3 rfl) ?_
  refine lv_aload_n C.1.1 C.1.2.1 dL_law_384 rfl (lv_at hl 5 rfl) ?_
  refine lv_iload C.1.1 C.1.2.1 dL_law_385 (lv_at hl 1 rfl) ?_
  refine lv_iconst (v := 1) C.1.1 C.1.2.1 dL_law_387 (by decide) ?_
  refine lv_iadd C.1.1 C.1.2.1 dL_law_388 ?_
  refine va_sld C.1.1 C.1.2.1 hX hbl hbA hS (show vp_in ((0 : Int32) + 1) 6 by unfold vp_in; decide) dL_law_389 ?_
  refine lx_callV C (As := [_]) (b := 45) (c_X11_count l D cy h zm1) (fun _ => rfl) wB_yX11_count ml_L_86 im_yX11_count se_yX11_count (ci := 10) rfl (shL h 45 rfl) (shK h 45 rfl rfl) rfl rfl (Nat.le_of_ble_eq_true rfl) ⟨(Nat.le_of_ble_eq_true rfl), (Nat.le_of_ble_eq_true rfl)⟩ ⟨(Nat.le_of_ble_eq_true rfl), (Nat.le_of_ble_eq_true rfl)⟩ dL_law_390 h.2.2.2 hP hD hS hl.1 (fun M2 H locs hq2 hP hD hS => ?_)
  refine lv_istore (lv' := [(6, .int 0), (5, .int k5), (4, .int 0), (3, .ref (ad 83)), (2, .ref (ad 45)), (1, .ref (ad 0)), (0, .ref b)]) C.1.1 C.1.2.1 dL_law_393 hl (by decide) rfl (fun ls hl => ?_)
  refine lv_aload_n C.1.1 C.1.2.1 dL_law_395 rfl (lv_at hl 4 rfl) ?_
  refine lx_callV C (As := []) (b := 45) (c_X11_thrown l D cy h) (fun _ => rfl) wB_yX11_thrown ml_L_62 im_yX11_thrown se_yX11_thrown (ci := 10) rfl (shL h 45 rfl) (shK h 45 rfl rfl) rfl rfl (Nat.le_of_ble_eq_true rfl) ⟨(Nat.le_of_ble_eq_true rfl), (Nat.le_of_ble_eq_true rfl)⟩ ⟨(Nat.le_of_ble_eq_true rfl), (Nat.le_of_ble_eq_true rfl)⟩ dL_law_396 h.2.2.2 hP hD hS hl.1 (fun M3 H locs hq3 hP hD hS => ?_)
  have hq3 := hq3.symm; subst hq3
  refine lv_iload C.1.1 C.1.2.1 dL_law_399 (lv_at hl 1 rfl) ?_
  refine lv_icmp_eq (tgt := 406) C.1.1 C.1.2.1 dL_law_401 (by decide) (fun h401 => ?_) (fun h401 => ?_)
  · refine lv_iload C.1.1 C.1.2.1 dL_law_406 (lv_at hl 1 rfl) ?_
    refine lv_if_ne (tgt := 423) C.1.1 C.1.2.1 dL_law_408 (by decide) (fun h408 => ?_) (fun h408 => ?_)
    · refine lv_goto (tgt := 930) C.1.1 C.1.2.1 dL_law_423 (by decide) ?_
      exact law_tail C hr hX hbl (Nat.le_of_ble_eq_true rfl) (Nat.le_of_ble_eq_true rfl) hS (lv_sub hl [2, 6] rfl)
    · refine lv_aload_n C.1.1 C.1.2.1 dL_law_411 rfl (lv_at hl 3 rfl) ?_
      refine lv_iconst (v := 0) C.1.1 C.1.2.1 dL_law_412 (by decide) ?_
      refine lx_lald (M := M2) C (shL h 83 rfl) (shK h 83 rfl rfl) (shB h 83 rfl rfl (vp_in0 (by decide))) dL_law_413 hP ?_
      refine lv_iload C.1.1 C.1.2.1 dL_law_414 (lv_at hl 0 rfl) ?_
      refine lv_i2l C.1.1 C.1.2.1 dL_law_416 rfl ?_
      refine W.lcmp C.1.1 C.1.2.1 dL_law_417 ?_
      refine lv_if_eq (tgt := 423) C.1.1 C.1.2.1 dL_law_418 (by decide) (fun h418 => ?_) (fun h418 => ?_)
      · refine lv_goto (tgt := 930) C.1.1 C.1.2.1 dL_law_423 (by decide) ?_
        exact law_tail C hr hX hbl (Nat.le_of_ble_eq_true rfl) (Nat.le_of_ble_eq_true rfl) hS (lv_sub hl [2, 6] rfl)
      · exact absurd (by rw [show M2.2 83 (0 : Int32).toNatClampNeg = 0 from (congrFun (congrFun hq2.2 83) 0).trans (hq1.2 (ek5.symm.trans (h408)))]; decide) h418
  · exact absurd (hq2.1.trans ek5.symm) h401
set_option maxHeartbeats 4000000 in
set_option maxRecDepth 100000 in
theorem law_c6 {p : Program} {l : Launch} {e : Env} {s : State} {m : MethodId} {below : List Frame} {meth : Method} {c : Code} {b : Nat} {xs : Nat → Int32} {D : va_G} {cy : Nat → ClassId} {ad : Nat → Nat} {H : Heap} {locs : List Loc} {ls : Array Slot} {M : pzM} (C : pz_C p s m #[Value.ref b] meth c cL_law 7 RL D cy (fun q : Nat => s.heap.size ≤ q)) (hr : meth.sig.returnType = ret) (hX : va_X b 6 xs s s.heap) (hbl : b < s.heap.size) (hZ : pz_Z (fun q : Nat => s.heap.size ≤ q) s s.heap) (hl0 : l.stackTraces = false) (h : pz_sh pz_si) (zc : pz_fc M) (zm : pz_fm M) (zo : M.2 83 0 = 0) (hP : va_P D pz_cl (pz_w cy ad pz_si M) H) (hD : va_D (fun q : Nat => s.heap.size ≤ q) (pz_w cy ad pz_si M)) (hS : va_S (fun q : Nat => s.heap.size ≤ q) s.heap H locs) (hl : lv_has ls 7 [(4, .int 0), (3, .ref (ad 83)), (2, .ref (ad 45)), (1, .ref (ad 0)), (0, .ref b)]) : W p l e room_1 s m #[Value.ref b] below meth c H locs 84 154143 (lw_Z below #[Value.ref b] s) (F0 m 426 ls []) := by
  have hbA : ¬ (fun q : Nat => s.heap.size ≤ q) b := Nat.not_le.mpr hbl
  refine lv_aload_n C.1.1 C.1.2.1 dL_law_426 rfl (lv_at hl 3 rfl) ?_
  refine lv_aload_n C.1.1 C.1.2.1 dL_law_427 rfl (lv_at hl 4 rfl) ?_
  refine lv_iload C.1.1 C.1.2.1 dL_law_428 (lv_at hl 0 rfl) ?_
  refine lv_iconst (v := 1) C.1.1 C.1.2.1 dL_law_430 (by decide) ?_
  refine lv_iadd C.1.1 C.1.2.1 dL_law_431 ?_
  refine va_sld C.1.1 C.1.2.1 hX hbl hbA hS (show vp_in ((0 : Int32) + 1) 6 by unfold vp_in; decide) dL_law_432 ?_
  refine lv_aload_n C.1.1 C.1.2.1 dL_law_433 rfl (lv_at hl 4 rfl) ?_
  refine lv_iload C.1.1 C.1.2.1 dL_law_434 (lv_at hl 0 rfl) ?_
  refine lv_iconst (v := 2) C.1.1 C.1.2.1 dL_law_436 (by decide) ?_
  refine lv_iadd C.1.1 C.1.2.1 dL_law_437 ?_
  refine va_sld C.1.1 C.1.2.1 hX hbl hbA hS (show vp_in ((0 : Int32) + 2) 6 by unfold vp_in; decide) dL_law_438 ?_
  refine lv_aload_n C.1.1 C.1.2.1 dL_law_439 rfl (lv_at hl 1 rfl) ?_
  refine lx_callSH C hZ (As := [_, _, _, _]) (c_L_size l D cy h zc hl0) (fun _ => rfl) ini_L wH_yL_size wD_yL_size ml_L_87 sm_yL_size rfl rfl (Nat.le_of_ble_eq_true rfl) ⟨(Nat.le_of_ble_eq_true rfl), (Nat.le_of_ble_eq_true rfl)⟩ ⟨(Nat.le_of_ble_eq_true rfl), (Nat.le_of_ble_eq_true rfl)⟩ dL_law_440 h.2.2.2 hP hD hS hl.1 (fun M1 H locs hq1 hP hD hS => ?_)
  have zm1 : pz_fm M1 := pz_am_fm hq1.1 zm
  refine lv_topi (fun k5 ek5 => ?_)
  refine lv_istore (lv' := [(5, .int k5), (4, .int 0), (3, .ref (ad 83)), (2, .ref (ad 45)), (1, .ref (ad 0)), (0, .ref b)]) C.1.1 C.1.2.1 dL_law_443 hl (by decide) rfl (fun ls hl => ?_)
  refine lv_aload_n C.1.1 C.1.2.1 dL_law_445 rfl (lv_at hl 3 rfl) ?_
  refine lv_aload_n C.1.1 C.1.2.1 dL_law_446 rfl (lv_at hl 5 rfl) ?_
  refine lv_iload C.1.1 C.1.2.1 dL_law_447 (lv_at hl 1 rfl) ?_
  refine lv_iconst (v := 1) C.1.1 C.1.2.1 dL_law_449 (by decide) ?_
  refine lv_iadd C.1.1 C.1.2.1 dL_law_450 ?_
  refine va_sld C.1.1 C.1.2.1 hX hbl hbA hS (show vp_in ((0 : Int32) + 1) 6 by unfold vp_in; decide) dL_law_451 ?_
  refine lv_aload_n C.1.1 C.1.2.1 dL_law_452 rfl (lv_at hl 5 rfl) ?_
  refine lv_iload C.1.1 C.1.2.1 dL_law_453 (lv_at hl 1 rfl) ?_
  refine lv_iconst (v := 2) C.1.1 C.1.2.1 dL_law_455 (by decide) ?_
  refine lv_iadd C.1.1 C.1.2.1 dL_law_456 ?_
  refine va_sld C.1.1 C.1.2.1 hX hbl hbA hS (show vp_in ((0 : Int32) + 2) 6 by unfold vp_in; decide) dL_law_457 ?_
  refine lx_callV C (As := [_, _]) (b := 45) (c_X11_size l D cy h zm1) (fun _ => rfl) wB_yX11_size ml_L_90 im_yX11_size se_yX11_size (ci := 10) rfl (shL h 45 rfl) (shK h 45 rfl rfl) rfl rfl (Nat.le_of_ble_eq_true rfl) ⟨(Nat.le_of_ble_eq_true rfl), (Nat.le_of_ble_eq_true rfl)⟩ ⟨(Nat.le_of_ble_eq_true rfl), (Nat.le_of_ble_eq_true rfl)⟩ dL_law_458 h.2.2.2 hP hD hS hl.1 (fun M2 H locs hq2 hP hD hS => ?_)
  refine lv_istore (lv' := [(6, .int 0), (5, .int k5), (4, .int 0), (3, .ref (ad 83)), (2, .ref (ad 45)), (1, .ref (ad 0)), (0, .ref b)]) C.1.1 C.1.2.1 dL_law_461 hl (by decide) rfl (fun ls hl => ?_)
  refine lv_aload_n C.1.1 C.1.2.1 dL_law_463 rfl (lv_at hl 4 rfl) ?_
  refine lx_callV C (As := []) (b := 45) (c_X11_thrown l D cy h) (fun _ => rfl) wB_yX11_thrown ml_L_62 im_yX11_thrown se_yX11_thrown (ci := 10) rfl (shL h 45 rfl) (shK h 45 rfl rfl) rfl rfl (Nat.le_of_ble_eq_true rfl) ⟨(Nat.le_of_ble_eq_true rfl), (Nat.le_of_ble_eq_true rfl)⟩ ⟨(Nat.le_of_ble_eq_true rfl), (Nat.le_of_ble_eq_true rfl)⟩ dL_law_464 h.2.2.2 hP hD hS hl.1 (fun M3 H locs hq3 hP hD hS => ?_)
  have hq3 := hq3.symm; subst hq3
  refine lv_iload C.1.1 C.1.2.1 dL_law_467 (lv_at hl 1 rfl) ?_
  refine lv_icmp_eq (tgt := 474) C.1.1 C.1.2.1 dL_law_469 (by decide) (fun h469 => ?_) (fun h469 => ?_)
  · refine lv_iload C.1.1 C.1.2.1 dL_law_474 (lv_at hl 1 rfl) ?_
    refine lv_if_ne (tgt := 491) C.1.1 C.1.2.1 dL_law_476 (by decide) (fun h476 => ?_) (fun h476 => ?_)
    · refine lv_goto (tgt := 930) C.1.1 C.1.2.1 dL_law_491 (by decide) ?_
      exact law_tail C hr hX hbl (Nat.le_of_ble_eq_true rfl) (Nat.le_of_ble_eq_true rfl) hS (lv_sub hl [2, 6] rfl)
    · refine lv_aload_n C.1.1 C.1.2.1 dL_law_479 rfl (lv_at hl 3 rfl) ?_
      refine lv_iconst (v := 0) C.1.1 C.1.2.1 dL_law_480 (by decide) ?_
      refine lx_lald (M := M2) C (shL h 83 rfl) (shK h 83 rfl rfl) (shB h 83 rfl rfl (vp_in0 (by decide))) dL_law_481 hP ?_
      refine lv_iload C.1.1 C.1.2.1 dL_law_482 (lv_at hl 0 rfl) ?_
      refine lv_i2l C.1.1 C.1.2.1 dL_law_484 rfl ?_
      refine W.lcmp C.1.1 C.1.2.1 dL_law_485 ?_
      refine lv_if_eq (tgt := 491) C.1.1 C.1.2.1 dL_law_486 (by decide) (fun h486 => ?_) (fun h486 => ?_)
      · refine lv_goto (tgt := 930) C.1.1 C.1.2.1 dL_law_491 (by decide) ?_
        exact law_tail C hr hX hbl (Nat.le_of_ble_eq_true rfl) (Nat.le_of_ble_eq_true rfl) hS (lv_sub hl [2, 6] rfl)
      · exact absurd (by rw [show M2.2 83 (0 : Int32).toNatClampNeg = 0 from (congrFun (congrFun hq2.2 83) 0).trans (hq1.2 (ek5.symm.trans (h476)))]; decide) h486
  · exact absurd (hq2.1.trans ek5.symm) h469
set_option maxHeartbeats 4000000 in
set_option maxRecDepth 100000 in
theorem law_c7 {p : Program} {l : Launch} {e : Env} {s : State} {m : MethodId} {below : List Frame} {meth : Method} {c : Code} {b : Nat} {xs : Nat → Int32} {D : va_G} {cy : Nat → ClassId} {ad : Nat → Nat} {H : Heap} {locs : List Loc} {ls : Array Slot} {M : pzM} (C : pz_C p s m #[Value.ref b] meth c cL_law 7 RL D cy (fun q : Nat => s.heap.size ≤ q)) (hr : meth.sig.returnType = ret) (hX : va_X b 6 xs s s.heap) (hbl : b < s.heap.size) (hZ : pz_Z (fun q : Nat => s.heap.size ≤ q) s s.heap) (hl0 : l.stackTraces = false) (h : pz_sh pz_si) (zc : pz_fc M) (zm : pz_fm M) (zo : M.2 83 0 = 0) (hP : va_P D pz_cl (pz_w cy ad pz_si M) H) (hD : va_D (fun q : Nat => s.heap.size ≤ q) (pz_w cy ad pz_si M)) (hS : va_S (fun q : Nat => s.heap.size ≤ q) s.heap H locs) (hl : lv_has ls 7 [(4, .int 0), (3, .ref (ad 83)), (2, .ref (ad 45)), (1, .ref (ad 0)), (0, .ref b)]) : W p l e room_1 s m #[Value.ref b] below meth c H locs 84 154143 (lw_Z below #[Value.ref b] s) (F0 m 494 ls []) := by
  have hbA : ¬ (fun q : Nat => s.heap.size ≤ q) b := Nat.not_le.mpr hbl
  refine lv_aload_n C.1.1 C.1.2.1 dL_law_494 rfl (lv_at hl 3 rfl) ?_
  refine lv_aload_n C.1.1 C.1.2.1 dL_law_495 rfl (lv_at hl 4 rfl) ?_
  refine lv_iload C.1.1 C.1.2.1 dL_law_496 (lv_at hl 0 rfl) ?_
  refine lv_iconst (v := 1) C.1.1 C.1.2.1 dL_law_498 (by decide) ?_
  refine lv_iadd C.1.1 C.1.2.1 dL_law_499 ?_
  refine va_sld C.1.1 C.1.2.1 hX hbl hbA hS (show vp_in ((0 : Int32) + 1) 6 by unfold vp_in; decide) dL_law_500 ?_
  refine lv_aload_n C.1.1 C.1.2.1 dL_law_501 rfl (lv_at hl 4 rfl) ?_
  refine lv_iload C.1.1 C.1.2.1 dL_law_502 (lv_at hl 0 rfl) ?_
  refine lv_iconst (v := 2) C.1.1 C.1.2.1 dL_law_504 (by decide) ?_
  refine lv_iadd C.1.1 C.1.2.1 dL_law_505 ?_
  refine va_sld C.1.1 C.1.2.1 hX hbl hbA hS (show vp_in ((0 : Int32) + 2) 6 by unfold vp_in; decide) dL_law_506 ?_
  refine lv_aload_n C.1.1 C.1.2.1 dL_law_507 rfl (lv_at hl 4 rfl) ?_
  refine lv_iload C.1.1 C.1.2.1 dL_law_508 (lv_at hl 0 rfl) ?_
  refine lv_iconst (v := 3) C.1.1 C.1.2.1 dL_law_510 (by decide) ?_
  refine lv_iadd C.1.1 C.1.2.1 dL_law_511 ?_
  refine va_sld C.1.1 C.1.2.1 hX hbl hbA hS (show vp_in ((0 : Int32) + 3) 6 by unfold vp_in; decide) dL_law_512 ?_
  refine lv_aload_n C.1.1 C.1.2.1 dL_law_513 rfl (lv_at hl 1 rfl) ?_
  refine lx_callSH C hZ (As := [_, _, _, _, _]) (c_L_plain l D cy h zc hl0) (fun _ => rfl) ini_L wH_yL_plain wD_yL_plain ml_L_91 sm_yL_plain rfl rfl (Nat.le_of_ble_eq_true rfl) ⟨(Nat.le_of_ble_eq_true rfl), (Nat.le_of_ble_eq_true rfl)⟩ ⟨(Nat.le_of_ble_eq_true rfl), (Nat.le_of_ble_eq_true rfl)⟩ dL_law_514 h.2.2.2 hP hD hS hl.1 (fun M1 H locs hq1 hP hD hS => ?_)
  have zm1 : pz_fm M1 := pz_am_fm hq1.1 zm
  refine lv_topi (fun k5 ek5 => ?_)
  refine lv_istore (lv' := [(5, .int k5), (4, .int 0), (3, .ref (ad 83)), (2, .ref (ad 45)), (1, .ref (ad 0)), (0, .ref b)]) C.1.1 C.1.2.1 dL_law_517 hl (by decide) rfl (fun ls hl => ?_)
  refine lv_aload_n C.1.1 C.1.2.1 dL_law_519 rfl (lv_at hl 3 rfl) ?_
  refine lv_aload_n C.1.1 C.1.2.1 dL_law_520 rfl (lv_at hl 5 rfl) ?_
  refine lv_iload C.1.1 C.1.2.1 dL_law_521 (lv_at hl 1 rfl) ?_
  refine lv_iconst (v := 1) C.1.1 C.1.2.1 dL_law_523 (by decide) ?_
  refine lv_iadd C.1.1 C.1.2.1 dL_law_524 ?_
  refine va_sld C.1.1 C.1.2.1 hX hbl hbA hS (show vp_in ((0 : Int32) + 1) 6 by unfold vp_in; decide) dL_law_525 ?_
  refine lv_aload_n C.1.1 C.1.2.1 dL_law_526 rfl (lv_at hl 5 rfl) ?_
  refine lv_iload C.1.1 C.1.2.1 dL_law_527 (lv_at hl 1 rfl) ?_
  refine lv_iconst (v := 2) C.1.1 C.1.2.1 dL_law_529 (by decide) ?_
  refine lv_iadd C.1.1 C.1.2.1 dL_law_530 ?_
  refine va_sld C.1.1 C.1.2.1 hX hbl hbA hS (show vp_in ((0 : Int32) + 2) 6 by unfold vp_in; decide) dL_law_531 ?_
  refine lv_aload_n C.1.1 C.1.2.1 dL_law_532 rfl (lv_at hl 5 rfl) ?_
  refine lv_iload C.1.1 C.1.2.1 dL_law_533 (lv_at hl 1 rfl) ?_
  refine lv_iconst (v := 3) C.1.1 C.1.2.1 dL_law_535 (by decide) ?_
  refine lv_iadd C.1.1 C.1.2.1 dL_law_536 ?_
  refine va_sld C.1.1 C.1.2.1 hX hbl hbA hS (show vp_in ((0 : Int32) + 3) 6 by unfold vp_in; decide) dL_law_537 ?_
  refine lx_callV C (As := [_, _, _]) (b := 45) (c_X11_plain l D cy h zm1) (fun _ => rfl) wB_yX11_plain ml_L_94 im_yX11_plain se_yX11_plain (ci := 10) rfl (shL h 45 rfl) (shK h 45 rfl rfl) rfl rfl (Nat.le_of_ble_eq_true rfl) ⟨(Nat.le_of_ble_eq_true rfl), (Nat.le_of_ble_eq_true rfl)⟩ ⟨(Nat.le_of_ble_eq_true rfl), (Nat.le_of_ble_eq_true rfl)⟩ dL_law_538 h.2.2.2 hP hD hS hl.1 (fun M2 H locs hq2 hP hD hS => ?_)
  refine lv_istore (lv' := [(6, .int 0), (5, .int k5), (4, .int 0), (3, .ref (ad 83)), (2, .ref (ad 45)), (1, .ref (ad 0)), (0, .ref b)]) C.1.1 C.1.2.1 dL_law_541 hl (by decide) rfl (fun ls hl => ?_)
  refine lv_aload_n C.1.1 C.1.2.1 dL_law_543 rfl (lv_at hl 4 rfl) ?_
  refine lx_callV C (As := []) (b := 45) (c_X11_thrown l D cy h) (fun _ => rfl) wB_yX11_thrown ml_L_62 im_yX11_thrown se_yX11_thrown (ci := 10) rfl (shL h 45 rfl) (shK h 45 rfl rfl) rfl rfl (Nat.le_of_ble_eq_true rfl) ⟨(Nat.le_of_ble_eq_true rfl), (Nat.le_of_ble_eq_true rfl)⟩ ⟨(Nat.le_of_ble_eq_true rfl), (Nat.le_of_ble_eq_true rfl)⟩ dL_law_544 h.2.2.2 hP hD hS hl.1 (fun M3 H locs hq3 hP hD hS => ?_)
  have hq3 := hq3.symm; subst hq3
  refine lv_iload C.1.1 C.1.2.1 dL_law_547 (lv_at hl 1 rfl) ?_
  refine lv_icmp_eq (tgt := 554) C.1.1 C.1.2.1 dL_law_549 (by decide) (fun h549 => ?_) (fun h549 => ?_)
  · refine lv_iload C.1.1 C.1.2.1 dL_law_554 (lv_at hl 1 rfl) ?_
    refine lv_if_ne (tgt := 571) C.1.1 C.1.2.1 dL_law_556 (by decide) (fun h556 => ?_) (fun h556 => ?_)
    · refine lv_goto (tgt := 930) C.1.1 C.1.2.1 dL_law_571 (by decide) ?_
      exact law_tail C hr hX hbl (Nat.le_of_ble_eq_true rfl) (Nat.le_of_ble_eq_true rfl) hS (lv_sub hl [2, 6] rfl)
    · refine lv_aload_n C.1.1 C.1.2.1 dL_law_559 rfl (lv_at hl 3 rfl) ?_
      refine lv_iconst (v := 0) C.1.1 C.1.2.1 dL_law_560 (by decide) ?_
      refine lx_lald (M := M2) C (shL h 83 rfl) (shK h 83 rfl rfl) (shB h 83 rfl rfl (vp_in0 (by decide))) dL_law_561 hP ?_
      refine lv_iload C.1.1 C.1.2.1 dL_law_562 (lv_at hl 0 rfl) ?_
      refine lv_i2l C.1.1 C.1.2.1 dL_law_564 rfl ?_
      refine W.lcmp C.1.1 C.1.2.1 dL_law_565 ?_
      refine lv_if_eq (tgt := 571) C.1.1 C.1.2.1 dL_law_566 (by decide) (fun h566 => ?_) (fun h566 => ?_)
      · refine lv_goto (tgt := 930) C.1.1 C.1.2.1 dL_law_571 (by decide) ?_
        exact law_tail C hr hX hbl (Nat.le_of_ble_eq_true rfl) (Nat.le_of_ble_eq_true rfl) hS (lv_sub hl [2, 6] rfl)
      · exact absurd (by rw [show M2.2 83 (0 : Int32).toNatClampNeg = 0 from (congrFun (congrFun hq2.2 83) 0).trans (hq1.2 (ek5.symm.trans (h556)))]; decide) h566
  · exact absurd (hq2.1.trans ek5.symm) h549
set_option maxHeartbeats 4000000 in
set_option maxRecDepth 100000 in
theorem law_c8 {p : Program} {l : Launch} {e : Env} {s : State} {m : MethodId} {below : List Frame} {meth : Method} {c : Code} {b : Nat} {xs : Nat → Int32} {D : va_G} {cy : Nat → ClassId} {ad : Nat → Nat} {H : Heap} {locs : List Loc} {ls : Array Slot} {M : pzM} (C : pz_C p s m #[Value.ref b] meth c cL_law 7 RL D cy (fun q : Nat => s.heap.size ≤ q)) (hr : meth.sig.returnType = ret) (hX : va_X b 6 xs s s.heap) (hbl : b < s.heap.size) (hZ : pz_Z (fun q : Nat => s.heap.size ≤ q) s s.heap) (hl0 : l.stackTraces = false) (h : pz_sh pz_si) (zc : pz_fc M) (zm : pz_fm M) (zo : M.2 83 0 = 0) (hP : va_P D pz_cl (pz_w cy ad pz_si M) H) (hD : va_D (fun q : Nat => s.heap.size ≤ q) (pz_w cy ad pz_si M)) (hS : va_S (fun q : Nat => s.heap.size ≤ q) s.heap H locs) (hl : lv_has ls 7 [(4, .int 0), (3, .ref (ad 83)), (2, .ref (ad 45)), (1, .ref (ad 0)), (0, .ref b)]) : W p l e room_1 s m #[Value.ref b] below meth c H locs 84 154143 (lw_Z below #[Value.ref b] s) (F0 m 574 ls []) := by
  have hbA : ¬ (fun q : Nat => s.heap.size ≤ q) b := Nat.not_le.mpr hbl
  refine lv_aload_n C.1.1 C.1.2.1 dL_law_574 rfl (lv_at hl 3 rfl) ?_
  refine lv_aload_n C.1.1 C.1.2.1 dL_law_575 rfl (lv_at hl 4 rfl) ?_
  refine lv_iload C.1.1 C.1.2.1 dL_law_576 (lv_at hl 0 rfl) ?_
  refine lv_iconst (v := 1) C.1.1 C.1.2.1 dL_law_578 (by decide) ?_
  refine lv_iadd C.1.1 C.1.2.1 dL_law_579 ?_
  refine va_sld C.1.1 C.1.2.1 hX hbl hbA hS (show vp_in ((0 : Int32) + 1) 6 by unfold vp_in; decide) dL_law_580 ?_
  refine lv_aload_n C.1.1 C.1.2.1 dL_law_581 rfl (lv_at hl 4 rfl) ?_
  refine lv_iload C.1.1 C.1.2.1 dL_law_582 (lv_at hl 0 rfl) ?_
  refine lv_iconst (v := 2) C.1.1 C.1.2.1 dL_law_584 (by decide) ?_
  refine lv_iadd C.1.1 C.1.2.1 dL_law_585 ?_
  refine va_sld C.1.1 C.1.2.1 hX hbl hbA hS (show vp_in ((0 : Int32) + 2) 6 by unfold vp_in; decide) dL_law_586 ?_
  refine lv_aload_n C.1.1 C.1.2.1 dL_law_587 rfl (lv_at hl 1 rfl) ?_
  refine lx_callSH C hZ (As := [_, _, _, _]) (c_L_made l D cy h zc hl0) (fun _ => rfl) ini_L wH_yL_made wD_yL_made ml_L_95 sm_yL_made rfl rfl (Nat.le_of_ble_eq_true rfl) ⟨(Nat.le_of_ble_eq_true rfl), (Nat.le_of_ble_eq_true rfl)⟩ ⟨(Nat.le_of_ble_eq_true rfl), (Nat.le_of_ble_eq_true rfl)⟩ dL_law_588 h.2.2.2 hP hD hS hl.1 (fun M1 H locs hq1 hP hD hS => ?_)
  have zm1 : pz_fm M1 := pz_am_fm hq1.1 zm
  refine lv_topi (fun k5 ek5 => ?_)
  refine lv_istore (lv' := [(5, .int k5), (4, .int 0), (3, .ref (ad 83)), (2, .ref (ad 45)), (1, .ref (ad 0)), (0, .ref b)]) C.1.1 C.1.2.1 dL_law_591 hl (by decide) rfl (fun ls hl => ?_)
  refine lv_aload_n C.1.1 C.1.2.1 dL_law_593 rfl (lv_at hl 3 rfl) ?_
  refine lv_aload_n C.1.1 C.1.2.1 dL_law_594 rfl (lv_at hl 5 rfl) ?_
  refine lv_iload C.1.1 C.1.2.1 dL_law_595 (lv_at hl 1 rfl) ?_
  refine lv_iconst (v := 1) C.1.1 C.1.2.1 dL_law_597 (by decide) ?_
  refine lv_iadd C.1.1 C.1.2.1 dL_law_598 ?_
  refine va_sld C.1.1 C.1.2.1 hX hbl hbA hS (show vp_in ((0 : Int32) + 1) 6 by unfold vp_in; decide) dL_law_599 ?_
  refine lv_aload_n C.1.1 C.1.2.1 dL_law_600 rfl (lv_at hl 5 rfl) ?_
  refine lv_iload C.1.1 C.1.2.1 dL_law_601 (lv_at hl 1 rfl) ?_
  refine lv_iconst (v := 2) C.1.1 C.1.2.1 dL_law_603 (by decide) ?_
  refine lv_iadd C.1.1 C.1.2.1 dL_law_604 ?_
  refine va_sld C.1.1 C.1.2.1 hX hbl hbA hS (show vp_in ((0 : Int32) + 2) 6 by unfold vp_in; decide) dL_law_605 ?_
  refine lx_callV C (As := [_, _]) (b := 45) (c_X11_made l D cy h zm1) (fun _ => rfl) wB_yX11_made ml_L_97 im_yX11_made se_yX11_made (ci := 10) rfl (shL h 45 rfl) (shK h 45 rfl rfl) rfl rfl (Nat.le_of_ble_eq_true rfl) ⟨(Nat.le_of_ble_eq_true rfl), (Nat.le_of_ble_eq_true rfl)⟩ ⟨(Nat.le_of_ble_eq_true rfl), (Nat.le_of_ble_eq_true rfl)⟩ dL_law_606 h.2.2.2 hP hD hS hl.1 (fun M2 H locs hq2 hP hD hS => ?_)
  refine lv_istore (lv' := [(6, .int 0), (5, .int k5), (4, .int 0), (3, .ref (ad 83)), (2, .ref (ad 45)), (1, .ref (ad 0)), (0, .ref b)]) C.1.1 C.1.2.1 dL_law_609 hl (by decide) rfl (fun ls hl => ?_)
  refine lv_aload_n C.1.1 C.1.2.1 dL_law_611 rfl (lv_at hl 4 rfl) ?_
  refine lx_callV C (As := []) (b := 45) (c_X11_thrown l D cy h) (fun _ => rfl) wB_yX11_thrown ml_L_62 im_yX11_thrown se_yX11_thrown (ci := 10) rfl (shL h 45 rfl) (shK h 45 rfl rfl) rfl rfl (Nat.le_of_ble_eq_true rfl) ⟨(Nat.le_of_ble_eq_true rfl), (Nat.le_of_ble_eq_true rfl)⟩ ⟨(Nat.le_of_ble_eq_true rfl), (Nat.le_of_ble_eq_true rfl)⟩ dL_law_612 h.2.2.2 hP hD hS hl.1 (fun M3 H locs hq3 hP hD hS => ?_)
  have hq3 := hq3.symm; subst hq3
  refine lv_iload C.1.1 C.1.2.1 dL_law_615 (lv_at hl 1 rfl) ?_
  refine lv_icmp_eq (tgt := 622) C.1.1 C.1.2.1 dL_law_617 (by decide) (fun h617 => ?_) (fun h617 => ?_)
  · refine lv_iload C.1.1 C.1.2.1 dL_law_622 (lv_at hl 1 rfl) ?_
    refine lv_if_ne (tgt := 639) C.1.1 C.1.2.1 dL_law_624 (by decide) (fun h624 => ?_) (fun h624 => ?_)
    · refine lv_goto (tgt := 930) C.1.1 C.1.2.1 dL_law_639 (by decide) ?_
      exact law_tail C hr hX hbl (Nat.le_of_ble_eq_true rfl) (Nat.le_of_ble_eq_true rfl) hS (lv_sub hl [2, 6] rfl)
    · refine lv_aload_n C.1.1 C.1.2.1 dL_law_627 rfl (lv_at hl 3 rfl) ?_
      refine lv_iconst (v := 0) C.1.1 C.1.2.1 dL_law_628 (by decide) ?_
      refine lx_lald (M := M2) C (shL h 83 rfl) (shK h 83 rfl rfl) (shB h 83 rfl rfl (vp_in0 (by decide))) dL_law_629 hP ?_
      refine lv_iload C.1.1 C.1.2.1 dL_law_630 (lv_at hl 0 rfl) ?_
      refine lv_i2l C.1.1 C.1.2.1 dL_law_632 rfl ?_
      refine W.lcmp C.1.1 C.1.2.1 dL_law_633 ?_
      refine lv_if_eq (tgt := 639) C.1.1 C.1.2.1 dL_law_634 (by decide) (fun h634 => ?_) (fun h634 => ?_)
      · refine lv_goto (tgt := 930) C.1.1 C.1.2.1 dL_law_639 (by decide) ?_
        exact law_tail C hr hX hbl (Nat.le_of_ble_eq_true rfl) (Nat.le_of_ble_eq_true rfl) hS (lv_sub hl [2, 6] rfl)
      · exact absurd (by rw [show M2.2 83 (0 : Int32).toNatClampNeg = 0 from (congrFun (congrFun hq2.2 83) 0).trans (hq1.2 (ek5.symm.trans (h624)))]; decide) h634
  · exact absurd (hq2.1.trans ek5.symm) h617
set_option maxHeartbeats 4000000 in
set_option maxRecDepth 100000 in
theorem law_c9 {p : Program} {l : Launch} {e : Env} {s : State} {m : MethodId} {below : List Frame} {meth : Method} {c : Code} {b : Nat} {xs : Nat → Int32} {D : va_G} {cy : Nat → ClassId} {ad : Nat → Nat} {H : Heap} {locs : List Loc} {ls : Array Slot} {M : pzM} (C : pz_C p s m #[Value.ref b] meth c cL_law 7 RL D cy (fun q : Nat => s.heap.size ≤ q)) (hr : meth.sig.returnType = ret) (hX : va_X b 6 xs s s.heap) (hbl : b < s.heap.size) (hZ : pz_Z (fun q : Nat => s.heap.size ≤ q) s s.heap) (hl0 : l.stackTraces = false) (h : pz_sh pz_si) (zc : pz_fc M) (zm : pz_fm M) (zo : M.2 83 0 = 0) (hP : va_P D pz_cl (pz_w cy ad pz_si M) H) (hD : va_D (fun q : Nat => s.heap.size ≤ q) (pz_w cy ad pz_si M)) (hS : va_S (fun q : Nat => s.heap.size ≤ q) s.heap H locs) (hl : lv_has ls 7 [(4, .int 0), (3, .ref (ad 83)), (2, .ref (ad 45)), (1, .ref (ad 0)), (0, .ref b)]) : W p l e room_1 s m #[Value.ref b] below meth c H locs 84 154143 (lw_Z below #[Value.ref b] s) (F0 m 642 ls []) := by
  have hbA : ¬ (fun q : Nat => s.heap.size ≤ q) b := Nat.not_le.mpr hbl
  refine lv_aload_n C.1.1 C.1.2.1 dL_law_642 rfl (lv_at hl 3 rfl) ?_
  refine lv_aload_n C.1.1 C.1.2.1 dL_law_643 rfl (lv_at hl 4 rfl) ?_
  refine lv_iload C.1.1 C.1.2.1 dL_law_644 (lv_at hl 0 rfl) ?_
  refine lv_iconst (v := 1) C.1.1 C.1.2.1 dL_law_646 (by decide) ?_
  refine lv_iadd C.1.1 C.1.2.1 dL_law_647 ?_
  refine va_sld C.1.1 C.1.2.1 hX hbl hbA hS (show vp_in ((0 : Int32) + 1) 6 by unfold vp_in; decide) dL_law_648 ?_
  refine lv_aload_n C.1.1 C.1.2.1 dL_law_649 rfl (lv_at hl 1 rfl) ?_
  refine lx_callSH C hZ (As := [_, _, _]) (c_L_character l D cy h zc hl0) (fun _ => rfl) ini_L wH_yL_character wD_yL_character ml_L_98 sm_yL_character rfl rfl (Nat.le_of_ble_eq_true rfl) ⟨(Nat.le_of_ble_eq_true rfl), (Nat.le_of_ble_eq_true rfl)⟩ ⟨(Nat.le_of_ble_eq_true rfl), (Nat.le_of_ble_eq_true rfl)⟩ dL_law_650 h.2.2.2 hP hD hS hl.1 (fun M1 H locs hq1 hP hD hS => ?_)
  have zm1 : pz_fm M1 := pz_am_fm hq1.1 zm
  refine lv_topi (fun k5 ek5 => ?_)
  refine lv_istore (lv' := [(5, .int k5), (4, .int 0), (3, .ref (ad 83)), (2, .ref (ad 45)), (1, .ref (ad 0)), (0, .ref b)]) C.1.1 C.1.2.1 dL_law_653 hl (by decide) rfl (fun ls hl => ?_)
  refine lv_aload_n C.1.1 C.1.2.1 dL_law_655 rfl (lv_at hl 3 rfl) ?_
  refine lv_aload_n C.1.1 C.1.2.1 dL_law_656 rfl (lv_at hl 5 rfl) ?_
  refine lv_iload C.1.1 C.1.2.1 dL_law_657 (lv_at hl 1 rfl) ?_
  refine lv_iconst (v := 1) C.1.1 C.1.2.1 dL_law_659 (by decide) ?_
  refine lv_iadd C.1.1 C.1.2.1 dL_law_660 ?_
  refine va_sld C.1.1 C.1.2.1 hX hbl hbA hS (show vp_in ((0 : Int32) + 1) 6 by unfold vp_in; decide) dL_law_661 ?_
  refine lx_callV C (As := [_]) (b := 45) (c_X11_character l D cy h zm1) (fun _ => rfl) wB_yX11_character ml_L_100 im_yX11_character se_yX11_character (ci := 10) rfl (shL h 45 rfl) (shK h 45 rfl rfl) rfl rfl (Nat.le_of_ble_eq_true rfl) ⟨(Nat.le_of_ble_eq_true rfl), (Nat.le_of_ble_eq_true rfl)⟩ ⟨(Nat.le_of_ble_eq_true rfl), (Nat.le_of_ble_eq_true rfl)⟩ dL_law_662 h.2.2.2 hP hD hS hl.1 (fun M2 H locs hq2 hP hD hS => ?_)
  refine lv_istore (lv' := [(6, .int 0), (5, .int k5), (4, .int 0), (3, .ref (ad 83)), (2, .ref (ad 45)), (1, .ref (ad 0)), (0, .ref b)]) C.1.1 C.1.2.1 dL_law_665 hl (by decide) rfl (fun ls hl => ?_)
  refine lv_aload_n C.1.1 C.1.2.1 dL_law_667 rfl (lv_at hl 4 rfl) ?_
  refine lx_callV C (As := []) (b := 45) (c_X11_thrown l D cy h) (fun _ => rfl) wB_yX11_thrown ml_L_62 im_yX11_thrown se_yX11_thrown (ci := 10) rfl (shL h 45 rfl) (shK h 45 rfl rfl) rfl rfl (Nat.le_of_ble_eq_true rfl) ⟨(Nat.le_of_ble_eq_true rfl), (Nat.le_of_ble_eq_true rfl)⟩ ⟨(Nat.le_of_ble_eq_true rfl), (Nat.le_of_ble_eq_true rfl)⟩ dL_law_668 h.2.2.2 hP hD hS hl.1 (fun M3 H locs hq3 hP hD hS => ?_)
  have hq3 := hq3.symm; subst hq3
  refine lv_iload C.1.1 C.1.2.1 dL_law_671 (lv_at hl 1 rfl) ?_
  refine lv_icmp_eq (tgt := 678) C.1.1 C.1.2.1 dL_law_673 (by decide) (fun h673 => ?_) (fun h673 => ?_)
  · refine lv_iload C.1.1 C.1.2.1 dL_law_678 (lv_at hl 1 rfl) ?_
    refine lv_if_ne (tgt := 695) C.1.1 C.1.2.1 dL_law_680 (by decide) (fun h680 => ?_) (fun h680 => ?_)
    · refine lv_goto (tgt := 930) C.1.1 C.1.2.1 dL_law_695 (by decide) ?_
      exact law_tail C hr hX hbl (Nat.le_of_ble_eq_true rfl) (Nat.le_of_ble_eq_true rfl) hS (lv_sub hl [2, 6] rfl)
    · refine lv_aload_n C.1.1 C.1.2.1 dL_law_683 rfl (lv_at hl 3 rfl) ?_
      refine lv_iconst (v := 0) C.1.1 C.1.2.1 dL_law_684 (by decide) ?_
      refine lx_lald (M := M2) C (shL h 83 rfl) (shK h 83 rfl rfl) (shB h 83 rfl rfl (vp_in0 (by decide))) dL_law_685 hP ?_
      refine lv_iload C.1.1 C.1.2.1 dL_law_686 (lv_at hl 0 rfl) ?_
      refine lv_i2l C.1.1 C.1.2.1 dL_law_688 rfl ?_
      refine W.lcmp C.1.1 C.1.2.1 dL_law_689 ?_
      refine lv_if_eq (tgt := 695) C.1.1 C.1.2.1 dL_law_690 (by decide) (fun h690 => ?_) (fun h690 => ?_)
      · refine lv_goto (tgt := 930) C.1.1 C.1.2.1 dL_law_695 (by decide) ?_
        exact law_tail C hr hX hbl (Nat.le_of_ble_eq_true rfl) (Nat.le_of_ble_eq_true rfl) hS (lv_sub hl [2, 6] rfl)
      · exact absurd (by rw [show M2.2 83 (0 : Int32).toNatClampNeg = 0 from (congrFun (congrFun hq2.2 83) 0).trans (hq1.2 (ek5.symm.trans (h680)))]; decide) h690
  · exact absurd (hq2.1.trans ek5.symm) h673
set_option maxHeartbeats 4000000 in
set_option maxRecDepth 100000 in
theorem law_c10 {p : Program} {l : Launch} {e : Env} {s : State} {m : MethodId} {below : List Frame} {meth : Method} {c : Code} {b : Nat} {xs : Nat → Int32} {D : va_G} {cy : Nat → ClassId} {ad : Nat → Nat} {H : Heap} {locs : List Loc} {ls : Array Slot} {M : pzM} (C : pz_C p s m #[Value.ref b] meth c cL_law 7 RL D cy (fun q : Nat => s.heap.size ≤ q)) (hr : meth.sig.returnType = ret) (hX : va_X b 6 xs s s.heap) (hbl : b < s.heap.size) (hZ : pz_Z (fun q : Nat => s.heap.size ≤ q) s s.heap) (hl0 : l.stackTraces = false) (h : pz_sh pz_si) (zc : pz_fc M) (zm : pz_fm M) (zo : M.2 83 0 = 0) (hP : va_P D pz_cl (pz_w cy ad pz_si M) H) (hD : va_D (fun q : Nat => s.heap.size ≤ q) (pz_w cy ad pz_si M)) (hS : va_S (fun q : Nat => s.heap.size ≤ q) s.heap H locs) (hl : lv_has ls 7 [(4, .int 0), (3, .ref (ad 83)), (2, .ref (ad 45)), (1, .ref (ad 0)), (0, .ref b)]) : W p l e room_1 s m #[Value.ref b] below meth c H locs 84 154143 (lw_Z below #[Value.ref b] s) (F0 m 698 ls []) := by
  have hbA : ¬ (fun q : Nat => s.heap.size ≤ q) b := Nat.not_le.mpr hbl
  refine lv_aload_n C.1.1 C.1.2.1 dL_law_698 rfl (lv_at hl 3 rfl) ?_
  refine lv_aload_n C.1.1 C.1.2.1 dL_law_699 rfl (lv_at hl 4 rfl) ?_
  refine lv_iload C.1.1 C.1.2.1 dL_law_700 (lv_at hl 0 rfl) ?_
  refine lv_iconst (v := 1) C.1.1 C.1.2.1 dL_law_702 (by decide) ?_
  refine lv_iadd C.1.1 C.1.2.1 dL_law_703 ?_
  refine va_sld C.1.1 C.1.2.1 hX hbl hbA hS (show vp_in ((0 : Int32) + 1) 6 by unfold vp_in; decide) dL_law_704 ?_
  refine lv_aload_n C.1.1 C.1.2.1 dL_law_705 rfl (lv_at hl 4 rfl) ?_
  refine lv_iload C.1.1 C.1.2.1 dL_law_706 (lv_at hl 0 rfl) ?_
  refine lv_iconst (v := 2) C.1.1 C.1.2.1 dL_law_708 (by decide) ?_
  refine lv_iadd C.1.1 C.1.2.1 dL_law_709 ?_
  refine va_sld C.1.1 C.1.2.1 hX hbl hbA hS (show vp_in ((0 : Int32) + 2) 6 by unfold vp_in; decide) dL_law_710 ?_
  refine lv_aload_n C.1.1 C.1.2.1 dL_law_711 rfl (lv_at hl 4 rfl) ?_
  refine lv_iload C.1.1 C.1.2.1 dL_law_712 (lv_at hl 0 rfl) ?_
  refine lv_iconst (v := 3) C.1.1 C.1.2.1 dL_law_714 (by decide) ?_
  refine lv_iadd C.1.1 C.1.2.1 dL_law_715 ?_
  refine va_sld C.1.1 C.1.2.1 hX hbl hbA hS (show vp_in ((0 : Int32) + 3) 6 by unfold vp_in; decide) dL_law_716 ?_
  refine lv_aload_n C.1.1 C.1.2.1 dL_law_717 rfl (lv_at hl 4 rfl) ?_
  refine lv_iload C.1.1 C.1.2.1 dL_law_718 (lv_at hl 0 rfl) ?_
  refine lv_iconst (v := 4) C.1.1 C.1.2.1 dL_law_720 (by decide) ?_
  refine lv_iadd C.1.1 C.1.2.1 dL_law_721 ?_
  refine va_sld C.1.1 C.1.2.1 hX hbl hbA hS (show vp_in ((0 : Int32) + 4) 6 by unfold vp_in; decide) dL_law_722 ?_
  refine lv_aload_n C.1.1 C.1.2.1 dL_law_723 rfl (lv_at hl 4 rfl) ?_
  refine lv_iload C.1.1 C.1.2.1 dL_law_724 (lv_at hl 0 rfl) ?_
  refine lv_iconst (v := 5) C.1.1 C.1.2.1 dL_law_726 (by decide) ?_
  refine lv_iadd C.1.1 C.1.2.1 dL_law_727 ?_
  refine va_sld C.1.1 C.1.2.1 hX hbl hbA hS (show vp_in ((0 : Int32) + 5) 6 by unfold vp_in; decide) dL_law_728 ?_
  refine lv_if_eq (tgt := 736) C.1.1 C.1.2.1 dL_law_729 (by decide) (fun h729 => ?_) (fun h729 => ?_)
  · refine lv_iconst (v := 0) C.1.1 C.1.2.1 dL_law_736 (by decide) ?_
    refine lv_aload_n C.1.1 C.1.2.1 dL_law_737 rfl (lv_at hl 1 rfl) ?_
    refine lx_callSH C hZ (As := [_, _, _, _, _, _, _]) (c_L_run l D cy h zc hl0) (fun _ => rfl) ini_L wH_yL_run wD_yL_run ml_L_101 sm_yL_run rfl rfl (Nat.le_of_ble_eq_true rfl) ⟨(Nat.le_of_ble_eq_true rfl), (Nat.le_of_ble_eq_true rfl)⟩ ⟨(Nat.le_of_ble_eq_true rfl), (Nat.le_of_ble_eq_true rfl)⟩ dL_law_738 h.2.2.2 hP hD hS hl.1 (fun M1 H locs hq1 hP hD hS => ?_)
    have zm1 : pz_fm M1 := pz_am_fm hq1.1 zm
    refine lv_topi (fun k5 ek5 => ?_)
    refine lv_istore (lv' := [(5, .int k5), (4, .int 0), (3, .ref (ad 83)), (2, .ref (ad 45)), (1, .ref (ad 0)), (0, .ref b)]) C.1.1 C.1.2.1 dL_law_741 hl (by decide) rfl (fun ls hl => ?_)
    refine lv_aload_n C.1.1 C.1.2.1 dL_law_743 rfl (lv_at hl 3 rfl) ?_
    refine lv_aload_n C.1.1 C.1.2.1 dL_law_744 rfl (lv_at hl 5 rfl) ?_
    refine lv_iload C.1.1 C.1.2.1 dL_law_745 (lv_at hl 1 rfl) ?_
    refine lv_iconst (v := 1) C.1.1 C.1.2.1 dL_law_747 (by decide) ?_
    refine lv_iadd C.1.1 C.1.2.1 dL_law_748 ?_
    refine va_sld C.1.1 C.1.2.1 hX hbl hbA hS (show vp_in ((0 : Int32) + 1) 6 by unfold vp_in; decide) dL_law_749 ?_
    refine lv_aload_n C.1.1 C.1.2.1 dL_law_750 rfl (lv_at hl 5 rfl) ?_
    refine lv_iload C.1.1 C.1.2.1 dL_law_751 (lv_at hl 1 rfl) ?_
    refine lv_iconst (v := 2) C.1.1 C.1.2.1 dL_law_753 (by decide) ?_
    refine lv_iadd C.1.1 C.1.2.1 dL_law_754 ?_
    refine va_sld C.1.1 C.1.2.1 hX hbl hbA hS (show vp_in ((0 : Int32) + 2) 6 by unfold vp_in; decide) dL_law_755 ?_
    refine lv_aload_n C.1.1 C.1.2.1 dL_law_756 rfl (lv_at hl 5 rfl) ?_
    refine lv_iload C.1.1 C.1.2.1 dL_law_757 (lv_at hl 1 rfl) ?_
    refine lv_iconst (v := 3) C.1.1 C.1.2.1 dL_law_759 (by decide) ?_
    refine lv_iadd C.1.1 C.1.2.1 dL_law_760 ?_
    refine va_sld C.1.1 C.1.2.1 hX hbl hbA hS (show vp_in ((0 : Int32) + 3) 6 by unfold vp_in; decide) dL_law_761 ?_
    refine lv_aload_n C.1.1 C.1.2.1 dL_law_762 rfl (lv_at hl 5 rfl) ?_
    refine lv_iload C.1.1 C.1.2.1 dL_law_763 (lv_at hl 1 rfl) ?_
    refine lv_iconst (v := 4) C.1.1 C.1.2.1 dL_law_765 (by decide) ?_
    refine lv_iadd C.1.1 C.1.2.1 dL_law_766 ?_
    refine va_sld C.1.1 C.1.2.1 hX hbl hbA hS (show vp_in ((0 : Int32) + 4) 6 by unfold vp_in; decide) dL_law_767 ?_
    refine lv_aload_n C.1.1 C.1.2.1 dL_law_768 rfl (lv_at hl 5 rfl) ?_
    refine lv_iload C.1.1 C.1.2.1 dL_law_769 (lv_at hl 1 rfl) ?_
    refine lv_iconst (v := 5) C.1.1 C.1.2.1 dL_law_771 (by decide) ?_
    refine lv_iadd C.1.1 C.1.2.1 dL_law_772 ?_
    refine va_sld C.1.1 C.1.2.1 hX hbl hbA hS (show vp_in ((0 : Int32) + 5) 6 by unfold vp_in; decide) dL_law_773 ?_
    refine lv_if_eq (tgt := 781) C.1.1 C.1.2.1 dL_law_774 (by decide) (fun h774 => ?_) (fun h774 => ?_)
    · refine lv_iconst (v := 0) C.1.1 C.1.2.1 dL_law_781 (by decide) ?_
      refine lx_callV C (As := [_, _, _, _, _]) (b := 45) (c_X11_run l D cy h zm1) (fun _ => rfl) wB_yX11_run ml_L_104 im_yX11_run se_yX11_run (ci := 10) rfl (shL h 45 rfl) (shK h 45 rfl rfl) rfl rfl (Nat.le_of_ble_eq_true rfl) ⟨(Nat.le_of_ble_eq_true rfl), (Nat.le_of_ble_eq_true rfl)⟩ ⟨(Nat.le_of_ble_eq_true rfl), (Nat.le_of_ble_eq_true rfl)⟩ dL_law_782 h.2.2.2 hP hD hS hl.1 (fun M2 H locs hq2 hP hD hS => ?_)
      refine lv_istore (lv' := [(6, .int 0), (5, .int k5), (4, .int 0), (3, .ref (ad 83)), (2, .ref (ad 45)), (1, .ref (ad 0)), (0, .ref b)]) C.1.1 C.1.2.1 dL_law_785 hl (by decide) rfl (fun ls hl => ?_)
      refine lv_aload_n C.1.1 C.1.2.1 dL_law_787 rfl (lv_at hl 4 rfl) ?_
      refine lx_callV C (As := []) (b := 45) (c_X11_thrown l D cy h) (fun _ => rfl) wB_yX11_thrown ml_L_62 im_yX11_thrown se_yX11_thrown (ci := 10) rfl (shL h 45 rfl) (shK h 45 rfl rfl) rfl rfl (Nat.le_of_ble_eq_true rfl) ⟨(Nat.le_of_ble_eq_true rfl), (Nat.le_of_ble_eq_true rfl)⟩ ⟨(Nat.le_of_ble_eq_true rfl), (Nat.le_of_ble_eq_true rfl)⟩ dL_law_788 h.2.2.2 hP hD hS hl.1 (fun M3 H locs hq3 hP hD hS => ?_)
      have hq3 := hq3.symm; subst hq3
      refine lv_iload C.1.1 C.1.2.1 dL_law_791 (lv_at hl 1 rfl) ?_
      refine lv_icmp_eq (tgt := 798) C.1.1 C.1.2.1 dL_law_793 (by decide) (fun h793 => ?_) (fun h793 => ?_)
      · refine lv_iload C.1.1 C.1.2.1 dL_law_798 (lv_at hl 1 rfl) ?_
        refine lv_if_ne (tgt := 815) C.1.1 C.1.2.1 dL_law_800 (by decide) (fun h800 => ?_) (fun h800 => ?_)
        · refine lv_goto (tgt := 930) C.1.1 C.1.2.1 dL_law_815 (by decide) ?_
          exact law_tail C hr hX hbl (Nat.le_of_ble_eq_true rfl) (Nat.le_of_ble_eq_true rfl) hS (lv_sub hl [2, 6] rfl)
        · refine lv_aload_n C.1.1 C.1.2.1 dL_law_803 rfl (lv_at hl 3 rfl) ?_
          refine lv_iconst (v := 0) C.1.1 C.1.2.1 dL_law_804 (by decide) ?_
          refine lx_lald (M := M2) C (shL h 83 rfl) (shK h 83 rfl rfl) (shB h 83 rfl rfl (vp_in0 (by decide))) dL_law_805 hP ?_
          refine lv_iload C.1.1 C.1.2.1 dL_law_806 (lv_at hl 0 rfl) ?_
          refine lv_i2l C.1.1 C.1.2.1 dL_law_808 rfl ?_
          refine W.lcmp C.1.1 C.1.2.1 dL_law_809 ?_
          refine lv_if_eq (tgt := 815) C.1.1 C.1.2.1 dL_law_810 (by decide) (fun h810 => ?_) (fun h810 => ?_)
          · refine lv_goto (tgt := 930) C.1.1 C.1.2.1 dL_law_815 (by decide) ?_
            exact law_tail C hr hX hbl (Nat.le_of_ble_eq_true rfl) (Nat.le_of_ble_eq_true rfl) hS (lv_sub hl [2, 6] rfl)
          · exact absurd (by rw [show M2.2 83 (0 : Int32).toNatClampNeg = 0 from (congrFun (congrFun hq2.2 83) 0).trans (hq1.2 (ek5.symm.trans (h800)))]; decide) h810
      · exact absurd (hq2.1.trans ek5.symm) h793
    · refine lv_iconst (v := 1) C.1.1 C.1.2.1 dL_law_777 (by decide) ?_
      refine lv_goto (tgt := 782) C.1.1 C.1.2.1 dL_law_778 (by decide) ?_
      refine lx_callV C (As := [_, _, _, _, _]) (b := 45) (c_X11_run l D cy h zm1) (fun _ => rfl) wB_yX11_run ml_L_104 im_yX11_run se_yX11_run (ci := 10) rfl (shL h 45 rfl) (shK h 45 rfl rfl) rfl rfl (Nat.le_of_ble_eq_true rfl) ⟨(Nat.le_of_ble_eq_true rfl), (Nat.le_of_ble_eq_true rfl)⟩ ⟨(Nat.le_of_ble_eq_true rfl), (Nat.le_of_ble_eq_true rfl)⟩ dL_law_782 h.2.2.2 hP hD hS hl.1 (fun M2 H locs hq2 hP hD hS => ?_)
      refine lv_istore (lv' := [(6, .int 0), (5, .int k5), (4, .int 0), (3, .ref (ad 83)), (2, .ref (ad 45)), (1, .ref (ad 0)), (0, .ref b)]) C.1.1 C.1.2.1 dL_law_785 hl (by decide) rfl (fun ls hl => ?_)
      refine lv_aload_n C.1.1 C.1.2.1 dL_law_787 rfl (lv_at hl 4 rfl) ?_
      refine lx_callV C (As := []) (b := 45) (c_X11_thrown l D cy h) (fun _ => rfl) wB_yX11_thrown ml_L_62 im_yX11_thrown se_yX11_thrown (ci := 10) rfl (shL h 45 rfl) (shK h 45 rfl rfl) rfl rfl (Nat.le_of_ble_eq_true rfl) ⟨(Nat.le_of_ble_eq_true rfl), (Nat.le_of_ble_eq_true rfl)⟩ ⟨(Nat.le_of_ble_eq_true rfl), (Nat.le_of_ble_eq_true rfl)⟩ dL_law_788 h.2.2.2 hP hD hS hl.1 (fun M3 H locs hq3 hP hD hS => ?_)
      have hq3 := hq3.symm; subst hq3
      refine lv_iload C.1.1 C.1.2.1 dL_law_791 (lv_at hl 1 rfl) ?_
      refine lv_icmp_eq (tgt := 798) C.1.1 C.1.2.1 dL_law_793 (by decide) (fun h793 => ?_) (fun h793 => ?_)
      · refine lv_iload C.1.1 C.1.2.1 dL_law_798 (lv_at hl 1 rfl) ?_
        refine lv_if_ne (tgt := 815) C.1.1 C.1.2.1 dL_law_800 (by decide) (fun h800 => ?_) (fun h800 => ?_)
        · refine lv_goto (tgt := 930) C.1.1 C.1.2.1 dL_law_815 (by decide) ?_
          exact law_tail C hr hX hbl (Nat.le_of_ble_eq_true rfl) (Nat.le_of_ble_eq_true rfl) hS (lv_sub hl [2, 6] rfl)
        · refine lv_aload_n C.1.1 C.1.2.1 dL_law_803 rfl (lv_at hl 3 rfl) ?_
          refine lv_iconst (v := 0) C.1.1 C.1.2.1 dL_law_804 (by decide) ?_
          refine lx_lald (M := M2) C (shL h 83 rfl) (shK h 83 rfl rfl) (shB h 83 rfl rfl (vp_in0 (by decide))) dL_law_805 hP ?_
          refine lv_iload C.1.1 C.1.2.1 dL_law_806 (lv_at hl 0 rfl) ?_
          refine lv_i2l C.1.1 C.1.2.1 dL_law_808 rfl ?_
          refine W.lcmp C.1.1 C.1.2.1 dL_law_809 ?_
          refine lv_if_eq (tgt := 815) C.1.1 C.1.2.1 dL_law_810 (by decide) (fun h810 => ?_) (fun h810 => ?_)
          · refine lv_goto (tgt := 930) C.1.1 C.1.2.1 dL_law_815 (by decide) ?_
            exact law_tail C hr hX hbl (Nat.le_of_ble_eq_true rfl) (Nat.le_of_ble_eq_true rfl) hS (lv_sub hl [2, 6] rfl)
          · exact absurd (by rw [show M2.2 83 (0 : Int32).toNatClampNeg = 0 from (congrFun (congrFun hq2.2 83) 0).trans (hq1.2 (ek5.symm.trans (h800)))]; decide) h810
      · exact absurd (hq2.1.trans ek5.symm) h793
  · refine lv_iconst (v := 1) C.1.1 C.1.2.1 dL_law_732 (by decide) ?_
    refine lv_goto (tgt := 737) C.1.1 C.1.2.1 dL_law_733 (by decide) ?_
    refine lv_aload_n C.1.1 C.1.2.1 dL_law_737 rfl (lv_at hl 1 rfl) ?_
    refine lx_callSH C hZ (As := [_, _, _, _, _, _, _]) (c_L_run l D cy h zc hl0) (fun _ => rfl) ini_L wH_yL_run wD_yL_run ml_L_101 sm_yL_run rfl rfl (Nat.le_of_ble_eq_true rfl) ⟨(Nat.le_of_ble_eq_true rfl), (Nat.le_of_ble_eq_true rfl)⟩ ⟨(Nat.le_of_ble_eq_true rfl), (Nat.le_of_ble_eq_true rfl)⟩ dL_law_738 h.2.2.2 hP hD hS hl.1 (fun M1 H locs hq1 hP hD hS => ?_)
    have zm1 : pz_fm M1 := pz_am_fm hq1.1 zm
    refine lv_topi (fun k5 ek5 => ?_)
    refine lv_istore (lv' := [(5, .int k5), (4, .int 0), (3, .ref (ad 83)), (2, .ref (ad 45)), (1, .ref (ad 0)), (0, .ref b)]) C.1.1 C.1.2.1 dL_law_741 hl (by decide) rfl (fun ls hl => ?_)
    refine lv_aload_n C.1.1 C.1.2.1 dL_law_743 rfl (lv_at hl 3 rfl) ?_
    refine lv_aload_n C.1.1 C.1.2.1 dL_law_744 rfl (lv_at hl 5 rfl) ?_
    refine lv_iload C.1.1 C.1.2.1 dL_law_745 (lv_at hl 1 rfl) ?_
    refine lv_iconst (v := 1) C.1.1 C.1.2.1 dL_law_747 (by decide) ?_
    refine lv_iadd C.1.1 C.1.2.1 dL_law_748 ?_
    refine va_sld C.1.1 C.1.2.1 hX hbl hbA hS (show vp_in ((0 : Int32) + 1) 6 by unfold vp_in; decide) dL_law_749 ?_
    refine lv_aload_n C.1.1 C.1.2.1 dL_law_750 rfl (lv_at hl 5 rfl) ?_
    refine lv_iload C.1.1 C.1.2.1 dL_law_751 (lv_at hl 1 rfl) ?_
    refine lv_iconst (v := 2) C.1.1 C.1.2.1 dL_law_753 (by decide) ?_
    refine lv_iadd C.1.1 C.1.2.1 dL_law_754 ?_
    refine va_sld C.1.1 C.1.2.1 hX hbl hbA hS (show vp_in ((0 : Int32) + 2) 6 by unfold vp_in; decide) dL_law_755 ?_
    refine lv_aload_n C.1.1 C.1.2.1 dL_law_756 rfl (lv_at hl 5 rfl) ?_
    refine lv_iload C.1.1 C.1.2.1 dL_law_757 (lv_at hl 1 rfl) ?_
    refine lv_iconst (v := 3) C.1.1 C.1.2.1 dL_law_759 (by decide) ?_
    refine lv_iadd C.1.1 C.1.2.1 dL_law_760 ?_
    refine va_sld C.1.1 C.1.2.1 hX hbl hbA hS (show vp_in ((0 : Int32) + 3) 6 by unfold vp_in; decide) dL_law_761 ?_
    refine lv_aload_n C.1.1 C.1.2.1 dL_law_762 rfl (lv_at hl 5 rfl) ?_
    refine lv_iload C.1.1 C.1.2.1 dL_law_763 (lv_at hl 1 rfl) ?_
    refine lv_iconst (v := 4) C.1.1 C.1.2.1 dL_law_765 (by decide) ?_
    refine lv_iadd C.1.1 C.1.2.1 dL_law_766 ?_
    refine va_sld C.1.1 C.1.2.1 hX hbl hbA hS (show vp_in ((0 : Int32) + 4) 6 by unfold vp_in; decide) dL_law_767 ?_
    refine lv_aload_n C.1.1 C.1.2.1 dL_law_768 rfl (lv_at hl 5 rfl) ?_
    refine lv_iload C.1.1 C.1.2.1 dL_law_769 (lv_at hl 1 rfl) ?_
    refine lv_iconst (v := 5) C.1.1 C.1.2.1 dL_law_771 (by decide) ?_
    refine lv_iadd C.1.1 C.1.2.1 dL_law_772 ?_
    refine va_sld C.1.1 C.1.2.1 hX hbl hbA hS (show vp_in ((0 : Int32) + 5) 6 by unfold vp_in; decide) dL_law_773 ?_
    refine lv_if_eq (tgt := 781) C.1.1 C.1.2.1 dL_law_774 (by decide) (fun h774 => ?_) (fun h774 => ?_)
    · refine lv_iconst (v := 0) C.1.1 C.1.2.1 dL_law_781 (by decide) ?_
      refine lx_callV C (As := [_, _, _, _, _]) (b := 45) (c_X11_run l D cy h zm1) (fun _ => rfl) wB_yX11_run ml_L_104 im_yX11_run se_yX11_run (ci := 10) rfl (shL h 45 rfl) (shK h 45 rfl rfl) rfl rfl (Nat.le_of_ble_eq_true rfl) ⟨(Nat.le_of_ble_eq_true rfl), (Nat.le_of_ble_eq_true rfl)⟩ ⟨(Nat.le_of_ble_eq_true rfl), (Nat.le_of_ble_eq_true rfl)⟩ dL_law_782 h.2.2.2 hP hD hS hl.1 (fun M2 H locs hq2 hP hD hS => ?_)
      refine lv_istore (lv' := [(6, .int 0), (5, .int k5), (4, .int 0), (3, .ref (ad 83)), (2, .ref (ad 45)), (1, .ref (ad 0)), (0, .ref b)]) C.1.1 C.1.2.1 dL_law_785 hl (by decide) rfl (fun ls hl => ?_)
      refine lv_aload_n C.1.1 C.1.2.1 dL_law_787 rfl (lv_at hl 4 rfl) ?_
      refine lx_callV C (As := []) (b := 45) (c_X11_thrown l D cy h) (fun _ => rfl) wB_yX11_thrown ml_L_62 im_yX11_thrown se_yX11_thrown (ci := 10) rfl (shL h 45 rfl) (shK h 45 rfl rfl) rfl rfl (Nat.le_of_ble_eq_true rfl) ⟨(Nat.le_of_ble_eq_true rfl), (Nat.le_of_ble_eq_true rfl)⟩ ⟨(Nat.le_of_ble_eq_true rfl), (Nat.le_of_ble_eq_true rfl)⟩ dL_law_788 h.2.2.2 hP hD hS hl.1 (fun M3 H locs hq3 hP hD hS => ?_)
      have hq3 := hq3.symm; subst hq3
      refine lv_iload C.1.1 C.1.2.1 dL_law_791 (lv_at hl 1 rfl) ?_
      refine lv_icmp_eq (tgt := 798) C.1.1 C.1.2.1 dL_law_793 (by decide) (fun h793 => ?_) (fun h793 => ?_)
      · refine lv_iload C.1.1 C.1.2.1 dL_law_798 (lv_at hl 1 rfl) ?_
        refine lv_if_ne (tgt := 815) C.1.1 C.1.2.1 dL_law_800 (by decide) (fun h800 => ?_) (fun h800 => ?_)
        · refine lv_goto (tgt := 930) C.1.1 C.1.2.1 dL_law_815 (by decide) ?_
          exact law_tail C hr hX hbl (Nat.le_of_ble_eq_true rfl) (Nat.le_of_ble_eq_true rfl) hS (lv_sub hl [2, 6] rfl)
        · refine lv_aload_n C.1.1 C.1.2.1 dL_law_803 rfl (lv_at hl 3 rfl) ?_
          refine lv_iconst (v := 0) C.1.1 C.1.2.1 dL_law_804 (by decide) ?_
          refine lx_lald (M := M2) C (shL h 83 rfl) (shK h 83 rfl rfl) (shB h 83 rfl rfl (vp_in0 (by decide))) dL_law_805 hP ?_
          refine lv_iload C.1.1 C.1.2.1 dL_law_806 (lv_at hl 0 rfl) ?_
          refine lv_i2l C.1.1 C.1.2.1 dL_law_808 rfl ?_
          refine W.lcmp C.1.1 C.1.2.1 dL_law_809 ?_
          refine lv_if_eq (tgt := 815) C.1.1 C.1.2.1 dL_law_810 (by decide) (fun h810 => ?_) (fun h810 => ?_)
          · refine lv_goto (tgt := 930) C.1.1 C.1.2.1 dL_law_815 (by decide) ?_
            exact law_tail C hr hX hbl (Nat.le_of_ble_eq_true rfl) (Nat.le_of_ble_eq_true rfl) hS (lv_sub hl [2, 6] rfl)
          · exact absurd (by rw [show M2.2 83 (0 : Int32).toNatClampNeg = 0 from (congrFun (congrFun hq2.2 83) 0).trans (hq1.2 (ek5.symm.trans (h800)))]; decide) h810
      · exact absurd (hq2.1.trans ek5.symm) h793
    · refine lv_iconst (v := 1) C.1.1 C.1.2.1 dL_law_777 (by decide) ?_
      refine lv_goto (tgt := 782) C.1.1 C.1.2.1 dL_law_778 (by decide) ?_
      refine lx_callV C (As := [_, _, _, _, _]) (b := 45) (c_X11_run l D cy h zm1) (fun _ => rfl) wB_yX11_run ml_L_104 im_yX11_run se_yX11_run (ci := 10) rfl (shL h 45 rfl) (shK h 45 rfl rfl) rfl rfl (Nat.le_of_ble_eq_true rfl) ⟨(Nat.le_of_ble_eq_true rfl), (Nat.le_of_ble_eq_true rfl)⟩ ⟨(Nat.le_of_ble_eq_true rfl), (Nat.le_of_ble_eq_true rfl)⟩ dL_law_782 h.2.2.2 hP hD hS hl.1 (fun M2 H locs hq2 hP hD hS => ?_)
      refine lv_istore (lv' := [(6, .int 0), (5, .int k5), (4, .int 0), (3, .ref (ad 83)), (2, .ref (ad 45)), (1, .ref (ad 0)), (0, .ref b)]) C.1.1 C.1.2.1 dL_law_785 hl (by decide) rfl (fun ls hl => ?_)
      refine lv_aload_n C.1.1 C.1.2.1 dL_law_787 rfl (lv_at hl 4 rfl) ?_
      refine lx_callV C (As := []) (b := 45) (c_X11_thrown l D cy h) (fun _ => rfl) wB_yX11_thrown ml_L_62 im_yX11_thrown se_yX11_thrown (ci := 10) rfl (shL h 45 rfl) (shK h 45 rfl rfl) rfl rfl (Nat.le_of_ble_eq_true rfl) ⟨(Nat.le_of_ble_eq_true rfl), (Nat.le_of_ble_eq_true rfl)⟩ ⟨(Nat.le_of_ble_eq_true rfl), (Nat.le_of_ble_eq_true rfl)⟩ dL_law_788 h.2.2.2 hP hD hS hl.1 (fun M3 H locs hq3 hP hD hS => ?_)
      have hq3 := hq3.symm; subst hq3
      refine lv_iload C.1.1 C.1.2.1 dL_law_791 (lv_at hl 1 rfl) ?_
      refine lv_icmp_eq (tgt := 798) C.1.1 C.1.2.1 dL_law_793 (by decide) (fun h793 => ?_) (fun h793 => ?_)
      · refine lv_iload C.1.1 C.1.2.1 dL_law_798 (lv_at hl 1 rfl) ?_
        refine lv_if_ne (tgt := 815) C.1.1 C.1.2.1 dL_law_800 (by decide) (fun h800 => ?_) (fun h800 => ?_)
        · refine lv_goto (tgt := 930) C.1.1 C.1.2.1 dL_law_815 (by decide) ?_
          exact law_tail C hr hX hbl (Nat.le_of_ble_eq_true rfl) (Nat.le_of_ble_eq_true rfl) hS (lv_sub hl [2, 6] rfl)
        · refine lv_aload_n C.1.1 C.1.2.1 dL_law_803 rfl (lv_at hl 3 rfl) ?_
          refine lv_iconst (v := 0) C.1.1 C.1.2.1 dL_law_804 (by decide) ?_
          refine lx_lald (M := M2) C (shL h 83 rfl) (shK h 83 rfl rfl) (shB h 83 rfl rfl (vp_in0 (by decide))) dL_law_805 hP ?_
          refine lv_iload C.1.1 C.1.2.1 dL_law_806 (lv_at hl 0 rfl) ?_
          refine lv_i2l C.1.1 C.1.2.1 dL_law_808 rfl ?_
          refine W.lcmp C.1.1 C.1.2.1 dL_law_809 ?_
          refine lv_if_eq (tgt := 815) C.1.1 C.1.2.1 dL_law_810 (by decide) (fun h810 => ?_) (fun h810 => ?_)
          · refine lv_goto (tgt := 930) C.1.1 C.1.2.1 dL_law_815 (by decide) ?_
            exact law_tail C hr hX hbl (Nat.le_of_ble_eq_true rfl) (Nat.le_of_ble_eq_true rfl) hS (lv_sub hl [2, 6] rfl)
          · exact absurd (by rw [show M2.2 83 (0 : Int32).toNatClampNeg = 0 from (congrFun (congrFun hq2.2 83) 0).trans (hq1.2 (ek5.symm.trans (h800)))]; decide) h810
      · exact absurd (hq2.1.trans ek5.symm) h793
set_option maxHeartbeats 4000000 in
set_option maxRecDepth 100000 in
theorem law_c11 {p : Program} {l : Launch} {e : Env} {s : State} {m : MethodId} {below : List Frame} {meth : Method} {c : Code} {b : Nat} {xs : Nat → Int32} {D : va_G} {cy : Nat → ClassId} {ad : Nat → Nat} {H : Heap} {locs : List Loc} {ls : Array Slot} {M : pzM} (C : pz_C p s m #[Value.ref b] meth c cL_law 7 RL D cy (fun q : Nat => s.heap.size ≤ q)) (hr : meth.sig.returnType = ret) (hX : va_X b 6 xs s s.heap) (hbl : b < s.heap.size) (hZ : pz_Z (fun q : Nat => s.heap.size ≤ q) s s.heap) (hl0 : l.stackTraces = false) (h : pz_sh pz_si) (zc : pz_fc M) (zm : pz_fm M) (zo : M.2 83 0 = 0) (hP : va_P D pz_cl (pz_w cy ad pz_si M) H) (hD : va_D (fun q : Nat => s.heap.size ≤ q) (pz_w cy ad pz_si M)) (hS : va_S (fun q : Nat => s.heap.size ≤ q) s.heap H locs) (hl : lv_has ls 7 [(4, .int 0), (3, .ref (ad 83)), (2, .ref (ad 45)), (1, .ref (ad 0)), (0, .ref b)]) : W p l e room_1 s m #[Value.ref b] below meth c H locs 84 154143 (lw_Z below #[Value.ref b] s) (F0 m 818 ls []) := by
  have hbA : ¬ (fun q : Nat => s.heap.size ≤ q) b := Nat.not_le.mpr hbl
  refine lv_aload_n C.1.1 C.1.2.1 dL_law_818 rfl (lv_at hl 3 rfl) ?_
  refine lv_aload_n C.1.1 C.1.2.1 dL_law_819 rfl (lv_at hl 4 rfl) ?_
  refine lv_iload C.1.1 C.1.2.1 dL_law_820 (lv_at hl 0 rfl) ?_
  refine lv_iconst (v := 1) C.1.1 C.1.2.1 dL_law_822 (by decide) ?_
  refine lv_iadd C.1.1 C.1.2.1 dL_law_823 ?_
  refine va_sld C.1.1 C.1.2.1 hX hbl hbA hS (show vp_in ((0 : Int32) + 1) 6 by unfold vp_in; decide) dL_law_824 ?_
  refine lv_aload_n C.1.1 C.1.2.1 dL_law_825 rfl (lv_at hl 1 rfl) ?_
  refine lx_callSH C hZ (As := [_, _, _]) (c_L_told l D cy h zc hl0) (fun _ => rfl) ini_L wH_yL_told wD_yL_told ml_L_105 sm_yL_told rfl rfl (Nat.le_of_ble_eq_true rfl) ⟨(Nat.le_of_ble_eq_true rfl), (Nat.le_of_ble_eq_true rfl)⟩ ⟨(Nat.le_of_ble_eq_true rfl), (Nat.le_of_ble_eq_true rfl)⟩ dL_law_826 h.2.2.2 hP hD hS hl.1 (fun M1 H locs hq1 hP hD hS => ?_)
  have zm1 : pz_fm M1 := pz_am_fm hq1.1 zm
  refine lv_topi (fun k5 ek5 => ?_)
  refine lv_istore (lv' := [(5, .int k5), (4, .int 0), (3, .ref (ad 83)), (2, .ref (ad 45)), (1, .ref (ad 0)), (0, .ref b)]) C.1.1 C.1.2.1 dL_law_829 hl (by decide) rfl (fun ls hl => ?_)
  refine lv_aload_n C.1.1 C.1.2.1 dL_law_831 rfl (lv_at hl 3 rfl) ?_
  refine lv_aload_n C.1.1 C.1.2.1 dL_law_832 rfl (lv_at hl 5 rfl) ?_
  refine lv_iload C.1.1 C.1.2.1 dL_law_833 (lv_at hl 1 rfl) ?_
  refine lv_iconst (v := 1) C.1.1 C.1.2.1 dL_law_835 (by decide) ?_
  refine lv_iadd C.1.1 C.1.2.1 dL_law_836 ?_
  refine va_sld C.1.1 C.1.2.1 hX hbl hbA hS (show vp_in ((0 : Int32) + 1) 6 by unfold vp_in; decide) dL_law_837 ?_
  refine lx_callV C (As := [_]) (b := 45) (c_X11_told l D cy h zm1) (fun _ => rfl) wB_yX11_told ml_L_107 im_yX11_told se_yX11_told (ci := 10) rfl (shL h 45 rfl) (shK h 45 rfl rfl) rfl rfl (Nat.le_of_ble_eq_true rfl) ⟨(Nat.le_of_ble_eq_true rfl), (Nat.le_of_ble_eq_true rfl)⟩ ⟨(Nat.le_of_ble_eq_true rfl), (Nat.le_of_ble_eq_true rfl)⟩ dL_law_838 h.2.2.2 hP hD hS hl.1 (fun M2 H locs hq2 hP hD hS => ?_)
  refine lv_istore (lv' := [(6, .int 0), (5, .int k5), (4, .int 0), (3, .ref (ad 83)), (2, .ref (ad 45)), (1, .ref (ad 0)), (0, .ref b)]) C.1.1 C.1.2.1 dL_law_841 hl (by decide) rfl (fun ls hl => ?_)
  refine lv_aload_n C.1.1 C.1.2.1 dL_law_843 rfl (lv_at hl 4 rfl) ?_
  refine lx_callV C (As := []) (b := 45) (c_X11_thrown l D cy h) (fun _ => rfl) wB_yX11_thrown ml_L_62 im_yX11_thrown se_yX11_thrown (ci := 10) rfl (shL h 45 rfl) (shK h 45 rfl rfl) rfl rfl (Nat.le_of_ble_eq_true rfl) ⟨(Nat.le_of_ble_eq_true rfl), (Nat.le_of_ble_eq_true rfl)⟩ ⟨(Nat.le_of_ble_eq_true rfl), (Nat.le_of_ble_eq_true rfl)⟩ dL_law_844 h.2.2.2 hP hD hS hl.1 (fun M3 H locs hq3 hP hD hS => ?_)
  have hq3 := hq3.symm; subst hq3
  refine lv_iload C.1.1 C.1.2.1 dL_law_847 (lv_at hl 1 rfl) ?_
  refine lv_icmp_eq (tgt := 854) C.1.1 C.1.2.1 dL_law_849 (by decide) (fun h849 => ?_) (fun h849 => ?_)
  · refine lv_iload C.1.1 C.1.2.1 dL_law_854 (lv_at hl 1 rfl) ?_
    refine lv_if_ne (tgt := 871) C.1.1 C.1.2.1 dL_law_856 (by decide) (fun h856 => ?_) (fun h856 => ?_)
    · refine lv_goto (tgt := 930) C.1.1 C.1.2.1 dL_law_871 (by decide) ?_
      exact law_tail C hr hX hbl (Nat.le_of_ble_eq_true rfl) (Nat.le_of_ble_eq_true rfl) hS (lv_sub hl [2, 6] rfl)
    · refine lv_aload_n C.1.1 C.1.2.1 dL_law_859 rfl (lv_at hl 3 rfl) ?_
      refine lv_iconst (v := 0) C.1.1 C.1.2.1 dL_law_860 (by decide) ?_
      refine lx_lald (M := M2) C (shL h 83 rfl) (shK h 83 rfl rfl) (shB h 83 rfl rfl (vp_in0 (by decide))) dL_law_861 hP ?_
      refine lv_iload C.1.1 C.1.2.1 dL_law_862 (lv_at hl 0 rfl) ?_
      refine lv_i2l C.1.1 C.1.2.1 dL_law_864 rfl ?_
      refine W.lcmp C.1.1 C.1.2.1 dL_law_865 ?_
      refine lv_if_eq (tgt := 871) C.1.1 C.1.2.1 dL_law_866 (by decide) (fun h866 => ?_) (fun h866 => ?_)
      · refine lv_goto (tgt := 930) C.1.1 C.1.2.1 dL_law_871 (by decide) ?_
        exact law_tail C hr hX hbl (Nat.le_of_ble_eq_true rfl) (Nat.le_of_ble_eq_true rfl) hS (lv_sub hl [2, 6] rfl)
      · exact absurd (by rw [show M2.2 83 (0 : Int32).toNatClampNeg = 0 from (congrFun (congrFun hq2.2 83) 0).trans (hq1.2 (ek5.symm.trans (h856)))]; decide) h866
  · exact absurd (hq2.1.trans ek5.symm) h849
set_option maxHeartbeats 4000000 in
set_option maxRecDepth 100000 in
theorem law_c12 {p : Program} {l : Launch} {e : Env} {s : State} {m : MethodId} {below : List Frame} {meth : Method} {c : Code} {b : Nat} {xs : Nat → Int32} {D : va_G} {cy : Nat → ClassId} {ad : Nat → Nat} {H : Heap} {locs : List Loc} {ls : Array Slot} {M : pzM} (C : pz_C p s m #[Value.ref b] meth c cL_law 7 RL D cy (fun q : Nat => s.heap.size ≤ q)) (hr : meth.sig.returnType = ret) (hX : va_X b 6 xs s s.heap) (hbl : b < s.heap.size) (hZ : pz_Z (fun q : Nat => s.heap.size ≤ q) s s.heap) (hl0 : l.stackTraces = false) (h : pz_sh pz_si) (zc : pz_fc M) (zm : pz_fm M) (zo : M.2 83 0 = 0) (hP : va_P D pz_cl (pz_w cy ad pz_si M) H) (hD : va_D (fun q : Nat => s.heap.size ≤ q) (pz_w cy ad pz_si M)) (hS : va_S (fun q : Nat => s.heap.size ≤ q) s.heap H locs) (hl : lv_has ls 7 [(4, .int 0), (3, .ref (ad 83)), (2, .ref (ad 45)), (1, .ref (ad 0)), (0, .ref b)]) : W p l e room_1 s m #[Value.ref b] below meth c H locs 84 154143 (lw_Z below #[Value.ref b] s) (F0 m 874 ls []) := by
  have hbA : ¬ (fun q : Nat => s.heap.size ≤ q) b := Nat.not_le.mpr hbl
  refine lv_aload_n C.1.1 C.1.2.1 dL_law_874 rfl (lv_at hl 3 rfl) ?_
  refine lv_aload_n C.1.1 C.1.2.1 dL_law_875 rfl (lv_at hl 4 rfl) ?_
  refine lv_iload C.1.1 C.1.2.1 dL_law_876 (lv_at hl 0 rfl) ?_
  refine lv_iconst (v := 1) C.1.1 C.1.2.1 dL_law_878 (by decide) ?_
  refine lv_iadd C.1.1 C.1.2.1 dL_law_879 ?_
  refine va_sld C.1.1 C.1.2.1 hX hbl hbA hS (show vp_in ((0 : Int32) + 1) 6 by unfold vp_in; decide) dL_law_880 ?_
  refine lv_aload_n C.1.1 C.1.2.1 dL_law_881 rfl (lv_at hl 1 rfl) ?_
  refine lx_callSH C hZ (As := [_, _, _]) (c_L_said l D cy h zc hl0) (fun _ => rfl) ini_L wH_yL_said wD_yL_said ml_L_108 sm_yL_said rfl rfl (Nat.le_of_ble_eq_true rfl) ⟨(Nat.le_of_ble_eq_true rfl), (Nat.le_of_ble_eq_true rfl)⟩ ⟨(Nat.le_of_ble_eq_true rfl), (Nat.le_of_ble_eq_true rfl)⟩ dL_law_882 h.2.2.2 hP hD hS hl.1 (fun M1 H locs hq1 hP hD hS => ?_)
  have zm1 : pz_fm M1 := pz_am_fm hq1.1 zm
  refine lv_topi (fun k5 ek5 => ?_)
  refine lv_istore (lv' := [(5, .int k5), (4, .int 0), (3, .ref (ad 83)), (2, .ref (ad 45)), (1, .ref (ad 0)), (0, .ref b)]) C.1.1 C.1.2.1 dL_law_885 hl (by decide) rfl (fun ls hl => ?_)
  refine lv_aload_n C.1.1 C.1.2.1 dL_law_887 rfl (lv_at hl 3 rfl) ?_
  refine lv_aload_n C.1.1 C.1.2.1 dL_law_888 rfl (lv_at hl 5 rfl) ?_
  refine lv_iload C.1.1 C.1.2.1 dL_law_889 (lv_at hl 1 rfl) ?_
  refine lv_iconst (v := 1) C.1.1 C.1.2.1 dL_law_891 (by decide) ?_
  refine lv_iadd C.1.1 C.1.2.1 dL_law_892 ?_
  refine va_sld C.1.1 C.1.2.1 hX hbl hbA hS (show vp_in ((0 : Int32) + 1) 6 by unfold vp_in; decide) dL_law_893 ?_
  refine lx_callV C (As := [_]) (b := 45) (c_X11_said l D cy h zm1) (fun _ => rfl) wB_yX11_said ml_L_110 im_yX11_said se_yX11_said (ci := 10) rfl (shL h 45 rfl) (shK h 45 rfl rfl) rfl rfl (Nat.le_of_ble_eq_true rfl) ⟨(Nat.le_of_ble_eq_true rfl), (Nat.le_of_ble_eq_true rfl)⟩ ⟨(Nat.le_of_ble_eq_true rfl), (Nat.le_of_ble_eq_true rfl)⟩ dL_law_894 h.2.2.2 hP hD hS hl.1 (fun M2 H locs hq2 hP hD hS => ?_)
  refine lv_istore (lv' := [(6, .int 0), (5, .int k5), (4, .int 0), (3, .ref (ad 83)), (2, .ref (ad 45)), (1, .ref (ad 0)), (0, .ref b)]) C.1.1 C.1.2.1 dL_law_897 hl (by decide) rfl (fun ls hl => ?_)
  refine lv_aload_n C.1.1 C.1.2.1 dL_law_899 rfl (lv_at hl 4 rfl) ?_
  refine lx_callV C (As := []) (b := 45) (c_X11_thrown l D cy h) (fun _ => rfl) wB_yX11_thrown ml_L_62 im_yX11_thrown se_yX11_thrown (ci := 10) rfl (shL h 45 rfl) (shK h 45 rfl rfl) rfl rfl (Nat.le_of_ble_eq_true rfl) ⟨(Nat.le_of_ble_eq_true rfl), (Nat.le_of_ble_eq_true rfl)⟩ ⟨(Nat.le_of_ble_eq_true rfl), (Nat.le_of_ble_eq_true rfl)⟩ dL_law_900 h.2.2.2 hP hD hS hl.1 (fun M3 H locs hq3 hP hD hS => ?_)
  have hq3 := hq3.symm; subst hq3
  refine lv_iload C.1.1 C.1.2.1 dL_law_903 (lv_at hl 1 rfl) ?_
  refine lv_icmp_eq (tgt := 910) C.1.1 C.1.2.1 dL_law_905 (by decide) (fun h905 => ?_) (fun h905 => ?_)
  · refine lv_iload C.1.1 C.1.2.1 dL_law_910 (lv_at hl 1 rfl) ?_
    refine lv_if_ne (tgt := 927) C.1.1 C.1.2.1 dL_law_912 (by decide) (fun h912 => ?_) (fun h912 => ?_)
    · refine lv_goto (tgt := 930) C.1.1 C.1.2.1 dL_law_927 (by decide) ?_
      exact law_tail C hr hX hbl (Nat.le_of_ble_eq_true rfl) (Nat.le_of_ble_eq_true rfl) hS (lv_sub hl [2, 6] rfl)
    · refine lv_aload_n C.1.1 C.1.2.1 dL_law_915 rfl (lv_at hl 3 rfl) ?_
      refine lv_iconst (v := 0) C.1.1 C.1.2.1 dL_law_916 (by decide) ?_
      refine lx_lald (M := M2) C (shL h 83 rfl) (shK h 83 rfl rfl) (shB h 83 rfl rfl (vp_in0 (by decide))) dL_law_917 hP ?_
      refine lv_iload C.1.1 C.1.2.1 dL_law_918 (lv_at hl 0 rfl) ?_
      refine lv_i2l C.1.1 C.1.2.1 dL_law_920 rfl ?_
      refine W.lcmp C.1.1 C.1.2.1 dL_law_921 ?_
      refine lv_if_eq (tgt := 927) C.1.1 C.1.2.1 dL_law_922 (by decide) (fun h922 => ?_) (fun h922 => ?_)
      · refine lv_goto (tgt := 930) C.1.1 C.1.2.1 dL_law_927 (by decide) ?_
        exact law_tail C hr hX hbl (Nat.le_of_ble_eq_true rfl) (Nat.le_of_ble_eq_true rfl) hS (lv_sub hl [2, 6] rfl)
      · exact absurd (by rw [show M2.2 83 (0 : Int32).toNatClampNeg = 0 from (congrFun (congrFun hq2.2 83) 0).trans (hq1.2 (ek5.symm.trans (h912)))]; decide) h922
  · exact absurd (hq2.1.trans ek5.symm) h905
