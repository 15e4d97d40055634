theorem cs_IA : Cond.castable sIA sIA ∈ lw_face := lw_face_in (by decide +kernel) (by decide +kernel)
theorem cs_IS : Cond.castable sIS sIS ∈ lw_face := lw_face_in (by decide +kernel) (by decide +kernel)
/-- the reference's cells are as they were -/
def pz_am (M M' : pzM) : Prop := ∀ i, 45 ≤ i → i < 83 → M'.1 i = M.1 i ∧ M'.2 i = M.2 i
theorem pz_am_rf (M : pzM) : pz_am M M := fun _ _ _ => ⟨rfl, rfl⟩
theorem pz_am_ag {M M' : pzM} (h : pz_ag M M') : pz_am M M' := fun i hi _ => h i hi
theorem pz_am_o {M M' : pzM} {k : Nat} {x : Int64} (h : pz_am M M') : pz_am M (M'.1, pz_u M'.2 83 k x) := fun i hi hj => ⟨(h i hi hj).1, (pz_u_off _ _ _ (Nat.ne_of_lt hj)).trans (h i hi hj).2⟩
theorem pz_am_fm {M M' : pzM} (h : pz_am M M') (z : pz_fm M) : pz_fm M' := fun i hi hj => ⟨fun k => by rw [(h i hi hj).1]; exact (z i hi hj).1 k, fun k => by rw [(h i hi hj).2]; exact (z i hi hj).2 k⟩
theorem pz_lt03 {w : Int32} (h : w.toInt < 0 ∨ 3 < w.toInt) : w < 0 ∨ 3 < w := h.imp (fun q => Int32.lt_iff_toInt_lt.mpr q) (fun q => Int32.lt_iff_toInt_lt.mpr q)
theorem pz_nlt03 {w : Int32} (h : w = 0 ∨ w = 1 ∨ w = 2 ∨ w = 3) : ¬ (w < 0 ∨ 3 < w) := by rcases h with rfl | rfl | rfl | rfl <;> decide
theorem wH_yL_character : Cond.codeWith yL_character cL_character 4 (some .int) [(0, 9, 12, 13), (0, 9, 15, 15)] ∈ lw_good := lw_at3 228 rfl rfl
theorem wD_yL_character : yL_character.cls ≠ "java/lang/invoke/MethodHandle" ∧ yL_character.cls ≠ "java/lang/invoke/VarHandle" ∧ (parseMethodDescriptor yL_character.desc).map (fun d => d.parameters.length) = some 3 := by decide +kernel
theorem wH_yL_code : Cond.codeWith yL_code cL_code 7 (some .int) [(0, 14, 17, 13), (0, 14, 21, 15)] ∈ lw_good := lw_at3 118 rfl rfl
theorem wD_yL_code : yL_code.cls ≠ "java/lang/invoke/MethodHandle" ∧ yL_code.cls ≠ "java/lang/invoke/VarHandle" ∧ (parseMethodDescriptor yL_code.desc).map (fun d => d.parameters.length) = some 6 := by decide +kernel
theorem wH_yL_count : Cond.codeWith yL_count cL_count 4 (some .int) [(0, 9, 12, 13), (0, 9, 15, 15)] ∈ lw_good := lw_at3 155 rfl rfl
theorem wD_yL_count : yL_count.cls ≠ "java/lang/invoke/MethodHandle" ∧ yL_count.cls ≠ "java/lang/invoke/VarHandle" ∧ (parseMethodDescriptor yL_count.desc).map (fun d => d.parameters.length) = some 3 := by decide +kernel
theorem wH_yL_function : Cond.codeWith yL_function cL_function 4 (some .int) [(0, 9, 12, 13), (0, 9, 15, 15)] ∈ lw_good := lw_at3 24 rfl rfl
theorem wD_yL_function : yL_function.cls ≠ "java/lang/invoke/MethodHandle" ∧ yL_function.cls ≠ "java/lang/invoke/VarHandle" ∧ (parseMethodDescriptor yL_function.desc).map (fun d => d.parameters.length) = some 3 := by decide +kernel
theorem wH_yL_made : Cond.codeWith yL_made cL_made 5 (some .int) [(0, 10, 13, 13), (0, 10, 17, 15)] ∈ lw_good := lw_at3 212 rfl rfl
theorem wD_yL_made : yL_made.cls ≠ "java/lang/invoke/MethodHandle" ∧ yL_made.cls ≠ "java/lang/invoke/VarHandle" ∧ (parseMethodDescriptor yL_made.desc).map (fun d => d.parameters.length) = some 4 := by decide +kernel
theorem wH_yL_plain : Cond.codeWith yL_plain cL_plain 6 (some .int) [(0, 12, 15, 13), (0, 12, 19, 15)] ∈ lw_good := lw_at3 193 rfl rfl
theorem wD_yL_plain : yL_plain.cls ≠ "java/lang/invoke/MethodHandle" ∧ yL_plain.cls ≠ "java/lang/invoke/VarHandle" ∧ (parseMethodDescriptor yL_plain.desc).map (fun d => d.parameters.length) = some 5 := by decide +kernel
theorem wH_yL_recipe : Cond.codeWith yL_recipe cL_recipe 5 (some .int) [(0, 9, 12, 13), (0, 9, 16, 15)] ∈ lw_good := lw_at3 131 rfl rfl
theorem wD_yL_recipe : yL_recipe.cls ≠ "java/lang/invoke/MethodHandle" ∧ yL_recipe.cls ≠ "java/lang/invoke/VarHandle" ∧ (parseMethodDescriptor yL_recipe.desc).map (fun d => d.parameters.length) = some 3 := by decide +kernel
theorem wH_yL_run : Cond.codeWith yL_run cL_run 8 (some .int) [(0, 16, 19, 13), (0, 16, 23, 15)] ∈ lw_good := lw_at3 239 rfl rfl
theorem wD_yL_run : yL_run.cls ≠ "java/lang/invoke/MethodHandle" ∧ yL_run.cls ≠ "java/lang/invoke/VarHandle" ∧ (parseMethodDescriptor yL_run.desc).map (fun d => d.parameters.length) = some 7 := by decide +kernel
theorem wH_yL_said : Cond.codeWith yL_said cL_said 4 (some .int) [(0, 9, 12, 13)] ∈ lw_good := lw_at5 64 rfl rfl
theorem wD_yL_said : yL_said.cls ≠ "java/lang/invoke/MethodHandle" ∧ yL_said.cls ≠ "java/lang/invoke/VarHandle" ∧ (parseMethodDescriptor yL_said.desc).map (fun d => d.parameters.length) = some 3 := by decide +kernel
theorem wH_yL_size : Cond.codeWith yL_size cL_size 5 (some .int) [(0, 10, 13, 13), (0, 10, 17, 15)] ∈ lw_good := lw_at3 174 rfl rfl
theorem wD_yL_size : yL_size.cls ≠ "java/lang/invoke/MethodHandle" ∧ yL_size.cls ≠ "java/lang/invoke/VarHandle" ∧ (parseMethodDescriptor yL_size.desc).map (fun d => d.parameters.length) = some 4 := by decide +kernel
theorem wH_yL_told : Cond.codeWith yL_told cL_told 4 (some .int) [(0, 9, 12, 13)] ∈ lw_good := lw_at5 36 rfl rfl
theorem wD_yL_told : yL_told.cls ≠ "java/lang/invoke/MethodHandle" ∧ yL_told.cls ≠ "java/lang/invoke/VarHandle" ∧ (parseMethodDescriptor yL_told.desc).map (fun d => d.parameters.length) = some 3 := by decide +kernel
set_option maxHeartbeats 4000000 in
set_option maxRecDepth 100000 in
theorem c_L_function (l : Launch) (D : va_G) (cy : Nat → ClassId) {σ : pzS} {M : pzM} {n : Int32} (h : pz_sh σ) (z : pz_fc M) (hl0 : l.stackTraces = false) : pz_MetH l yL_function cL_function 4 (some .int) [(0, 9, 12, 13), (0, 9, 15, 15)] 7 112 1 6 D cy σ M [.ref 0, .int n, .ref 83] (fun r σ' M' => r = some (.int ((if n < 0 ∨ 3 < n then (1 : Int32) else 0))) ∧ σ' = σ ∧ pz_am M M' ∧ ((if n < 0 ∨ 3 < n then (1 : Int32) else 0) = 0 → M'.2 83 0 = 0)) := by
  refine pz_ofWH (by decide) (Nat.le_of_ble_eq_true rfl) (fun p e s m args below meth c ad A C hr hZ htab => ?_)
  refine pz_aload_n C 2 dL_function_0 rfl ?_
  refine pz_iconst C (v := 0) dL_function_1 (by decide) ?_
  refine pz_aload_n C 0 dL_function_2 rfl ?_
  refine pz_iload_n C 1 dL_function_3 rfl ?_
  refine pz_callVX C (As := [_]) (rest := [.int 0, .ref 83]) (b := 0) hZ (c_X10_function l D cy h z hl0) wB_yX10_function ml_L_7 im_yX10_function se_yX10_function (ci := 9) rfl (shL h 0 rfl) (shK h 0 rfl rfl) rfl rfl (Nat.le_of_ble_eq_true rfl) ⟨(Nat.le_of_ble_eq_true rfl), (Nat.le_of_ble_eq_true rfl)⟩ ⟨(Nat.le_of_ble_eq_true rfl), (Nat.le_of_ble_eq_true rfl)⟩ dL_function_4 (Nat.le_refl _) (And.intro True.intro (And.intro (shL h 83 rfl) (True.intro))) (And.intro (shL h 0 rfl) (And.intro True.intro (And.intro (shL h 83 rfl) (True.intro)))) (fun E σ9 M9 hx => ?_) (fun r9 σ9 M9 hp => ?_)
  · obtain ⟨rfl, hc, rfl, rfl⟩ := hx
    have hk : (if n < 0 ∨ 3 < n then (1 : Int32) else 0) = 1 := if_pos (hc.imp id Int32.not_le.mp)
    refine ⟨Nat.le_refl _, h.2.2.2, 12, ⟨[], ⟨0, 9, 12, 13⟩, [⟨0, 9, 15, 15⟩], sIA, htab, (fun _ hz => absurd hz List.not_mem_nil), by decide, by decide, cl_L_13, cs_IA, rfl⟩, ?_⟩
    refine pz_astore_n (loc' := [(3, .ref (σ9.1)), (0, .ref (0)), (1, .int n), (2, .ref (83))]) C dL_function_12 (by decide) rfl ?_
    refine pz_iconst C (v := 1) dL_function_13 (by decide) ?_
    exact pz_iret C hr (Nat.le_of_ble_eq_true rfl) (Nat.le_of_ble_eq_true rfl) dL_function_14 ⟨by rw [hk], rfl, pz_am_rf _, fun q => absurd (hk ▸ q) (by decide)⟩
  · obtain ⟨hc, rfl, rfl, hag⟩ := hp
    have hk : (if n < 0 ∨ 3 < n then (1 : Int32) else 0) = 0 := if_neg (fun q => hc (q.imp id Int32.not_le.mpr))
    refine pz_i2l C dL_function_7 ?_
    refine pz_last C (shL h 83 rfl) (shK h 83 rfl rfl) (shB h 83 rfl rfl (vp_in0 (by decide))) dL_function_8 ?_
    refine pz_goto (tgt := 18) C dL_function_9 (by decide) ?_
    refine pz_iconst C (v := 0) dL_function_18 (by decide) ?_
    exact pz_iret C hr (Nat.le_of_ble_eq_true rfl) (Nat.le_of_ble_eq_true rfl) dL_function_19 ⟨by rw [hk], rfl, pz_am_o (pz_am_ag hag), fun _ => show pz_u M9.2 83 0 ((0 : Int32).toInt64) 83 0 = 0 from (pz_u_eq _ _ _ _).trans (by decide)⟩
set_option maxHeartbeats 4000000 in
set_option maxRecDepth 100000 in
theorem c_L_code (l : Launch) (D : va_G) (cy : Nat → ClassId) {σ : pzS} {M : pzM} {f : Int32} {w : Int32} {a : Int32} {b : Int32} (h : pz_sh σ) (z : pz_fc M) (hl0 : l.stackTraces = false) : pz_MetH l yL_code cL_code 7 (some .int) [(0, 14, 17, 13), (0, 14, 21, 15)] 7 115 1 6 D cy σ M [.ref 0, .int f, .int w, .int a, .int b, .ref 83] (fun r σ' M' => r = some (.int ((1 : Int32))) ∧ σ' = σ ∧ pz_am M M' ∧ ((1 : Int32) = 0 → M'.2 83 0 = 0)) := by
  refine pz_ofWH (by decide) (Nat.le_of_ble_eq_true rfl) (fun p e s m args below meth c ad A C hr hZ htab => ?_)
  refine pz_aload C 5 dL_code_0 rfl ?_
  refine pz_iconst C (v := 0) dL_code_2 (by decide) ?_
  refine pz_aload_n C 0 dL_code_3 rfl ?_
  refine pz_iload_n C 1 dL_code_4 rfl ?_
  refine pz_iload_n C 2 dL_code_5 rfl ?_
  refine pz_iload_n C 3 dL_code_6 rfl ?_
  refine pz_iload C 4 dL_code_7 rfl ?_
  refine pz_callVX C (As := [_, _, _, _]) (rest := [.int 0, .ref 83]) (b := 0) hZ (c_X10_code l D cy h z hl0) wB_yX10_code ml_L_17 im_yX10_code se_yX10_code (ci := 9) rfl (shL h 0 rfl) (shK h 0 rfl rfl) rfl rfl (Nat.le_of_ble_eq_true rfl) ⟨(Nat.le_of_ble_eq_true rfl), (Nat.le_of_ble_eq_true rfl)⟩ ⟨(Nat.le_of_ble_eq_true rfl), (Nat.le_of_ble_eq_true rfl)⟩ dL_code_9 (Nat.le_refl _) (And.intro True.intro (And.intro (shL h 83 rfl) (True.intro))) (And.intro (shL h 0 rfl) (And.intro True.intro (And.intro True.intro (And.intro True.intro (And.intro True.intro (And.intro (shL h 83 rfl) (True.intro))))))) (fun E σ9 M9 hx => ?_) (fun r9 σ9 M9 hp => ?_)
  · obtain ⟨rfl, rfl, rfl⟩ := hx
    have hk : (1 : Int32) = 1 := rfl
    refine ⟨Nat.le_refl _, h.2.2.2, 17, ⟨[], ⟨0, 14, 17, 13⟩, [⟨0, 14, 21, 15⟩], sIA, htab, (fun _ hz => absurd hz List.not_mem_nil), by decide, by decide, cl_L_13, cs_IA, rfl⟩, ?_⟩
    refine pz_astore (loc' := [(6, .ref (σ9.1)), (0, .ref (0)), (1, .int f), (2, .int w), (3, .int a), (4, .int b), (5, .ref (83))]) C dL_code_17 (by decide) rfl ?_
    refine pz_iconst C (v := 1) dL_code_19 (by decide) ?_
    exact pz_iret C hr (Nat.le_of_ble_eq_true rfl) (Nat.le_of_ble_eq_true rfl) dL_code_20 ⟨by rw [hk], rfl, pz_am_rf _, fun q => absurd (hk ▸ q) (by decide)⟩
  · exact hp.elim
set_option maxHeartbeats 4000000 in
set_option maxRecDepth 100000 in
theorem c_L_size (l : Launch) (D : va_G) (cy : Nat → ClassId) {σ : pzS} {M : pzM} {f : Int32} {w : Int32} (h : pz_sh σ) (z : pz_fc M) (hl0 : l.stackTraces = false) : pz_MetH l yL_size cL_size 5 (some .int) [(0, 10, 13, 13), (0, 10, 17, 15)] 7 113 1 6 D cy σ M [.ref 0, .int f, .int w, .ref 83] (fun r σ' M' => r = some (.int ((1 : Int32))) ∧ σ' = σ ∧ pz_am M M' ∧ ((1 : Int32) = 0 → M'.2 83 0 = 0)) := by
  refine pz_ofWH (by decide) (Nat.le_of_ble_eq_true rfl) (fun p e s m args below meth c ad A C hr hZ htab => ?_)
  refine pz_aload_n C 3 dL_size_0 rfl ?_
  refine pz_iconst C (v := 0) dL_size_1 (by decide) ?_
  refine pz_aload_n C 0 dL_size_2 rfl ?_
  refine pz_iload_n C 1 dL_size_3 rfl ?_
  refine pz_iload_n C 2 dL_size_4 rfl ?_
  refine pz_callVX C (As := [_, _]) (rest := [.int 0, .ref 83]) (b := 0) hZ (c_X10_size l D cy h z hl0) wB_yX10_size ml_L_28 im_yX10_size se_yX10_size (ci := 9) rfl (shL h 0 rfl) (shK h 0 rfl rfl) rfl rfl (Nat.le_of_ble_eq_true rfl) ⟨(Nat.le_of_ble_eq_true rfl), (Nat.le_of_ble_eq_true rfl)⟩ ⟨(Nat.le_of_ble_eq_true rfl), (Nat.le_of_ble_eq_true rfl)⟩ dL_size_5 (Nat.le_refl _) (And.intro True.intro (And.intro (shL h 83 rfl) (True.intro))) (And.intro (shL h 0 rfl) (And.intro True.intro (And.intro True.intro (And.intro (shL h 83 rfl) (True.intro))))) (fun E σ9 M9 hx => ?_) (fun r9 σ9 M9 hp => ?_)
  · obtain ⟨rfl, rfl, rfl⟩ := hx
    have hk : (1 : Int32) = 1 := rfl
    refine ⟨Nat.le_refl _, h.2.2.2, 13, ⟨[], ⟨0, 10, 13, 13⟩, [⟨0, 10, 17, 15⟩], sIA, htab, (fun _ hz => absurd hz List.not_mem_nil), by decide, by decide, cl_L_13, cs_IA, rfl⟩, ?_⟩
    refine pz_astore (loc' := [(4, .ref (σ9.1)), (0, .ref (0)), (1, .int f), (2, .int w), (3, .ref (83))]) C dL_size_13 (by decide) rfl ?_
    refine pz_iconst C (v := 1) dL_size_15 (by decide) ?_
    exact pz_iret C hr (Nat.le_of_ble_eq_true rfl) (Nat.le_of_ble_eq_true rfl) dL_size_16 ⟨by rw [hk], rfl, pz_am_rf _, fun q => absurd (hk ▸ q) (by decide)⟩
  · exact hp.elim
set_option maxHeartbeats 4000000 in
set_option maxRecDepth 100000 in
theorem c_L_plain (l : Launch) (D : va_G) (cy : Nat → ClassId) {σ : pzS} {M : pzM} {f : Int32} {i0 : Int32} {w : Int32} (h : pz_sh σ) (z : pz_fc M) (hl0 : l.stackTraces = false) : pz_MetH l yL_plain cL_plain 6 (some .int) [(0, 12, 15, 13), (0, 12, 19, 15)] 7 114 1 6 D cy σ M [.ref 0, .int f, .int i0, .int w, .ref 83] (fun r σ' M' => r = some (.int ((1 : Int32))) ∧ σ' = σ ∧ pz_am M M' ∧ ((1 : Int32) = 0 → M'.2 83 0 = 0)) := by
  refine pz_ofWH (by decide) (Nat.le_of_ble_eq_true rfl) (fun p e s m args below meth c ad A C hr hZ htab => ?_)
  refine pz_aload C 4 dL_plain_0 rfl ?_
  refine pz_iconst C (v := 0) dL_plain_2 (by decide) ?_
  refine pz_aload_n C 0 dL_plain_3 rfl ?_
  refine pz_iload_n C 1 dL_plain_4 rfl ?_
  refine pz_iload_n C 2 dL_plain_5 rfl ?_
  refine pz_iload_n C 3 dL_plain_6 rfl ?_
  refine pz_callVX C (As := [_, _, _]) (rest := [.int 0, .ref 83]) (b := 0) hZ (c_X10_plain l D cy h z hl0) wB_yX10_plain ml_L_32 im_yX10_plain se_yX10_plain (ci := 9) rfl (shL h 0 rfl) (shK h 0 rfl rfl) rfl rfl (Nat.le_of_ble_eq_true rfl) ⟨(Nat.le_of_ble_eq_true rfl), (Nat.le_of_ble_eq_true rfl)⟩ ⟨(Nat.le_of_ble_eq_true rfl), (Nat.le_of_ble_eq_true rfl)⟩ dL_plain_7 (Nat.le_refl _) (And.intro True.intro (And.intro (shL h 83 rfl) (True.intro))) (And.intro (shL h 0 rfl) (And.intro True.intro (And.intro True.intro (And.intro True.intro (And.intro (shL h 83 rfl) (True.intro)))))) (fun E σ9 M9 hx => ?_) (fun r9 σ9 M9 hp => ?_)
  · obtain ⟨rfl, rfl, rfl⟩ := hx
    have hk : (1 : Int32) = 1 := rfl
    refine ⟨Nat.le_refl _, h.2.2.2, 15, ⟨[], ⟨0, 12, 15, 13⟩, [⟨0, 12, 19, 15⟩], sIA, htab, (fun _ hz => absurd hz List.not_mem_nil), by decide, by decide, cl_L_13, cs_IA, rfl⟩, ?_⟩
    refine pz_astore (loc' := [(5, .ref (σ9.1)), (0, .ref (0)), (1, .int f), (2, .int i0), (3, .int w), (4, .ref (83))]) C dL_plain_15 (by decide) rfl ?_
    refine pz_iconst C (v := 1) dL_plain_17 (by decide) ?_
    exact pz_iret C hr (Nat.le_of_ble_eq_true rfl) (Nat.le_of_ble_eq_true rfl) dL_plain_18 ⟨by rw [hk], rfl, pz_am_rf _, fun q => absurd (hk ▸ q) (by decide)⟩
  · exact hp.elim
set_option maxHeartbeats 4000000 in
set_option maxRecDepth 100000 in
theorem c_L_run (l : Launch) (D : va_G) (cy : Nat → ClassId) {σ : pzS} {M : pzM} {f : Int32} {x0 : Int32} {y0 : Int32} {z0 : Int32} {b0 : Int32} (h : pz_sh σ) (z : pz_fc M) (hl0 : l.stackTraces = false) : pz_MetH l yL_run cL_run 8 (some .int) [(0, 16, 19, 13), (0, 16, 23, 15)] 7 116 1 6 D cy σ M [.ref 0, .int f, .int x0, .int y0, .int z0, .int b0, .ref 83] (fun r σ' M' => r = some (.int ((1 : Int32))) ∧ σ' = σ ∧ pz_am M M' ∧ ((1 : Int32) = 0 → M'.2 83 0 = 0)) := by
  refine pz_ofWH (by decide) (Nat.le_of_ble_eq_true rfl) (fun p e s m args below meth c ad A C hr hZ htab => ?_)
  refine pz_aload C 6 dL_run_0 rfl ?_
  refine pz_iconst C (v := 0) dL_run_2 (by decide) ?_
  refine pz_aload_n C 0 dL_run_3 rfl ?_
  refine pz_iload_n C 1 dL_run_4 rfl ?_
  refine pz_iload_n C 2 dL_run_5 rfl ?_
  refine pz_iload_n C 3 dL_run_6 rfl ?_
  refine pz_iload C 4 dL_run_7 rfl ?_
  refine pz_iload C 5 dL_run_9 rfl ?_
  refine pz_callVX C (As := [_, _, _, _, _]) (rest := [.int 0, .ref 83]) (b := 0) hZ (c_X10_run l D cy h z hl0) wB_yX10_run ml_L_42 im_yX10_run se_yX10_run (ci := 9) rfl (shL h 0 rfl) (shK h 0 rfl rfl) rfl rfl (Nat.le_of_ble_eq_true rfl) ⟨(Nat.le_of_ble_eq_true rfl), (Nat.le_of_ble_eq_true rfl)⟩ ⟨(Nat.le_of_ble_eq_true rfl), (Nat.le_of_ble_eq_true rfl)⟩ dL_run_11 (Nat.le_refl _) (And.intro True.intro (And.intro (shL h 83 rfl) (True.intro))) (And.intro (shL h 0 rfl) (And.intro True.intro (And.intro True.intro (And.intro True.intro (And.intro True.intro (And.intro True.intro (And.intro (shL h 83 rfl) (True.intro)))))))) (fun E σ9 M9 hx => ?_) (fun r9 σ9 M9 hp => ?_)
  · obtain ⟨rfl, rfl, rfl⟩ := hx
    have hk : (1 : Int32) = 1 := rfl
    refine ⟨Nat.le_refl _, h.2.2.2, 19, ⟨[], ⟨0, 16, 19, 13⟩, [⟨0, 16, 23, 15⟩], sIA, htab, (fun _ hz => absurd hz List.not_mem_nil), by decide, by decide, cl_L_13, cs_IA, rfl⟩, ?_⟩
    refine pz_astore (loc' := [(7, .ref (σ9.1)), (0, .ref (0)), (1, .int f), (2, .int x0), (3, .int y0), (4, .int z0), (5, .int b0), (6, .ref (83))]) C dL_run_19 (by decide) rfl ?_
    refine pz_iconst C (v := 1) dL_run_21 (by decide) ?_
    exact pz_iret C hr (Nat.le_of_ble_eq_true rfl) (Nat.le_of_ble_eq_true rfl) dL_run_22 ⟨by rw [hk], rfl, pz_am_rf _, fun q => absurd (hk ▸ q) (by decide)⟩
  · exact hp.elim
set_option maxHeartbeats 4000000 in
set_option maxRecDepth 100000 in
theorem c_L_said (l : Launch) (D : va_G) (cy : Nat → ClassId) {σ : pzS} {M : pzM} {k : Int32} (h : pz_sh σ) (z : pz_fc M) (hl0 : l.stackTraces = false) : pz_MetH l yL_said cL_said 4 (some .int) [(0, 9, 12, 13)] 7 112 1 6 D cy σ M [.ref 0, .int k, .ref 83] (fun r σ' M' => r = some (.int ((1 : Int32))) ∧ σ' = σ ∧ pz_am M M' ∧ ((1 : Int32) = 0 → M'.2 83 0 = 0)) := by
  refine pz_ofWH (by decide) (Nat.le_of_ble_eq_true rfl) (fun p e s m args below meth c ad A C hr hZ htab => ?_)
  refine pz_aload_n C 2 dL_said_0 rfl ?_
  refine pz_iconst C (v := 0) dL_said_1 (by decide) ?_
  refine pz_aload_n C 0 dL_said_2 rfl ?_
  refine pz_iload_n C 1 dL_said_3 rfl ?_
  refine pz_callVX C (As := [_]) (rest := [.int 0, .ref 83]) (b := 0) hZ (c_X10_said l D cy h z hl0) wB_yX10_said ml_L_49 im_yX10_said se_yX10_said (ci := 9) rfl (shL h 0 rfl) (shK h 0 rfl rfl) rfl rfl (Nat.le_of_ble_eq_true rfl) ⟨(Nat.le_of_ble_eq_true rfl), (Nat.le_of_ble_eq_true rfl)⟩ ⟨(Nat.le_of_ble_eq_true rfl), (Nat.le_of_ble_eq_true rfl)⟩ dL_said_4 (Nat.le_refl _) (And.intro True.intro (And.intro (shL h 83 rfl) (True.intro))) (And.intro (shL h 0 rfl) (And.intro True.intro (And.intro (shL h 83 rfl) (True.intro)))) (fun E σ9 M9 hx => ?_) (fun r9 σ9 M9 hp => ?_)
  · obtain ⟨rfl, rfl, rfl⟩ := hx
    have hk : (1 : Int32) = 1 := rfl
    refine ⟨Nat.le_refl _, h.2.2.2, 12, ⟨[], ⟨0, 9, 12, 13⟩, [], sIA, htab, (fun _ hz => absurd hz List.not_mem_nil), by decide, by decide, cl_L_13, cs_IA, rfl⟩, ?_⟩
    refine pz_astore_n (loc' := [(3, .ref (σ9.1)), (0, .ref (0)), (1, .int k), (2, .ref (83))]) C dL_said_12 (by decide) rfl ?_
    refine pz_iconst C (v := 1) dL_said_13 (by decide) ?_
    exact pz_iret C hr (Nat.le_of_ble_eq_true rfl) (Nat.le_of_ble_eq_true rfl) dL_said_14 ⟨by rw [hk], rfl, pz_am_rf _, fun q => absurd (hk ▸ q) (by decide)⟩
  · exact hp.elim
set_option maxHeartbeats 4000000 in
set_option maxRecDepth 100000 in
theorem c_L_count (l : Launch) (D : va_G) (cy : Nat → ClassId) {σ : pzS} {M : pzM} {w : Int32} (h : pz_sh σ) (z : pz_fc M) (hl0 : l.stackTraces = false) : pz_MetH l yL_count cL_count 4 (some .int) [(0, 9, 12, 13), (0, 9, 15, 15)] 7 112 1 6 D cy σ M [.ref 0, .int w, .ref 83] (fun r σ' M' => r = some (.int ((if w < 0 ∨ 3 < w then (1 : Int32) else if w < 2 then 0 else 2))) ∧ σ' = σ ∧ pz_am M M' ∧ ((if w < 0 ∨ 3 < w then (1 : Int32) else if w < 2 then 0 else 2) = 0 → M'.2 83 0 = 0)) := by
  refine pz_ofWH (by decide) (Nat.le_of_ble_eq_true rfl) (fun p e s m args below meth c ad A C hr hZ htab => ?_)
  refine pz_aload_n C 2 dL_count_0 rfl ?_
  refine pz_iconst C (v := 0) dL_count_1 (by decide) ?_
  refine pz_aload_n C 0 dL_count_2 rfl ?_
  refine pz_iload_n C 1 dL_count_3 rfl ?_
  refine pz_callVX C (As := [_]) (rest := [.int 0, .ref 83]) (b := 0) hZ (c_X10_count l D cy h z hl0) wB_yX10_count ml_L_25 im_yX10_count se_yX10_count (ci := 9) rfl (shL h 0 rfl) (shK h 0 rfl rfl) rfl rfl (Nat.le_of_ble_eq_true rfl) ⟨(Nat.le_of_ble_eq_true rfl), (Nat.le_of_ble_eq_true rfl)⟩ ⟨(Nat.le_of_ble_eq_true rfl), (Nat.le_of_ble_eq_true rfl)⟩ dL_count_4 (Nat.le_refl _) (And.intro True.intro (And.intro (shL h 83 rfl) (True.intro))) (And.intro (shL h 0 rfl) (And.intro True.intro (And.intro (shL h 83 rfl) (True.intro)))) (fun E σ9 M9 hx => ?_) (fun r9 σ9 M9 hp => ?_)
  · obtain ⟨hx, rfl, rfl⟩ := hx
    rcases hx with hx | hx
    · obtain ⟨rfl, hc⟩ := hx
      have hk : (if w < 0 ∨ 3 < w then (1 : Int32) else if w < 2 then 0 else 2) = 1 := if_pos (hc.imp id Int32.not_le.mp)
      refine ⟨Nat.le_refl _, h.2.2.2, 12, ⟨[], ⟨0, 9, 12, 13⟩, [⟨0, 9, 15, 15⟩], sIA, htab, (fun _ hz => absurd hz List.not_mem_nil), by decide, by decide, cl_L_13, cs_IA, rfl⟩, ?_⟩
      refine pz_astore_n (loc' := [(3, .ref (σ9.1)), (0, .ref (0)), (1, .int w), (2, .ref (83))]) C dL_count_12 (by decide) rfl ?_
      refine pz_iconst C (v := 1) dL_count_13 (by decide) ?_
      exact pz_iret C hr (Nat.le_of_ble_eq_true rfl) (Nat.le_of_ble_eq_true rfl) dL_count_14 ⟨by rw [hk], rfl, pz_am_rf _, fun q => absurd (hk ▸ q) (by decide)⟩
    · obtain ⟨rfl, hc, h0, h1⟩ := hx
      have hk : (if w < 0 ∨ 3 < w then (1 : Int32) else if w < 2 then 0 else 2) = 2 := (if_neg (fun q => hc (q.imp id Int32.not_le.mpr))).trans (if_neg (fun q => pz_c2 (fun q2 => hc (Or.inl q2)) q h0 h1))
      refine ⟨Nat.le_refl _, h.2.2.2, 15, ⟨[⟨0, 9, 12, 13⟩], ⟨0, 9, 15, 15⟩, [], sIS, htab, (fun z9 hz => by rw [List.mem_singleton.mp hz]; exact Or.inr ⟨by decide, sIA, cl_L_13, hZ.2.2⟩), by decide, by decide, cl_L_15, cs_IS, rfl⟩, ?_⟩
      refine pz_astore_n (loc' := [(3, .ref (σ9.1)), (0, .ref (0)), (1, .int w), (2, .ref (83))]) C dL_count_15 (by decide) rfl ?_
      refine pz_iconst C (v := 2) dL_count_16 (by decide) ?_
      exact pz_iret C hr (Nat.le_of_ble_eq_true rfl) (Nat.le_of_ble_eq_true rfl) dL_count_17 ⟨by rw [hk], rfl, pz_am_rf _, fun q => absurd (hk ▸ q) (by decide)⟩
  · obtain ⟨rfl, hc, rfl, rfl⟩ := hp
    have hk : (if w < 0 ∨ 3 < w then (1 : Int32) else if w < 2 then 0 else 2) = 0 := by rcases hc with rfl | rfl <;> decide
    refine pz_i2l C dL_count_7 ?_
    refine pz_last C (shL h 83 rfl) (shK h 83 rfl rfl) (shB h 83 rfl rfl (vp_in0 (by decide))) dL_count_8 ?_
    refine pz_goto (tgt := 18) C dL_count_9 (by decide) ?_
    refine pz_iconst C (v := 0) dL_count_18 (by decide) ?_
    exact pz_iret C hr (Nat.le_of_ble_eq_true rfl) (Nat.le_of_ble_eq_true rfl) dL_count_19 ⟨by rw [hk], rfl, pz_am_o (pz_am_rf _), fun _ => show pz_u M9.2 83 0 ((0 : Int32).toInt64) 83 0 = 0 from (pz_u_eq _ _ _ _).trans (by decide)⟩
set_option maxHeartbeats 4000000 in
set_option maxRecDepth 100000 in
theorem c_L_made (l : Launch) (D : va_G) (cy : Nat → ClassId) {σ : pzS} {M : pzM} {c0 : Int32} {w : Int32} (h : pz_sh σ) (z : pz_fc M) (hl0 : l.stackTraces = false) : pz_MetH l yL_made cL_made 5 (some .int) [(0, 10, 13, 13), (0, 10, 17, 15)] 7 113 1 6 D cy σ M [.ref 0, .int c0, .int w, .ref 83] (fun r σ' M' => r = some (.int ((if c0 < 0 ∨ w < 0 ∨ 2 < w then (1 : Int32) else 2))) ∧ σ' = σ ∧ pz_am M M' ∧ ((if c0 < 0 ∨ w < 0 ∨ 2 < w then (1 : Int32) else 2) = 0 → M'.2 83 0 = 0)) := by
  refine pz_ofWH (by decide) (Nat.le_of_ble_eq_true rfl) (fun p e s m args below meth c ad A C hr hZ htab => ?_)
  refine pz_aload_n C 3 dL_made_0 rfl ?_
  refine pz_iconst C (v := 0) dL_made_1 (by decide) ?_
  refine pz_aload_n C 0 dL_made_2 rfl ?_
  refine pz_iload_n C 1 dL_made_3 rfl ?_
  refine pz_iload_n C 2 dL_made_4 rfl ?_
  refine pz_callVX C (As := [_, _]) (rest := [.int 0, .ref 83]) (b := 0) hZ (c_X10_made l D cy h z hl0) wB_yX10_made ml_L_36 im_yX10_made se_yX10_made (ci := 9) rfl (shL h 0 rfl) (shK h 0 rfl rfl) rfl rfl (Nat.le_of_ble_eq_true rfl) ⟨(Nat.le_of_ble_eq_true rfl), (Nat.le_of_ble_eq_true rfl)⟩ ⟨(Nat.le_of_ble_eq_true rfl), (Nat.le_of_ble_eq_true rfl)⟩ dL_made_5 (Nat.le_refl _) (And.intro True.intro (And.intro (shL h 83 rfl) (True.intro))) (And.intro (shL h 0 rfl) (And.intro True.intro (And.intro True.intro (And.intro (shL h 83 rfl) (True.intro))))) (fun E σ9 M9 hx => ?_) (fun r9 σ9 M9 hp => ?_)
  · obtain ⟨hx, rfl, rfl⟩ := hx
    rcases hx with hx | hx
    · obtain ⟨rfl, hc⟩ := hx
      have hk : (if c0 < 0 ∨ w < 0 ∨ 2 < w then (1 : Int32) else 2) = 1 := if_pos (hc.imp id (fun q => q.imp id Int32.not_le.mp))
      refine ⟨Nat.le_refl _, h.2.2.2, 13, ⟨[], ⟨0, 10, 13, 13⟩, [⟨0, 10, 17, 15⟩], sIA, htab, (fun _ hz => absurd hz List.not_mem_nil), by decide, by decide, cl_L_13, cs_IA, rfl⟩, ?_⟩
      refine pz_astore (loc' := [(4, .ref (σ9.1)), (0, .ref (0)), (1, .int c0), (2, .int w), (3, .ref (83))]) C dL_made_13 (by decide) rfl ?_
      refine pz_iconst C (v := 1) dL_made_15 (by decide) ?_
      exact pz_iret C hr (Nat.le_of_ble_eq_true rfl) (Nat.le_of_ble_eq_true rfl) dL_made_16 ⟨by rw [hk], rfl, pz_am_rf _, fun q => absurd (hk ▸ q) (by decide)⟩
    · obtain ⟨rfl, hc⟩ := hx
      have hk : (if c0 < 0 ∨ w < 0 ∨ 2 < w then (1 : Int32) else 2) = 2 := if_neg (fun q => hc (q.imp id (fun q2 => q2.imp id Int32.not_le.mpr)))
      refine ⟨Nat.le_refl _, h.2.2.2, 17, ⟨[⟨0, 10, 13, 13⟩], ⟨0, 10, 17, 15⟩, [], sIS, htab, (fun z9 hz => by rw [List.mem_singleton.mp hz]; exact Or.inr ⟨by decide, sIA, cl_L_13, hZ.2.2⟩), by decide, by decide, cl_L_15, cs_IS, rfl⟩, ?_⟩
      refine pz_astore (loc' := [(4, .ref (σ9.1)), (0, .ref (0)), (1, .int c0), (2, .int w), (3, .ref (83))]) C dL_made_17 (by decide) rfl ?_
      refine pz_iconst C (v := 2) dL_made_19 (by decide) ?_
      exact pz_iret C hr (Nat.le_of_ble_eq_true rfl) (Nat.le_of_ble_eq_true rfl) dL_made_20 ⟨by rw [hk], rfl, pz_am_rf _, fun q => absurd (hk ▸ q) (by decide)⟩
  · exact hp.elim
set_option maxHeartbeats 4000000 in
set_option maxRecDepth 100000 in
theorem c_L_character (l : Launch) (D : va_G) (cy : Nat → ClassId) {σ : pzS} {M : pzM} {k : Int32} (h : pz_sh σ) (z : pz_fc M) (hl0 : l.stackTraces = false) : pz_MetH l yL_character cL_character 4 (some .int) [(0, 9, 12, 13), (0, 9, 15, 15)] 7 112 1 6 D cy σ M [.ref 0, .int k, .ref 83] (fun r σ' M' => r = some (.int ((if k < 0 then (1 : Int32) else 2))) ∧ σ' = σ ∧ pz_am M M' ∧ ((if k < 0 then (1 : Int32) else 2) = 0 → M'.2 83 0 = 0)) := by
  refine pz_ofWH (by decide) (Nat.le_of_ble_eq_true rfl) (fun p e s m args below meth c ad A C hr hZ htab => ?_)
  refine pz_aload_n C 2 dL_character_0 rfl ?_
  refine pz_iconst C (v := 0) dL_character_1 (by decide) ?_
  refine pz_aload_n C 0 dL_character_2 rfl ?_
  refine pz_iload_n C 1 dL_character_3 rfl ?_
  refine pz_callVX C (As := [_]) (rest := [.int 0, .ref 83]) (b := 0) hZ (c_X10_character l D cy h z hl0) wB_yX10_character ml_L_39 im_yX10_character se_yX10_character (ci := 9) rfl (shL h 0 rfl) (shK h 0 rfl rfl) rfl rfl (Nat.le_of_ble_eq_true rfl) ⟨(Nat.le_of_ble_eq_true rfl), (Nat.le_of_ble_eq_true rfl)⟩ ⟨(Nat.le_of_ble_eq_true rfl), (Nat.le_of_ble_eq_true rfl)⟩ dL_character_4 (Nat.le_refl _) (And.intro True.intro (And.intro (shL h 83 rfl) (True.intro))) (And.intro (shL h 0 rfl) (And.intro True.intro (And.intro (shL h 83 rfl) (True.intro)))) (fun E σ9 M9 hx => ?_) (fun r9 σ9 M9 hp => ?_)
  · obtain ⟨hx, rfl, rfl⟩ := hx
    rcases hx with hx | hx
    · obtain ⟨rfl, hc⟩ := hx
      have hk : (if k < 0 then (1 : Int32) else 2) = 1 := if_pos (Int32.not_le.mp hc)
      refine ⟨Nat.le_refl _, h.2.2.2, 12, ⟨[], ⟨0, 9, 12, 13⟩, [⟨0, 9, 15, 15⟩], sIA, htab, (fun _ hz => absurd hz List.not_mem_nil), by decide, by decide, cl_L_13, cs_IA, rfl⟩, ?_⟩
      refine pz_astore_n (loc' := [(3, .ref (σ9.1)), (0, .ref (0)), (1, .int k), (2, .ref (83))]) C dL_character_12 (by decide) rfl ?_
      refine pz_iconst C (v := 1) dL_character_13 (by decide) ?_
      exact pz_iret C hr (Nat.le_of_ble_eq_true rfl) (Nat.le_of_ble_eq_true rfl) dL_character_14 ⟨by rw [hk], rfl, pz_am_rf _, fun q => absurd (hk ▸ q) (by decide)⟩
    · obtain ⟨rfl, hc⟩ := hx
      have hk : (if k < 0 then (1 : Int32) else 2) = 2 := if_neg (Int32.not_lt.mpr hc)
      refine ⟨Nat.le_refl _, h.2.2.2, 15, ⟨[⟨0, 9, 12, 13⟩], ⟨0, 9, 15, 15⟩, [], sIS, htab, (fun z9 hz => by rw [List.mem_singleton.mp hz]; exact Or.inr ⟨by decide, sIA, cl_L_13, hZ.2.2⟩), by decide, by decide, cl_L_15, cs_IS, rfl⟩, ?_⟩
      refine pz_astore_n (loc' := [(3, .ref (σ9.1)), (0, .ref (0)), (1, .int k), (2, .ref (83))]) C dL_character_15 (by decide) rfl ?_
      refine pz_iconst C (v := 2) dL_character_16 (by decide) ?_
      exact pz_iret C hr (Nat.le_of_ble_eq_true rfl) (Nat.le_of_ble_eq_true rfl) dL_character_17 ⟨by rw [hk], rfl, pz_am_rf _, fun q => absurd (hk ▸ q) (by decide)⟩
  · exact hp.elim
set_option maxHeartbeats 4000000 in
set_option maxRecDepth 100000 in
theorem c_L_told (l : Launch) (D : va_G) (cy : Nat → ClassId) {σ : pzS} {M : pzM} {w : Int32} (h : pz_sh σ) (z : pz_fc M) (hl0 : l.stackTraces = false) : pz_MetH l yL_told cL_told 4 (some .int) [(0, 9, 12, 13)] 7 112 1 6 D cy σ M [.ref 0, .int w, .ref 83] (fun r σ' M' => r = some (.int ((if w < 0 ∨ 3 < w then (1 : Int32) else 0))) ∧ σ' = σ ∧ pz_am M M' ∧ ((if w < 0 ∨ 3 < w then (1 : Int32) else 0) = 0 → M'.2 83 0 = 0)) := by
  refine pz_ofWH (by decide) (Nat.le_of_ble_eq_true rfl) (fun p e s m args below meth c ad A C hr hZ htab => ?_)
  refine pz_aload_n C 2 dL_told_0 rfl ?_
  refine pz_iconst C (v := 0) dL_told_1 (by decide) ?_
  refine pz_aload_n C 0 dL_told_2 rfl ?_
  refine pz_iload_n C 1 dL_told_3 rfl ?_
  refine pz_callVX C (As := [_]) (rest := [.int 0, .ref 83]) (b := 0) hZ (c_X10_told l D cy h z hl0) wB_yX10_told ml_L_46 im_yX10_told se_yX10_told (ci := 9) rfl (shL h 0 rfl) (shK h 0 rfl rfl) rfl rfl (Nat.le_of_ble_eq_true rfl) ⟨(Nat.le_of_ble_eq_true rfl), (Nat.le_of_ble_eq_true rfl)⟩ ⟨(Nat.le_of_ble_eq_true rfl), (Nat.le_of_ble_eq_true rfl)⟩ dL_told_4 (Nat.le_refl _) (And.intro True.intro (And.intro (shL h 83 rfl) (True.intro))) (And.intro (shL h 0 rfl) (And.intro True.intro (And.intro (shL h 83 rfl) (True.intro)))) (fun E σ9 M9 hx => ?_) (fun r9 σ9 M9 hp => ?_)
  · obtain ⟨rfl, hc, rfl, rfl⟩ := hx
    have hk : (if w < 0 ∨ 3 < w then (1 : Int32) else 0) = 1 := if_pos (pz_lt03 hc)
    refine ⟨Nat.le_refl _, h.2.2.2, 12, ⟨[], ⟨0, 9, 12, 13⟩, [], sIA, htab, (fun _ hz => absurd hz List.not_mem_nil), by decide, by decide, cl_L_13, cs_IA, rfl⟩, ?_⟩
    refine pz_astore_n (loc' := [(3, .ref (σ9.1)), (0, .ref (0)), (1, .int w), (2, .ref (83))]) C dL_told_12 (by decide) rfl ?_
    refine pz_iconst C (v := 1) dL_told_13 (by decide) ?_
    exact pz_iret C hr (Nat.le_of_ble_eq_true rfl) (Nat.le_of_ble_eq_true rfl) dL_told_14 ⟨by rw [hk], rfl, pz_am_rf _, fun q => absurd (hk ▸ q) (by decide)⟩
  · obtain ⟨rfl, hc, rfl, rfl⟩ := hp
    have hk : (if w < 0 ∨ 3 < w then (1 : Int32) else 0) = 0 := if_neg (pz_nlt03 hc)
    refine pz_i2l C dL_told_7 ?_
    refine pz_last C (shL h 83 rfl) (shK h 83 rfl rfl) (shB h 83 rfl rfl (vp_in0 (by decide))) dL_told_8 ?_
    refine pz_goto (tgt := 15) C dL_told_9 (by decide) ?_
    refine pz_iconst C (v := 0) dL_told_15 (by decide) ?_
    exact pz_iret C hr (Nat.le_of_ble_eq_true rfl) (Nat.le_of_ble_eq_true rfl) dL_told_16 ⟨by rw [hk], rfl, pz_am_o (pz_am_rf _), fun _ => show pz_u M9.2 83 0 ((0 : Int32).toInt64) 83 0 = 0 from (pz_u_eq _ _ _ _).trans (by decide)⟩
