theorem wH_yL_character : Cond.codeWith yL_character cL_character 4 (some .int) [(0, 9, 12, 13), (0, 9, 15, 15)] ∈ lw_good := lw_at3 228 rfl rfl
theorem wD_yL_character : yL_character.cls ≠ "java/lang/invoke/MethodHandle" ∧ yL_character.cls ≠ "java/lang/invoke/VarHandle" ∧ (parseMethodDescriptor yL_character.desc).map (fun d => d.parameters.length) = some 3 := by decide +kernel
theorem wH_yL_code : Cond.codeWith yL_code cL_code 7 (some .int) [(0, 14, 17, 13), (0, 14, 21, 15)] ∈ lw_good := lw_at3 118 rfl rfl
theorem wD_yL_code : yL_code.cls ≠ "java/lang/invoke/MethodHandle" ∧ yL_code.cls ≠ "java/lang/invoke/VarHandle" ∧ (parseMethodDescriptor yL_code.desc).map (fun d => d.parameters.length) = some 6 := by decide +kernel
theorem wH_yL_count : Cond.codeWith yL_count cL_count 4 (some .int) [(0, 9, 12, 13), (0, 9, 15, 15)] ∈ lw_good := lw_at3 155 rfl rfl
theorem wD_yL_count : yL_count.cls ≠ "java/lang/invoke/MethodHandle" ∧ yL_count.cls ≠ "java/lang/invoke/VarHandle" ∧ (parseMethodDescriptor yL_count.desc).map (fun d => d.parameters.length) = some 3 := by decide +kernel
theorem wH_yL_function : Cond.codeWith yL_function cL_function 4 (some .int) [(0, 9, 12, 13), (0, 9, 15, 15)] ∈ lw_good := lw_at3 24 rfl rfl
theorem wD_yL_function : yL_function.cls ≠ "java/lang/invoke/MethodHandle" ∧ yL_function.cls ≠ "java/lang/invoke/VarHandle" ∧ (parseMethodDescriptor yL_function.desc).map (fun d => d.parameters.length) = some 3 := by decide +kernel
theorem wH_yL_made : Cond.codeWith yL_made cL_made 5 (some .int) [(0, 10, 13, 13), (0, 10, 17, 15)] ∈ lw_good := lw_at3 212 rfl rfl
theorem wD_yL_made : yL_made.cls ≠ "java/lang/invoke/MethodHandle" ∧ yL_made.cls ≠ "java/lang/invoke/VarHandle" ∧ (parseMethodDescriptor yL_made.desc).map (fun d => d.parameters.length) = some 4 := by decide +kernel
theorem wH_yL_plain : Cond.codeWith yL_plain cL_plain 6 (some .int) [(0, 12, 15, 13), (0, 12, 19, 15)] ∈ lw_good := lw_at3 193 rfl rfl
theorem wD_yL_plain : yL_plain.cls ≠ "java/lang/invoke/MethodHandle" ∧ yL_plain.cls ≠ "java/lang/invoke/VarHandle" ∧ (parseMethodDescriptor yL_plain.desc).map (fun d => d.parameters.length) = some 5 := by decide +kernel
theorem wH_yL_recipe : Cond.codeWith yL_recipe cL_recipe 5 (some .int) [(0, 9, 12, 13), (0, 9, 16, 15)] ∈ lw_good := lw_at3 131 rfl rfl
theorem wD_yL_recipe : yL_recipe.cls ≠ "java/lang/invoke/MethodHandle" ∧ yL_recipe.cls ≠ "java/lang/invoke/VarHandle" ∧ (parseMethodDescriptor yL_recipe.desc).map (fun d => d.parameters.length) = some 3 := by decide +kernel
theorem wH_yL_run : Cond.codeWith yL_run cL_run 8 (some .int) [(0, 16, 19, 13), (0, 16, 23, 15)] ∈ lw_good := lw_at3 239 rfl rfl
theorem wD_yL_run : yL_run.cls ≠ "java/lang/invoke/MethodHandle" ∧ yL_run.cls ≠ "java/lang/invoke/VarHandle" ∧ (parseMethodDescriptor yL_run.desc).map (fun d => d.parameters.length) = some 7 := by decide +kernel
theorem wH_yL_said : Cond.codeWith yL_said cL_said 4 (some .int) [(0, 9, 12, 13)] ∈ lw_good := lw_at5 64 rfl rfl
theorem wD_yL_said : yL_said.cls ≠ "java/lang/invoke/MethodHandle" ∧ yL_said.cls ≠ "java/lang/invoke/VarHandle" ∧ (parseMethodDescriptor yL_said.desc).map (fun d => d.parameters.length) = some 3 := by decide +kernel
theorem wH_yL_size : Cond.codeWith yL_size cL_size 5 (some .int) [(0, 10, 13, 13), (0, 10, 17, 15)] ∈ lw_good := lw_at3 174 rfl rfl
theorem wD_yL_size : yL_size.cls ≠ "java/lang/invoke/MethodHandle" ∧ yL_size.cls ≠ "java/lang/invoke/VarHandle" ∧ (parseMethodDescriptor yL_size.desc).map (fun d => d.parameters.length) = some 4 := by decide +kernel
theorem wH_yL_told : Cond.codeWith yL_told cL_told 4 (some .int) [(0, 9, 12, 13)] ∈ lw_good := lw_at5 36 rfl rfl
theorem wD_yL_told : yL_told.cls ≠ "java/lang/invoke/MethodHandle" ∧ yL_told.cls ≠ "java/lang/invoke/VarHandle" ∧ (parseMethodDescriptor yL_told.desc).map (fun d => d.parameters.length) = some 3 := by decide +kernel
def q_L_function (N : Nat) (x1 : Int) (V : pvM) : Option pvO := wL (q_X10_function N x1 V)
set_option maxHeartbeats 4000000 in
set_option maxRecDepth 100000 in
theorem c_L_function (l : Launch) (hl0 : l.stackTraces = false) (D : va_G) (cy : Nat → ClassId) {N : Nat} {x1 : Int32} {V : pvM} {q : pvO} (hp : q_L_function N x1.toInt V = some q) : pv_MetH l yL_function cL_function 4 (some .int) [(0, 9, 12, 13), (0, 9, 15, 15)] 7 112 D cy V [.ref 0, .int x1, .ref 83] q := by
  unfold q_L_function at hp
  rcases ho : q_X10_function N x1.toInt V with _ | q1
  · rw [ho] at hp; cases hp
  obtain ⟨t1, z1, V1⟩ := q1
  rw [ho] at hp
  have hq1 := ho
  refine pv_ofWH (by decide) (Nat.le_of_ble_eq_true rfl) (fun p e s m args below meth c ad A σ M C hr hZ htab hR hcL hsL => ?_)
  refine pz_aload_n C 2 dL_function_0 rfl ?_
  refine pz_iconst C (v := 0) dL_function_1 (by decide) ?_
  refine pz_aload_n C 0 dL_function_2 rfl ?_
  refine pz_iload_n C 1 dL_function_3 rfl ?_
  refine pv_callVX C (As := [.int x1]) (rest := [.int 0, .ref 83]) (b := 0) hZ (c_X10_function l hl0 D cy hq1) hR hcL hsL wB_yX10_function ml_L_7 im_yX10_function se_yX10_function (ci := 9) rfl rfl rfl rfl rfl (Nat.le_of_ble_eq_true rfl) ⟨(Nat.le_of_ble_eq_true rfl), (Nat.le_of_ble_eq_true rfl)⟩ dL_function_4 (Nat.le_refl _) rfl rfl (fun E σ9 M9 hx => ?_) (fun r9 σ9 M9 hx => ?_)
  · obtain ⟨hxE, hxR, hxn, hxB⟩ := hx
    rcases hxE with ⟨rfl, rfl⟩ | ⟨rfl, rfl⟩
    · cases hp
      refine ⟨12, ⟨[], ⟨0, 9, 12, 13⟩, [⟨0, 9, 15, 15⟩], sIA, htab, (fun _ hz => absurd hz List.not_mem_nil), by decide, by decide, cl_L_13, cs_IA, rfl⟩, ?_⟩
      refine pz_astore_n (loc' := [(3, .ref (σ9.1)), (0, .ref (0)), (1, .int x1), (2, .ref (83))]) C dL_function_12 (by decide) rfl ?_
      refine pz_iconst C (v := 1) dL_function_13 (by decide) ?_
      exact pz_iret C hr (Nat.le_refl _) (Nat.le_refl _) dL_function_14 ⟨rfl, ⟨1, rfl, rfl⟩, hxR, hxn, hxB⟩
    · cases hp
      refine ⟨15, ⟨[⟨0, 9, 12, 13⟩], ⟨0, 9, 15, 15⟩, [], sIS, htab, (fun z9 hz => by rw [List.mem_singleton.mp hz]; exact Or.inr ⟨by decide, sIA, cl_L_13, hZ.2.2⟩), by decide, by decide, cl_L_15, cs_IS, rfl⟩, ?_⟩
      refine pz_astore_n (loc' := [(3, .ref (σ9.1)), (0, .ref (0)), (1, .int x1), (2, .ref (83))]) C dL_function_15 (by decide) rfl ?_
      refine pz_iconst C (v := 2) dL_function_16 (by decide) ?_
      exact pz_iret C hr (Nat.le_refl _) (Nat.le_refl _) dL_function_17 ⟨rfl, ⟨2, rfl, rfl⟩, hxR, hxn, hxB⟩
  · obtain ⟨rfl, ⟨x, rfl, hx1⟩, hxR, hxn, hxB⟩ := hx
    have hx1 : x.toInt = z1 := hx1
    subst hx1
    cases hp
    refine pz_i2l C dL_function_7 ?_
    refine pz_last C (shL hxR.1 83 rfl) (shK hxR.1 83 rfl rfl) (shB hxR.1 83 rfl rfl (pv_in ⟨by decide, by decide⟩)) dL_function_8 ?_
    refine pz_goto (tgt := 18) C dL_function_9 (by decide) ?_
    refine pz_iconst C (v := 0) dL_function_18 (by decide) ?_
    have e9 := pv_cu (V := V1) (c := 83) (k := 0) (x := x.toInt) rfl
    have hR9 := pv_R_putL (x := x.toInt64) (c := 83) (k := 0) hxR rfl
    rw [Int32.toInt_toInt64] at hR9
    refine pz_iret C hr ?_ ?_ dL_function_19 ⟨rfl, ⟨0, rfl, rfl⟩, hR9, hxn, pv_Bu rfl hxB⟩
    · exact Nat.le_of_eq (by show pv_c V1 - pv_c V = pv_c (pz_u V1 83 0 x.toInt) - pv_c V; rw [e9.1])
    · exact Nat.le_of_eq (by show pv_s V1 - pv_s V = pv_s (pz_u V1 83 0 x.toInt) - pv_s V; rw [e9.2])
def q_L_code (N : Nat) (x1 : Int) (x2 : Int) (x3 : Int) (x4 : Int) (V : pvM) : Option pvO := wL (q_X10_code N x1 x2 x3 x4 V)
set_option maxHeartbeats 4000000 in
set_option maxRecDepth 100000 in
theorem c_L_code (l : Launch) (hl0 : l.stackTraces = false) (D : va_G) (cy : Nat → ClassId) {N : Nat} {x1 : Int32} {x2 : Int32} {x3 : Int32} {x4 : Int32} {V : pvM} {q : pvO} (hp : q_L_code N x1.toInt x2.toInt x3.toInt x4.toInt V = some q) : pv_MetH l yL_code cL_code 7 (some .int) [(0, 14, 17, 13), (0, 14, 21, 15)] 7 115 D cy V [.ref 0, .int x1, .int x2, .int x3, .int x4, .ref 83] q := by
  unfold q_L_code at hp
  rcases ho : q_X10_code N x1.toInt x2.toInt x3.toInt x4.toInt V with _ | q1
  · rw [ho] at hp; cases hp
  obtain ⟨t1, z1, V1⟩ := q1
  rw [ho] at hp
  have hq1 := ho
  refine pv_ofWH (by decide) (Nat.le_of_ble_eq_true rfl) (fun p e s m args below meth c ad A σ M C hr hZ htab hR hcL hsL => ?_)
  refine pz_aload C 5 dL_code_0 rfl ?_
  refine pz_iconst C (v := 0) dL_code_2 (by decide) ?_
  refine pz_aload_n C 0 dL_code_3 rfl ?_
  refine pz_iload_n C 1 dL_code_4 rfl ?_
  refine pz_iload_n C 2 dL_code_5 rfl ?_
  refine pz_iload_n C 3 dL_code_6 rfl ?_
  refine pz_iload C 4 dL_code_7 rfl ?_
  refine pv_callVX C (As := [.int x1, .int x2, .int x3, .int x4]) (rest := [.int 0, .ref 83]) (b := 0) hZ (c_X10_code l hl0 D cy hq1) hR hcL hsL wB_yX10_code ml_L_17 im_yX10_code se_yX10_code (ci := 9) rfl rfl rfl rfl rfl (Nat.le_of_ble_eq_true rfl) ⟨(Nat.le_of_ble_eq_true rfl), (Nat.le_of_ble_eq_true rfl)⟩ dL_code_9 (Nat.le_refl _) rfl rfl (fun E σ9 M9 hx => ?_) (fun r9 σ9 M9 hx => ?_)
  · obtain ⟨hxE, hxR, hxn, hxB⟩ := hx
    rcases hxE with ⟨rfl, rfl⟩ | ⟨rfl, rfl⟩
    · cases hp
      refine ⟨17, ⟨[], ⟨0, 14, 17, 13⟩, [⟨0, 14, 21, 15⟩], sIA, htab, (fun _ hz => absurd hz List.not_mem_nil), by decide, by decide, cl_L_13, cs_IA, rfl⟩, ?_⟩
      refine pz_astore (loc' := [(6, .ref (σ9.1)), (0, .ref (0)), (1, .int x1), (2, .int x2), (3, .int x3), (4, .int x4), (5, .ref (83))]) C dL_code_17 (by decide) rfl ?_
      refine pz_iconst C (v := 1) dL_code_19 (by decide) ?_
      exact pz_iret C hr (Nat.le_refl _) (Nat.le_refl _) dL_code_20 ⟨rfl, ⟨1, rfl, rfl⟩, hxR, hxn, hxB⟩
    · cases hp
      refine ⟨21, ⟨[⟨0, 14, 17, 13⟩], ⟨0, 14, 21, 15⟩, [], sIS, htab, (fun z9 hz => by rw [List.mem_singleton.mp hz]; exact Or.inr ⟨by decide, sIA, cl_L_13, hZ.2.2⟩), by decide, by decide, cl_L_15, cs_IS, rfl⟩, ?_⟩
      refine pz_astore (loc' := [(6, .ref (σ9.1)), (0, .ref (0)), (1, .int x1), (2, .int x2), (3, .int x3), (4, .int x4), (5, .ref (83))]) C dL_code_21 (by decide) rfl ?_
      refine pz_iconst C (v := 2) dL_code_23 (by decide) ?_
      exact pz_iret C hr (Nat.le_refl _) (Nat.le_refl _) dL_code_24 ⟨rfl, ⟨2, rfl, rfl⟩, hxR, hxn, hxB⟩
  · obtain ⟨rfl, ⟨x, rfl, hx1⟩, hxR, hxn, hxB⟩ := hx
    have hx1 : x.toInt = z1 := hx1
    subst hx1
    cases hp
    refine pz_i2l C dL_code_12 ?_
    refine pz_last C (shL hxR.1 83 rfl) (shK hxR.1 83 rfl rfl) (shB hxR.1 83 rfl rfl (pv_in ⟨by decide, by decide⟩)) dL_code_13 ?_
    refine pz_goto (tgt := 25) C dL_code_14 (by decide) ?_
    refine pz_iconst C (v := 0) dL_code_25 (by decide) ?_
    have e9 := pv_cu (V := V1) (c := 83) (k := 0) (x := x.toInt) rfl
    have hR9 := pv_R_putL (x := x.toInt64) (c := 83) (k := 0) hxR rfl
    rw [Int32.toInt_toInt64] at hR9
    refine pz_iret C hr ?_ ?_ dL_code_26 ⟨rfl, ⟨0, rfl, rfl⟩, hR9, hxn, pv_Bu rfl hxB⟩
    · exact Nat.le_of_eq (by show pv_c V1 - pv_c V = pv_c (pz_u V1 83 0 x.toInt) - pv_c V; rw [e9.1])
    · exact Nat.le_of_eq (by show pv_s V1 - pv_s V = pv_s (pz_u V1 83 0 x.toInt) - pv_s V; rw [e9.2])
def q_L_recipe (N : Nat) (x1 : Int) (V : pvM) : Option pvO := wL (q_X10_recipe N x1 V)
set_option maxHeartbeats 4000000 in
set_option maxRecDepth 100000 in
theorem c_L_recipe (l : Launch) (hl0 : l.stackTraces = false) (D : va_G) (cy : Nat → ClassId) {N : Nat} {x1 : Int64} {V : pvM} {q : pvO} (hp : q_L_recipe N x1.toInt V = some q) : pv_MetH l yL_recipe cL_recipe 5 (some .int) [(0, 9, 12, 13), (0, 9, 16, 15)] 7 113 D cy V [.ref 0, .long x1, .ref 83] q := by
  unfold q_L_recipe at hp
  rcases ho : q_X10_recipe N x1.toInt V with _ | q1
  · rw [ho] at hp; cases hp
  obtain ⟨t1, z1, V1⟩ := q1
  rw [ho] at hp
  have hq1 := ho
  refine pv_ofWH (by decide) (Nat.le_of_ble_eq_true rfl) (fun p e s m args below meth c ad A σ M C hr hZ htab hR hcL hsL => ?_)
  refine pz_aload_n C 2 dL_recipe_0 rfl ?_
  refine pz_iconst C (v := 0) dL_recipe_1 (by decide) ?_
  refine pz_aload_n C 0 dL_recipe_2 rfl ?_
  refine pz_lload_n C 1 dL_recipe_3 rfl ?_
  refine pv_callVX C (As := [.long x1]) (rest := [.int 0, .ref 83]) (b := 0) hZ (c_X10_recipe l hl0 D cy hq1) hR hcL hsL wB_yX10_recipe ml_L_21 im_yX10_recipe se_yX10_recipe (ci := 9) rfl rfl rfl rfl rfl (Nat.le_of_ble_eq_true rfl) ⟨(Nat.le_of_ble_eq_true rfl), (Nat.le_of_ble_eq_true rfl)⟩ dL_recipe_4 (Nat.le_refl _) rfl rfl (fun E σ9 M9 hx => ?_) (fun r9 σ9 M9 hx => ?_)
  · obtain ⟨hxE, hxR, hxn, hxB⟩ := hx
    rcases hxE with ⟨rfl, rfl⟩ | ⟨rfl, rfl⟩
    · cases hp
      refine ⟨12, ⟨[], ⟨0, 9, 12, 13⟩, [⟨0, 9, 16, 15⟩], sIA, htab, (fun _ hz => absurd hz List.not_mem_nil), by decide, by decide, cl_L_13, cs_IA, rfl⟩, ?_⟩
      refine pz_astore (loc' := [(4, .ref (σ9.1)), (0, .ref (0)), (1, .long x1), (3, .ref (83))]) C dL_recipe_12 (by decide) rfl ?_
      refine pz_iconst C (v := 1) dL_recipe_14 (by decide) ?_
      exact pz_iret C hr (Nat.le_refl _) (Nat.le_refl _) dL_recipe_15 ⟨rfl, ⟨1, rfl, rfl⟩, hxR, hxn, hxB⟩
    · cases hp
      refine ⟨16, ⟨[⟨0, 9, 12, 13⟩], ⟨0, 9, 16, 15⟩, [], sIS, htab, (fun z9 hz => by rw [List.mem_singleton.mp hz]; exact Or.inr ⟨by decide, sIA, cl_L_13, hZ.2.2⟩), by decide, by decide, cl_L_15, cs_IS, rfl⟩, ?_⟩
      refine pz_astore (loc' := [(4, .ref (σ9.1)), (0, .ref (0)), (1, .long x1), (3, .ref (83))]) C dL_recipe_16 (by decide) rfl ?_
      refine pz_iconst C (v := 2) dL_recipe_18 (by decide) ?_
      exact pz_iret C hr (Nat.le_refl _) (Nat.le_refl _) dL_recipe_19 ⟨rfl, ⟨2, rfl, rfl⟩, hxR, hxn, hxB⟩
  · obtain ⟨rfl, ⟨x, rfl, hx1⟩, hxR, hxn, hxB⟩ := hx
    have hx1 : x.toInt = z1 := hx1
    subst hx1
    cases hp
    refine pz_i2l C dL_recipe_7 ?_
    refine pz_last C (shL hxR.1 83 rfl) (shK hxR.1 83 rfl rfl) (shB hxR.1 83 rfl rfl (pv_in ⟨by decide, by decide⟩)) dL_recipe_8 ?_
    refine pz_goto (tgt := 20) C dL_recipe_9 (by decide) ?_
    refine pz_iconst C (v := 0) dL_recipe_20 (by decide) ?_
    have e9 := pv_cu (V := V1) (c := 83) (k := 0) (x := x.toInt) rfl
    have hR9 := pv_R_putL (x := x.toInt64) (c := 83) (k := 0) hxR rfl
    rw [Int32.toInt_toInt64] at hR9
    refine pz_iret C hr ?_ ?_ dL_recipe_21 ⟨rfl, ⟨0, rfl, rfl⟩, hR9, hxn, pv_Bu rfl hxB⟩
    · exact Nat.le_of_eq (by show pv_c V1 - pv_c V = pv_c (pz_u V1 83 0 x.toInt) - pv_c V; rw [e9.1])
    · exact Nat.le_of_eq (by show pv_s V1 - pv_s V = pv_s (pz_u V1 83 0 x.toInt) - pv_s V; rw [e9.2])
def q_L_count (N : Nat) (x1 : Int) (V : pvM) : Option pvO := wL (q_X10_count N x1 V)
set_option maxHeartbeats 4000000 in
set_option maxRecDepth 100000 in
theorem c_L_count (l : Launch) (hl0 : l.stackTraces = false) (D : va_G) (cy : Nat → ClassId) {N : Nat} {x1 : Int32} {V : pvM} {q : pvO} (hp : q_L_count N x1.toInt V = some q) : pv_MetH l yL_count cL_count 4 (some .int) [(0, 9, 12, 13), (0, 9, 15, 15)] 7 112 D cy V [.ref 0, .int x1, .ref 83] q := by
  unfold q_L_count at hp
  rcases ho : q_X10_count N x1.toInt V with _ | q1
  · rw [ho] at hp; cases hp
  obtain ⟨t1, z1, V1⟩ := q1
  rw [ho] at hp
  have hq1 := ho
  refine pv_ofWH (by decide) (Nat.le_of_ble_eq_true rfl) (fun p e s m args below meth c ad A σ M C hr hZ htab hR hcL hsL => ?_)
  refine pz_aload_n C 2 dL_count_0 rfl ?_
  refine pz_iconst C (v := 0) dL_count_1 (by decide) ?_
  refine pz_aload_n C 0 dL_count_2 rfl ?_
  refine pz_iload_n C 1 dL_count_3 rfl ?_
  refine pv_callVX C (As := [.int x1]) (rest := [.int 0, .ref 83]) (b := 0) hZ (c_X10_count l hl0 D cy hq1) hR hcL hsL wB_yX10_count ml_L_25 im_yX10_count se_yX10_count (ci := 9) rfl rfl rfl rfl rfl (Nat.le_of_ble_eq_true rfl) ⟨(Nat.le_of_ble_eq_true rfl), (Nat.le_of_ble_eq_true rfl)⟩ dL_count_4 (Nat.le_refl _) rfl rfl (fun E σ9 M9 hx => ?_) (fun r9 σ9 M9 hx => ?_)
  · obtain ⟨hxE, hxR, hxn, hxB⟩ := hx
    rcases hxE with ⟨rfl, rfl⟩ | ⟨rfl, rfl⟩
    · cases hp
      refine ⟨12, ⟨[], ⟨0, 9, 12, 13⟩, [⟨0, 9, 15, 15⟩], sIA, htab, (fun _ hz => absurd hz List.not_mem_nil), by decide, by decide, cl_L_13, cs_IA, rfl⟩, ?_⟩
      refine pz_astore_n (loc' := [(3, .ref (σ9.1)), (0, .ref (0)), (1, .int x1), (2, .ref (83))]) C dL_count_12 (by decide) rfl ?_
      refine pz_iconst C (v := 1) dL_count_13 (by decide) ?_
      exact pz_iret C hr (Nat.le_refl _) (Nat.le_refl _) dL_count_14 ⟨rfl, ⟨1, rfl, rfl⟩, hxR, hxn, hxB⟩
    · cases hp
      refine ⟨15, ⟨[⟨0, 9, 12, 13⟩], ⟨0, 9, 15, 15⟩, [], sIS, htab, (fun z9 hz => by rw [List.mem_singleton.mp hz]; exact Or.inr ⟨by decide, sIA, cl_L_13, hZ.2.2⟩), by decide, by decide, cl_L_15, cs_IS, rfl⟩, ?_⟩
      refine pz_astore_n (loc' := [(3, .ref (σ9.1)), (0, .ref (0)), (1, .int x1), (2, .ref (83))]) C dL_count_15 (by decide) rfl ?_
      refine pz_iconst C (v := 2) dL_count_16 (by decide) ?_
      exact pz_iret C hr (Nat.le_refl _) (Nat.le_refl _) dL_count_17 ⟨rfl, ⟨2, rfl, rfl⟩, hxR, hxn, hxB⟩
  · obtain ⟨rfl, ⟨x, rfl, hx1⟩, hxR, hxn, hxB⟩ := hx
    have hx1 : x.toInt = z1 := hx1
    subst hx1
    cases hp
    refine pz_i2l C dL_count_7 ?_
    refine pz_last C (shL hxR.1 83 rfl) (shK hxR.1 83 rfl rfl) (shB hxR.1 83 rfl rfl (pv_in ⟨by decide, by decide⟩)) dL_count_8 ?_
    refine pz_goto (tgt := 18) C dL_count_9 (by decide) ?_
    refine pz_iconst C (v := 0) dL_count_18 (by decide) ?_
    have e9 := pv_cu (V := V1) (c := 83) (k := 0) (x := x.toInt) rfl
    have hR9 := pv_R_putL (x := x.toInt64) (c := 83) (k := 0) hxR rfl
    rw [Int32.toInt_toInt64] at hR9
    refine pz_iret C hr ?_ ?_ dL_count_19 ⟨rfl, ⟨0, rfl, rfl⟩, hR9, hxn, pv_Bu rfl hxB⟩
    · exact Nat.le_of_eq (by show pv_c V1 - pv_c V = pv_c (pz_u V1 83 0 x.toInt) - pv_c V; rw [e9.1])
    · exact Nat.le_of_eq (by show pv_s V1 - pv_s V = pv_s (pz_u V1 83 0 x.toInt) - pv_s V; rw [e9.2])
def q_L_size (N : Nat) (x1 : Int) (x2 : Int) (V : pvM) : Option pvO := wL (q_X10_size N x1 x2 V)
set_option maxHeartbeats 4000000 in
set_option maxRecDepth 100000 in
theorem c_L_size (l : Launch) (hl0 : l.stackTraces = false) (D : va_G) (cy : Nat → ClassId) {N : Nat} {x1 : Int32} {x2 : Int32} {V : pvM} {q : pvO} (hp : q_L_size N x1.toInt x2.toInt V = some q) : pv_MetH l yL_size cL_size 5 (some .int) [(0, 10, 13, 13), (0, 10, 17, 15)] 7 113 D cy V [.ref 0, .int x1, .int x2, .ref 83] q := by
  unfold q_L_size at hp
  rcases ho : q_X10_size N x1.toInt x2.toInt V with _ | q1
  · rw [ho] at hp; cases hp
  obtain ⟨t1, z1, V1⟩ := q1
  rw [ho] at hp
  have hq1 := ho
  refine pv_ofWH (by decide) (Nat.le_of_ble_eq_true rfl) (fun p e s m args below meth c ad A σ M C hr hZ htab hR hcL hsL => ?_)
  refine pz_aload_n C 3 dL_size_0 rfl ?_
  refine pz_iconst C (v := 0) dL_size_1 (by decide) ?_
  refine pz_aload_n C 0 dL_size_2 rfl ?_
  refine pz_iload_n C 1 dL_size_3 rfl ?_
  refine pz_iload_n C 2 dL_size_4 rfl ?_
  refine pv_callVX C (As := [.int x1, .int x2]) (rest := [.int 0, .ref 83]) (b := 0) hZ (c_X10_size l hl0 D cy hq1) hR hcL hsL wB_yX10_size ml_L_28 im_yX10_size se_yX10_size (ci := 9) rfl rfl rfl rfl rfl (Nat.le_of_ble_eq_true rfl) ⟨(Nat.le_of_ble_eq_true rfl), (Nat.le_of_ble_eq_true rfl)⟩ dL_size_5 (Nat.le_refl _) rfl rfl (fun E σ9 M9 hx => ?_) (fun r9 σ9 M9 hx => ?_)
  · obtain ⟨hxE, hxR, hxn, hxB⟩ := hx
    rcases hxE with ⟨rfl, rfl⟩ | ⟨rfl, rfl⟩
    · cases hp
      refine ⟨13, ⟨[], ⟨0, 10, 13, 13⟩, [⟨0, 10, 17, 15⟩], sIA, htab, (fun _ hz => absurd hz List.not_mem_nil), by decide, by decide, cl_L_13, cs_IA, rfl⟩, ?_⟩
      refine pz_astore (loc' := [(4, .ref (σ9.1)), (0, .ref (0)), (1, .int x1), (2, .int x2), (3, .ref (83))]) C dL_size_13 (by decide) rfl ?_
      refine pz_iconst C (v := 1) dL_size_15 (by decide) ?_
      exact pz_iret C hr (Nat.le_refl _) (Nat.le_refl _) dL_size_16 ⟨rfl, ⟨1, rfl, rfl⟩, hxR, hxn, hxB⟩
    · cases hp
      refine ⟨17, ⟨[⟨0, 10, 13, 13⟩], ⟨0, 10, 17, 15⟩, [], sIS, htab, (fun z9 hz => by rw [List.mem_singleton.mp hz]; exact Or.inr ⟨by decide, sIA, cl_L_13, hZ.2.2⟩), by decide, by decide, cl_L_15, cs_IS, rfl⟩, ?_⟩
      refine pz_astore (loc' := [(4, .ref (σ9.1)), (0, .ref (0)), (1, .int x1), (2, .int x2), (3, .ref (83))]) C dL_size_17 (by decide) rfl ?_
      refine pz_iconst C (v := 2) dL_size_19 (by decide) ?_
      exact pz_iret C hr (Nat.le_refl _) (Nat.le_refl _) dL_size_20 ⟨rfl, ⟨2, rfl, rfl⟩, hxR, hxn, hxB⟩
  · obtain ⟨rfl, ⟨x, rfl, hx1⟩, hxR, hxn, hxB⟩ := hx
    have hx1 : x.toInt = z1 := hx1
    subst hx1
    cases hp
    refine pz_i2l C dL_size_8 ?_
    refine pz_last C (shL hxR.1 83 rfl) (shK hxR.1 83 rfl rfl) (shB hxR.1 83 rfl rfl (pv_in ⟨by decide, by decide⟩)) dL_size_9 ?_
    refine pz_goto (tgt := 21) C dL_size_10 (by decide) ?_
    refine pz_iconst C (v := 0) dL_size_21 (by decide) ?_
    have e9 := pv_cu (V := V1) (c := 83) (k := 0) (x := x.toInt) rfl
    have hR9 := pv_R_putL (x := x.toInt64) (c := 83) (k := 0) hxR rfl
    rw [Int32.toInt_toInt64] at hR9
    refine pz_iret C hr ?_ ?_ dL_size_22 ⟨rfl, ⟨0, rfl, rfl⟩, hR9, hxn, pv_Bu rfl hxB⟩
    · exact Nat.le_of_eq (by show pv_c V1 - pv_c V = pv_c (pz_u V1 83 0 x.toInt) - pv_c V; rw [e9.1])
    · exact Nat.le_of_eq (by show pv_s V1 - pv_s V = pv_s (pz_u V1 83 0 x.toInt) - pv_s V; rw [e9.2])
def q_L_plain (N : Nat) (x1 : Int) (x2 : Int) (x3 : Int) (V : pvM) : Option pvO := wL (q_X10_plain N x1 x2 x3 V)
set_option maxHeartbeats 4000000 in
set_option maxRecDepth 100000 in
theorem c_L_plain (l : Launch) (hl0 : l.stackTraces = false) (D : va_G) (cy : Nat → ClassId) {N : Nat} {x1 : Int32} {x2 : Int32} {x3 : Int32} {V : pvM} {q : pvO} (hp : q_L_plain N x1.toInt x2.toInt x3.toInt V = some q) : pv_MetH l yL_plain cL_plain 6 (some .int) [(0, 12, 15, 13), (0, 12, 19, 15)] 7 114 D cy V [.ref 0, .int x1, .int x2, .int x3, .ref 83] q := by
  unfold q_L_plain at hp
  rcases ho : q_X10_plain N x1.toInt x2.toInt x3.toInt V with _ | q1
  · rw [ho] at hp; cases hp
  obtain ⟨t1, z1, V1⟩ := q1
  rw [ho] at hp
  have hq1 := ho
  refine pv_ofWH (by decide) (Nat.le_of_ble_eq_true rfl) (fun p e s m args below meth c ad A σ M C hr hZ htab hR hcL hsL => ?_)
  refine pz_aload C 4 dL_plain_0 rfl ?_
  refine pz_iconst C (v := 0) dL_plain_2 (by decide) ?_
  refine pz_aload_n C 0 dL_plain_3 rfl ?_
  refine pz_iload_n C 1 dL_plain_4 rfl ?_
  refine pz_iload_n C 2 dL_plain_5 rfl ?_
  refine pz_iload_n C 3 dL_plain_6 rfl ?_
  refine pv_callVX C (As := [.int x1, .int x2, .int x3]) (rest := [.int 0, .ref 83]) (b := 0) hZ (c_X10_plain l hl0 D cy hq1) hR hcL hsL wB_yX10_plain ml_L_32 im_yX10_plain se_yX10_plain (ci := 9) rfl rfl rfl rfl rfl (Nat.le_of_ble_eq_true rfl) ⟨(Nat.le_of_ble_eq_true rfl), (Nat.le_of_ble_eq_true rfl)⟩ dL_plain_7 (Nat.le_refl _) rfl rfl (fun E σ9 M9 hx => ?_) (fun r9 σ9 M9 hx => ?_)
  · obtain ⟨hxE, hxR, hxn, hxB⟩ := hx
    rcases hxE with ⟨rfl, rfl⟩ | ⟨rfl, rfl⟩
    · cases hp
      refine ⟨15, ⟨[], ⟨0, 12, 15, 13⟩, [⟨0, 12, 19, 15⟩], sIA, htab, (fun _ hz => absurd hz List.not_mem_nil), by decide, by decide, cl_L_13, cs_IA, rfl⟩, ?_⟩
      refine pz_astore (loc' := [(5, .ref (σ9.1)), (0, .ref (0)), (1, .int x1), (2, .int x2), (3, .int x3), (4, .ref (83))]) C dL_plain_15 (by decide) rfl ?_
      refine pz_iconst C (v := 1) dL_plain_17 (by decide) ?_
      exact pz_iret C hr (Nat.le_refl _) (Nat.le_refl _) dL_plain_18 ⟨rfl, ⟨1, rfl, rfl⟩, hxR, hxn, hxB⟩
    · cases hp
      refine ⟨19, ⟨[⟨0, 12, 15, 13⟩], ⟨0, 12, 19, 15⟩, [], sIS, htab, (fun z9 hz => by rw [List.mem_singleton.mp hz]; exact Or.inr ⟨by decide, sIA, cl_L_13, hZ.2.2⟩), by decide, by decide, cl_L_15, cs_IS, rfl⟩, ?_⟩
      refine pz_astore (loc' := [(5, .ref (σ9.1)), (0, .ref (0)), (1, .int x1), (2, .int x2), (3, .int x3), (4, .ref (83))]) C dL_plain_19 (by decide) rfl ?_
      refine pz_iconst C (v := 2) dL_plain_21 (by decide) ?_
      exact pz_iret C hr (Nat.le_refl _) (Nat.le_refl _) dL_plain_22 ⟨rfl, ⟨2, rfl, rfl⟩, hxR, hxn, hxB⟩
  · obtain ⟨rfl, ⟨x, rfl, hx1⟩, hxR, hxn, hxB⟩ := hx
    have hx1 : x.toInt = z1 := hx1
    subst hx1
    cases hp
    refine pz_i2l C dL_plain_10 ?_
    refine pz_last C (shL hxR.1 83 rfl) (shK hxR.1 83 rfl rfl) (shB hxR.1 83 rfl rfl (pv_in ⟨by decide, by decide⟩)) dL_plain_11 ?_
    refine pz_goto (tgt := 23) C dL_plain_12 (by decide) ?_
    refine pz_iconst C (v := 0) dL_plain_23 (by decide) ?_
    have e9 := pv_cu (V := V1) (c := 83) (k := 0) (x := x.toInt) rfl
    have hR9 := pv_R_putL (x := x.toInt64) (c := 83) (k := 0) hxR rfl
    rw [Int32.toInt_toInt64] at hR9
    refine pz_iret C hr ?_ ?_ dL_plain_24 ⟨rfl, ⟨0, rfl, rfl⟩, hR9, hxn, pv_Bu rfl hxB⟩
    · exact Nat.le_of_eq (by show pv_c V1 - pv_c V = pv_c (pz_u V1 83 0 x.toInt) - pv_c V; rw [e9.1])
    · exact Nat.le_of_eq (by show pv_s V1 - pv_s V = pv_s (pz_u V1 83 0 x.toInt) - pv_s V; rw [e9.2])
def q_L_made (N : Nat) (x1 : Int) (x2 : Int) (V : pvM) : Option pvO := wL (q_X10_made N x1 x2 V)
set_option maxHeartbeats 4000000 in
set_option maxRecDepth 100000 in
theorem c_L_made (l : Launch) (hl0 : l.stackTraces = false) (D : va_G) (cy : Nat → ClassId) {N : Nat} {x1 : Int32} {x2 : Int32} {V : pvM} {q : pvO} (hp : q_L_made N x1.toInt x2.toInt V = some q) : pv_MetH l yL_made cL_made 5 (some .int) [(0, 10, 13, 13), (0, 10, 17, 15)] 7 113 D cy V [.ref 0, .int x1, .int x2, .ref 83] q := by
  unfold q_L_made at hp
  rcases ho : q_X10_made N x1.toInt x2.toInt V with _ | q1
  · rw [ho] at hp; cases hp
  obtain ⟨t1, z1, V1⟩ := q1
  rw [ho] at hp
  have hq1 := ho
  refine pv_ofWH (by decide) (Nat.le_of_ble_eq_true rfl) (fun p e s m args below meth c ad A σ M C hr hZ htab hR hcL hsL => ?_)
  refine pz_aload_n C 3 dL_made_0 rfl ?_
  refine pz_iconst C (v := 0) dL_made_1 (by decide) ?_
  refine pz_aload_n C 0 dL_made_2 rfl ?_
  refine pz_iload_n C 1 dL_made_3 rfl ?_
  refine pz_iload_n C 2 dL_made_4 rfl ?_
  refine pv_callVX C (As := [.int x1, .int x2]) (rest := [.int 0, .ref 83]) (b := 0) hZ (c_X10_made l hl0 D cy hq1) hR hcL hsL wB_yX10_made ml_L_36 im_yX10_made se_yX10_made (ci := 9) rfl rfl rfl rfl rfl (Nat.le_of_ble_eq_true rfl) ⟨(Nat.le_of_ble_eq_true rfl), (Nat.le_of_ble_eq_true rfl)⟩ dL_made_5 (Nat.le_refl _) rfl rfl (fun E σ9 M9 hx => ?_) (fun r9 σ9 M9 hx => ?_)
  · obtain ⟨hxE, hxR, hxn, hxB⟩ := hx
    rcases hxE with ⟨rfl, rfl⟩ | ⟨rfl, rfl⟩
    · cases hp
      refine ⟨13, ⟨[], ⟨0, 10, 13, 13⟩, [⟨0, 10, 17, 15⟩], sIA, htab, (fun _ hz => absurd hz List.not_mem_nil), by decide, by decide, cl_L_13, cs_IA, rfl⟩, ?_⟩
      refine pz_astore (loc' := [(4, .ref (σ9.1)), (0, .ref (0)), (1, .int x1), (2, .int x2), (3, .ref (83))]) C dL_made_13 (by decide) rfl ?_
      refine pz_iconst C (v := 1) dL_made_15 (by decide) ?_
      exact pz_iret C hr (Nat.le_refl _) (Nat.le_refl _) dL_made_16 ⟨rfl, ⟨1, rfl, rfl⟩, hxR, hxn, hxB⟩
    · cases hp
      refine ⟨17, ⟨[⟨0, 10, 13, 13⟩], ⟨0, 10, 17, 15⟩, [], sIS, htab, (fun z9 hz => by rw [List.mem_singleton.mp hz]; exact Or.inr ⟨by decide, sIA, cl_L_13, hZ.2.2⟩), by decide, by decide, cl_L_15, cs_IS, rfl⟩, ?_⟩
      refine pz_astore (loc' := [(4, .ref (σ9.1)), (0, .ref (0)), (1, .int x1), (2, .int x2), (3, .ref (83))]) C dL_made_17 (by decide) rfl ?_
      refine pz_iconst C (v := 2) dL_made_19 (by decide) ?_
      exact pz_iret C hr (Nat.le_refl _) (Nat.le_refl _) dL_made_20 ⟨rfl, ⟨2, rfl, rfl⟩, hxR, hxn, hxB⟩
  · obtain ⟨rfl, ⟨x, rfl, hx1⟩, hxR, hxn, hxB⟩ := hx
    have hx1 : x.toInt = z1 := hx1
    subst hx1
    cases hp
    refine pz_i2l C dL_made_8 ?_
    refine pz_last C (shL hxR.1 83 rfl) (shK hxR.1 83 rfl rfl) (shB hxR.1 83 rfl rfl (pv_in ⟨by decide, by decide⟩)) dL_made_9 ?_
    refine pz_goto (tgt := 21) C dL_made_10 (by decide) ?_
    refine pz_iconst C (v := 0) dL_made_21 (by decide) ?_
    have e9 := pv_cu (V := V1) (c := 83) (k := 0) (x := x.toInt) rfl
    have hR9 := pv_R_putL (x := x.toInt64) (c := 83) (k := 0) hxR rfl
    rw [Int32.toInt_toInt64] at hR9
    refine pz_iret C hr ?_ ?_ dL_made_22 ⟨rfl, ⟨0, rfl, rfl⟩, hR9, hxn, pv_Bu rfl hxB⟩
    · exact Nat.le_of_eq (by show pv_c V1 - pv_c V = pv_c (pz_u V1 83 0 x.toInt) - pv_c V; rw [e9.1])
    · exact Nat.le_of_eq (by show pv_s V1 - pv_s V = pv_s (pz_u V1 83 0 x.toInt) - pv_s V; rw [e9.2])
def q_L_character (N : Nat) (x1 : Int) (V : pvM) : Option pvO := wL (q_X10_character N x1 V)
set_option maxHeartbeats 4000000 in
set_option maxRecDepth 100000 in
theorem c_L_character (l : Launch) (hl0 : l.stackTraces = false) (D : va_G) (cy : Nat → ClassId) {N : Nat} {x1 : Int32} {V : pvM} {q : pvO} (hp : q_L_character N x1.toInt V = some q) : pv_MetH l yL_character cL_character 4 (some .int) [(0, 9, 12, 13), (0, 9, 15, 15)] 7 112 D cy V [.ref 0, .int x1, .ref 83] q := by
  unfold q_L_character at hp
  rcases ho : q_X10_character N x1.toInt V with _ | q1
  · rw [ho] at hp; cases hp
  obtain ⟨t1, z1, V1⟩ := q1
  rw [ho] at hp
  have hq1 := ho
  refine pv_ofWH (by decide) (Nat.le_of_ble_eq_true rfl) (fun p e s m args below meth c ad A σ M C hr hZ htab hR hcL hsL => ?_)
  refine pz_aload_n C 2 dL_character_0 rfl ?_
  refine pz_iconst C (v := 0) dL_character_1 (by decide) ?_
  refine pz_aload_n C 0 dL_character_2 rfl ?_
  refine pz_iload_n C 1 dL_character_3 rfl ?_
  refine pv_callVX C (As := [.int x1]) (rest := [.int 0, .ref 83]) (b := 0) hZ (c_X10_character l hl0 D cy hq1) hR hcL hsL wB_yX10_character ml_L_39 im_yX10_character se_yX10_character (ci := 9) rfl rfl rfl rfl rfl (Nat.le_of_ble_eq_true rfl) ⟨(Nat.le_of_ble_eq_true rfl), (Nat.le_of_ble_eq_true rfl)⟩ dL_character_4 (Nat.le_refl _) rfl rfl (fun E σ9 M9 hx => ?_) (fun r9 σ9 M9 hx => ?_)
  · obtain ⟨hxE, hxR, hxn, hxB⟩ := hx
    rcases hxE with ⟨rfl, rfl⟩ | ⟨rfl, rfl⟩
    · cases hp
      refine ⟨12, ⟨[], ⟨0, 9, 12, 13⟩, [⟨0, 9, 15, 15⟩], sIA, htab, (fun _ hz => absurd hz List.not_mem_nil), by decide, by decide, cl_L_13, cs_IA, rfl⟩, ?_⟩
      refine pz_astore_n (loc' := [(3, .ref (σ9.1)), (0, .ref (0)), (1, .int x1), (2, .ref (83))]) C dL_character_12 (by decide) rfl ?_
      refine pz_iconst C (v := 1) dL_character_13 (by decide) ?_
      exact pz_iret C hr (Nat.le_refl _) (Nat.le_refl _) dL_character_14 ⟨rfl, ⟨1, rfl, rfl⟩, hxR, hxn, hxB⟩
    · cases hp
      refine ⟨15, ⟨[⟨0, 9, 12, 13⟩], ⟨0, 9, 15, 15⟩, [], sIS, htab, (fun z9 hz => by rw [List.mem_singleton.mp hz]; exact Or.inr ⟨by decide, sIA, cl_L_13, hZ.2.2⟩), by decide, by decide, cl_L_15, cs_IS, rfl⟩, ?_⟩
      refine pz_astore_n (loc' := [(3, .ref (σ9.1)), (0, .ref (0)), (1, .int x1), (2, .ref (83))]) C dL_character_15 (by decide) rfl ?_
      refine pz_iconst C (v := 2) dL_character_16 (by decide) ?_
      exact pz_iret C hr (Nat.le_refl _) (Nat.le_refl _) dL_character_17 ⟨rfl, ⟨2, rfl, rfl⟩, hxR, hxn, hxB⟩
  · obtain ⟨rfl, ⟨x, rfl, hx1⟩, hxR, hxn, hxB⟩ := hx
    have hx1 : x.toInt = z1 := hx1
    subst hx1
    cases hp
    refine pz_i2l C dL_character_7 ?_
    refine pz_last C (shL hxR.1 83 rfl) (shK hxR.1 83 rfl rfl) (shB hxR.1 83 rfl rfl (pv_in ⟨by decide, by decide⟩)) dL_character_8 ?_
    refine pz_goto (tgt := 18) C dL_character_9 (by decide) ?_
    refine pz_iconst C (v := 0) dL_character_18 (by decide) ?_
    have e9 := pv_cu (V := V1) (c := 83) (k := 0) (x := x.toInt) rfl
    have hR9 := pv_R_putL (x := x.toInt64) (c := 83) (k := 0) hxR rfl
    rw [Int32.toInt_toInt64] at hR9
    refine pz_iret C hr ?_ ?_ dL_character_19 ⟨rfl, ⟨0, rfl, rfl⟩, hR9, hxn, pv_Bu rfl hxB⟩
    · exact Nat.le_of_eq (by show pv_c V1 - pv_c V = pv_c (pz_u V1 83 0 x.toInt) - pv_c V; rw [e9.1])
    · exact Nat.le_of_eq (by show pv_s V1 - pv_s V = pv_s (pz_u V1 83 0 x.toInt) - pv_s V; rw [e9.2])
def q_L_run (N : Nat) (x1 : Int) (x2 : Int) (x3 : Int) (x4 : Int) (x5 : Int) (V : pvM) : Option pvO := wL (q_X10_run N x1 x2 x3 x4 x5 V)
set_option maxHeartbeats 4000000 in
set_option maxRecDepth 100000 in
theorem c_L_run (l : Launch) (hl0 : l.stackTraces = false) (D : va_G) (cy : Nat → ClassId) {N : Nat} {x1 : Int32} {x2 : Int32} {x3 : Int32} {x4 : Int32} {x5 : Int32} {V : pvM} {q : pvO} (hp : q_L_run N x1.toInt x2.toInt x3.toInt x4.toInt x5.toInt V = some q) : pv_MetH l yL_run cL_run 8 (some .int) [(0, 16, 19, 13), (0, 16, 23, 15)] 9 238 D cy V [.ref 0, .int x1, .int x2, .int x3, .int x4, .int x5, .ref 83] q := by
  unfold q_L_run at hp
  rcases ho : q_X10_run N x1.toInt x2.toInt x3.toInt x4.toInt x5.toInt V with _ | q1
  · rw [ho] at hp; cases hp
  obtain ⟨t1, z1, V1⟩ := q1
  rw [ho] at hp
  have hq1 := ho
  refine pv_ofWH (by decide) (Nat.le_of_ble_eq_true rfl) (fun p e s m args below meth c ad A σ M C hr hZ htab hR hcL hsL => ?_)
  refine pz_aload C 6 dL_run_0 rfl ?_
  refine pz_iconst C (v := 0) dL_run_2 (by decide) ?_
  refine pz_aload_n C 0 dL_run_3 rfl ?_
  refine pz_iload_n C 1 dL_run_4 rfl ?_
  refine pz_iload_n C 2 dL_run_5 rfl ?_
  refine pz_iload_n C 3 dL_run_6 rfl ?_
  refine pz_iload C 4 dL_run_7 rfl ?_
  refine pz_iload C 5 dL_run_9 rfl ?_
  refine pv_callVX C (As := [.int x1, .int x2, .int x3, .int x4, .int x5]) (rest := [.int 0, .ref 83]) (b := 0) hZ (c_X10_run l hl0 D cy hq1) hR hcL hsL wB_yX10_run ml_L_42 im_yX10_run se_yX10_run (ci := 9) rfl rfl rfl rfl rfl (Nat.le_of_ble_eq_true rfl) ⟨(Nat.le_of_ble_eq_true rfl), (Nat.le_of_ble_eq_true rfl)⟩ dL_run_11 (Nat.le_refl _) rfl rfl (fun E σ9 M9 hx => ?_) (fun r9 σ9 M9 hx => ?_)
  · obtain ⟨hxE, hxR, hxn, hxB⟩ := hx
    rcases hxE with ⟨rfl, rfl⟩ | ⟨rfl, rfl⟩
    · cases hp
      refine ⟨19, ⟨[], ⟨0, 16, 19, 13⟩, [⟨0, 16, 23, 15⟩], sIA, htab, (fun _ hz => absurd hz List.not_mem_nil), by decide, by decide, cl_L_13, cs_IA, rfl⟩, ?_⟩
      refine pz_astore (loc' := [(7, .ref (σ9.1)), (0, .ref (0)), (1, .int x1), (2, .int x2), (3, .int x3), (4, .int x4), (5, .int x5), (6, .ref (83))]) C dL_run_19 (by decide) rfl ?_
      refine pz_iconst C (v := 1) dL_run_21 (by decide) ?_
      exact pz_iret C hr (Nat.le_refl _) (Nat.le_refl _) dL_run_22 ⟨rfl, ⟨1, rfl, rfl⟩, hxR, hxn, hxB⟩
    · cases hp
      refine ⟨23, ⟨[⟨0, 16, 19, 13⟩], ⟨0, 16, 23, 15⟩, [], sIS, htab, (fun z9 hz => by rw [List.mem_singleton.mp hz]; exact Or.inr ⟨by decide, sIA, cl_L_13, hZ.2.2⟩), by decide, by decide, cl_L_15, cs_IS, rfl⟩, ?_⟩
      refine pz_astore (loc' := [(7, .ref (σ9.1)), (0, .ref (0)), (1, .int x1), (2, .int x2), (3, .int x3), (4, .int x4), (5, .int x5), (6, .ref (83))]) C dL_run_23 (by decide) rfl ?_
      refine pz_iconst C (v := 2) dL_run_25 (by decide) ?_
      exact pz_iret C hr (Nat.le_refl _) (Nat.le_refl _) dL_run_26 ⟨rfl, ⟨2, rfl, rfl⟩, hxR, hxn, hxB⟩
  · obtain ⟨rfl, ⟨x, rfl, hx1⟩, hxR, hxn, hxB⟩ := hx
    have hx1 : x.toInt = z1 := hx1
    subst hx1
    cases hp
    refine pz_i2l C dL_run_14 ?_
    refine pz_last C (shL hxR.1 83 rfl) (shK hxR.1 83 rfl rfl) (shB hxR.1 83 rfl rfl (pv_in ⟨by decide, by decide⟩)) dL_run_15 ?_
    refine pz_goto (tgt := 27) C dL_run_16 (by decide) ?_
    refine pz_iconst C (v := 0) dL_run_27 (by decide) ?_
    have e9 := pv_cu (V := V1) (c := 83) (k := 0) (x := x.toInt) rfl
    have hR9 := pv_R_putL (x := x.toInt64) (c := 83) (k := 0) hxR rfl
    rw [Int32.toInt_toInt64] at hR9
    refine pz_iret C hr ?_ ?_ dL_run_28 ⟨rfl, ⟨0, rfl, rfl⟩, hR9, hxn, pv_Bu rfl hxB⟩
    · exact Nat.le_of_eq (by show pv_c V1 - pv_c V = pv_c (pz_u V1 83 0 x.toInt) - pv_c V; rw [e9.1])
    · exact Nat.le_of_eq (by show pv_s V1 - pv_s V = pv_s (pz_u V1 83 0 x.toInt) - pv_s V; rw [e9.2])
def q_L_told (N : Nat) (x1 : Int) (V : pvM) : Option pvO := wL1 (q_X10_told N x1 V)
set_option maxHeartbeats 4000000 in
set_option maxRecDepth 100000 in
theorem c_L_told (l : Launch) (hl0 : l.stackTraces = false) (D : va_G) (cy : Nat → ClassId) {N : Nat} {x1 : Int32} {V : pvM} {q : pvO} (hp : q_L_told N x1.toInt V = some q) : pv_MetH l yL_told cL_told 4 (some .int) [(0, 9, 12, 13)] 7 112 D cy V [.ref 0, .int x1, .ref 83] q := by
  unfold q_L_told at hp
  rcases ho : q_X10_told N x1.toInt V with _ | q1
  · rw [ho] at hp; cases hp
  obtain ⟨t1, z1, V1⟩ := q1
  rw [ho] at hp
  have hq1 := ho
  refine pv_ofWH (by decide) (Nat.le_of_ble_eq_true rfl) (fun p e s m args below meth c ad A σ M C hr hZ htab hR hcL hsL => ?_)
  refine pz_aload_n C 2 dL_told_0 rfl ?_
  refine pz_iconst C (v := 0) dL_told_1 (by decide) ?_
  refine pz_aload_n C 0 dL_told_2 rfl ?_
  refine pz_iload_n C 1 dL_told_3 rfl ?_
  refine pv_callVX C (As := [.int x1]) (rest := [.int 0, .ref 83]) (b := 0) hZ (c_X10_told l hl0 D cy hq1) hR hcL hsL wB_yX10_told ml_L_46 im_yX10_told se_yX10_told (ci := 9) rfl rfl rfl rfl rfl (Nat.le_of_ble_eq_true rfl) ⟨(Nat.le_of_ble_eq_true rfl), (Nat.le_of_ble_eq_true rfl)⟩ dL_told_4 (Nat.le_refl _) rfl rfl (fun E σ9 M9 hx => ?_) (fun r9 σ9 M9 hx => ?_)
  · obtain ⟨hxE, hxR, hxn, hxB⟩ := hx
    rcases hxE with ⟨rfl, rfl⟩ | ⟨rfl, rfl⟩
    · cases hp
      refine ⟨12, ⟨[], ⟨0, 9, 12, 13⟩, [], sIA, htab, (fun _ hz => absurd hz List.not_mem_nil), by decide, by decide, cl_L_13, cs_IA, rfl⟩, ?_⟩
      refine pz_astore_n (loc' := [(3, .ref (σ9.1)), (0, .ref (0)), (1, .int x1), (2, .ref (83))]) C dL_told_12 (by decide) rfl ?_
      refine pz_iconst C (v := 1) dL_told_13 (by decide) ?_
      exact pz_iret C hr (Nat.le_refl _) (Nat.le_refl _) dL_told_14 ⟨rfl, ⟨1, rfl, rfl⟩, hxR, hxn, hxB⟩
    · cases hp
  · obtain ⟨rfl, ⟨x, rfl, hx1⟩, hxR, hxn, hxB⟩ := hx
    have hx1 : x.toInt = z1 := hx1
    subst hx1
    cases hp
    refine pz_i2l C dL_told_7 ?_
    refine pz_last C (shL hxR.1 83 rfl) (shK hxR.1 83 rfl rfl) (shB hxR.1 83 rfl rfl (pv_in ⟨by decide, by decide⟩)) dL_told_8 ?_
    refine pz_goto (tgt := 15) C dL_told_9 (by decide) ?_
    refine pz_iconst C (v := 0) dL_told_15 (by decide) ?_
    have e9 := pv_cu (V := V1) (c := 83) (k := 0) (x := x.toInt) rfl
    have hR9 := pv_R_putL (x := x.toInt64) (c := 83) (k := 0) hxR rfl
    rw [Int32.toInt_toInt64] at hR9
    refine pz_iret C hr ?_ ?_ dL_told_16 ⟨rfl, ⟨0, rfl, rfl⟩, hR9, hxn, pv_Bu rfl hxB⟩
    · exact Nat.le_of_eq (by show pv_c V1 - pv_c V = pv_c (pz_u V1 83 0 x.toInt) - pv_c V; rw [e9.1])
    · exact Nat.le_of_eq (by show pv_s V1 - pv_s V = pv_s (pz_u V1 83 0 x.toInt) - pv_s V; rw [e9.2])
def q_L_said (N : Nat) (x1 : Int) (V : pvM) : Option pvO := wL1 (q_X10_said N x1 V)
set_option maxHeartbeats 4000000 in
set_option maxRecDepth 100000 in
theorem c_L_said (l : Launch) (hl0 : l.stackTraces = false) (D : va_G) (cy : Nat → ClassId) {N : Nat} {x1 : Int32} {V : pvM} {q : pvO} (hp : q_L_said N x1.toInt V = some q) : pv_MetH l yL_said cL_said 4 (some .int) [(0, 9, 12, 13)] 7 112 D cy V [.ref 0, .int x1, .ref 83] q := by
  unfold q_L_said at hp
  rcases ho : q_X10_said N x1.toInt V with _ | q1
  · rw [ho] at hp; cases hp
  obtain ⟨t1, z1, V1⟩ := q1
  rw [ho] at hp
  have hq1 := ho
  refine pv_ofWH (by decide) (Nat.le_of_ble_eq_true rfl) (fun p e s m args below meth c ad A σ M C hr hZ htab hR hcL hsL => ?_)
  refine pz_aload_n C 2 dL_said_0 rfl ?_
  refine pz_iconst C (v := 0) dL_said_1 (by decide) ?_
  refine pz_aload_n C 0 dL_said_2 rfl ?_
  refine pz_iload_n C 1 dL_said_3 rfl ?_
  refine pv_callVX C (As := [.int x1]) (rest := [.int 0, .ref 83]) (b := 0) hZ (c_X10_said l hl0 D cy hq1) hR hcL hsL wB_yX10_said ml_L_49 im_yX10_said se_yX10_said (ci := 9) rfl rfl rfl rfl rfl (Nat.le_of_ble_eq_true rfl) ⟨(Nat.le_of_ble_eq_true rfl), (Nat.le_of_ble_eq_true rfl)⟩ dL_said_4 (Nat.le_refl _) rfl rfl (fun E σ9 M9 hx => ?_) (fun r9 σ9 M9 hx => ?_)
  · obtain ⟨hxE, hxR, hxn, hxB⟩ := hx
    rcases hxE with ⟨rfl, rfl⟩ | ⟨rfl, rfl⟩
    · cases hp
      refine ⟨12, ⟨[], ⟨0, 9, 12, 13⟩, [], sIA, htab, (fun _ hz => absurd hz List.not_mem_nil), by decide, by decide, cl_L_13, cs_IA, rfl⟩, ?_⟩
      refine pz_astore_n (loc' := [(3, .ref (σ9.1)), (0, .ref (0)), (1, .int x1), (2, .ref (83))]) C dL_said_12 (by decide) rfl ?_
      refine pz_iconst C (v := 1) dL_said_13 (by decide) ?_
      exact pz_iret C hr (Nat.le_refl _) (Nat.le_refl _) dL_said_14 ⟨rfl, ⟨1, rfl, rfl⟩, hxR, hxn, hxB⟩
    · cases hp
  · obtain ⟨rfl, ⟨x, rfl, hx1⟩, hxR, hxn, hxB⟩ := hx
    have hx1 : x.toInt = z1 := hx1
    subst hx1
    cases hp
    refine pz_i2l C dL_said_7 ?_
    refine pz_last C (shL hxR.1 83 rfl) (shK hxR.1 83 rfl rfl) (shB hxR.1 83 rfl rfl (pv_in ⟨by decide, by decide⟩)) dL_said_8 ?_
    refine pz_goto (tgt := 15) C dL_said_9 (by decide) ?_
    refine pz_iconst C (v := 0) dL_said_15 (by decide) ?_
    have e9 := pv_cu (V := V1) (c := 83) (k := 0) (x := x.toInt) rfl
    have hR9 := pv_R_putL (x := x.toInt64) (c := 83) (k := 0) hxR rfl
    rw [Int32.toInt_toInt64] at hR9
    refine pz_iret C hr ?_ ?_ dL_said_16 ⟨rfl, ⟨0, rfl, rfl⟩, hR9, hxn, pv_Bu rfl hxB⟩
    · exact Nat.le_of_eq (by show pv_c V1 - pv_c V = pv_c (pz_u V1 83 0 x.toInt) - pv_c V; rw [e9.1])
    · exact Nat.le_of_eq (by show pv_s V1 - pv_s V = pv_s (pz_u V1 83 0 x.toInt) - pv_s V; rw [e9.2])
