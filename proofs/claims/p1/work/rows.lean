section
-- ===== PART A: goes FIRST, ahead of the names: the tables' words, and 'selects' of the private methods out of them =====
/-- a private method of a class that the tables say can be made, by its rows of tables_1 -/
def lw_okq (q : MethodName × Nat) : Prop := (q.1.cls ≠ "java/lang/invoke/MethodHandle" ∧ q.1.cls ≠ "java/lang/invoke/VarHandle") ∧ Cond.instantiable q.1.cls q.2 ∈ tables_1 ∧ Cond.privateMethod q.1 ∈ tables_1 ∧ Cond.instanceMethod q.1 ∈ tables_1
theorem lw_p0 : lw_okq (⟨"FeatureDesugarer$Ways", "wrongOnWays", "(II)I"⟩, 3) := ⟨⟨by decide +kernel, by decide +kernel⟩, List.mem_of_getElem? (i := 86) (by decide +kernel), List.mem_of_getElem? (i := 335) (by decide +kernel), List.mem_of_getElem? (i := 336) (by decide +kernel)⟩
theorem lw_p1 : lw_okq (⟨"FeatureDesugarer$Ways", "leastWaiting", "(I)I"⟩, 3) := ⟨⟨by decide +kernel, by decide +kernel⟩, List.mem_of_getElem? (i := 86) (by decide +kernel), List.mem_of_getElem? (i := 339) (by decide +kernel), List.mem_of_getElem? (i := 340) (by decide +kernel)⟩
theorem lw_p2 : lw_okq (⟨"FeatureDesugarer$Ways", "goesOn", "(III)Z"⟩, 3) := ⟨⟨by decide +kernel, by decide +kernel⟩, List.mem_of_getElem? (i := 86) (by decide +kernel), List.mem_of_getElem? (i := 343) (by decide +kernel), List.mem_of_getElem? (i := 344) (by decide +kernel)⟩
theorem lw_p3 : lw_okq (⟨"FeatureDesugarer$Ways", "meets", "(III)Z"⟩, 3) := ⟨⟨by decide +kernel, by decide +kernel⟩, List.mem_of_getElem? (i := 86) (by decide +kernel), List.mem_of_getElem? (i := 362) (by decide +kernel), List.mem_of_getElem? (i := 363) (by decide +kernel)⟩
theorem lw_p4 : lw_okq (⟨"FeatureDesugarer$PlainCode", "makeFunction", "(I)V"⟩, 11) := ⟨⟨by decide +kernel, by decide +kernel⟩, List.mem_of_getElem? (i := 103) (by decide +kernel), List.mem_of_getElem? (i := 380) (by decide +kernel), List.mem_of_getElem? (i := 381) (by decide +kernel)⟩
theorem lw_p5 : lw_okq (⟨"FeatureDesugarer$PlainCode", "makeGroup", "(II)V"⟩, 11) := ⟨⟨by decide +kernel, by decide +kernel⟩, List.mem_of_getElem? (i := 103) (by decide +kernel), List.mem_of_getElem? (i := 390) (by decide +kernel), List.mem_of_getElem? (i := 391) (by decide +kernel)⟩
theorem lw_p6 : lw_okq (⟨"FeatureDesugarer$PlainCode", "makeNew", "(II)V"⟩, 11) := ⟨⟨by decide +kernel, by decide +kernel⟩, List.mem_of_getElem? (i := 103) (by decide +kernel), List.mem_of_getElem? (i := 397) (by decide +kernel), List.mem_of_getElem? (i := 398) (by decide +kernel)⟩
theorem lw_p7 : lw_okq (⟨"FeatureDesugarer$Instructions", "grow", "()V"⟩, 5) := ⟨⟨by decide +kernel, by decide +kernel⟩, List.mem_of_getElem? (i := 109) (by decide +kernel), List.mem_of_getElem? (i := 405) (by decide +kernel), List.mem_of_getElem? (i := 406) (by decide +kernel)⟩
theorem lw_p8 : lw_okq (⟨"FeatureDesugarer$PlainCode", "makeJoin", "(ILFeatureDesugarer$Recipes;)V"⟩, 11) := ⟨⟨by decide +kernel, by decide +kernel⟩, List.mem_of_getElem? (i := 103) (by decide +kernel), List.mem_of_getElem? (i := 429) (by decide +kernel), List.mem_of_getElem? (i := 430) (by decide +kernel)⟩
theorem lw_p9 : lw_okq (⟨"FeatureDesugarer$PlainCode", "measure", "(III)V"⟩, 11) := ⟨⟨by decide +kernel, by decide +kernel⟩, List.mem_of_getElem? (i := 103) (by decide +kernel), List.mem_of_getElem? (i := 454) (by decide +kernel), List.mem_of_getElem? (i := 455) (by decide +kernel)⟩
theorem lw_p10 : lw_okq (⟨"FeatureDesugarer$PlainCode", "risesBy", "(III)I"⟩, 11) := ⟨⟨by decide +kernel, by decide +kernel⟩, List.mem_of_getElem? (i := 103) (by decide +kernel), List.mem_of_getElem? (i := 462) (by decide +kernel), List.mem_of_getElem? (i := 463) (by decide +kernel)⟩
theorem lw_p11 : lw_okq (⟨"FeatureDesugarer$PlainCode", "movePlaces", "(I)V"⟩, 11) := ⟨⟨by decide +kernel, by decide +kernel⟩, List.mem_of_getElem? (i := 103) (by decide +kernel), List.mem_of_getElem? (i := 483) (by decide +kernel), List.mem_of_getElem? (i := 484) (by decide +kernel)⟩
theorem lw_p12 : lw_okq (⟨"FeatureDesugarer$PlainCode", "makeMethod", "(I)V"⟩, 11) := ⟨⟨by decide +kernel, by decide +kernel⟩, List.mem_of_getElem? (i := 103) (by decide +kernel), List.mem_of_getElem? (i := 491) (by decide +kernel), List.mem_of_getElem? (i := 492) (by decide +kernel)⟩
theorem lw_p13 : lw_okq (⟨"java/lang/Throwable", "fillInStackTrace", "(I)Ljava/lang/Throwable;"⟩, 6) := ⟨⟨by decide +kernel, by decide +kernel⟩, List.mem_of_getElem? (i := 549) (by decide +kernel), List.mem_of_getElem? (i := 547) (by decide +kernel), List.mem_of_getElem? (i := 548) (by decide +kernel)⟩
theorem lw_p14 : lw_okq (⟨"FeatureDesugarer$Recipes", "addDigit", "(II)V"⟩, 7) := ⟨⟨by decide +kernel, by decide +kernel⟩, List.mem_of_getElem? (i := 35) (by decide +kernel), List.mem_of_getElem? (i := 630) (by decide +kernel), List.mem_of_getElem? (i := 631) (by decide +kernel)⟩
theorem lw_p15 : lw_okq (⟨"FeatureDesugarer$Machine", "beginFunction", "(I)Z"⟩, 10) := ⟨⟨by decide +kernel, by decide +kernel⟩, List.mem_of_getElem? (i := 165) (by decide +kernel), List.mem_of_getElem? (i := 741) (by decide +kernel), List.mem_of_getElem? (i := 742) (by decide +kernel)⟩
def lw_privs_1 : List (MethodName × Nat) := [(⟨"FeatureDesugarer$Ways", "wrongOnWays", "(II)I"⟩, 3), (⟨"FeatureDesugarer$Ways", "leastWaiting", "(I)I"⟩, 3), (⟨"FeatureDesugarer$Ways", "goesOn", "(III)Z"⟩, 3), (⟨"FeatureDesugarer$Ways", "meets", "(III)Z"⟩, 3), (⟨"FeatureDesugarer$PlainCode", "makeFunction", "(I)V"⟩, 11), (⟨"FeatureDesugarer$PlainCode", "makeGroup", "(II)V"⟩, 11), (⟨"FeatureDesugarer$PlainCode", "makeNew", "(II)V"⟩, 11), (⟨"FeatureDesugarer$Instructions", "grow", "()V"⟩, 5), (⟨"FeatureDesugarer$PlainCode", "makeJoin", "(ILFeatureDesugarer$Recipes;)V"⟩, 11), (⟨"FeatureDesugarer$PlainCode", "measure", "(III)V"⟩, 11), (⟨"FeatureDesugarer$PlainCode", "risesBy", "(III)I"⟩, 11), (⟨"FeatureDesugarer$PlainCode", "movePlaces", "(I)V"⟩, 11), (⟨"FeatureDesugarer$PlainCode", "makeMethod", "(I)V"⟩, 11), (⟨"java/lang/Throwable", "fillInStackTrace", "(I)Ljava/lang/Throwable;"⟩, 6), (⟨"FeatureDesugarer$Recipes", "addDigit", "(II)V"⟩, 7), (⟨"FeatureDesugarer$Machine", "beginFunction", "(I)Z"⟩, 10)]
theorem lw_r1 : ∀ q ∈ lw_privs_1, lw_okq q := List.forall_mem_cons.mpr ⟨lw_p0, List.forall_mem_cons.mpr ⟨lw_p1, List.forall_mem_cons.mpr ⟨lw_p2, List.forall_mem_cons.mpr ⟨lw_p3, List.forall_mem_cons.mpr ⟨lw_p4, List.forall_mem_cons.mpr ⟨lw_p5, List.forall_mem_cons.mpr ⟨lw_p6, List.forall_mem_cons.mpr ⟨lw_p7, List.forall_mem_cons.mpr ⟨lw_p8, List.forall_mem_cons.mpr ⟨lw_p9, List.forall_mem_cons.mpr ⟨lw_p10, List.forall_mem_cons.mpr ⟨lw_p11, List.forall_mem_cons.mpr ⟨lw_p12, List.forall_mem_cons.mpr ⟨lw_p13, List.forall_mem_cons.mpr ⟨lw_p14, List.forall_mem_cons.mpr ⟨lw_p15, fun _ h => absurd h List.not_mem_nil⟩⟩⟩⟩⟩⟩⟩⟩⟩⟩⟩⟩⟩⟩⟩⟩
theorem lw_p16 : lw_okq (⟨"FeatureDesugarer$Machine", "doNext", "()V"⟩, 10) := ⟨⟨by decide +kernel, by decide +kernel⟩, List.mem_of_getElem? (i := 165) (by decide +kernel), List.mem_of_getElem? (i := 764) (by decide +kernel), List.mem_of_getElem? (i := 765) (by decide +kernel)⟩
theorem lw_p17 : lw_okq (⟨"FeatureDesugarer$Machine", "doShared", "(II)V"⟩, 10) := ⟨⟨by decide +kernel, by decide +kernel⟩, List.mem_of_getElem? (i := 165) (by decide +kernel), List.mem_of_getElem? (i := 830) (by decide +kernel), List.mem_of_getElem? (i := 831) (by decide +kernel)⟩
theorem lw_p18 : lw_okq (⟨"FeatureDesugarer$Machine", "goIfZero", "(I)V"⟩, 10) := ⟨⟨by decide +kernel, by decide +kernel⟩, List.mem_of_getElem? (i := 165) (by decide +kernel), List.mem_of_getElem? (i := 846) (by decide +kernel), List.mem_of_getElem? (i := 847) (by decide +kernel)⟩
theorem lw_p19 : lw_okq (⟨"FeatureDesugarer$Machine", "callFunction", "(I)V"⟩, 10) := ⟨⟨by decide +kernel, by decide +kernel⟩, List.mem_of_getElem? (i := 165) (by decide +kernel), List.mem_of_getElem? (i := 856) (by decide +kernel), List.mem_of_getElem? (i := 857) (by decide +kernel)⟩
theorem lw_p20 : lw_okq (⟨"FeatureDesugarer$Machine", "giveBack", "()V"⟩, 10) := ⟨⟨by decide +kernel, by decide +kernel⟩, List.mem_of_getElem? (i := 165) (by decide +kernel), List.mem_of_getElem? (i := 870) (by decide +kernel), List.mem_of_getElem? (i := 871) (by decide +kernel)⟩
theorem lw_p21 : lw_okq (⟨"FeatureDesugarer$Texts", "spell", "(J)V"⟩, 8) := ⟨⟨by decide +kernel, by decide +kernel⟩, List.mem_of_getElem? (i := 219) (by decide +kernel), List.mem_of_getElem? (i := 887) (by decide +kernel), List.mem_of_getElem? (i := 888) (by decide +kernel)⟩
theorem lw_p22 : lw_okq (⟨"FeatureDesugarer$Texts", "spellNumber", "(I)V"⟩, 8) := ⟨⟨by decide +kernel, by decide +kernel⟩, List.mem_of_getElem? (i := 219) (by decide +kernel), List.mem_of_getElem? (i := 893) (by decide +kernel), List.mem_of_getElem? (i := 894) (by decide +kernel)⟩
theorem lw_p23 : lw_okq (⟨"FeatureDesugarer$Machine", "faultUnless", "(ZI)V"⟩, 10) := ⟨⟨by decide +kernel, by decide +kernel⟩, List.mem_of_getElem? (i := 165) (by decide +kernel), List.mem_of_getElem? (i := 900) (by decide +kernel), List.mem_of_getElem? (i := 901) (by decide +kernel)⟩
theorem lw_p24 : lw_okq (⟨"FeatureDesugarer$Machine", "reckon", "(I)V"⟩, 10) := ⟨⟨by decide +kernel, by decide +kernel⟩, List.mem_of_getElem? (i := 165) (by decide +kernel), List.mem_of_getElem? (i := 904) (by decide +kernel), List.mem_of_getElem? (i := 905) (by decide +kernel)⟩
theorem lw_p25 : lw_okq (⟨"FeatureDesugarer$Machine", "doFirst", "(III)V"⟩, 10) := ⟨⟨by decide +kernel, by decide +kernel⟩, List.mem_of_getElem? (i := 165) (by decide +kernel), List.mem_of_getElem? (i := 912) (by decide +kernel), List.mem_of_getElem? (i := 913) (by decide +kernel)⟩
theorem lw_p26 : lw_okq (⟨"FeatureDesugarer$Machine", "applyTo", "(I)V"⟩, 10) := ⟨⟨by decide +kernel, by decide +kernel⟩, List.mem_of_getElem? (i := 165) (by decide +kernel), List.mem_of_getElem? (i := 926) (by decide +kernel), List.mem_of_getElem? (i := 927) (by decide +kernel)⟩
theorem lw_p27 : lw_okq (⟨"FeatureDesugarer$Machine", "join", "(ILFeatureDesugarer$Recipes;)V"⟩, 10) := ⟨⟨by decide +kernel, by decide +kernel⟩, List.mem_of_getElem? (i := 165) (by decide +kernel), List.mem_of_getElem? (i := 943) (by decide +kernel), List.mem_of_getElem? (i := 944) (by decide +kernel)⟩
theorem lw_p28 : lw_okq (⟨"FeatureDesugarer$Texts", "appendSpelled", "(I)Z"⟩, 8) := ⟨⟨by decide +kernel, by decide +kernel⟩, List.mem_of_getElem? (i := 219) (by decide +kernel), List.mem_of_getElem? (i := 961) (by decide +kernel), List.mem_of_getElem? (i := 962) (by decide +kernel)⟩
theorem lw_p29 : lw_okq (⟨"FeatureDesugarer$Machine", "doPlain", "(III)V"⟩, 10) := ⟨⟨by decide +kernel, by decide +kernel⟩, List.mem_of_getElem? (i := 165) (by decide +kernel), List.mem_of_getElem? (i := 980) (by decide +kernel), List.mem_of_getElem? (i := 981) (by decide +kernel)⟩
theorem lw_p30 : lw_okq (⟨"FeatureDesugarer$Machine", "invoke", "(I)V"⟩, 10) := ⟨⟨by decide +kernel, by decide +kernel⟩, List.mem_of_getElem? (i := 165) (by decide +kernel), List.mem_of_getElem? (i := 985) (by decide +kernel), List.mem_of_getElem? (i := 986) (by decide +kernel)⟩
theorem lw_p31 : lw_okq (⟨"FeatureDesugarer$Machine", "appendCharacters", "(II)V"⟩, 10) := ⟨⟨by decide +kernel, by decide +kernel⟩, List.mem_of_getElem? (i := 165) (by decide +kernel), List.mem_of_getElem? (i := 991) (by decide +kernel), List.mem_of_getElem? (i := 992) (by decide +kernel)⟩
def lw_privs_2 : List (MethodName × Nat) := [(⟨"FeatureDesugarer$Machine", "doNext", "()V"⟩, 10), (⟨"FeatureDesugarer$Machine", "doShared", "(II)V"⟩, 10), (⟨"FeatureDesugarer$Machine", "goIfZero", "(I)V"⟩, 10), (⟨"FeatureDesugarer$Machine", "callFunction", "(I)V"⟩, 10), (⟨"FeatureDesugarer$Machine", "giveBack", "()V"⟩, 10), (⟨"FeatureDesugarer$Texts", "spell", "(J)V"⟩, 8), (⟨"FeatureDesugarer$Texts", "spellNumber", "(I)V"⟩, 8), (⟨"FeatureDesugarer$Machine", "faultUnless", "(ZI)V"⟩, 10), (⟨"FeatureDesugarer$Machine", "reckon", "(I)V"⟩, 10), (⟨"FeatureDesugarer$Machine", "doFirst", "(III)V"⟩, 10), (⟨"FeatureDesugarer$Machine", "applyTo", "(I)V"⟩, 10), (⟨"FeatureDesugarer$Machine", "join", "(ILFeatureDesugarer$Recipes;)V"⟩, 10), (⟨"FeatureDesugarer$Texts", "appendSpelled", "(I)Z"⟩, 8), (⟨"FeatureDesugarer$Machine", "doPlain", "(III)V"⟩, 10), (⟨"FeatureDesugarer$Machine", "invoke", "(I)V"⟩, 10), (⟨"FeatureDesugarer$Machine", "appendCharacters", "(II)V"⟩, 10)]
theorem lw_r2 : ∀ q ∈ lw_privs_2, lw_okq q := List.forall_mem_cons.mpr ⟨lw_p16, List.forall_mem_cons.mpr ⟨lw_p17, List.forall_mem_cons.mpr ⟨lw_p18, List.forall_mem_cons.mpr ⟨lw_p19, List.forall_mem_cons.mpr ⟨lw_p20, List.forall_mem_cons.mpr ⟨lw_p21, List.forall_mem_cons.mpr ⟨lw_p22, List.forall_mem_cons.mpr ⟨lw_p23, List.forall_mem_cons.mpr ⟨lw_p24, List.forall_mem_cons.mpr ⟨lw_p25, List.forall_mem_cons.mpr ⟨lw_p26, List.forall_mem_cons.mpr ⟨lw_p27, List.forall_mem_cons.mpr ⟨lw_p28, List.forall_mem_cons.mpr ⟨lw_p29, List.forall_mem_cons.mpr ⟨lw_p30, List.forall_mem_cons.mpr ⟨lw_p31, fun _ h => absurd h List.not_mem_nil⟩⟩⟩⟩⟩⟩⟩⟩⟩⟩⟩⟩⟩⟩⟩⟩
theorem lw_p32 : lw_okq (⟨"FeatureDesugarerModel", "goes", "(ZZ)Z"⟩, 54) := ⟨⟨by decide +kernel, by decide +kernel⟩, List.mem_of_getElem? (i := 1038) (by decide +kernel), List.mem_of_getElem? (i := 1216) (by decide +kernel), List.mem_of_getElem? (i := 1217) (by decide +kernel)⟩
theorem lw_p33 : lw_okq (⟨"FeatureDesugarerModel", "isFunction", "(I)Z"⟩, 54) := ⟨⟨by decide +kernel, by decide +kernel⟩, List.mem_of_getElem? (i := 1038) (by decide +kernel), List.mem_of_getElem? (i := 1224) (by decide +kernel), List.mem_of_getElem? (i := 1225) (by decide +kernel)⟩
theorem lw_p34 : lw_okq (⟨"FeatureDesugarerModel", "checkAll", "()I"⟩, 54) := ⟨⟨by decide +kernel, by decide +kernel⟩, List.mem_of_getElem? (i := 1038) (by decide +kernel), List.mem_of_getElem? (i := 1238) (by decide +kernel), List.mem_of_getElem? (i := 1239) (by decide +kernel)⟩
theorem lw_p35 : lw_okq (⟨"FeatureDesugarerModel", "checkOne", "(I)I"⟩, 54) := ⟨⟨by decide +kernel, by decide +kernel⟩, List.mem_of_getElem? (i := 1038) (by decide +kernel), List.mem_of_getElem? (i := 1242) (by decide +kernel), List.mem_of_getElem? (i := 1243) (by decide +kernel)⟩
theorem lw_p36 : lw_okq (⟨"FeatureDesugarerModel", "isBound", "(II)Z"⟩, 54) := ⟨⟨by decide +kernel, by decide +kernel⟩, List.mem_of_getElem? (i := 1038) (by decide +kernel), List.mem_of_getElem? (i := 1246) (by decide +kernel), List.mem_of_getElem? (i := 1247) (by decide +kernel)⟩
theorem lw_p37 : lw_okq (⟨"FeatureDesugarerModel", "walk", "(I)V"⟩, 54) := ⟨⟨by decide +kernel, by decide +kernel⟩, List.mem_of_getElem? (i := 1038) (by decide +kernel), List.mem_of_getElem? (i := 1250) (by decide +kernel), List.mem_of_getElem? (i := 1251) (by decide +kernel)⟩
theorem lw_p38 : lw_okq (⟨"FeatureDesugarerModel", "least", "(I)I"⟩, 54) := ⟨⟨by decide +kernel, by decide +kernel⟩, List.mem_of_getElem? (i := 1038) (by decide +kernel), List.mem_of_getElem? (i := 1254) (by decide +kernel), List.mem_of_getElem? (i := 1255) (by decide +kernel)⟩
theorem lw_p39 : lw_okq (⟨"FeatureDesugarerModel", "pops", "(I)I"⟩, 54) := ⟨⟨by decide +kernel, by decide +kernel⟩, List.mem_of_getElem? (i := 1038) (by decide +kernel), List.mem_of_getElem? (i := 1258) (by decide +kernel), List.mem_of_getElem? (i := 1259) (by decide +kernel)⟩
theorem lw_p40 : lw_okq (⟨"FeatureDesugarerModel", "holes", "(I)I"⟩, 54) := ⟨⟨by decide +kernel, by decide +kernel⟩, List.mem_of_getElem? (i := 1038) (by decide +kernel), List.mem_of_getElem? (i := 1262) (by decide +kernel), List.mem_of_getElem? (i := 1263) (by decide +kernel)⟩
theorem lw_p41 : lw_okq (⟨"FeatureDesugarerModel", "pushes", "(I)I"⟩, 54) := ⟨⟨by decide +kernel, by decide +kernel⟩, List.mem_of_getElem? (i := 1038) (by decide +kernel), List.mem_of_getElem? (i := 1266) (by decide +kernel), List.mem_of_getElem? (i := 1267) (by decide +kernel)⟩
theorem lw_p42 : lw_okq (⟨"FeatureDesugarerModel", "meet", "(III)V"⟩, 54) := ⟨⟨by decide +kernel, by decide +kernel⟩, List.mem_of_getElem? (i := 1038) (by decide +kernel), List.mem_of_getElem? (i := 1270) (by decide +kernel), List.mem_of_getElem? (i := 1271) (by decide +kernel)⟩
theorem lw_p43 : lw_okq (⟨"FeatureDesugarerModel", "lowerOne", "(I)V"⟩, 54) := ⟨⟨by decide +kernel, by decide +kernel⟩, List.mem_of_getElem? (i := 1038) (by decide +kernel), List.mem_of_getElem? (i := 1278) (by decide +kernel), List.mem_of_getElem? (i := 1279) (by decide +kernel)⟩
theorem lw_p44 : lw_okq (⟨"FeatureDesugarerModel", "within", "(II)I"⟩, 54) := ⟨⟨by decide +kernel, by decide +kernel⟩, List.mem_of_getElem? (i := 1038) (by decide +kernel), List.mem_of_getElem? (i := 1282) (by decide +kernel), List.mem_of_getElem? (i := 1283) (by decide +kernel)⟩
theorem lw_p45 : lw_okq (⟨"FeatureDesugarerModel", "putFunction", "(III)V"⟩, 54) := ⟨⟨by decide +kernel, by decide +kernel⟩, List.mem_of_getElem? (i := 1038) (by decide +kernel), List.mem_of_getElem? (i := 1286) (by decide +kernel), List.mem_of_getElem? (i := 1287) (by decide +kernel)⟩
theorem lw_p46 : lw_okq (⟨"FeatureDesugarerModel", "put", "(IIII)V"⟩, 54) := ⟨⟨by decide +kernel, by decide +kernel⟩, List.mem_of_getElem? (i := 1038) (by decide +kernel), List.mem_of_getElem? (i := 1290) (by decide +kernel), List.mem_of_getElem? (i := 1291) (by decide +kernel)⟩
theorem lw_p47 : lw_okq (⟨"FeatureDesugarerModel", "putJoin", "(II)V"⟩, 54) := ⟨⟨by decide +kernel, by decide +kernel⟩, List.mem_of_getElem? (i := 1038) (by decide +kernel), List.mem_of_getElem? (i := 1294) (by decide +kernel), List.mem_of_getElem? (i := 1295) (by decide +kernel)⟩
def lw_privs_3 : List (MethodName × Nat) := [(⟨"FeatureDesugarerModel", "goes", "(ZZ)Z"⟩, 54), (⟨"FeatureDesugarerModel", "isFunction", "(I)Z"⟩, 54), (⟨"FeatureDesugarerModel", "checkAll", "()I"⟩, 54), (⟨"FeatureDesugarerModel", "checkOne", "(I)I"⟩, 54), (⟨"FeatureDesugarerModel", "isBound", "(II)Z"⟩, 54), (⟨"FeatureDesugarerModel", "walk", "(I)V"⟩, 54), (⟨"FeatureDesugarerModel", "least", "(I)I"⟩, 54), (⟨"FeatureDesugarerModel", "pops", "(I)I"⟩, 54), (⟨"FeatureDesugarerModel", "holes", "(I)I"⟩, 54), (⟨"FeatureDesugarerModel", "pushes", "(I)I"⟩, 54), (⟨"FeatureDesugarerModel", "meet", "(III)V"⟩, 54), (⟨"FeatureDesugarerModel", "lowerOne", "(I)V"⟩, 54), (⟨"FeatureDesugarerModel", "within", "(II)I"⟩, 54), (⟨"FeatureDesugarerModel", "putFunction", "(III)V"⟩, 54), (⟨"FeatureDesugarerModel", "put", "(IIII)V"⟩, 54), (⟨"FeatureDesugarerModel", "putJoin", "(II)V"⟩, 54)]
theorem lw_r3 : ∀ q ∈ lw_privs_3, lw_okq q := List.forall_mem_cons.mpr ⟨lw_p32, List.forall_mem_cons.mpr ⟨lw_p33, List.forall_mem_cons.mpr ⟨lw_p34, List.forall_mem_cons.mpr ⟨lw_p35, List.forall_mem_cons.mpr ⟨lw_p36, List.forall_mem_cons.mpr ⟨lw_p37, List.forall_mem_cons.mpr ⟨lw_p38, List.forall_mem_cons.mpr ⟨lw_p39, List.forall_mem_cons.mpr ⟨lw_p40, List.forall_mem_cons.mpr ⟨lw_p41, List.forall_mem_cons.mpr ⟨lw_p42, List.forall_mem_cons.mpr ⟨lw_p43, List.forall_mem_cons.mpr ⟨lw_p44, List.forall_mem_cons.mpr ⟨lw_p45, List.forall_mem_cons.mpr ⟨lw_p46, List.forall_mem_cons.mpr ⟨lw_p47, fun _ h => absurd h List.not_mem_nil⟩⟩⟩⟩⟩⟩⟩⟩⟩⟩⟩⟩⟩⟩⟩⟩
theorem lw_p48 : lw_okq (⟨"FeatureDesugarerModel", "begin", "(II)V"⟩, 54) := ⟨⟨by decide +kernel, by decide +kernel⟩, List.mem_of_getElem? (i := 1038) (by decide +kernel), List.mem_of_getElem? (i := 1322) (by decide +kernel), List.mem_of_getElem? (i := 1323) (by decide +kernel)⟩
theorem lw_p49 : lw_okq (⟨"FeatureDesugarerModel", "step", "()V"⟩, 54) := ⟨⟨by decide +kernel, by decide +kernel⟩, List.mem_of_getElem? (i := 1038) (by decide +kernel), List.mem_of_getElem? (i := 1326) (by decide +kernel), List.mem_of_getElem? (i := 1327) (by decide +kernel)⟩
theorem lw_p50 : lw_okq (⟨"FeatureDesugarerModel", "push", "(II)V"⟩, 54) := ⟨⟨by decide +kernel, by decide +kernel⟩, List.mem_of_getElem? (i := 1038) (by decide +kernel), List.mem_of_getElem? (i := 1330) (by decide +kernel), List.mem_of_getElem? (i := 1331) (by decide +kernel)⟩
theorem lw_p51 : lw_okq (⟨"FeatureDesugarerModel", "reckon", "(I)V"⟩, 54) := ⟨⟨by decide +kernel, by decide +kernel⟩, List.mem_of_getElem? (i := 1038) (by decide +kernel), List.mem_of_getElem? (i := 1334) (by decide +kernel), List.mem_of_getElem? (i := 1335) (by decide +kernel)⟩
theorem lw_p52 : lw_okq (⟨"FeatureDesugarerModel", "take", "(II)V"⟩, 54) := ⟨⟨by decide +kernel, by decide +kernel⟩, List.mem_of_getElem? (i := 1038) (by decide +kernel), List.mem_of_getElem? (i := 1338) (by decide +kernel), List.mem_of_getElem? (i := 1339) (by decide +kernel)⟩
theorem lw_p53 : lw_okq (⟨"FeatureDesugarerModel", "leave", "()V"⟩, 54) := ⟨⟨by decide +kernel, by decide +kernel⟩, List.mem_of_getElem? (i := 1038) (by decide +kernel), List.mem_of_getElem? (i := 1342) (by decide +kernel), List.mem_of_getElem? (i := 1343) (by decide +kernel)⟩
theorem lw_p54 : lw_okq (⟨"FeatureDesugarerModel", "say", "()V"⟩, 54) := ⟨⟨by decide +kernel, by decide +kernel⟩, List.mem_of_getElem? (i := 1038) (by decide +kernel), List.mem_of_getElem? (i := 1346) (by decide +kernel), List.mem_of_getElem? (i := 1347) (by decide +kernel)⟩
theorem lw_p55 : lw_okq (⟨"FeatureDesugarerModel", "write", "(II)V"⟩, 54) := ⟨⟨by decide +kernel, by decide +kernel⟩, List.mem_of_getElem? (i := 1038) (by decide +kernel), List.mem_of_getElem? (i := 1350) (by decide +kernel), List.mem_of_getElem? (i := 1351) (by decide +kernel)⟩
theorem lw_p56 : lw_okq (⟨"FeatureDesugarerModel", "letter", "(I)V"⟩, 54) := ⟨⟨by decide +kernel, by decide +kernel⟩, List.mem_of_getElem? (i := 1038) (by decide +kernel), List.mem_of_getElem? (i := 1354) (by decide +kernel), List.mem_of_getElem? (i := 1355) (by decide +kernel)⟩
theorem lw_p57 : lw_okq (⟨"FeatureDesugarerModel", "close", "(II)V"⟩, 54) := ⟨⟨by decide +kernel, by decide +kernel⟩, List.mem_of_getElem? (i := 1038) (by decide +kernel), List.mem_of_getElem? (i := 1360) (by decide +kernel), List.mem_of_getElem? (i := 1361) (by decide +kernel)⟩
theorem lw_p58 : lw_okq (⟨"FeatureDesugarerModel", "apply", "(I)V"⟩, 54) := ⟨⟨by decide +kernel, by decide +kernel⟩, List.mem_of_getElem? (i := 1038) (by decide +kernel), List.mem_of_getElem? (i := 1364) (by decide +kernel), List.mem_of_getElem? (i := 1365) (by decide +kernel)⟩
theorem lw_p59 : lw_okq (⟨"FeatureDesugarerModel", "join", "(I)V"⟩, 54) := ⟨⟨by decide +kernel, by decide +kernel⟩, List.mem_of_getElem? (i := 1038) (by decide +kernel), List.mem_of_getElem? (i := 1368) (by decide +kernel), List.mem_of_getElem? (i := 1369) (by decide +kernel)⟩
def lw_privs_4 : List (MethodName × Nat) := [(⟨"FeatureDesugarerModel", "begin", "(II)V"⟩, 54), (⟨"FeatureDesugarerModel", "step", "()V"⟩, 54), (⟨"FeatureDesugarerModel", "push", "(II)V"⟩, 54), (⟨"FeatureDesugarerModel", "reckon", "(I)V"⟩, 54), (⟨"FeatureDesugarerModel", "take", "(II)V"⟩, 54), (⟨"FeatureDesugarerModel", "leave", "()V"⟩, 54), (⟨"FeatureDesugarerModel", "say", "()V"⟩, 54), (⟨"FeatureDesugarerModel", "write", "(II)V"⟩, 54), (⟨"FeatureDesugarerModel", "letter", "(I)V"⟩, 54), (⟨"FeatureDesugarerModel", "close", "(II)V"⟩, 54), (⟨"FeatureDesugarerModel", "apply", "(I)V"⟩, 54), (⟨"FeatureDesugarerModel", "join", "(I)V"⟩, 54)]
theorem lw_r4 : ∀ q ∈ lw_privs_4, lw_okq q := List.forall_mem_cons.mpr ⟨lw_p48, List.forall_mem_cons.mpr ⟨lw_p49, List.forall_mem_cons.mpr ⟨lw_p50, List.forall_mem_cons.mpr ⟨lw_p51, List.forall_mem_cons.mpr ⟨lw_p52, List.forall_mem_cons.mpr ⟨lw_p53, List.forall_mem_cons.mpr ⟨lw_p54, List.forall_mem_cons.mpr ⟨lw_p55, List.forall_mem_cons.mpr ⟨lw_p56, List.forall_mem_cons.mpr ⟨lw_p57, List.forall_mem_cons.mpr ⟨lw_p58, List.forall_mem_cons.mpr ⟨lw_p59, fun _ h => absurd h List.not_mem_nil⟩⟩⟩⟩⟩⟩⟩⟩⟩⟩⟩⟩
def lw_privs : List (MethodName × Nat) := lw_privs_1 ++ (lw_privs_2 ++ (lw_privs_3 ++ (lw_privs_4)))
def lw_tbl : List Cond := k2_sels lw_privs ++ tables_1
theorem lw_privs_ok : ∀ q ∈ lw_privs, lw_okq q := by
  show ∀ q ∈ lw_privs_1 ++ (lw_privs_2 ++ (lw_privs_3 ++ (lw_privs_4))), lw_okq q
  exact List.forall_mem_append.mpr ⟨lw_r1, List.forall_mem_append.mpr ⟨lw_r2, List.forall_mem_append.mpr ⟨lw_r3, lw_r4⟩⟩⟩
end
section
/-! ===== BEGIN words of one list among another's, by their places ===== -/
theorem goodIn_r {big : List Cond} (ws : List Cond) (ps : List Nat) (hp : ws = ps.filterMap (fun i => big[i]?)) (h : ws.all goodWord = true) : GoodIn big ws := by
  intro w hw
  have h1 := List.all_eq_true.mp h w hw
  rw [hp] at hw
  obtain ⟨i, -, hi⟩ := List.mem_filterMap.mp hw
  have hm : w ∈ big := by first | exact List.mem_of_getElem? hi | exact List.getElem?_mem hi
  exact ⟨hm, good_of_word h1⟩
theorem goodIn_app {big a b : List Cond} (ha : GoodIn big a) (hb : GoodIn big b) : GoodIn big (a ++ b) := fun w h => (List.mem_append.mp h).elim (ha w) (hb w)
theorem goodIn_ca {big a b : List Cond} {c : Cond} (ha : GoodIn big (c :: a)) (hb : GoodIn big b) : GoodIn big (c :: (a ++ b)) := fun w h => (List.mem_cons.mp h).elim (fun e => ha w (List.mem_cons.mpr (Or.inl e))) (fun h => (List.mem_append.mp h).elim (fun h => ha w (List.mem_cons.mpr (Or.inr h))) (hb w))
theorem goodIn_sub {big ws : List Cond} (hm : ∀ w ∈ ws, w ∈ big) (h : ws.all goodWord = true) : GoodIn big ws := fun w hw => ⟨hm w hw, good_of_word (List.all_eq_true.mp h w hw)⟩
/-! ===== END ===== -/

/-! ===== BEGIN exceptions that leave a method, and their catching by the caller (launches without stack traces) ===== -/
section VXA
/-! The laws vx_back, vx_callV, vx_callS, vx_callSW, vx_throw0, vx_throwS follow proofs of the library, with one case more: JvmDerived/Free/Laws.lean (Back.of_free), Shelf42/LK1.lean (callV, callS), Shelf/KitTraced.lean (throwNew0V, throwNewS). -/
/-- where a method has thrown q: the class by its name, the cell, what was written, the world -/
def vx_T (XC : String → State → State → Prop) (st : State) (q : Addr) (t : State) (mc ms : Nat) (free : Addr → Prop) : Prop :=
  ∃ (E : String) (ce : Cell) (L : List Loc), XC E st t ∧ t.heap[q]? = some ce ∧ ce.vm = .none ∧ st.vm.findClass E = some ce.cls ∧ st.WarmedH t.vm ∧ st.sameButNew ({ t with vm := st.vm } : State) L mc ms ∧ ∀ z ∈ L, free z.base
def vx_Q (Qc : Array Value → State → Outcome → State → Prop) (XC : String → State → State → Prop) (mc ms : Nat) (free : Addr → Prop) : Array Value → State → Outcome → State → Prop := fun a st o t =>
  (Qc a st o t ∧ ∃ L, FrameEnd st o t L mc ms ∧ ∀ q ∈ L, free q.base) ∨ ∃ q, o = .threw q ∧ vx_T XC st q t mc ms free
/-- a callee that returns or throws -/
def vx_Met (l : Launch) (y : MethodName) (ws : List Cond) (rm : Room) (Pc : Array Value → State → Prop) (Qc : Array Value → State → Outcome → State → Prop) (XC : String → State → State → Prop) (mc ms : Nat) (free : Addr → Prop) : Prop :=
  MetFree l y (headSpec ws rm) Pc (fun _ _ _ _ _ => True) (vx_Q Qc XC mc ms free)
def vx_Post (XC : String → State → State → Prop) (mc ms : Nat) (free : Addr → Prop) : Pt → Array Value → Addr → Pt → Prop := fun A a q B =>
  ∃ (g : JFrame) (mk : MethodId) (t : State) (L : List Loc) (E : String) (ce : Cell), B.U.heap = t.heap ∧ B.U.vm = t.vm ∧ XC E (A.U.calling g mk a) t ∧ t.heap[q]? = some ce ∧ ce.vm = .none ∧ A.U.vm.findClass E = some ce.cls ∧ B.locs = A.locs ++ L ∧ (∀ z ∈ L, free z.base) ∧ B.cells = A.cells + mc ∧ B.slots = A.slots + ms
def vx_Back (l : Launch) (R : Room) (p : Program) (e : Env) (below : List Frame) (s : State) (sargs : Array Value) (y : MethodName) (len W9 : Nat)
    (Pre : Pt → Array Value → Prop) (Post : Pt → Array Value → Option Value → Pt → Prop) (PostX : Pt → Array Value → Addr → Pt → Prop) : Prop :=
  ∀ (m : MethodId) (meth : Method) (c : Code) (A : Pt) (g : JFrame) (ig : Instr) (mk : MethodId) (a : Array Value),
    Stand p l e R s m sargs below meth c A.U A.locs A.cells A.slots → g.method = m → g.locals.size = c.maxLocals → decode c.code g.pc = .ok (ig, len) →
    2 * g.monitorRoom + (g.stack.map fun v => v.category).sum ≤ W9 → A.U.methodNamed? y = some mk → Pre A a →
    (∃ (v : Option Value) (B : Pt), Stand p l e R s m sargs below meth c B.U B.locs B.cells B.slots ∧ Post A a v B ∧
      Steps p.tables e below (doInvoke e (A.U.setTop g) [] mk a).1 (B.U.setTop { g with pc := g.pc + len, stack := v.toList ++ g.stack })) ∨
    (∃ (q : Addr) (B : Pt), Stand p l e R s m sargs below meth c B.U B.locs B.cells B.slots ∧ PostX A a q B ∧
      Steps p.tables e below (doInvoke e (A.U.setTop g) [] mk a).1 ((B.U.setTop g).pushFrame (.throwing q)))
section Payer
variable {l : Launch} {R : Room} {p : Program} {e : Env} {below : List Frame} {s : State} {sargs : Array Value} {y : MethodName} {len W9 : Nat}
theorem vx_back {ws : List Cond} {rm : Room} {Pc : Array Value → State → Prop} {Qc : Array Value → State → Outcome → State → Prop} {XC : String → State → State → Prop} {mc ms : Nat} {free : Addr → Prop} {bytes : ByteArray} {maxL : Nat} {ret : Option FieldType}
    (hM : vx_Met l y ws rm Pc Qc XC mc ms free) (hblind : FrameBlind Pc) (hrc : rm.cells = mc) (hrs : rm.slots = ms)
    (hframes : rm.frames + 1 ≤ R.frames) (hlocals : W9 + (maxL + 11) + rm.locals ≤ R.locals)
    (hws : ∀ w ∈ ws, ∀ a' U, s.WarmedH U.vm → w.before a' U = true) (hcode : Cond.code y bytes maxL ret ∈ ws) (hinit : ∀ a' U, s.WarmedH U.vm → (Cond.initialized y.cls).before a' U = true) :
    vx_Back l R p e below s sargs y len W9 (PreOf R mc ms Pc) (PostOf Qc mc ms free) (vx_Post XC mc ms free) := by
  intro m meth c A g ig mk a X hg hsize hdg hW hn hp
  have h1 : (headSpec ws rm).pre.before a A.U = true := atoms_intro fun w hw => hws w hw _ _ X.warmed
  have h2 : (Cond.code y bytes maxL ret).before a A.U = true := hws _ hcode _ _ X.warmed
  have h3 : (Cond.initialized y.cls).before a A.U = true := hinit _ _ X.warmed
  have h4 : A.cells + (headSpec ws rm).room.cells ≤ R.cells := by rw [show (headSpec ws rm).room.cells = mc from hrc]; exact hp.1
  have h5 : A.slots + (headSpec ws rm).room.slots ≤ R.slots := by rw [show (headSpec ws rm).room.slots = ms from hrs]; exact hp.2.1
  have hPc : Pc a (A.U.calling g mk a) := hblind _ _ _ _ hp.2.2
  obtain ⟨U, Ls, c0, s0⟩ := A
  dsimp only [Pt.U, Pt.locs, Pt.cells, Pt.slots] at h1 h2 h3 h4 h5 X hn hPc ⊢
  obtain ⟨methY, cY, hmY, hcY, -, hlY, -, -, -, -⟩ := Cond.code_spec hn h2
  obtain ⟨kY, hkY, -⟩ := className_of_methodNamed hn
  have hinitY : kY.init = .initialized := Cond.initialized_spec (findClass_of_methodNamed hn) hkY h3
  have h : At U g.method c below := by rw [hg]; exact X.here
  have hlocals9 : W9 + (maxL + 11) + (headSpec ws rm).room.locals ≤ R.locals := hlocals
  have happ : (headSpec ws rm).appliesLoose y e.platform (U.calling g mk a) = true :=
    Spec.appliesLoose_calling (g := g) h hdg hn hkY hinitY
      (X.room_calling (g := g) (R' := (headSpec ws rm).room) hsize hmY hcY hframes (by rw [hlY]; omega) h4 h5) h1
  obtain ⟨mid, hmid⟩ := h.above
  have hfr : (U.setTop g).frames = (.java g :: mid) ++ below := by rw [State.frames_setTop' g h.top, hmid]; rfl
  obtain ⟨o, s₂, hsteps, -, hend, hq⟩ := Steps.callFree hM p X.admits X.cas X.clock (acts := []) hfr happ hPc trivial
  have hq' : vx_Q Qc XC mc ms free a (U.calling g mk a) o s₂ := hq
  rw [State.frames_setTop' g h.top] at hend
  obtain ⟨g₀, hg0⟩ := Option.isSome_iff_exists.mp h.top
  obtain ⟨r, hr⟩ := State.topJava?_eq_some.mp hg0
  have hr' : (({ U with heap := s₂.heap, slotsUsed := s₂.slotsUsed } : State).setVm s₂.vm).frames = .java g₀ :: r := hr
  rcases hq' with ⟨hqc, L, hfe, hL⟩ | ⟨q, rfl, E, ce, L, hx, hce, hcv, hcl, hW₂, hsm, hL⟩
  · obtain ⟨⟨v, rfl⟩, hW₂, e2, q2, q3, q4, q5, q6⟩ := id hfe
    have e3 : s₂ = ({ (U.calling g mk a).setFrames s₂.frames with heap := s₂.heap, slotsUsed := s₂.slotsUsed } : State).setVm s₂.vm := by
      have : s₂ = ({ s₂ with vm := (U.calling g mk a).vm } : State).setVm s₂.vm := rfl
      rw [e2] at this
      exact this
    obtain ⟨c₂, i₂, len₂, hc₂, hd₂, hf₂⟩ := hend
    have hW' : U.WarmedH s₂.vm := hW₂
    have hcc : c₂ = c := by
      have h1 : s₂.code? g.method = U.code? g.method := by
        rw [State.code?_eq, State.code?_eq, hW'.alike.method?]
      exact Option.some.inj (hc₂.symm.trans (h1.trans h.code))
    subst hcc
    have hlen : len₂ = len := by rw [hdg] at hd₂; cases hd₂; rfl
    subst hlen
    have hs₂ : s₂ = (({ U with heap := s₂.heap, slotsUsed := s₂.slotsUsed } : State).setVm s₂.vm).setTop { g with pc := g.pc + len₂, stack := v.toList ++ g.stack } := by
      refine e3.trans ?_
      rw [hf₂, State.calling_eq h.top, State.setFrames_setFrames, State.setTop_of_frames _ hr', hr]
      rfl
    have hsame : U.sameButNew ({ U with heap := s₂.heap, slotsUsed := s₂.slotsUsed } : State) L mc ms := by
      refine ⟨?_, q2, q3, q4, q5, q6⟩
      obtain ⟨t, ht, -⟩ := State.frames_cons hr
      show ({ U with heap := s₂.heap, slotsUsed := s₂.slotsUsed } : State) = { U.setFrames U.frames with heap := s₂.heap, slotsUsed := s₂.slotsUsed }
      rw [State.setFrames_self ht]
    subst hg
    refine Or.inl ⟨v, ⟨(({ U with heap := s₂.heap, slotsUsed := s₂.slotsUsed } : State).setVm s₂.vm), Ls ++ L, c0 + mc, s0 + ms⟩,
      ⟨X.admits, X.cas, X.clock, X.frames, X.room, X.hears, X.method, X.code, (X.here.setHeapUsed s₂.heap s₂.slotsUsed).setVm hW'.alike, X.tail, State.WarmedH.trans X.warmed hW', X.limits, X.bytes, X.same.trans (hsame.setVm s.vm)⟩,
      ⟨g, mk, s₂, L, rfl, rfl, hqc, rfl, hL, rfl, rfl⟩, ?_⟩
    show Steps p.tables e below _ ((({ U with heap := s₂.heap, slotsUsed := s₂.slotsUsed } : State).setVm s₂.vm).setTop { g with pc := g.pc + len₂, stack := v.toList ++ g.stack })
    rw [← hs₂]
    exact hsteps
  · obtain ⟨e2, q2, q3, q4, q5, q6⟩ := id hsm
    have e3 : s₂ = ({ (U.calling g mk a).setFrames s₂.frames with heap := s₂.heap, slotsUsed := s₂.slotsUsed } : State).setVm s₂.vm := by
      have : s₂ = ({ s₂ with vm := (U.calling g mk a).vm } : State).setVm s₂.vm := rfl
      rw [e2] at this
      exact this
    have hf₂ : s₂.frames = .throwing q :: .java g :: U.frames.tail := hend
    have hW' : U.WarmedH s₂.vm := hW₂
    have hs₂ : s₂ = ((({ U with heap := s₂.heap, slotsUsed := s₂.slotsUsed } : State).setVm s₂.vm).setTop g).pushFrame (.throwing q) := by
      refine e3.trans ?_
      rw [hf₂, State.calling_eq h.top, State.setFrames_setFrames, State.pushFrame, State.frames_setTop _ hr', State.setTop_of_frames _ hr', State.setFrames_setFrames, hr]
      rfl
    have hsame : U.sameButNew ({ U with heap := s₂.heap, slotsUsed := s₂.slotsUsed } : State) L mc ms := by
      refine ⟨?_, q2, q3, q4, q5, q6⟩
      obtain ⟨t, ht, -⟩ := State.frames_cons hr
      show ({ U with heap := s₂.heap, slotsUsed := s₂.slotsUsed } : State) = { U.setFrames U.frames with heap := s₂.heap, slotsUsed := s₂.slotsUsed }
      rw [State.setFrames_self ht]
    subst hg
    refine Or.inr ⟨q, ⟨(({ U with heap := s₂.heap, slotsUsed := s₂.slotsUsed } : State).setVm s₂.vm), Ls ++ L, c0 + mc, s0 + ms⟩,
      ⟨X.admits, X.cas, X.clock, X.frames, X.room, X.hears, X.method, X.code, (X.here.setHeapUsed s₂.heap s₂.slotsUsed).setVm hW'.alike, X.tail, State.WarmedH.trans X.warmed hW', X.limits, X.bytes, X.same.trans (hsame.setVm s.vm)⟩,
      ⟨g, mk, s₂, L, E, ce, rfl, rfl, hx, hce, hcv, hcl, rfl, hL, rfl, rfl⟩, ?_⟩
    show Steps p.tables e below _ (((({ U with heap := s₂.heap, slotsUsed := s₂.slotsUsed } : State).setVm s₂.vm).setTop g).pushFrame (.throwing q))
    rw [← hs₂]
    exact hsteps
end Payer
section Calls
variable {p : Program} {l : Launch} {e : Env} {R : Room} {s : State} {m : MethodId} {args : Array Value} {below : List Frame} {meth : Method} {c : Code} {T : State} {locs : List Loc} {cells slots : Nat}
theorem vx_callV (X : Stand p l e R s m args below meth c T locs cells slots) (hexec : p.tables.exec = Jvm.exec) {own C : String} {index : Nat} {y : MethodName} {bytes : ByteArray} {maxL : Nat} {ret : Option FieldType}
    (hown : s.vm.findClass own = some m.cls) (hlink : (Cond.methodLink own index y).before args s = true) (hinst : (Cond.instanceMethod y).before args s = true) (hsel : (Cond.selects C y y).before args s = true)
    (hcode : (Cond.code y bytes maxL ret).before args s = true) (hy : y.cls ≠ "java/lang/invoke/MethodHandle" ∧ y.cls ≠ "java/lang/invoke/VarHandle")
    {W9 : Nat} {Pre : Pt → Array Value → Prop} {Post : Pt → Array Value → Option Value → Pt → Prop} {PostX : Pt → Array Value → Addr → Pt → Prop} (hK : vx_Back l R p e below s args y 3 W9 Pre Post PostX)
    {b : Addr} {cellB : Cell} (hcell : T.heap[b]? = some cellB) (hobj : cellB.vm.isStatics = false) (hcls : s.vm.findClass C = some cellB.cls)
    {g : JFrame} (hg : g.method = m) (hsize : g.locals.size = c.maxLocals) {argsL rest : List Value} (hlen : ∀ sig, parseMethodDescriptor y.desc = some sig → argsL.length = sig.parameters.length)
    (hstack : g.stack = argsL.reverse ++ .ref b :: rest) (hW : 2 * g.monitorRoom + (rest.map fun v => v.category).sum ≤ W9) (hdg : decode c.code g.pc = .ok (.invokevirtual index, 3))
    (hpre : ∀ vm₁, s.WarmedH vm₁ → Pre ⟨T.setVm vm₁, locs, cells, slots⟩ (Value.ref b :: argsL).toArray) :
    (∃ (v : Option Value) (vm₁ : Vm) (B : Pt), s.WarmedH vm₁ ∧ Stand p l e R s m args below meth c B.U B.locs B.cells B.slots ∧ Post ⟨T.setVm vm₁, locs, cells, slots⟩ (Value.ref b :: argsL).toArray v B ∧
      ∀ target, Steps p.tables e below (B.U.setTop { g with pc := g.pc + 3, stack := v.toList ++ rest }) target → Steps p.tables e below (T.setTop g) target) ∨
    (∃ (q : Addr) (vm₁ : Vm) (B : Pt), s.WarmedH vm₁ ∧ Stand p l e R s m args below meth c B.U B.locs B.cells B.slots ∧ PostX ⟨T.setVm vm₁, locs, cells, slots⟩ (Value.ref b :: argsL).toArray q B ∧
      Steps p.tables e below (T.setTop g) ((B.U.setTop { g with stack := rest }).pushFrame (.throwing q))) := by
  obtain ⟨mk, methM, hnamed, hmethM, hstM, habM⟩ := Cond.instanceMethod_spec hinst
  obtain ⟨methM', cM, hmethM', -, -, -, -, -, -, hsigM⟩ := Cond.code_spec hnamed hcode
  cases hmethM.symm.trans hmethM'
  obtain ⟨c2, r2, m2, q1, q2, q3, q4, kP, hkP, hkPi⟩ := Cond.selects_spec hsel
  cases hcls.symm.trans q1
  cases (State.methodFound?_of_named hnamed hy).symm.trans q2
  cases hnamed.symm.trans q3
  have hselP : selectMethod e.platform s.vm cellB.cls mk = .method mk := by rw [Launch.admits_selectMethod X.admits]; exact q4
  obtain ⟨vm₁, X₁, hstep₁⟩ := X.invokevirtual hexec hown hlink hnamed hmethM hstM hkP hkPi hy (a := b) (cell := cellB) hcell
    (fun z h => by rw [h] at hobj; cases hobj) hselP hmethM habM hkP hkPi (g := g) hg (argsL := argsL) (rest := rest) (hlen _ hsigM) hstack hdg
  rcases hK m meth c ⟨T.setVm vm₁, locs, cells, slots⟩ { g with stack := rest } (.invokevirtual index) mk (Value.ref b :: argsL).toArray X₁ hg hsize hdg hW (X₁.named hnamed) (hpre vm₁ X₁.warmed) with ⟨v, B, X', hpost, hsteps⟩ | ⟨q, B, X', hpost, hsteps⟩
  · exact Or.inl ⟨v, vm₁, B, X₁.warmed, X', hpost, fun target h => hstep₁ _ fun acts => by rw [doInvoke_state]; exact hsteps.trans h⟩
  · exact Or.inr ⟨q, vm₁, B, X₁.warmed, X', hpost, hstep₁ _ fun acts => by rw [doInvoke_state]; exact hsteps⟩
theorem vx_callS (X : Stand p l e R s m args below meth c T locs cells slots) (hexec : p.tables.exec = Jvm.exec) {own : String} {index : Nat} {y : MethodName} {bytes : ByteArray} {maxL : Nat} {ret : Option FieldType}
    (hown : s.vm.findClass own = some m.cls) (hlink : (Cond.methodLink own index y).before args s = true) (hstat : (Cond.static y).before args s = true) (hinit : (Cond.initialized y.cls).before args s = true)
    (hcode : (Cond.code y bytes maxL ret).before args s = true) (hy : y.cls ≠ "java/lang/invoke/MethodHandle" ∧ y.cls ≠ "java/lang/invoke/VarHandle")
    {W9 : Nat} {Pre : Pt → Array Value → Prop} {Post : Pt → Array Value → Option Value → Pt → Prop} {PostX : Pt → Array Value → Addr → Pt → Prop} (hK : vx_Back l R p e below s args y 3 W9 Pre Post PostX)
    {g : JFrame} (hg : g.method = m) (hsize : g.locals.size = c.maxLocals) {argsL rest : List Value} (hlen : ∀ sig, parseMethodDescriptor y.desc = some sig → argsL.length = sig.parameters.length)
    (hstack : g.stack = argsL.reverse ++ rest) (hW : 2 * g.monitorRoom + (rest.map fun v => v.category).sum ≤ W9) (hdg : decode c.code g.pc = .ok (.invokestatic index, 3))
    (hpre : ∀ vm₁, s.WarmedH vm₁ → Pre ⟨T.setVm vm₁, locs, cells, slots⟩ argsL.toArray) :
    (∃ (v : Option Value) (vm₁ : Vm) (B : Pt), s.WarmedH vm₁ ∧ Stand p l e R s m args below meth c B.U B.locs B.cells B.slots ∧ Post ⟨T.setVm vm₁, locs, cells, slots⟩ argsL.toArray v B ∧
      ∀ target, Steps p.tables e below (B.U.setTop { g with pc := g.pc + 3, stack := v.toList ++ rest }) target → Steps p.tables e below (T.setTop g) target) ∨
    (∃ (q : Addr) (vm₁ : Vm) (B : Pt), s.WarmedH vm₁ ∧ Stand p l e R s m args below meth c B.U B.locs B.cells B.slots ∧ PostX ⟨T.setVm vm₁, locs, cells, slots⟩ argsL.toArray q B ∧
      Steps p.tables e below (T.setTop g) ((B.U.setTop { g with stack := rest }).pushFrame (.throwing q))) := by
  obtain ⟨mk, hnamed⟩ := Cond.code_named hcode
  obtain ⟨methM, cM, hmethM, -, -, -, -, -, -, hsigM⟩ := Cond.code_spec hnamed hcode
  have hstatic : methM.isStatic = true := Cond.static_spec hnamed hmethM hstat
  obtain ⟨kP, hkP, -⟩ := className_of_methodNamed hnamed
  have hinitP : kP.init = .initialized := Cond.initialized_spec (findClass_of_methodNamed hnamed) hkP hinit
  obtain ⟨vm₁, X₁, hstep₁⟩ := X.invokestatic hexec hown hlink hnamed hmethM hstatic hkP hinitP hy (g := g) hg (argsL := argsL) (rest := rest) (hlen _ hsigM) hstack hdg
  rcases hK m meth c ⟨T.setVm vm₁, locs, cells, slots⟩ { g with stack := rest } (.invokestatic index) mk argsL.toArray X₁ hg hsize hdg hW (X₁.named hnamed) (hpre vm₁ X₁.warmed) with ⟨v, B, X', hpost, hsteps⟩ | ⟨q, B, X', hpost, hsteps⟩
  · exact Or.inl ⟨v, vm₁, B, X₁.warmed, X', hpost, fun target h => hstep₁ _ fun acts => by rw [doInvoke_state]; exact hsteps.trans h⟩
  · exact Or.inr ⟨q, vm₁, B, X₁.warmed, X', hpost, hstep₁ _ fun acts => by rw [doInvoke_state]; exact hsteps⟩
end Calls
theorem vx_cls {s : State} {T : State} {vm₁ : Vm} {E : String} {k : ClassId} (hW : s.WarmedH vm₁) (h : (T.setVm vm₁).vm.findClass E = some k) : s.vm.findClass E = some k := by
  have h1 : vm₁.findClass E = some k := h
  rw [hW.alike.findClass] at h1
  exact h1
/-- the method's frame g, with q thrown over it -/
def vx_W (p : Program) (l : Launch) (e : Env) (R : Room) (s : State) (m : MethodId) (args : Array Value) (below : List Frame) (meth : Method) (c : Code) (H : Heap) (locs : List Loc) (cells slots : Nat) (Q : State → Prop) (g : JFrame) (q : Addr) : Prop :=
  ∀ T : State, T.heap = H → Stand p l e R s m args below meth c T locs cells slots → ∃ t, Steps p.tables e below ((T.setTop g).pushFrame (.throwing q)) t ∧ Q t
def vx_Run (p : Program) (l : Launch) (e : Env) (R : Room) (s : State) (m : MethodId) (args : Array Value) (below : List Frame) (meth : Method) (c : Code) (H : Heap) (locs : List Loc) (cells slots mc ms : Nat) (g : JFrame) (rest : List Value) (Qa : State → Outcome → State → Prop) (XC : String → State → State → Prop) (free : Addr → Prop) : Prop :=
  ∀ T : State, T.heap = H → Stand p l e R s m args below meth c T locs cells slots →
    (∃ (v : Option Value) (st₀ t T' : State) (L : List Loc), st₀.heap = H ∧ Stand p l e R s m args below meth c T' (locs ++ L) (cells + mc) (slots + ms) ∧ (∀ q ∈ L, free q.base) ∧ T'.heap = t.heap ∧ T'.vm = t.vm ∧ Qa st₀ (.returned v) t ∧
      Goes p e below T g T' { g with pc := g.pc + 3, stack := v.toList ++ rest }) ∨
    (∃ (q : Addr) (st₀ t T' : State) (L : List Loc) (E : String) (ce : Cell), st₀.heap = H ∧ Stand p l e R s m args below meth c T' (locs ++ L) (cells + mc) (slots + ms) ∧ (∀ z ∈ L, free z.base) ∧ T'.heap = t.heap ∧ T'.vm = t.vm ∧ XC E st₀ t ∧ t.heap[q]? = some ce ∧ ce.vm = .none ∧ s.vm.findClass E = some ce.cls ∧
      Steps p.tables e below (T.setTop g) ((T'.setTop { g with stack := rest }).pushFrame (.throwing q)))
def vx_X {S : Type} (px : S → Prop) (B : String → S → State → Prop) (A : Nat → Prop) : String → State → State → Prop := fun E st t => ∃ u : S, px u ∧ B E u t ∧ va_F A st t
section Runs
variable {p : Program} {l : Launch} {e : Env} {R : Room} {s : State} {m : MethodId} {args : Array Value} {below : List Frame} {meth : Method} {c : Code} {H : Heap} {locs : List Loc} {cells slots : Nat}
variable {y : MethodName} {bytes cc : ByteArray} {maxL nL mc ms n index : Nat} {ret : Option FieldType} {ws : List Cond} {rm : Room} {Pc : Array Value → State → Prop} {Qc : Array Value → State → Outcome → State → Prop} {XC : String → State → State → Prop} {free : Addr → Prop} {Ts : List Cond} {own C : String} {b : Addr} {As rest : List Value} {g : JFrame}
theorem vx_callBack (cb : CallB R s args own index y bytes maxL ret ws rm mc ms n) (hM : vx_Met l y ws rm Pc Qc XC mc ms free) (hbl : FrameBlind Pc) : vx_Back l R p e below s args y 3 8 (PreOf R mc ms Pc) (PostOf Qc mc ms free) (vx_Post XC mc ms free) := by
  obtain ⟨hrc, hrs, hfr, hlo, hws, hcw, -, hini, -⟩ := cb
  exact vx_back (bytes := bytes) (maxL := maxL) (ret := ret) hM hbl hrc hrs hfr hlo hws hcw (fun a' U hW => word_at hW (Or.inl (by first | rfl | simp [Cond.onTables, Cond.keeps, Cond.steady])) hini)
theorem vx_runV (S : CallFix p m c cc nL s args Ts own) (hM : vx_Met l y ws rm Pc Qc XC mc ms free) (cw : CallW R s args own C index y bytes maxL ret ws rm mc ms n) (hp : PreV s H C b Pc As)
    (hg : g.method = m) (hn : As.length = n) (hsize : g.locals.size = nL) (hstack : g.stack = As.reverse ++ .ref b :: rest) (hW : 2 * g.monitorRoom + (rest.map fun v => v.category).sum ≤ 8) (hdg : decode cc g.pc = .ok (.invokevirtual index, 3)) (hf : cells + mc ≤ R.cells ∧ slots + ms ≤ R.slots) :
    vx_Run p l e R s m args below meth c H locs cells slots mc ms g rest (Qc (Value.ref b :: As).toArray) XC free := by
  have hK : vx_Back l R p e below s args y 3 8 (PreOf R mc ms Pc) (PostOf Qc mc ms free) (vx_Post XC mc ms free) := vx_callBack cw.1 hM hp.1
  obtain ⟨⟨-, -, -, -, -, -, hcode, -, hy, hlen, hl⟩, hin, hse⟩ := cw
  obtain ⟨hx, hb, hml, ho, -⟩ := S
  obtain ⟨-, ⟨cellB, hcB, hoB, hclB⟩, hPc⟩ := hp
  intro T hT X
  rcases vx_callV X hx (C := C) (bytes := bytes) (maxL := maxL) (ret := ret) ho hl hin hse hcode hy hK (by rw [hT]; exact hcB) hoB hclB hg (hsize.trans hml.symm) (argsL := As) (rest := rest) (fun sig h => hn.trans (hlen sig h)) hstack hW (by rw [hb]; exact hdg)
    (fun vm₁ hW₁ => ⟨hf.1, hf.2, hPc (T.setVm vm₁) hT hW₁⟩) with ⟨v, vm₁, ⟨U', l2, c2, s2⟩, hW₁, X', ⟨g', mk, t, L, e1, e2, hq, h1, hL, h2, h3⟩, st⟩ | ⟨q, vm₁, ⟨U', l2, c2, s2⟩, hW₁, X', ⟨g', mk, t, L, E, ce, e1, e2, hq, hce, hcv, hcl, h1, hL, h2, h3⟩, st⟩
  · dsimp only [Pt.U, Pt.locs, Pt.cells, Pt.slots] at X' e1 e2 h1 h2 h3 st
    subst h1; subst h2; subst h3
    exact Or.inl ⟨v, (T.setVm vm₁).calling g' mk (Value.ref b :: As).toArray, t, U', L, hT, X', hL, e1, e2, hq, st⟩
  · dsimp only [Pt.U, Pt.locs, Pt.cells, Pt.slots] at X' e1 e2 h1 h2 h3 st hcl
    subst h1; subst h2; subst h3
    exact Or.inr ⟨q, (T.setVm vm₁).calling g' mk (Value.ref b :: As).toArray, t, U', L, E, ce, hT, X', hL, e1, e2, hq, hce, hcv, vx_cls hW₁ hcl, st⟩
theorem vx_runS (S : CallFix p m c cc nL s args Ts own) (hM : vx_Met l y ws rm Pc Qc XC mc ms free) (cw : CallB R s args own index y bytes maxL ret ws rm mc ms n ∧ (Cond.static y).before args s = true) (hp : PreS s H Pc As)
    (hg : g.method = m) (hn : As.length = n) (hsize : g.locals.size = nL) (hstack : g.stack = As.reverse ++ rest) (hW : 2 * g.monitorRoom + (rest.map fun v => v.category).sum ≤ 8) (hdg : decode cc g.pc = .ok (.invokestatic index, 3)) (hf : cells + mc ≤ R.cells ∧ slots + ms ≤ R.slots) :
    vx_Run p l e R s m args below meth c H locs cells slots mc ms g rest (Qc As.toArray) XC free := by
  have hK : vx_Back l R p e below s args y 3 8 (PreOf R mc ms Pc) (PostOf Qc mc ms free) (vx_Post XC mc ms free) := vx_callBack cw.1 hM hp.1
  obtain ⟨⟨-, -, -, -, -, -, hcode, hini, hy, hlen, hl⟩, hstt⟩ := cw
  obtain ⟨hx, hb, hml, ho, -⟩ := S
  intro T hT X
  rcases vx_callS X hx (bytes := bytes) (maxL := maxL) (ret := ret) ho hl hstt hini hcode hy hK hg (hsize.trans hml.symm) (argsL := As) (rest := rest) (fun sig h => hn.trans (hlen sig h)) hstack hW (by rw [hb]; exact hdg)
    (fun vm₁ hW₁ => ⟨hf.1, hf.2, hp.2 (T.setVm vm₁) hT hW₁⟩) with ⟨v, vm₁, ⟨U', l2, c2, s2⟩, hW₁, X', ⟨g', mk, t, L, e1, e2, hq, h1, hL, h2, h3⟩, st⟩ | ⟨q, vm₁, ⟨U', l2, c2, s2⟩, hW₁, X', ⟨g', mk, t, L, E, ce, e1, e2, hq, hce, hcv, hcl, h1, hL, h2, h3⟩, st⟩
  · dsimp only [Pt.U, Pt.locs, Pt.cells, Pt.slots] at X' e1 e2 h1 h2 h3 st
    subst h1; subst h2; subst h3
    exact Or.inl ⟨v, (T.setVm vm₁).calling g' mk As.toArray, t, U', L, hT, X', hL, e1, e2, hq, st⟩
  · dsimp only [Pt.U, Pt.locs, Pt.cells, Pt.slots] at X' e1 e2 h1 h2 h3 st hcl
    subst h1; subst h2; subst h3
    exact Or.inr ⟨q, (T.setVm vm₁).calling g' mk As.toArray, t, U', L, E, ce, hT, X', hL, e1, e2, hq, hce, hcv, vx_cls hW₁ hcl, st⟩
end Runs
section Rows
variable {p : Program} {l : Launch} {e : Env} {R : Room} {s : State} {m : MethodId} {args : Array Value} {below : List Frame} {meth : Method} {c : Code} {H : Heap} {locs : List Loc} {cells slots : Nat} {Q : State → Prop}
variable {mc ms : Nat} {free : Addr → Prop} {A0 A1 : Nat → Prop} {H0 : Heap} {a : Array Value} {pc : Nat} {ls : Array Slot} {st0 rest : List Value}
theorem vx_keep {st₀ t T' : State} {L : List Loc} (h0 : st₀.heap = H) (e1 : T'.heap = t.heap) (hS : va_S A0 H0 H locs) (hA : ∀ q, q < H.size → A1 q → A0 q) (hf : ∀ q, free q → A0 q) (hL : ∀ q ∈ L, free q.base) (hF : va_F A1 st₀ t) :
    H.size ≤ T'.heap.size ∧ (∀ q : Nat, q < H.size → ¬ A1 q → T'.heap[q]? = H[q]?) ∧ va_S A0 H0 T'.heap (locs ++ L) := by
  obtain ⟨hz, hk⟩ := hF
  rw [h0] at hz hk
  exact ⟨by rw [e1]; exact hz, fun q h1 h2 => by rw [e1]; exact hk q h1 h2,
    ⟨Nat.le_trans hS.1 (by rw [e1]; exact hz), fun q h1 h2 => by rw [e1, hk q (Nat.lt_of_lt_of_le h1 hS.1) (fun z => h2 (hA q (Nat.lt_of_lt_of_le h1 hS.1) z))]; exact hS.2.1 q h1 h2, fun q hq => by
      rcases List.mem_append.mp hq with h | h
      · exact hS.2.2 q h
      · exact hf _ (hL q h)⟩⟩
theorem vx_calli {S SX : Type} {post : Int32 → S → Prop} {px : SX → Prop} {B : S → State → Prop} {BX : String → SX → State → Prop} {AX : Nat → Prop} (hr : vx_Run p l e R s m args below meth c H locs cells slots mc ms (F0 m pc ls st0) rest (va_Qi post B A1 a) (vx_X px BX AX) free) (hS : va_S A0 H0 H locs) (hA : ∀ q, q < H.size → A1 q → A0 q) (hf : ∀ q, free q → A0 q) (hAX : ∀ q, q < H.size → AX q → A0 q)
    (kx : ∀ (E : String) (ce : Cell) (q9 : Addr) (u : SX) (t : State) (H1 : Heap) (locs1 : List Loc), t.heap = H1 → s.vm.Alike t.vm → px u → BX E u t → H.size ≤ H1.size → (∀ q : Nat, q < H.size → ¬ AX q → H1[q]? = H[q]?) → va_S A0 H0 H1 locs1 → H1[q9]? = some ce → ce.vm = .none → s.vm.findClass E = some ce.cls → vx_W p l e R s m args below meth c H1 locs1 (cells + mc) (slots + ms) Q (F0 m pc ls rest) q9)
    (kk : ∀ (r : Int32) (u : S) (t : State) (H1 : Heap) (locs1 : List Loc), t.heap = H1 → s.vm.Alike t.vm → post r u → B u t → H.size ≤ H1.size → (∀ q : Nat, q < H.size → ¬ A1 q → H1[q]? = H[q]?) → va_S A0 H0 H1 locs1 → W p l e R s m args below meth c H1 locs1 (cells + mc) (slots + ms) Q (F0 m (pc + 3) ls (.int r :: rest))) : W p l e R s m args below meth c H locs cells slots Q (F0 m pc ls st0) := by
  intro T hT X
  rcases hr T hT X with ⟨v, st₀, t, T', L, h0, X', hL, e1, e2, ⟨⟨r, u, hv, hp, hb⟩, hF⟩, st⟩ | ⟨q, st₀, t, T', L, E, ce, h0, X', hL, e1, e2, ⟨u, hp, hb, hF⟩, hce, hcv, hcl, st⟩
  · cases hv
    obtain ⟨k1, k2, k3⟩ := vx_keep h0 e1 hS hA hf hL hF
    obtain ⟨t2, a1, b1⟩ := kk r u t T'.heap (locs ++ L) e1.symm (by rw [← e2]; exact X'.warmed.alike) hp hb k1 k2 k3 T' rfl X'
    exact ⟨t2, st t2 a1, b1⟩
  · obtain ⟨k1, k2, k3⟩ := vx_keep h0 e1 hS hAX hf hL hF
    obtain ⟨t2, a1, b1⟩ := kx E ce q u t T'.heap (locs ++ L) e1.symm (by rw [← e2]; exact X'.warmed.alike) hp hb k1 k2 k3 (by rw [e1]; exact hce) hcv hcl T' rfl X'
    exact ⟨t2, st.trans a1, b1⟩
theorem vx_calll {S SX : Type} {post : Int64 → S → Prop} {px : SX → Prop} {B : S → State → Prop} {BX : String → SX → State → Prop} {AX : Nat → Prop} (hr : vx_Run p l e R s m args below meth c H locs cells slots mc ms (F0 m pc ls st0) rest (va_Ql post B A1 a) (vx_X px BX AX) free) (hS : va_S A0 H0 H locs) (hA : ∀ q, q < H.size → A1 q → A0 q) (hf : ∀ q, free q → A0 q) (hAX : ∀ q, q < H.size → AX q → A0 q)
    (kx : ∀ (E : String) (ce : Cell) (q9 : Addr) (u : SX) (t : State) (H1 : Heap) (locs1 : List Loc), t.heap = H1 → s.vm.Alike t.vm → px u → BX E u t → H.size ≤ H1.size → (∀ q : Nat, q < H.size → ¬ AX q → H1[q]? = H[q]?) → va_S A0 H0 H1 locs1 → H1[q9]? = some ce → ce.vm = .none → s.vm.findClass E = some ce.cls → vx_W p l e R s m args below meth c H1 locs1 (cells + mc) (slots + ms) Q (F0 m pc ls rest) q9)
    (kk : ∀ (r : Int64) (u : S) (t : State) (H1 : Heap) (locs1 : List Loc), t.heap = H1 → s.vm.Alike t.vm → post r u → B u t → H.size ≤ H1.size → (∀ q : Nat, q < H.size → ¬ A1 q → H1[q]? = H[q]?) → va_S A0 H0 H1 locs1 → W p l e R s m args below meth c H1 locs1 (cells + mc) (slots + ms) Q (F0 m (pc + 3) ls (.long r :: rest))) : W p l e R s m args below meth c H locs cells slots Q (F0 m pc ls st0) := by
  intro T hT X
  rcases hr T hT X with ⟨v, st₀, t, T', L, h0, X', hL, e1, e2, ⟨⟨r, u, hv, hp, hb⟩, hF⟩, st⟩ | ⟨q, st₀, t, T', L, E, ce, h0, X', hL, e1, e2, ⟨u, hp, hb, hF⟩, hce, hcv, hcl, st⟩
  · cases hv
    obtain ⟨k1, k2, k3⟩ := vx_keep h0 e1 hS hA hf hL hF
    obtain ⟨t2, a1, b1⟩ := kk r u t T'.heap (locs ++ L) e1.symm (by rw [← e2]; exact X'.warmed.alike) hp hb k1 k2 k3 T' rfl X'
    exact ⟨t2, st t2 a1, b1⟩
  · obtain ⟨k1, k2, k3⟩ := vx_keep h0 e1 hS hAX hf hL hF
    obtain ⟨t2, a1, b1⟩ := kx E ce q u t T'.heap (locs ++ L) e1.symm (by rw [← e2]; exact X'.warmed.alike) hp hb k1 k2 k3 (by rw [e1]; exact hce) hcv hcl T' rfl X'
    exact ⟨t2, st.trans a1, b1⟩
theorem vx_callf {S SX : Type} {post : UInt32 → S → Prop} {px : SX → Prop} {B : S → State → Prop} {BX : String → SX → State → Prop} {AX : Nat → Prop} (hr : vx_Run p l e R s m args below meth c H locs cells slots mc ms (F0 m pc ls st0) rest (va_Qf post B A1 a) (vx_X px BX AX) free) (hS : va_S A0 H0 H locs) (hA : ∀ q, q < H.size → A1 q → A0 q) (hf : ∀ q, free q → A0 q) (hAX : ∀ q, q < H.size → AX q → A0 q)
    (kx : ∀ (E : String) (ce : Cell) (q9 : Addr) (u : SX) (t : State) (H1 : Heap) (locs1 : List Loc), t.heap = H1 → s.vm.Alike t.vm → px u → BX E u t → H.size ≤ H1.size → (∀ q : Nat, q < H.size → ¬ AX q → H1[q]? = H[q]?) → va_S A0 H0 H1 locs1 → H1[q9]? = some ce → ce.vm = .none → s.vm.findClass E = some ce.cls → vx_W p l e R s m args below meth c H1 locs1 (cells + mc) (slots + ms) Q (F0 m pc ls rest) q9)
    (kk : ∀ (r : UInt32) (u : S) (t : State) (H1 : Heap) (locs1 : List Loc), t.heap = H1 → s.vm.Alike t.vm → post r u → B u t → H.size ≤ H1.size → (∀ q : Nat, q < H.size → ¬ A1 q → H1[q]? = H[q]?) → va_S A0 H0 H1 locs1 → W p l e R s m args below meth c H1 locs1 (cells + mc) (slots + ms) Q (F0 m (pc + 3) ls (.float r :: rest))) : W p l e R s m args below meth c H locs cells slots Q (F0 m pc ls st0) := by
  intro T hT X
  rcases hr T hT X with ⟨v, st₀, t, T', L, h0, X', hL, e1, e2, ⟨⟨r, u, hv, hp, hb⟩, hF⟩, st⟩ | ⟨q, st₀, t, T', L, E, ce, h0, X', hL, e1, e2, ⟨u, hp, hb, hF⟩, hce, hcv, hcl, st⟩
  · cases hv
    obtain ⟨k1, k2, k3⟩ := vx_keep h0 e1 hS hA hf hL hF
    obtain ⟨t2, a1, b1⟩ := kk r u t T'.heap (locs ++ L) e1.symm (by rw [← e2]; exact X'.warmed.alike) hp hb k1 k2 k3 T' rfl X'
    exact ⟨t2, st t2 a1, b1⟩
  · obtain ⟨k1, k2, k3⟩ := vx_keep h0 e1 hS hAX hf hL hF
    obtain ⟨t2, a1, b1⟩ := kx E ce q u t T'.heap (locs ++ L) e1.symm (by rw [← e2]; exact X'.warmed.alike) hp hb k1 k2 k3 (by rw [e1]; exact hce) hcv hcl T' rfl X'
    exact ⟨t2, st.trans a1, b1⟩
theorem vx_calld {S SX : Type} {post : UInt64 → S → Prop} {px : SX → Prop} {B : S → State → Prop} {BX : String → SX → State → Prop} {AX : Nat → Prop} (hr : vx_Run p l e R s m args below meth c H locs cells slots mc ms (F0 m pc ls st0) rest (va_Qd post B A1 a) (vx_X px BX AX) free) (hS : va_S A0 H0 H locs) (hA : ∀ q, q < H.size → A1 q → A0 q) (hf : ∀ q, free q → A0 q) (hAX : ∀ q, q < H.size → AX q → A0 q)
    (kx : ∀ (E : String) (ce : Cell) (q9 : Addr) (u : SX) (t : State) (H1 : Heap) (locs1 : List Loc), t.heap = H1 → s.vm.Alike t.vm → px u → BX E u t → H.size ≤ H1.size → (∀ q : Nat, q < H.size → ¬ AX q → H1[q]? = H[q]?) → va_S A0 H0 H1 locs1 → H1[q9]? = some ce → ce.vm = .none → s.vm.findClass E = some ce.cls → vx_W p l e R s m args below meth c H1 locs1 (cells + mc) (slots + ms) Q (F0 m pc ls rest) q9)
    (kk : ∀ (r : UInt64) (u : S) (t : State) (H1 : Heap) (locs1 : List Loc), t.heap = H1 → s.vm.Alike t.vm → post r u → B u t → H.size ≤ H1.size → (∀ q : Nat, q < H.size → ¬ A1 q → H1[q]? = H[q]?) → va_S A0 H0 H1 locs1 → W p l e R s m args below meth c H1 locs1 (cells + mc) (slots + ms) Q (F0 m (pc + 3) ls (.double r :: rest))) : W p l e R s m args below meth c H locs cells slots Q (F0 m pc ls st0) := by
  intro T hT X
  rcases hr T hT X with ⟨v, st₀, t, T', L, h0, X', hL, e1, e2, ⟨⟨r, u, hv, hp, hb⟩, hF⟩, st⟩ | ⟨q, st₀, t, T', L, E, ce, h0, X', hL, e1, e2, ⟨u, hp, hb, hF⟩, hce, hcv, hcl, st⟩
  · cases hv
    obtain ⟨k1, k2, k3⟩ := vx_keep h0 e1 hS hA hf hL hF
    obtain ⟨t2, a1, b1⟩ := kk r u t T'.heap (locs ++ L) e1.symm (by rw [← e2]; exact X'.warmed.alike) hp hb k1 k2 k3 T' rfl X'
    exact ⟨t2, st t2 a1, b1⟩
  · obtain ⟨k1, k2, k3⟩ := vx_keep h0 e1 hS hAX hf hL hF
    obtain ⟨t2, a1, b1⟩ := kx E ce q u t T'.heap (locs ++ L) e1.symm (by rw [← e2]; exact X'.warmed.alike) hp hb k1 k2 k3 (by rw [e1]; exact hce) hcv hcl T' rfl X'
    exact ⟨t2, st.trans a1, b1⟩
theorem vx_callv {S SX : Type} {post : S → Prop} {px : SX → Prop} {B : S → State → Prop} {BX : String → SX → State → Prop} {AX : Nat → Prop} (hr : vx_Run p l e R s m args below meth c H locs cells slots mc ms (F0 m pc ls st0) rest (va_Qv post B A1 a) (vx_X px BX AX) free) (hS : va_S A0 H0 H locs) (hA : ∀ q, q < H.size → A1 q → A0 q) (hf : ∀ q, free q → A0 q) (hAX : ∀ q, q < H.size → AX q → A0 q)
    (kx : ∀ (E : String) (ce : Cell) (q9 : Addr) (u : SX) (t : State) (H1 : Heap) (locs1 : List Loc), t.heap = H1 → s.vm.Alike t.vm → px u → BX E u t → H.size ≤ H1.size → (∀ q : Nat, q < H.size → ¬ AX q → H1[q]? = H[q]?) → va_S A0 H0 H1 locs1 → H1[q9]? = some ce → ce.vm = .none → s.vm.findClass E = some ce.cls → vx_W p l e R s m args below meth c H1 locs1 (cells + mc) (slots + ms) Q (F0 m pc ls rest) q9)
    (kk : ∀ (u : S) (t : State) (H1 : Heap) (locs1 : List Loc), t.heap = H1 → s.vm.Alike t.vm → post u → B u t → H.size ≤ H1.size → (∀ q : Nat, q < H.size → ¬ A1 q → H1[q]? = H[q]?) → va_S A0 H0 H1 locs1 → W p l e R s m args below meth c H1 locs1 (cells + mc) (slots + ms) Q (F0 m (pc + 3) ls (rest))) : W p l e R s m args below meth c H locs cells slots Q (F0 m pc ls st0) := by
  intro T hT X
  rcases hr T hT X with ⟨v, st₀, t, T', L, h0, X', hL, e1, e2, ⟨⟨u, hv, hp, hb⟩, hF⟩, st⟩ | ⟨q, st₀, t, T', L, E, ce, h0, X', hL, e1, e2, ⟨u, hp, hb, hF⟩, hce, hcv, hcl, st⟩
  · cases hv
    obtain ⟨k1, k2, k3⟩ := vx_keep h0 e1 hS hA hf hL hF
    obtain ⟨t2, a1, b1⟩ := kk u t T'.heap (locs ++ L) e1.symm (by rw [← e2]; exact X'.warmed.alike) hp hb k1 k2 k3 T' rfl X'
    exact ⟨t2, st t2 a1, b1⟩
  · obtain ⟨k1, k2, k3⟩ := vx_keep h0 e1 hS hAX hf hL hF
    obtain ⟨t2, a1, b1⟩ := kx E ce q u t T'.heap (locs ++ L) e1.symm (by rw [← e2]; exact X'.warmed.alike) hp hb k1 k2 k3 (by rw [e1]; exact hce) hcv hcl T' rfl X'
    exact ⟨t2, st.trans a1, b1⟩
/-- caught by the row x of this method's table; the rows ahead don't take it -/
theorem vx_catch {own name : String} {E : String} {ce : Cell} {q : Addr} (hown : s.vm.findClass own = some m.cls) (pre : List ExceptionTableEntry) (x : ExceptionTableEntry) (suf : List ExceptionTableEntry) (hsplit : c.exceptionTable.toList = pre ++ x :: suf)
    (hpass : ∀ z ∈ pre, covers z pc = false ∨ (z.catchType ≠ 0 ∧ ∃ nm : String, (Cond.classLink own z.catchType nm).before args s = true ∧ va_Nc E nm s)) (hx : covers x pc = true) (h0 : x.catchType ≠ 0)
    (hlink : (Cond.classLink own x.catchType name).before args s = true) (hcast : (Cond.castable E name).before args s = true) (hcell : H[q]? = some ce) (hv : ce.vm = .none) (hcl : s.vm.findClass E = some ce.cls)
    (kk : W p l e R s m args below meth c H locs cells slots Q (F0 m x.handlerPc ls [.ref q])) : vx_W p l e R s m args below meth c H locs cells slots Q (F0 m pc ls rest) q := by
  sorry
end Rows
section Ends
variable {p : Program} {l : Launch} {e : Env} {R : Room} {s : State} {m : MethodId} {args : Array Value} {below : List Frame} {meth : Method} {c : Code} {H : Heap} {locs : List Loc} {cells slots : Nat} {Q : State → Prop}
variable {mc ms : Nat} {free : Addr → Prop} {A0 A1 : Nat → Prop} {H0 : Heap} {a : Array Value} {ls : Array Slot} {st0 rest : List Value}
variable {Qc : Array Value → State → Outcome → State → Prop} {XC : String → State → State → Prop}
/-- what a body that may throw owes at its end -/
def vx_MQ (below : List Frame) (Qc : Array Value → State → Outcome → State → Prop) (XC : String → State → State → Prop) (a : Array Value) (s : State) (mc ms : Nat) (free : Addr → Prop) : State → Prop := fun t =>
  ∃ o, t.status = .running ∧ Ended t below o ∧ vx_Q Qc XC mc ms free a s o t
theorem vx_ret {g : JFrame} {mc ms : Nat} (k : W p l e R s m args below meth c H locs cells slots (MQ below Qc args s mc ms free) g) : W p l e R s m args below meth c H locs cells slots (vx_MQ below Qc XC args s mc ms free) g := by
  intro T hT X
  obtain ⟨t, a1, o, b1, b2, b3, b4⟩ := k T hT X
  exact ⟨t, a1, o, b1, b2, Or.inl ⟨b3, b4⟩⟩
/-- not caught here: it goes on to the caller -/
theorem vx_widen {g : JFrame} {q : Addr} {k n : Nat} (h1 : cells ≤ k) (h2 : slots ≤ n) (kk : vx_W p l e R s m args below meth c H locs k n Q g q) : vx_W p l e R s m args below meth c H locs cells slots Q g q := fun T hT X => kk T hT (stand_widen X h1 h2)
theorem vx_out {pc : Nat} {E : String} {ce : Cell} {q : Addr} {mc ms : Nat} (hout : ∀ x ∈ c.exceptionTable.toList, covers x pc = false) (hlocks : meth.locks = false) (hcell : H[q]? = some ce) (hv : ce.vm = .none) (hcl : s.vm.findClass E = some ce.cls)
    (hx : ∀ t : State, t.heap = H → s.vm.Alike t.vm → XC E s t) (hf : ∀ z ∈ locs, free z.base) (hc : cells ≤ mc) (hs : slots ≤ ms) :
    vx_W p l e R s m args below meth c H locs cells slots (vx_MQ below Qc XC args s mc ms free) (F0 m pc ls rest) q := by
  intro T hT X
  obtain ⟨st1, hrun, hend, hW, hsm⟩ := X.leaveThrown q (g := F0 m pc ls rest) rfl rfl rfl hout hlocks
  have hcell9 : (T.setFrames (.throwing q :: below)).heap[q]? = some ce := by
    show T.heap[q]? = some ce
    rw [hT]; exact hcell
  exact ⟨_, st1, .threw q, hrun, hend, Or.inr ⟨q, rfl, E, ce, locs, hx _ hT hW.alike, hcell9, hv, hcl, hW, hsm.mono hc hs, hf⟩⟩
theorem vx_frame {U : State} {k n : Nat} (h : s.sameButNew ({ U with vm := s.vm } : State) locs k n) : s.heap.size ≤ U.heap.size ∧ ∀ q : Nat, q < s.heap.size → (∀ z ∈ locs, z.base ≠ q) → U.heap[q]? = s.heap[q]? := by
  obtain ⟨-, h2, -, -, -, h6⟩ := h
  refine ⟨h2, fun q hq hz => ?_⟩
  obtain ⟨c9, e1, e2, e3, e4⟩ := h6 q _ (Array.getElem?_eq_getElem hq)
  have hs : c9.slots = (s.heap[q]).slots := Array.ext_getElem? fun i => e4 i fun hm => hz _ hm rfl
  have h9 : c9 = s.heap[q] := by
    rw [hs] at e2
    exact e2
  have e5 : U.heap[q]? = some c9 := e1
  rw [e5, h9, Array.getElem?_eq_getElem hq]
/-- the words of a throw but the four that speak of the heap -/
def vx_no (w : Cond) : Bool := decide (w ≠ .isRef (.static Bundle.tN "UNASSIGNED_STACK" Bundle.steD)) && decide (w ≠ .isRef (.static Bundle.tN "SUPPRESSED_SENTINEL" Bundle.listD)) && decide (w ≠ .laysStatic Bundle.tN "UNASSIGNED_STACK" Bundle.steD) && decide (w ≠ .laysStatic Bundle.tN "SUPPRESSED_SENTINEL" Bundle.listD)
def vx_at0 (own : String) (ic : Nat) (X : String) (names : List String) : List Cond := (Bundle.ownAtoms0 own ic X names).filter vx_no
def vx_atS (own : String) (ic : Nat) (X : String) (names : List String) : List Cond := (Bundle.ownAtoms own ic X names).filter vx_no
/-- a word that the tables alone decide, or a good one -/
def vx_ot (w : Cond) : Bool := w.onTables || goodWord w
theorem vx_ot_at {args a' : Array Value} {s U : State} {w : Cond} (hW : s.WarmedH U.vm) (hvm : s.vm = U.vm) (hg : vx_ot w = true) (h : w.before args s = true) : w.before a' U = true := by
  simp only [vx_ot, Bool.or_eq_true] at hg
  rcases hg with hg | hg
  · exact va_tabs hg hvm h
  · exact word_at hW (good_of_word hg) h
/-- a list's words: the good ones out of the method's own list, the others by premises of their own -/
theorem vx_hat {args : Array Value} {s : State} {L B : List Cond} (h1 : ∀ w ∈ L.filter goodWord, w.before args s = true) (h2 : ∀ w ∈ L.filter (fun w => !goodWord w), w ∈ B) (h3 : ∀ w ∈ B, w.before args s = true) : ∀ w ∈ L, w.before args s = true := by
  intro w hw
  by_cases g : goodWord w = true
  · exact h1 w (List.mem_filter.mpr ⟨hw, g⟩)
  · refine h3 w (h2 w (List.mem_filter.mpr ⟨hw, ?_⟩))
    show (!goodWord w) = true
    cases hgw : goodWord w
    · rfl
    · exact absurd hgw g
theorem vx_c {args : Array Value} {s : State} {w : Cond} {B : List Cond} (h : w.before args s = true) (t : ∀ w ∈ B, w.before args s = true) : ∀ w' ∈ w :: B, w'.before args s = true := fun w' h' => (List.mem_cons.mp h').elim (fun e => by rw [e]; exact h) (t w')
theorem vx_n {args : Array Value} {s : State} : ∀ w ∈ ([] : List Cond), w.before args s = true := fun _ h => nomatch h
theorem vx_own {args : Array Value} {s : State} {L : List Cond} (h1 : ∀ w ∈ L.filter vx_no, w.before args s = true)
    (hU : (Cond.isRef (.static Bundle.tN "UNASSIGNED_STACK" Bundle.steD)).before args s = true) (hN : (Cond.isRef (.static Bundle.tN "SUPPRESSED_SENTINEL" Bundle.listD)).before args s = true)
    (lU : (Cond.laysStatic Bundle.tN "UNASSIGNED_STACK" Bundle.steD).before args s = true) (lN : (Cond.laysStatic Bundle.tN "SUPPRESSED_SENTINEL" Bundle.listD).before args s = true) : ∀ w ∈ L, w.before args s = true := by
  intro w hw
  by_cases e1 : w = .isRef (.static Bundle.tN "UNASSIGNED_STACK" Bundle.steD)
  · rw [e1]; exact hU
  · by_cases e2 : w = .isRef (.static Bundle.tN "SUPPRESSED_SENTINEL" Bundle.listD)
    · rw [e2]; exact hN
    · by_cases e3 : w = .laysStatic Bundle.tN "UNASSIGNED_STACK" Bundle.steD
      · rw [e3]; exact lU
      · by_cases e4 : w = .laysStatic Bundle.tN "SUPPRESSED_SENTINEL" Bundle.listD
        · rw [e4]; exact lN
        · exact h1 w (List.mem_filter.mpr ⟨hw, by unfold vx_no; rw [decide_eq_true e1, decide_eq_true e2, decide_eq_true e3, decide_eq_true e4]; rfl⟩)
/-- where a static field lies, its class's statics cell in H -/
def vx_L (C n d : String) (A : Nat → Prop) (U : State) (H : Heap) : Prop := ∃ (c : ClassId) (k : Class) (i : Nat) (f : Field) (a : Nat) (cell : Cell), U.vm.findClass C = some c ∧ U.fieldFound? C n d = some (c, k, i, f) ∧ f.isStatic = true ∧ k.statics = some a ∧ H[a]? = some cell ∧ cell.vm.isStatics = true ∧ cell.cls = c ∧ f.slot < cell.slots.size ∧ k.staticTypes[f.slot]? = some f.type ∧ ¬ A a
theorem vx_L.moved {C n d : String} {A : Nat → Prop} {u U : State} {H : Heap} (hvm : u.vm.Alike U.vm) (h : vx_L C n d A u H) : vx_L C n d A U H := by
  obtain ⟨c, k, i, f, a, cell, h1, h2, h3, h4, h5, h6, h7, h8, h9, h10⟩ := h
  obtain ⟨k', hi', he⟩ := State.fieldFound?_setVm hvm h2
  exact ⟨c, k', i, f, a, cell, by rw [hvm.findClass]; exact h1, hi', h3, by rw [he]; exact h4, h5, h6, h7, h8, by rw [he]; exact h9, h10⟩
theorem vx_L.kept {C n d : String} {A : Nat → Prop} {U : State} {H H1 : Heap} (h : vx_L C n d A U H) (hq : ∀ a : Nat, a < H.size → ¬ A a → H1[a]? = H[a]?) : vx_L C n d A U H1 := by
  obtain ⟨c, k, i, f, a, cell, h1, h2, h3, h4, h5, h6, h7, h8, h9, h10⟩ := h
  exact ⟨c, k, i, f, a, cell, h1, h2, h3, h4, by rw [hq a (Array.getElem?_eq_some_iff.mp h5).1 h10]; exact h5, h6, h7, h8, h9, h10⟩
theorem vx_L.narrow {C n d : String} {A B : Nat → Prop} {U : State} {H : Heap} (h : vx_L C n d A U H) (hAB : ∀ q, B q → A q) : vx_L C n d B U H := by
  obtain ⟨c, k, i, f, a, cell, h1, h2, h3, h4, h5, h6, h7, h8, h9, h10⟩ := h
  exact ⟨c, k, i, f, a, cell, h1, h2, h3, h4, h5, h6, h7, h8, h9, fun z => h10 (hAB _ z)⟩
theorem vx_L.word {C n d : String} {A : Nat → Prop} {s : State} {args : Array Value} (h : vx_L C n d A s s.heap) : (Cond.laysStatic C n d).before args s = true := by
  obtain ⟨c, k, i, f, a, cell, h1, h2, h3, h4, h5, h6, h7, h8, h9, -⟩ := h
  show (Cond.laysStatic C n d).holds args s none s [] = true
  exact Cond.laysStatic_of h1 h2 h3 h4 h5 h6 h7 h8 h9
/-- .. and what it holds: null or some reference -/
def vx_Zq (C n d : String) (A : Nat → Prop) (U : State) (H : Heap) : Prop := va_Zq C n d A U H ∧ vx_L C n d A U H
theorem vx_Zq.moved {C n d : String} {A : Nat → Prop} {u U : State} {H : Heap} (hvm : u.vm.Alike U.vm) (h : vx_Zq C n d A u H) : vx_Zq C n d A U H := ⟨va_Zq.moved hvm h.1, vx_L.moved hvm h.2⟩
theorem vx_Zq.kept {C n d : String} {A : Nat → Prop} {U : State} {H H1 : Heap} (h : vx_Zq C n d A U H) (hq : ∀ a : Nat, a < H.size → ¬ A a → H1[a]? = H[a]?) : vx_Zq C n d A U H1 := ⟨va_Zq.kept h.1 hq, vx_L.kept h.2 hq⟩
theorem vx_Zq.narrow {C n d : String} {A B : Nat → Prop} {U : State} {H : Heap} (h : vx_Zq C n d A U H) (hAB : ∀ q, B q → A q) : vx_Zq C n d B U H := ⟨va_Zq.narrow h.1 hAB, vx_L.narrow h.2 hAB⟩
theorem vx_Zqof {args : Array Value} {s : State} {C n d : String} {A : Nat → Prop} (hl : (Cond.laysStatic C n d).before args s = true) (hini : (Cond.initialized C).before args s = true) (h : (Cond.isRef (.static C n d)).before args s = true) (hA : ∀ a : Nat, a < s.heap.size → ¬ A a) : vx_Zq C n d A s s.heap := by
  refine ⟨va_Zqof hl hini h hA, ?_⟩
  obtain ⟨c, k, i, f, a, cell, h1, h2, h3, h4, h5, h6, h7, h8, h9⟩ := Cond.laysStatic_spec hl
  exact ⟨c, k, i, f, a, cell, h1, h2, h3, h4, h5, h6, h7, h8, h9, hA a (Array.getElem?_eq_some_iff.mp h5).1⟩
theorem vx_isRef {C n d : String} {v : Value} {A : Nat → Prop} {s : State} {args : Array Value} (h : va_Z C n d v A s s.heap) (hv : v.isRef = true) : (Cond.isRef (.static C n d)).before args s = true := by
  obtain ⟨cf, kf, fi, f, a, cell, h1, h2, h3, h4, h5, h6, h7, -⟩ := h
  have he : (Term.static C n d).eval args s none [] s = some v := by
    simp [Term.eval, State.fieldNamed?, h1, h2, h4, h5, h6, h7]
  simp only [Cond.before, Cond.holds, Cond.value, he]
  cases v <;> simp_all [Value.isRef]
theorem vx_isRefq {C n d : String} {A : Nat → Prop} {s : State} {args : Array Value} (h : va_Zq C n d A s s.heap) : (Cond.isRef (.static C n d)).before args s = true := by
  rcases h with h | ⟨t, h⟩
  · exact vx_isRef h rfl
  · exact vx_isRef h rfl
/-- the same frame, seen from here: as if the method were called anew in this heap -/
theorem vx_rebase {T : State} (X : Stand p l e R s m args below meth c T locs cells slots) {R' : Room} (hf : R'.frames ≤ R.frames) (hl : R'.locals ≤ R.locals) (hc : cells + R'.cells ≤ R.cells) (hs : slots + R'.slots ≤ R.slots) :
    Stand p l e R' ((T.setVm s.vm).setFrames (.invoking m args :: below)) m args below meth c T [] 0 0 := by
  have htop : (T.setVm s.vm).topJava?.isSome := X.here.top
  have hF : ((T.setVm s.vm).setFrames (.invoking m args :: below)).frames = .invoking m args :: below := State.frames_setFrames _ (State.cur_lt_of_top htop)
  obtain ⟨g₀, hg0⟩ := Option.isSome_iff_exists.mp htop
  obtain ⟨r, hr⟩ := State.topJava?_eq_some.mp hg0
  have hl9 : e.platform.stackLimits (T.setVm s.vm).me = e.platform.stackLimits s.me := X.limits
  have hb9 : (T.setVm s.vm).me.stackBytes = s.me.stackBytes := X.bytes
  refine ⟨X.admits, X.cas, X.clock, hF, ?_, X.hears, X.method, X.code, X.here, X.tail, X.warmed, ?_, ?_, ?_⟩
  · have h := X.room
    have hU : ((T.setVm s.vm).setFrames (.invoking m args :: below)).localsInUse = s.localsInUse := by
      rw [State.localsInUse_invoking hF (meth := meth) (c := c) X.method X.code, State.localsInUse_invoking X.frames X.method X.code]
    simp only [State.hasRoom, Bool.and_eq_true, decide_eq_true_eq] at h ⊢
    obtain ⟨⟨⟨⟨h1, h2, h3, h4, h5, h6⟩, h7⟩, h8⟩, h9⟩ := h
    rw [X.frames, List.length_cons] at h2 h3
    have q1 := X.heapSize
    have q2 := X.used
    simp only [hF, hU, List.length_cons, State.stackLimits_setFrames, State.stackBytes_setFrames, hl9, hb9]
    refine ⟨⟨⟨⟨by omega, by omega, by omega, by omega, by omega, h6⟩, ?_⟩, ?_⟩, X.book⟩
    · show T.heap.size + R'.cells ≤ e.platform.maxCells
      omega
    · show T.slotsUsed + R'.slots ≤ e.platform.maxSlots
      omega
  · rw [State.stackLimits_setFrames]; rfl
  · rw [State.stackBytes_setFrames]; rfl
  · refine ⟨?_, Nat.le_refl _, Nat.le_refl _, ?_, ?_, fun a c9 h9 => ⟨c9, h9, rfl, rfl, fun _ _ => rfl⟩⟩
    · obtain ⟨t, ht, -⟩ := State.frames_cons hr
      show T.setVm s.vm = { ((T.setVm s.vm).setFrames (.invoking m args :: below)).setFrames (T.setVm s.vm).frames with heap := T.heap, slotsUsed := T.slotsUsed }
      rw [State.setFrames_setFrames, State.setFrames_self ht]
      rfl
    · show T.slotsUsed = T.slotsUsed + ((T.heap.toList.drop T.heap.size).map (·.slots.size)).sum
      rw [List.drop_eq_nil_of_le (Nat.le_of_eq Array.length_toList)]
      rfl
    · show ((T.heap.toList.drop T.heap.size).map (·.slots.size)).sum ≤ 0
      rw [List.drop_eq_nil_of_le (Nat.le_of_eq Array.length_toList)]
      exact Nat.le_refl _
/-- 'throw new E()': new; dup; invokespecial; athrow -/
theorem vx_throw0 {cc : ByteArray} {pc : Nat} (hexec : p.tables.exec = Jvm.exec) (hb : c.code = cc) (hl : l.stackTraces = false) {own cls : String} {names : List String} {ik ic mc ms : Nat} {A : Nat → Prop}
    (hown : s.vm.findClass own = some m.cls) (hcls : Bundle.fit cls = true) (hnames : ∀ n ∈ names, Bundle.fit n = true)
    (hk : (Cond.classLink own ik cls).before args s = true) (hini : (Cond.initialized cls).before args s = true) (hat : ∀ w ∈ vx_at0 own ic cls names, w.before args s = true)
    (hgood : ∀ w ∈ Cond.classLink own ik cls :: Cond.initialized cls :: vx_at0 own ic cls names, vx_ot w = true)
    (hU : vx_Zq Bundle.tN "UNASSIGNED_STACK" Bundle.steD A s s.heap) (hN : vx_Zq Bundle.tN "SUPPRESSED_SENTINEL" Bundle.listD A s s.heap) (hS : va_S A s.heap H locs) (hsize : ls.size = c.maxLocals)
    (d0 : decode cc pc = .ok (.new ik, 3)) (d3 : decode cc (pc + 3) = .ok (.dup, 1)) (d4 : decode cc (pc + 4) = .ok (.invokespecial ic, 3)) (d7 : decode cc (pc + 7) = .ok (.athrow, 1))
    (hout : ∀ x ∈ c.exceptionTable.toList, covers x (pc + 7) = false)
    (hRframes : names.length + 3 < R.frames) (hRlocals : (rest.map fun v => v.category).sum + (13 * (names.length + 1) + 42) ≤ R.locals) (hRcells : cells + 1 ≤ R.cells) (hRslots : slots + 6 ≤ R.slots) (hlocks : meth.locks = false)
    (hx : ∀ t : State, s.vm.Alike t.vm → H.size ≤ t.heap.size → (∀ q : Nat, q < H.size → t.heap[q]? = H[q]?) → XC cls s t)
    (hf : ∀ z ∈ locs, free z.base) (hc : cells + 1 ≤ mc) (hs : slots + 6 ≤ ms) :
    W p l e R s m args below meth c H locs cells slots (vx_MQ below Qc XC args s mc ms free) (F0 m pc ls rest) := by
  intro T hT X
  have htr : e.platform.stackTraces = false := (show e.platform.stackTraces = l.stackTraces by rw [X.admits.platform]).trans hl
  have Y := vx_rebase X (R' := { frames := R.frames, locals := R.locals, cells := 1, slots := 6 }) (Nat.le_refl _) (Nat.le_refl _) hRcells hRslots
  obtain ⟨s', hA⟩ : ∃ z, z = (T.setVm s.vm).setFrames (.invoking m args :: below) := ⟨_, rfl⟩
  rw [← hA] at Y
  have hvm : s'.vm = s.vm := by rw [hA]; rfl
  have hhp : s'.heap = H := by rw [hA]; exact hT
  have hW0 : s.WarmedH s'.vm := by rw [hvm]; exact State.WarmedH.refl s
  have hat' : ∀ w ∈ vx_at0 own ic cls names, w.before args s' = true := fun w hw => vx_ot_at hW0 hvm.symm (hgood w (List.mem_cons_of_mem _ (List.mem_cons_of_mem _ hw))) (hat w hw)
  have hk' : (Cond.classLink own ik cls).before args s' = true := vx_ot_at hW0 hvm.symm (hgood _ List.mem_cons_self) hk
  have hini' : (Cond.initialized cls).before args s' = true := vx_ot_at hW0 hvm.symm (hgood _ (List.mem_cons_of_mem _ List.mem_cons_self)) hini
  have hU' : vx_Zq Bundle.tN "UNASSIGNED_STACK" Bundle.steD A s' s'.heap := by rw [hhp]; exact vx_Zq.moved hW0.alike (hU.kept hS.2.1)
  have hN' : vx_Zq Bundle.tN "SUPPRESSED_SENTINEL" Bundle.listD A s' s'.heap := by rw [hhp]; exact vx_Zq.moved hW0.alike (hN.kept hS.2.1)
  have h : ∀ w ∈ Bundle.ownAtoms0 own ic cls names, w.before args s' = true := vx_own hat' (vx_isRefq hU'.1) (vx_isRefq hN'.1) hU'.2.word hN'.2.word
  have hown' : s'.vm.findClass own = some m.cls := by rw [hvm]; exact hown
  have hins : (Cond.instantiable cls 6).before args s' = true := h _ (by simp [Bundle.ownAtoms0])
  obtain ⟨vm₁, cX, kX, hfX, hkX, -, -, X₁, st1⟩ := Y.newCold hexec (own := own) (C := cls) (index := ik) (n := 6) hown' hk' hins hini'
    (g := F0 m pc ls rest) rfl (by rw [hb]; exact d0) (Nat.le_refl _) (Nat.le_refl _)
  generalize hT1 : (T.setVm vm₁).pushCell { cls := cX, slots := kX.instanceTypes.map defaultValue, vm := .none } = T1 at X₁ st1
  have hcat : (Value.ref T.heap.size).category = 1 := rfl
  have hcellA : T1.heap[T.heap.size]? = some (freshCell cX kX) := by rw [← hT1]; exact State.heap_pushCell_size _ _
  have d3' : decode c.code (pc + 3) = .ok (.dup, 1) := by rw [hb]; exact d3
  obtain ⟨U, hsteps, hrun, hend, hW, hsame, ce, hce, hO⟩ := X₁.ctorThrow0 hexec htr (own := own) (cls := cls) (names := names) (ic := ic) hown' hcls hnames h (fun x hx => nomatch hx) hfX hkX hcellA (by rw [hhp, hT]; exact Nat.le_refl _)
    (g := { method := m, pc := pc + 4, locals := ls, stack := .ref T.heap.size :: .ref T.heap.size :: rest, locked := none }) rfl hsize rfl rfl (rest := rest) rfl
    (by rw [hb]; exact d4) (by rw [hb]; exact d7) hout hRframes (by simp only [List.map_cons, List.sum_cons, hcat]; omega) hlocks
  obtain ⟨f1, f2⟩ := vx_frame hsame
  rw [hhp] at f1 f2
  have hWs : s.WarmedH U.vm := State.WarmedH.trans hW0 hW
  have hcl : s.vm.findClass cls = some ce.cls := by
    have h9 := hO.cls
    rw [hvm] at h9
    exact h9
  have hall : s.sameButNew ({ U with vm := s.vm } : State) locs mc ms := by
    subst hA
    obtain ⟨e1, e2⟩ := hsame
    rw [State.setFrames_setFrames] at e1
    have h2 : (T.setVm s.vm).sameButNew ({ U with vm := s.vm } : State) [] (0 + 1) (0 + 6) := ⟨e1, e2⟩
    have h3 := X.same.trans h2
    rw [List.append_nil] at h3
    exact h3.mono hc hs
  refine ⟨U, ?_, .threw T.heap.size, hrun, hend, Or.inr ⟨T.heap.size, rfl, cls, ce, locs, hx U hWs.alike f1 (fun q hq => f2 q hq (fun z hz => nomatch hz)), hce, hO.vm, hcl, hWs, hall, hf⟩⟩
  refine st1 _ ?_
  show Steps p.tables e below (T1.setTop { method := m, pc := pc + 3, locals := ls, stack := .ref T.heap.size :: rest, locked := none }) _
  jvm_step X₁.here [X₁.here.top, hexec, d3', Value.category]
  exact hsteps
/-- 'throw new E("text")': new; dup; ldc; invokespecial; athrow -/
theorem vx_throwS {cc : ByteArray} {pc : Nat} (hexec : p.tables.exec = Jvm.exec) (hb : c.code = cc) (hl : l.stackTraces = false) {own cls text : String} {names : List String} {ik is ic mc ms sa : Nat} {A : Nat → Prop}
    (hown : s.vm.findClass own = some m.cls) (hcls : Bundle.fit cls = true) (hnames : ∀ n ∈ names, Bundle.fit n = true)
    (hk : (Cond.classLink own ik cls).before args s = true) (hini : (Cond.initialized cls).before args s = true) (hstr : vk_R own is text sa s) (hat : ∀ w ∈ vx_atS own ic cls names, w.before args s = true)
    (hgood : ∀ w ∈ Cond.classLink own ik cls :: Cond.initialized cls :: vx_atS own ic cls names, vx_ot w = true)
    (hU : vx_Zq Bundle.tN "UNASSIGNED_STACK" Bundle.steD A s s.heap) (hN : vx_Zq Bundle.tN "SUPPRESSED_SENTINEL" Bundle.listD A s s.heap) (hS : va_S A s.heap H locs) (hsize : ls.size = c.maxLocals)
    (d0 : decode cc pc = .ok (.new ik, 3)) (d3 : decode cc (pc + 3) = .ok (.dup, 1)) (d4 : decode cc (pc + 4) = .ok (.ldc is, 2)) (d6 : decode cc (pc + 6) = .ok (.invokespecial ic, 3)) (d9 : decode cc (pc + 9) = .ok (.athrow, 1))
    (hout : ∀ x ∈ c.exceptionTable.toList, covers x (pc + 9) = false)
    (hRframes : names.length + 3 < R.frames) (hRlocals : (rest.map fun v => v.category).sum + (13 * (names.length + 1) + 43) ≤ R.locals) (hRcells : cells + 1 ≤ R.cells) (hRslots : slots + 6 ≤ R.slots) (hlocks : meth.locks = false)
    (hx : ∀ t : State, s.vm.Alike t.vm → H.size ≤ t.heap.size → (∀ q : Nat, q < H.size → t.heap[q]? = H[q]?) → XC cls s t)
    (hf : ∀ z ∈ locs, free z.base) (hc : cells + 1 ≤ mc) (hs : slots + 6 ≤ ms) :
    W p l e R s m args below meth c H locs cells slots (vx_MQ below Qc XC args s mc ms free) (F0 m pc ls rest) := by
  intro T hT X
  have htr : e.platform.stackTraces = false := (show e.platform.stackTraces = l.stackTraces by rw [X.admits.platform]).trans hl
  have Y := vx_rebase X (R' := { frames := R.frames, locals := R.locals, cells := 1, slots := 6 }) (Nat.le_refl _) (Nat.le_refl _) hRcells hRslots
  obtain ⟨s', hA⟩ : ∃ z, z = (T.setVm s.vm).setFrames (.invoking m args :: below) := ⟨_, rfl⟩
  rw [← hA] at Y
  have hvm : s'.vm = s.vm := by rw [hA]; rfl
  have hhp : s'.heap = H := by rw [hA]; exact hT
  have hW0 : s.WarmedH s'.vm := by rw [hvm]; exact State.WarmedH.refl s
  have hat' : ∀ w ∈ vx_atS own ic cls names, w.before args s' = true := fun w hw => vx_ot_at hW0 hvm.symm (hgood w (List.mem_cons_of_mem _ (List.mem_cons_of_mem _ hw))) (hat w hw)
  have hk' : (Cond.classLink own ik cls).before args s' = true := vx_ot_at hW0 hvm.symm (hgood _ List.mem_cons_self) hk
  have hini' : (Cond.initialized cls).before args s' = true := vx_ot_at hW0 hvm.symm (hgood _ (List.mem_cons_of_mem _ List.mem_cons_self)) hini
  have hU' : vx_Zq Bundle.tN "UNASSIGNED_STACK" Bundle.steD A s' s'.heap := by rw [hhp]; exact vx_Zq.moved hW0.alike (hU.kept hS.2.1)
  have hN' : vx_Zq Bundle.tN "SUPPRESSED_SENTINEL" Bundle.listD A s' s'.heap := by rw [hhp]; exact vx_Zq.moved hW0.alike (hN.kept hS.2.1)
  have h : ∀ w ∈ Bundle.ownAtoms own ic cls names, w.before args s' = true := vx_own hat' (vx_isRefq hU'.1) (vx_isRefq hN'.1) hU'.2.word hN'.2.word
  have hown' : s'.vm.findClass own = some m.cls := by rw [hvm]; exact hown
  have hins : (Cond.instantiable cls 6).before args s' = true := h _ (by simp [Bundle.ownAtoms])
  obtain ⟨vm₁, cX, kX, hfX, hkX, -, -, X₁, st1⟩ := Y.newCold hexec (own := own) (C := cls) (index := ik) (n := 6) hown' hk' hins hini'
    (g := F0 m pc ls rest) rfl (by rw [hb]; exact d0) (Nat.le_refl _) (Nat.le_refl _)
  generalize hT1 : (T.setVm vm₁).pushCell { cls := cX, slots := kX.instanceTypes.map defaultValue, vm := .none } = T1 at X₁ st1
  have hcat : (Value.ref T.heap.size).category = 1 := rfl
  have hcellA : T1.heap[T.heap.size]? = some (freshCell cX kX) := by rw [← hT1]; exact State.heap_pushCell_size _ _
  have d3' : decode c.code (pc + 3) = .ok (.dup, 1) := by rw [hb]; exact d3
  have d4' : decode c.code (pc + 4) = .ok (.ldc is, 2) := by rw [hb]; exact d4
  have hstr' : vk_R own is text sa s' := vk_R.warm hW0 hstr
  obtain ⟨U, hsteps, hrun, hend, hW, hsame, ce, hce, hO⟩ := X₁.ctorThrowS hexec htr (own := own) (cls := cls) (names := names) (ic := ic) hown' hcls hnames h (fun x hx => nomatch hx) hfX hkX hcellA (by rw [hhp, hT]; exact Nat.le_refl _) (msg := .ref sa) rfl
    (g := { method := m, pc := pc + 6, locals := ls, stack := .ref sa :: .ref T.heap.size :: .ref T.heap.size :: rest, locked := none }) rfl hsize rfl rfl (rest := rest) rfl
    (by rw [hb]; exact d6) (by rw [hb]; exact d9) hout hRframes (by simp only [List.map_cons, List.sum_cons, hcat]; omega) hlocks
  obtain ⟨f1, f2⟩ := vx_frame hsame
  rw [hhp] at f1 f2
  have hWs : s.WarmedH U.vm := State.WarmedH.trans hW0 hW
  have hcl : s.vm.findClass cls = some ce.cls := by
    have h9 := hO.cls
    rw [hvm] at h9
    exact h9
  have hall : s.sameButNew ({ U with vm := s.vm } : State) locs mc ms := by
    subst hA
    obtain ⟨e1, e2⟩ := hsame
    rw [State.setFrames_setFrames] at e1
    have h2 : (T.setVm s.vm).sameButNew ({ U with vm := s.vm } : State) [] (0 + 1) (0 + 6) := ⟨e1, e2⟩
    have h3 := X.same.trans h2
    rw [List.append_nil] at h3
    exact h3.mono hc hs
  refine ⟨U, ?_, .threw T.heap.size, hrun, hend, Or.inr ⟨T.heap.size, rfl, cls, ce, locs, hx U hWs.alike f1 (fun q hq => f2 q hq (fun z hz => nomatch hz)), hce, hO.vm, hcl, hWs, hall, hf⟩⟩
  refine st1 _ ?_
  show Steps p.tables e below (T1.setTop { method := m, pc := pc + 3, locals := ls, stack := .ref T.heap.size :: rest, locked := none }) _
  jvm_step X₁.here [X₁.here.top, hexec, d3', Value.category]
  exact X₁.ldcString hexec (own := own) (text := text) (index := is) (a := sa) hown' hstr'.1 hstr'.2
    (g := { method := m, pc := pc + 4, locals := ls, stack := .ref T.heap.size :: .ref T.heap.size :: rest, locked := none }) rfl d4' _ hsteps
/-- 'throw new E("text")', the text by a wide index -/
theorem vx_throwSW {cc : ByteArray} {pc : Nat} (hexec : p.tables.exec = Jvm.exec) (hb : c.code = cc) (hl : l.stackTraces = false) {own cls text : String} {names : List String} {ik is ic mc ms sa : Nat} {A : Nat → Prop}
    (hown : s.vm.findClass own = some m.cls) (hcls : Bundle.fit cls = true) (hnames : ∀ n ∈ names, Bundle.fit n = true)
    (hk : (Cond.classLink own ik cls).before args s = true) (hini : (Cond.initialized cls).before args s = true) (hstr : vk_R own is text sa s) (hat : ∀ w ∈ vx_atS own ic cls names, w.before args s = true)
    (hgood : ∀ w ∈ Cond.classLink own ik cls :: Cond.initialized cls :: vx_atS own ic cls names, vx_ot w = true)
    (hU : vx_Zq Bundle.tN "UNASSIGNED_STACK" Bundle.steD A s s.heap) (hN : vx_Zq Bundle.tN "SUPPRESSED_SENTINEL" Bundle.listD A s s.heap) (hS : va_S A s.heap H locs) (hsize : ls.size = c.maxLocals)
    (d0 : decode cc pc = .ok (.new ik, 3)) (d3 : decode cc (pc + 3) = .ok (.dup, 1)) (d4 : decode cc (pc + 4) = .ok (.ldc_w is, 3)) (d7 : decode cc (pc + 7) = .ok (.invokespecial ic, 3)) (d10 : decode cc (pc + 10) = .ok (.athrow, 1))
    (hout : ∀ x ∈ c.exceptionTable.toList, covers x (pc + 10) = false)
    (hRframes : names.length + 3 < R.frames) (hRlocals : (rest.map fun v => v.category).sum + (13 * (names.length + 1) + 43) ≤ R.locals) (hRcells : cells + 1 ≤ R.cells) (hRslots : slots + 6 ≤ R.slots) (hlocks : meth.locks = false)
    (hx : ∀ t : State, s.vm.Alike t.vm → H.size ≤ t.heap.size → (∀ q : Nat, q < H.size → t.heap[q]? = H[q]?) → XC cls s t)
    (hf : ∀ z ∈ locs, free z.base) (hc : cells + 1 ≤ mc) (hs : slots + 6 ≤ ms) :
    W p l e R s m args below meth c H locs cells slots (vx_MQ below Qc XC args s mc ms free) (F0 m pc ls rest) := by
  intro T hT X
  have htr : e.platform.stackTraces = false := (show e.platform.stackTraces = l.stackTraces by rw [X.admits.platform]).trans hl
  have Y := vx_rebase X (R' := { frames := R.frames, locals := R.locals, cells := 1, slots := 6 }) (Nat.le_refl _) (Nat.le_refl _) hRcells hRslots
  obtain ⟨s', hA⟩ : ∃ z, z = (T.setVm s.vm).setFrames (.invoking m args :: below) := ⟨_, rfl⟩
  rw [← hA] at Y
  have hvm : s'.vm = s.vm := by rw [hA]; rfl
  have hhp : s'.heap = H := by rw [hA]; exact hT
  have hW0 : s.WarmedH s'.vm := by rw [hvm]; exact State.WarmedH.refl s
  have hat' : ∀ w ∈ vx_atS own ic cls names, w.before args s' = true := fun w hw => vx_ot_at hW0 hvm.symm (hgood w (List.mem_cons_of_mem _ (List.mem_cons_of_mem _ hw))) (hat w hw)
  have hk' : (Cond.classLink own ik cls).before args s' = true := vx_ot_at hW0 hvm.symm (hgood _ List.mem_cons_self) hk
  have hini' : (Cond.initialized cls).before args s' = true := vx_ot_at hW0 hvm.symm (hgood _ (List.mem_cons_of_mem _ List.mem_cons_self)) hini
  have hU' : vx_Zq Bundle.tN "UNASSIGNED_STACK" Bundle.steD A s' s'.heap := by rw [hhp]; exact vx_Zq.moved hW0.alike (hU.kept hS.2.1)
  have hN' : vx_Zq Bundle.tN "SUPPRESSED_SENTINEL" Bundle.listD A s' s'.heap := by rw [hhp]; exact vx_Zq.moved hW0.alike (hN.kept hS.2.1)
  have h : ∀ w ∈ Bundle.ownAtoms own ic cls names, w.before args s' = true := vx_own hat' (vx_isRefq hU'.1) (vx_isRefq hN'.1) hU'.2.word hN'.2.word
  have hown' : s'.vm.findClass own = some m.cls := by rw [hvm]; exact hown
  have hins : (Cond.instantiable cls 6).before args s' = true := h _ (by simp [Bundle.ownAtoms])
  obtain ⟨vm₁, cX, kX, hfX, hkX, -, -, X₁, st1⟩ := Y.newCold hexec (own := own) (C := cls) (index := ik) (n := 6) hown' hk' hins hini'
    (g := F0 m pc ls rest) rfl (by rw [hb]; exact d0) (Nat.le_refl _) (Nat.le_refl _)
  generalize hT1 : (T.setVm vm₁).pushCell { cls := cX, slots := kX.instanceTypes.map defaultValue, vm := .none } = T1 at X₁ st1
  have hcat : (Value.ref T.heap.size).category = 1 := rfl
  have hcellA : T1.heap[T.heap.size]? = some (freshCell cX kX) := by rw [← hT1]; exact State.heap_pushCell_size _ _
  have d3' : decode c.code (pc + 3) = .ok (.dup, 1) := by rw [hb]; exact d3
  have d4' : decode c.code (pc + 4) = .ok (.ldc_w is, 3) := by rw [hb]; exact d4
  have hstr' : vk_R own is text sa s' := vk_R.warm hW0 hstr
  obtain ⟨U, hsteps, hrun, hend, hW, hsame, ce, hce, hO⟩ := X₁.ctorThrowS hexec htr (own := own) (cls := cls) (names := names) (ic := ic) hown' hcls hnames h (fun x hx => nomatch hx) hfX hkX hcellA (by rw [hhp, hT]; exact Nat.le_refl _) (msg := .ref sa) rfl
    (g := { method := m, pc := pc + 7, locals := ls, stack := .ref sa :: .ref T.heap.size :: .ref T.heap.size :: rest, locked := none }) rfl hsize rfl rfl (rest := rest) rfl
    (by rw [hb]; exact d7) (by rw [hb]; exact d10) hout hRframes (by simp only [List.map_cons, List.sum_cons, hcat]; omega) hlocks
  obtain ⟨f1, f2⟩ := vx_frame hsame
  rw [hhp] at f1 f2
  have hWs : s.WarmedH U.vm := State.WarmedH.trans hW0 hW
  have hcl : s.vm.findClass cls = some ce.cls := by
    have h9 := hO.cls
    rw [hvm] at h9
    exact h9
  have hall : s.sameButNew ({ U with vm := s.vm } : State) locs mc ms := by
    subst hA
    obtain ⟨e1, e2⟩ := hsame
    rw [State.setFrames_setFrames] at e1
    have h2 : (T.setVm s.vm).sameButNew ({ U with vm := s.vm } : State) [] (0 + 1) (0 + 6) := ⟨e1, e2⟩
    have h3 := X.same.trans h2
    rw [List.append_nil] at h3
    exact h3.mono hc hs
  refine ⟨U, ?_, .threw T.heap.size, hrun, hend, Or.inr ⟨T.heap.size, rfl, cls, ce, locs, hx U hWs.alike f1 (fun q hq => f2 q hq (fun z hz => nomatch hz)), hce, hO.vm, hcl, hWs, hall, hf⟩⟩
  refine st1 _ ?_
  show Steps p.tables e below (T1.setTop { method := m, pc := pc + 3, locals := ls, stack := .ref T.heap.size :: rest, locked := none }) _
  jvm_step X₁.here [X₁.here.top, hexec, d3', Value.category]
  exact X₁.ldcStringW hexec (own := own) (text := text) (index := is) (a := sa) hown' hstr'.1 hstr'.2
    (g := { method := m, pc := pc + 4, locals := ls, stack := .ref T.heap.size :: .ref T.heap.size :: rest, locked := none }) rfl d4' _ hsteps
end Ends
section Bodies
variable {l : Launch}
theorem vx_ofW {y : MethodName} {ws ws' : List Cond} {rm : Room} {Pc : Array Value → State → Prop} {Qc : Array Value → State → Outcome → State → Prop} {XC : String → State → State → Prop} {mc ms : Nat} {free : Addr → Prop} {cc : ByteArray} {maxL : Nat} {ret : Option FieldType}
    (hy : plainName y.cls = true) (hw : ws = Cond.code y cc maxL ret :: ws')
    (body : ∀ p e s m args below meth c s₁, BodyLoose p l y (headSpec ws rm) cc maxL ret e s m args below meth c s₁ → c.maxLocals = maxL → (∀ x ∈ c.exceptionTable.toList, False) → Pc args s →
      W p l e (headSpec ws rm).room s m args below meth c s.heap [] 0 0 (vx_MQ below Qc XC args s mc ms free) (entryFrame m args maxL)) : vx_Met l y ws rm Pc Qc XC mc ms free := by
  refine MetFree.of_bodyS (code := cc) (maxLocals := maxL) (ret := ret) hy ?_ ?_
  · intro args s m h hn
    obtain ⟨meth, c, h1, h2, h3, h4, h5, h6, -, -⟩ := Cond.code_spec hn (atoms_spec (ws := ws) h _ (by rw [hw]; exact List.mem_cons_self))
    exact ⟨meth, c, h1, h2, h3, h4, h5, h6⟩
  · intro p e s m args below meth c s₁ B hml hP _
    have hh0 : s₁.heap = s.heap := by rw [B.state]; rfl
    have ht : ∀ x ∈ c.exceptionTable.toList, False := by
      obtain ⟨meth9, c9, h1, h2, -, -, -, -, h7, -⟩ := Cond.code_spec B.named (atoms_spec (ws := ws) B.pre _ (by rw [hw]; exact List.mem_cons_self))
      cases Option.some.inj (h1.symm.trans B.method)
      cases Option.some.inj (h2.symm.trans (Stand.of_body B).code)
      intro x hx
      rw [Array.isEmpty_iff.mp h7] at hx
      cases hx
    obtain ⟨t, a1, o, b1, b2, b3⟩ := body p e s m args below meth c s₁ B hml ht hP s₁ hh0 (Stand.of_body B)
    exact ⟨t, o, a1, b1, b2, b3⟩
/-- the table of a body with handlers -/
theorem vx_table {p : Program} {x y : MethodName} {S : Spec} {cc bytes : ByteArray} {maxL maxL' : Nat} {ret ret' : Option FieldType} {e : Env} {s s₁ : State} {m : MethodId} {args : Array Value} {below : List Frame} {meth : Method} {c : Code} {hh : List (Nat × Nat × Nat × Nat)}
    (B : BodyLoose p l y S cc maxL ret e s m args below meth c s₁) (h : (Cond.codeWith y bytes maxL' ret' hh).before args s = true) : c.exceptionTable.toList = tableOf hh := by
  obtain ⟨m9, meth9, c9, hn9, h1, h2, -, -, h6, -⟩ := Cond.codeWith_spec h
  cases Option.some.inj (hn9.symm.trans B.named)
  cases Option.some.inj (h1.symm.trans B.method)
  cases Option.some.inj (h2.symm.trans (Stand.of_body B).code)
  rw [← h6, table_eq]
end Bodies
end VXA
/-! ===== END ===== -/
/-! ===== BEGIN a static call of a method with an exception table ===== -/
section VXS
variable {p : Program} {l : Launch} {e : Env} {R : Room} {s : State} {m : MethodId} {args : Array Value} {below : List Frame} {meth : Method} {c : Code} {T : State} {H : Heap} {locs : List Loc} {cells slots : Nat}
abbrev vx_CSW (R : Room) (s : State) (args : Array Value) (own : String) (index : Nat) (y : MethodName) (bytes : ByteArray) (maxL : Nat) (ret : Option FieldType) (hh : List (Nat × Nat × Nat × Nat)) (ws : List Cond) (rm : Room) (mc ms n : Nat) : Prop :=
  (rm.cells = mc ∧ rm.slots = ms ∧ rm.frames + 1 ≤ R.frames ∧ 8 + (maxL + 11) + rm.locals ≤ R.locals ∧ (∀ w ∈ ws, ∀ (a' : Array Value) (U : State), s.WarmedH U.vm → w.before a' U = true) ∧ Cond.codeWith y bytes maxL ret hh ∈ ws) ∧
  (Cond.codeWith y bytes maxL ret hh).before args s = true ∧ (Cond.initialized y.cls).before args s = true ∧ (y.cls ≠ "java/lang/invoke/MethodHandle" ∧ y.cls ≠ "java/lang/invoke/VarHandle") ∧
  (∀ sig, parseMethodDescriptor y.desc = some sig → n = sig.parameters.length) ∧ (Cond.methodLink own index y).before args s = true ∧ (Cond.static y).before args s = true
theorem vx_cwSW {own : String} {index maxL mc ms : Nat} {y : MethodName} {bytes : ByteArray} {ret : Option FieldType} {hh : List (Nat × Nat × Nat × Nat)} {Ts ws ws' : List Cond} {rm : Room} (n : Nat) (ht : ∀ w ∈ Ts, w.before args s = true) (hT : GoodIn Ts (va_wsS own index y ws)) (hw : ws = Cond.codeWith y bytes maxL ret hh :: ws') (hrc : rm.cells = mc) (hrs : rm.slots = ms)
    (hd : y.cls ≠ "java/lang/invoke/MethodHandle" ∧ y.cls ≠ "java/lang/invoke/VarHandle" ∧ (parseMethodDescriptor y.desc).map (fun d => d.parameters.length) = some n) (hR : rm.frames + 1 ≤ R.frames ∧ 8 + (maxL + 11) + rm.locals ≤ R.locals) :
    vx_CSW R s args own index y bytes maxL ret hh ws rm mc ms n := by
  have ok : ∀ w ∈ va_wsS own index y ws, w.before args s = true := fun w h => ht w (hT w h).1
  have hG : GoodIn Ts ws := fun w h => hT w (by unfold va_wsS; exact List.mem_append_right _ h)
  have hc : Cond.codeWith y bytes maxL ret hh ∈ ws := by rw [hw]; exact List.mem_cons_self
  refine ⟨⟨hrc, hrs, hR.1, hR.2, pay_in ht hG, hc⟩, ht _ (hG _ hc).1, ok _ (by simp [va_wsS]), ⟨hd.1, hd.2.1⟩, fun sig h => ?_, ok _ (by simp [va_wsS]), ok _ (by simp [va_wsS])⟩
  have h2 := hd.2.2
  rw [h] at h2
  exact (Option.some.inj h2).symm
theorem vx_callSW (X : Stand p l e R s m args below meth c T locs cells slots) (hexec : p.tables.exec = Jvm.exec) {own : String} {index : Nat} {y : MethodName} {bytes : ByteArray} {maxL : Nat} {ret : Option FieldType} {hh : List (Nat × Nat × Nat × Nat)}
    (hown : s.vm.findClass own = some m.cls) (hlink : (Cond.methodLink own index y).before args s = true) (hstat : (Cond.static y).before args s = true) (hinit : (Cond.initialized y.cls).before args s = true)
    (hcode : (Cond.codeWith y bytes maxL ret hh).before args s = true) (hy : y.cls ≠ "java/lang/invoke/MethodHandle" ∧ y.cls ≠ "java/lang/invoke/VarHandle")
    {W9 : Nat} {Pre : Pt → Array Value → Prop} {Post : Pt → Array Value → Option Value → Pt → Prop} (hK : Back l R p e below s args y 3 W9 Pre Post)
    {g : JFrame} (hg : g.method = m) (hsize : g.locals.size = c.maxLocals) {argsL rest : List Value} (hlen : ∀ sig, parseMethodDescriptor y.desc = some sig → argsL.length = sig.parameters.length)
    (hstack : g.stack = argsL.reverse ++ rest) (hW : 2 * g.monitorRoom + (rest.map fun v => v.category).sum ≤ W9) (hdg : decode c.code g.pc = .ok (.invokestatic index, 3))
    (hpre : ∀ vm₁, s.WarmedH vm₁ → Pre ⟨T.setVm vm₁, locs, cells, slots⟩ argsL.toArray) :
    ∃ (v : Option Value) (vm₁ : Vm) (B : Pt), s.WarmedH vm₁ ∧ Stand p l e R s m args below meth c B.U B.locs B.cells B.slots ∧ Post ⟨T.setVm vm₁, locs, cells, slots⟩ argsL.toArray v B ∧
      ∀ target, Steps p.tables e below (B.U.setTop { g with pc := g.pc + 3, stack := v.toList ++ rest }) target → Steps p.tables e below (T.setTop g) target := by
  obtain ⟨mk, methM, cM, hnamed, hmethM, -, -, -, -, -, -, hsigM⟩ := Cond.codeWith_spec hcode
  have hstatic : methM.isStatic = true := Cond.static_spec hnamed hmethM hstat
  obtain ⟨kP, hkP, -⟩ := className_of_methodNamed hnamed
  have hinitP : kP.init = .initialized := Cond.initialized_spec (findClass_of_methodNamed hnamed) hkP hinit
  obtain ⟨vm₁, X₁, hstep₁⟩ := X.invokestatic hexec hown hlink hnamed hmethM hstatic hkP hinitP hy (g := g) hg (argsL := argsL) (rest := rest) (hlen _ hsigM) hstack hdg
  obtain ⟨v, B, X', hpost, hsteps⟩ := hK m meth c ⟨T.setVm vm₁, locs, cells, slots⟩ { g with stack := rest } (.invokestatic index) mk argsL.toArray X₁ hg hsize hdg hW (X₁.named hnamed) (hpre vm₁ X₁.warmed)
  exact ⟨v, vm₁, B, X₁.warmed, X', hpost, fun target h => hstep₁ _ fun acts => by rw [doInvoke_state]; exact hsteps.trans h⟩
theorem vx_runSW {y : MethodName} {bytes cc : ByteArray} {maxL nL mc ms n index : Nat} {ret : Option FieldType} {hh : List (Nat × Nat × Nat × Nat)} {ws : List Cond} {rm : Room} {Pc : Array Value → State → Prop} {Qc : Array Value → State → Outcome → State → Prop} {free : Addr → Prop} {Ts : List Cond} {own : String} {As rest : List Value} {g : JFrame}
    (S : CallFix p m c cc nL s args Ts own) (hM : Met l y ws rm Pc Qc mc ms free) (cw : vx_CSW R s args own index y bytes maxL ret hh ws rm mc ms n) (hp : PreS s H Pc As)
    (hg : g.method = m) (hn : As.length = n) (hsize : g.locals.size = nL) (hstack : g.stack = As.reverse ++ rest) (hW : 2 * g.monitorRoom + (rest.map fun v => v.category).sum ≤ 8) (hdg : decode cc g.pc = .ok (.invokestatic index, 3)) (hf : cells + mc ≤ R.cells ∧ slots + ms ≤ R.slots) :
    va_Run p l e R s m args below meth c H locs cells slots mc ms g rest (Qc As.toArray) (free) := by
  obtain ⟨⟨hrc, hrs, hfr, hlo, hws, hcw⟩, hcode, hini, hy, hlen, hl, hstt⟩ := cw
  have hK : Back l R p e below s args y 3 8 (PreOf R mc ms Pc) (PostOf Qc mc ms free) := va_backW (hh := hh) (bytes := bytes) (maxL := maxL) (ret := ret) hM hp.1 hrc hrs hfr hlo hws hcw (fun a' U hW => word_at hW (Or.inl (by first | rfl | simp [Cond.onTables, Cond.keeps, Cond.steady])) hini)
  obtain ⟨hx, hb, hml, ho, -⟩ := S
  intro T hT X
  obtain ⟨v, vm₁, ⟨U', l2, c2, s2⟩, hW₁, X', ⟨g', mk, t, L, e1, e2, hq, h1, hL, h2, h3⟩, st⟩ := vx_callSW X hx (hh := hh) (bytes := bytes) (maxL := maxL) (ret := ret) ho hl hstt hini hcode hy hK hg (hsize.trans hml.symm) (argsL := As) (rest := rest) (fun sig h => hn.trans (hlen sig h)) hstack hW (by rw [hb]; exact hdg)
    (fun vm₁ hW₁ => ⟨hf.1, hf.2, hp.2 (T.setVm vm₁) hT hW₁⟩)
  dsimp only [Pt.U, Pt.locs, Pt.cells, Pt.slots] at X' e1 e2 h1 h2 h3 st
  subst h1; subst h2; subst h3
  exact ⟨v, (T.setVm vm₁).calling g' mk As.toArray, t, U', L, hT, X', hL, e1, e2, hq, st⟩
/-- not caught here, past rows that name other classes: it goes on to the caller -/
theorem vx_outP {p : Program} {l : Launch} {e : Env} {R : Room} {s : State} {m : MethodId} {args : Array Value} {below : List Frame} {meth : Method} {c : Code} {H : Heap} {locs : List Loc} {cells slots : Nat} {free : Addr → Prop} {ls : Array Slot} {rest : List Value} {Qc : Array Value → State → Outcome → State → Prop} {XC : String → State → State → Prop}
    {pc : Nat} {own E : String} {ce : Cell} {q : Addr} {mc ms : Nat} (hown : s.vm.findClass own = some m.cls) (hlocks : meth.locks = false)
    (hpass : ∀ z ∈ c.exceptionTable.toList, covers z pc = false ∨ (z.catchType ≠ 0 ∧ ∃ nm : String, (Cond.classLink own z.catchType nm).before args s = true ∧ va_Nc E nm s)) (hcell : H[q]? = some ce) (hv : ce.vm = .none) (hcl : s.vm.findClass E = some ce.cls)
    (hx : ∀ t : State, t.heap = H → s.vm.Alike t.vm → XC E s t) (hf : ∀ z ∈ locs, free z.base) (hc : cells ≤ mc) (hs : slots ≤ ms) :
    vx_W p l e R s m args below meth c H locs cells slots (vx_MQ below Qc XC args s mc ms free) (F0 m pc ls rest) q := by
  sorry
/-- a thing of a world lies in the heap -/
theorem vx_lt {D : va_G} {cl : List vw_C} {ws : va_W} {H1 : Heap} (h : va_P D cl ws H1) {k : Nat} {q : Nat × va_E} (hk : ws[k]? = some q) : q.1 < H1.size := (h k q hk).lt
end VXS
/-! ===== END ===== -/
/-! ===== BEGIN methods with a table of their own: called by a name, returning or throwing ===== -/
section VXH
/-! vx_backW, vx_callVX, vx_callSX, vx_callVW, vx_runVW, vx_runVX, vx_runSX, vx_ofWH follow the same proofs as their sisters above (Free/Laws.lean, Shelf42/LK1.lean); vx_outP calls Shelf42/NT130.lean (outThrough). -/
section
variable {l : Launch} {R : Room} {p : Program} {e : Env} {below : List Frame} {s : State} {sargs : Array Value} {y : MethodName} {len W9 : Nat}
theorem vx_backW {ws : List Cond} {rm : Room} {Pc : Array Value → State → Prop} {Qc : Array Value → State → Outcome → State → Prop} {XC : String → State → State → Prop} {mc ms : Nat} {free : Addr → Prop} {bytes : ByteArray} {maxL : Nat} {ret : Option FieldType} {hh : List (Nat × Nat × Nat × Nat)}
    (hM : vx_Met l y ws rm Pc Qc XC mc ms free) (hblind : FrameBlind Pc) (hrc : rm.cells = mc) (hrs : rm.slots = ms)
    (hframes : rm.frames + 1 ≤ R.frames) (hlocals : W9 + (maxL + 11) + rm.locals ≤ R.locals)
    (hws : ∀ w ∈ ws, ∀ a' U, s.WarmedH U.vm → w.before a' U = true) (hcode : Cond.codeWith y bytes maxL ret hh ∈ ws) (hinit : ∀ a' U, s.WarmedH U.vm → (Cond.initialized y.cls).before a' U = true) :
    vx_Back l R p e below s sargs y len W9 (PreOf R mc ms Pc) (PostOf Qc mc ms free) (vx_Post XC mc ms free) := by
  intro m meth c A g ig mk a X hg hsize hdg hW hn hp
  have h1 : (headSpec ws rm).pre.before a A.U = true := atoms_intro fun w hw => hws w hw _ _ X.warmed
  have h2 : (Cond.codeWith y bytes maxL ret hh).before a A.U = true := hws _ hcode _ _ X.warmed
  have h3 : (Cond.initialized y.cls).before a A.U = true := hinit _ _ X.warmed
  have h4 : A.cells + (headSpec ws rm).room.cells ≤ R.cells := by rw [show (headSpec ws rm).room.cells = mc from hrc]; exact hp.1
  have h5 : A.slots + (headSpec ws rm).room.slots ≤ R.slots := by rw [show (headSpec ws rm).room.slots = ms from hrs]; exact hp.2.1
  have hPc : Pc a (A.U.calling g mk a) := hblind _ _ _ _ hp.2.2
  obtain ⟨U, Ls, c0, s0⟩ := A
  dsimp only [Pt.U, Pt.locs, Pt.cells, Pt.slots] at h1 h2 h3 h4 h5 X hn hPc ⊢
  obtain ⟨m9, methY, cY, hn9, hmY, hcY, -, hlY, -⟩ := Cond.codeWith_spec h2
  cases Option.some.inj (hn9.symm.trans hn)
  obtain ⟨kY, hkY, -⟩ := className_of_methodNamed hn
  have hinitY : kY.init = .initialized := Cond.initialized_spec (findClass_of_methodNamed hn) hkY h3
  have h : At U g.method c below := by rw [hg]; exact X.here
  have hlocals9 : W9 + (maxL + 11) + (headSpec ws rm).room.locals ≤ R.locals := hlocals
  have happ : (headSpec ws rm).appliesLoose y e.platform (U.calling g mk a) = true :=
    Spec.appliesLoose_calling (g := g) h hdg hn hkY hinitY
      (X.room_calling (g := g) (R' := (headSpec ws rm).room) hsize hmY hcY hframes (by rw [hlY]; omega) h4 h5) h1
  obtain ⟨mid, hmid⟩ := h.above
  have hfr : (U.setTop g).frames = (.java g :: mid) ++ below := by rw [State.frames_setTop' g h.top, hmid]; rfl
  obtain ⟨o, s₂, hsteps, -, hend, hq⟩ := Steps.callFree hM p X.admits X.cas X.clock (acts := []) hfr happ hPc trivial
  have hq' : vx_Q Qc XC mc ms free a (U.calling g mk a) o s₂ := hq
  rw [State.frames_setTop' g h.top] at hend
  obtain ⟨g₀, hg0⟩ := Option.isSome_iff_exists.mp h.top
  obtain ⟨r, hr⟩ := State.topJava?_eq_some.mp hg0
  have hr' : (({ U with heap := s₂.heap, slotsUsed := s₂.slotsUsed } : State).setVm s₂.vm).frames = .java g₀ :: r := hr
  rcases hq' with ⟨hqc, L, hfe, hL⟩ | ⟨q, rfl, E, ce, L, hx, hce, hcv, hcl, hW₂, hsm, hL⟩
  · obtain ⟨⟨v, rfl⟩, hW₂, e2, q2, q3, q4, q5, q6⟩ := id hfe
    have e3 : s₂ = ({ (U.calling g mk a).setFrames s₂.frames with heap := s₂.heap, slotsUsed := s₂.slotsUsed } : State).setVm s₂.vm := by
      have : s₂ = ({ s₂ with vm := (U.calling g mk a).vm } : State).setVm s₂.vm := rfl
      rw [e2] at this
      exact this
    obtain ⟨c₂, i₂, len₂, hc₂, hd₂, hf₂⟩ := hend
    have hW' : U.WarmedH s₂.vm := hW₂
    have hcc : c₂ = c := by
      have h1 : s₂.code? g.method = U.code? g.method := by
        rw [State.code?_eq, State.code?_eq, hW'.alike.method?]
      exact Option.some.inj (hc₂.symm.trans (h1.trans h.code))
    subst hcc
    have hlen : len₂ = len := by rw [hdg] at hd₂; cases hd₂; rfl
    subst hlen
    have hs₂ : s₂ = (({ U with heap := s₂.heap, slotsUsed := s₂.slotsUsed } : State).setVm s₂.vm).setTop { g with pc := g.pc + len₂, stack := v.toList ++ g.stack } := by
      refine e3.trans ?_
      rw [hf₂, State.calling_eq h.top, State.setFrames_setFrames, State.setTop_of_frames _ hr', hr]
      rfl
    have hsame : U.sameButNew ({ U with heap := s₂.heap, slotsUsed := s₂.slotsUsed } : State) L mc ms := by
      refine ⟨?_, q2, q3, q4, q5, q6⟩
      obtain ⟨t, ht, -⟩ := State.frames_cons hr
      show ({ U with heap := s₂.heap, slotsUsed := s₂.slotsUsed } : State) = { U.setFrames U.frames with heap := s₂.heap, slotsUsed := s₂.slotsUsed }
      rw [State.setFrames_self ht]
    subst hg
    refine Or.inl ⟨v, ⟨(({ U with heap := s₂.heap, slotsUsed := s₂.slotsUsed } : State).setVm s₂.vm), Ls ++ L, c0 + mc, s0 + ms⟩,
      ⟨X.admits, X.cas, X.clock, X.frames, X.room, X.hears, X.method, X.code, (X.here.setHeapUsed s₂.heap s₂.slotsUsed).setVm hW'.alike, X.tail, State.WarmedH.trans X.warmed hW', X.limits, X.bytes, X.same.trans (hsame.setVm s.vm)⟩,
      ⟨g, mk, s₂, L, rfl, rfl, hqc, rfl, hL, rfl, rfl⟩, ?_⟩
    show Steps p.tables e below _ ((({ U with heap := s₂.heap, slotsUsed := s₂.slotsUsed } : State).setVm s₂.vm).setTop { g with pc := g.pc + len₂, stack := v.toList ++ g.stack })
    rw [← hs₂]
    exact hsteps
  · obtain ⟨e2, q2, q3, q4, q5, q6⟩ := id hsm
    have e3 : s₂ = ({ (U.calling g mk a).setFrames s₂.frames with heap := s₂.heap, slotsUsed := s₂.slotsUsed } : State).setVm s₂.vm := by
      have : s₂ = ({ s₂ with vm := (U.calling g mk a).vm } : State).setVm s₂.vm := rfl
      rw [e2] at this
      exact this
    have hf₂ : s₂.frames = .throwing q :: .java g :: U.frames.tail := hend
    have hW' : U.WarmedH s₂.vm := hW₂
    have hs₂ : s₂ = ((({ U with heap := s₂.heap, slotsUsed := s₂.slotsUsed } : State).setVm s₂.vm).setTop g).pushFrame (.throwing q) := by
      refine e3.trans ?_
      rw [hf₂, State.calling_eq h.top, State.setFrames_setFrames, State.pushFrame, State.frames_setTop _ hr', State.setTop_of_frames _ hr', State.setFrames_setFrames, hr]
      rfl
    have hsame : U.sameButNew ({ U with heap := s₂.heap, slotsUsed := s₂.slotsUsed } : State) L mc ms := by
      refine ⟨?_, q2, q3, q4, q5, q6⟩
      obtain ⟨t, ht, -⟩ := State.frames_cons hr
      show ({ U with heap := s₂.heap, slotsUsed := s₂.slotsUsed } : State) = { U.setFrames U.frames with heap := s₂.heap, slotsUsed := s₂.slotsUsed }
      rw [State.setFrames_self ht]
    subst hg
    refine Or.inr ⟨q, ⟨(({ U with heap := s₂.heap, slotsUsed := s₂.slotsUsed } : State).setVm s₂.vm), Ls ++ L, c0 + mc, s0 + ms⟩,
      ⟨X.admits, X.cas, X.clock, X.frames, X.room, X.hears, X.method, X.code, (X.here.setHeapUsed s₂.heap s₂.slotsUsed).setVm hW'.alike, X.tail, State.WarmedH.trans X.warmed hW', X.limits, X.bytes, X.same.trans (hsame.setVm s.vm)⟩,
      ⟨g, mk, s₂, L, E, ce, rfl, rfl, hx, hce, hcv, hcl, rfl, hL, rfl, rfl⟩, ?_⟩
    show Steps p.tables e below _ (((({ U with heap := s₂.heap, slotsUsed := s₂.slotsUsed } : State).setVm s₂.vm).setTop g).pushFrame (.throwing q))
    rw [← hs₂]
    exact hsteps
end
variable {p : Program} {l : Launch} {e : Env} {R : Room} {s : State} {m : MethodId} {args : Array Value} {below : List Frame} {meth : Method} {c : Code} {T : State} {H : Heap} {locs : List Loc} {cells slots : Nat}
theorem vx_callVX (X : Stand p l e R s m args below meth c T locs cells slots) (hexec : p.tables.exec = Jvm.exec) {own C : String} {index : Nat} {y : MethodName} {bytes : ByteArray} {maxL : Nat} {ret : Option FieldType} {hh : List (Nat × Nat × Nat × Nat)}
    (hown : s.vm.findClass own = some m.cls) (hlink : (Cond.methodLink own index y).before args s = true) (hinst : (Cond.instanceMethod y).before args s = true) (hsel : (Cond.selects C y y).before args s = true)
    (hcode : (Cond.codeWith y bytes maxL ret hh).before args s = true) (hy : y.cls ≠ "java/lang/invoke/MethodHandle" ∧ y.cls ≠ "java/lang/invoke/VarHandle")
    {W9 : Nat} {Pre : Pt → Array Value → Prop} {Post : Pt → Array Value → Option Value → Pt → Prop} {PostX : Pt → Array Value → Addr → Pt → Prop} (hK : vx_Back l R p e below s args y 3 W9 Pre Post PostX)
    {b : Addr} {cellB : Cell} (hcell : T.heap[b]? = some cellB) (hobj : cellB.vm.isStatics = false) (hcls : s.vm.findClass C = some cellB.cls)
    {g : JFrame} (hg : g.method = m) (hsize : g.locals.size = c.maxLocals) {argsL rest : List Value} (hlen : ∀ sig, parseMethodDescriptor y.desc = some sig → argsL.length = sig.parameters.length)
    (hstack : g.stack = argsL.reverse ++ .ref b :: rest) (hW : 2 * g.monitorRoom + (rest.map fun v => v.category).sum ≤ W9) (hdg : decode c.code g.pc = .ok (.invokevirtual index, 3))
    (hpre : ∀ vm₁, s.WarmedH vm₁ → Pre ⟨T.setVm vm₁, locs, cells, slots⟩ (Value.ref b :: argsL).toArray) :
    (∃ (v : Option Value) (vm₁ : Vm) (B : Pt), s.WarmedH vm₁ ∧ Stand p l e R s m args below meth c B.U B.locs B.cells B.slots ∧ Post ⟨T.setVm vm₁, locs, cells, slots⟩ (Value.ref b :: argsL).toArray v B ∧
      ∀ target, Steps p.tables e below (B.U.setTop { g with pc := g.pc + 3, stack := v.toList ++ rest }) target → Steps p.tables e below (T.setTop g) target) ∨
    (∃ (q : Addr) (vm₁ : Vm) (B : Pt), s.WarmedH vm₁ ∧ Stand p l e R s m args below meth c B.U B.locs B.cells B.slots ∧ PostX ⟨T.setVm vm₁, locs, cells, slots⟩ (Value.ref b :: argsL).toArray q B ∧
      Steps p.tables e below (T.setTop g) ((B.U.setTop { g with stack := rest }).pushFrame (.throwing q))) := by
  obtain ⟨mk, methM, hnamed, hmethM, hstM, habM⟩ := Cond.instanceMethod_spec hinst
  obtain ⟨m8, methM', cM, hn8, hmethM', -, -, -, -, -, -, hsigM⟩ := Cond.codeWith_spec hcode
  cases Option.some.inj (hn8.symm.trans hnamed)
  cases hmethM.symm.trans hmethM'
  obtain ⟨c2, r2, m2, q1, q2, q3, q4, kP, hkP, hkPi⟩ := Cond.selects_spec hsel
  cases hcls.symm.trans q1
  cases (State.methodFound?_of_named hnamed hy).symm.trans q2
  cases hnamed.symm.trans q3
  have hselP : selectMethod e.platform s.vm cellB.cls mk = .method mk := by rw [Launch.admits_selectMethod X.admits]; exact q4
  obtain ⟨vm₁, X₁, hstep₁⟩ := X.invokevirtual hexec hown hlink hnamed hmethM hstM hkP hkPi hy (a := b) (cell := cellB) hcell
    (fun z h => by rw [h] at hobj; cases hobj) hselP hmethM habM hkP hkPi (g := g) hg (argsL := argsL) (rest := rest) (hlen _ hsigM) hstack hdg
  rcases hK m meth c ⟨T.setVm vm₁, locs, cells, slots⟩ { g with stack := rest } (.invokevirtual index) mk (Value.ref b :: argsL).toArray X₁ hg hsize hdg hW (X₁.named hnamed) (hpre vm₁ X₁.warmed) with ⟨v, B, X', hpost, hsteps⟩ | ⟨q, B, X', hpost, hsteps⟩
  · exact Or.inl ⟨v, vm₁, B, X₁.warmed, X', hpost, fun target h => hstep₁ _ fun acts => by rw [doInvoke_state]; exact hsteps.trans h⟩
  · exact Or.inr ⟨q, vm₁, B, X₁.warmed, X', hpost, hstep₁ _ fun acts => by rw [doInvoke_state]; exact hsteps⟩
theorem vx_callSX (X : Stand p l e R s m args below meth c T locs cells slots) (hexec : p.tables.exec = Jvm.exec) {own : String} {index : Nat} {y : MethodName} {bytes : ByteArray} {maxL : Nat} {ret : Option FieldType} {hh : List (Nat × Nat × Nat × Nat)}
    (hown : s.vm.findClass own = some m.cls) (hlink : (Cond.methodLink own index y).before args s = true) (hstat : (Cond.static y).before args s = true) (hinit : (Cond.initialized y.cls).before args s = true)
    (hcode : (Cond.codeWith y bytes maxL ret hh).before args s = true) (hy : y.cls ≠ "java/lang/invoke/MethodHandle" ∧ y.cls ≠ "java/lang/invoke/VarHandle")
    {W9 : Nat} {Pre : Pt → Array Value → Prop} {Post : Pt → Array Value → Option Value → Pt → Prop} {PostX : Pt → Array Value → Addr → Pt → Prop} (hK : vx_Back l R p e below s args y 3 W9 Pre Post PostX)
    {g : JFrame} (hg : g.method = m) (hsize : g.locals.size = c.maxLocals) {argsL rest : List Value} (hlen : ∀ sig, parseMethodDescriptor y.desc = some sig → argsL.length = sig.parameters.length)
    (hstack : g.stack = argsL.reverse ++ rest) (hW : 2 * g.monitorRoom + (rest.map fun v => v.category).sum ≤ W9) (hdg : decode c.code g.pc = .ok (.invokestatic index, 3))
    (hpre : ∀ vm₁, s.WarmedH vm₁ → Pre ⟨T.setVm vm₁, locs, cells, slots⟩ argsL.toArray) :
    (∃ (v : Option Value) (vm₁ : Vm) (B : Pt), s.WarmedH vm₁ ∧ Stand p l e R s m args below meth c B.U B.locs B.cells B.slots ∧ Post ⟨T.setVm vm₁, locs, cells, slots⟩ argsL.toArray v B ∧
      ∀ target, Steps p.tables e below (B.U.setTop { g with pc := g.pc + 3, stack := v.toList ++ rest }) target → Steps p.tables e below (T.setTop g) target) ∨
    (∃ (q : Addr) (vm₁ : Vm) (B : Pt), s.WarmedH vm₁ ∧ Stand p l e R s m args below meth c B.U B.locs B.cells B.slots ∧ PostX ⟨T.setVm vm₁, locs, cells, slots⟩ argsL.toArray q B ∧
      Steps p.tables e below (T.setTop g) ((B.U.setTop { g with stack := rest }).pushFrame (.throwing q))) := by
  obtain ⟨mk, methM, cM, hnamed, hmethM, -, -, -, -, -, -, hsigM⟩ := Cond.codeWith_spec hcode
  have hstatic : methM.isStatic = true := Cond.static_spec hnamed hmethM hstat
  obtain ⟨kP, hkP, -⟩ := className_of_methodNamed hnamed
  have hinitP : kP.init = .initialized := Cond.initialized_spec (findClass_of_methodNamed hnamed) hkP hinit
  obtain ⟨vm₁, X₁, hstep₁⟩ := X.invokestatic hexec hown hlink hnamed hmethM hstatic hkP hinitP hy (g := g) hg (argsL := argsL) (rest := rest) (hlen _ hsigM) hstack hdg
  rcases hK m meth c ⟨T.setVm vm₁, locs, cells, slots⟩ { g with stack := rest } (.invokestatic index) mk argsL.toArray X₁ hg hsize hdg hW (X₁.named hnamed) (hpre vm₁ X₁.warmed) with ⟨v, B, X', hpost, hsteps⟩ | ⟨q, B, X', hpost, hsteps⟩
  · exact Or.inl ⟨v, vm₁, B, X₁.warmed, X', hpost, fun target h => hstep₁ _ fun acts => by rw [doInvoke_state]; exact hsteps.trans h⟩
  · exact Or.inr ⟨q, vm₁, B, X₁.warmed, X', hpost, hstep₁ _ fun acts => by rw [doInvoke_state]; exact hsteps⟩
theorem vx_callVW (X : Stand p l e R s m args below meth c T locs cells slots) (hexec : p.tables.exec = Jvm.exec) {own C : String} {index : Nat} {y : MethodName} {bytes : ByteArray} {maxL : Nat} {ret : Option FieldType} {hh : List (Nat × Nat × Nat × Nat)}
    (hown : s.vm.findClass own = some m.cls) (hlink : (Cond.methodLink own index y).before args s = true) (hinst : (Cond.instanceMethod y).before args s = true) (hsel : (Cond.selects C y y).before args s = true)
    (hcode : (Cond.codeWith y bytes maxL ret hh).before args s = true) (hy : y.cls ≠ "java/lang/invoke/MethodHandle" ∧ y.cls ≠ "java/lang/invoke/VarHandle")
    {W9 : Nat} {Pre : Pt → Array Value → Prop} {Post : Pt → Array Value → Option Value → Pt → Prop} (hK : Back l R p e below s args y 3 W9 Pre Post)
    {b : Addr} {cellB : Cell} (hcell : T.heap[b]? = some cellB) (hobj : cellB.vm.isStatics = false) (hcls : s.vm.findClass C = some cellB.cls)
    {g : JFrame} (hg : g.method = m) (hsize : g.locals.size = c.maxLocals) {argsL rest : List Value} (hlen : ∀ sig, parseMethodDescriptor y.desc = some sig → argsL.length = sig.parameters.length)
    (hstack : g.stack = argsL.reverse ++ .ref b :: rest) (hW : 2 * g.monitorRoom + (rest.map fun v => v.category).sum ≤ W9) (hdg : decode c.code g.pc = .ok (.invokevirtual index, 3))
    (hpre : ∀ vm₁, s.WarmedH vm₁ → Pre ⟨T.setVm vm₁, locs, cells, slots⟩ (Value.ref b :: argsL).toArray) :
    ∃ (v : Option Value) (vm₁ : Vm) (B : Pt), s.WarmedH vm₁ ∧ Stand p l e R s m args below meth c B.U B.locs B.cells B.slots ∧ Post ⟨T.setVm vm₁, locs, cells, slots⟩ (Value.ref b :: argsL).toArray v B ∧
      ∀ target, Steps p.tables e below (B.U.setTop { g with pc := g.pc + 3, stack := v.toList ++ rest }) target → Steps p.tables e below (T.setTop g) target := by
  obtain ⟨mk, methM, hnamed, hmethM, hstM, habM⟩ := Cond.instanceMethod_spec hinst
  obtain ⟨m8, methM', cM, hn8, hmethM', -, -, -, -, -, -, hsigM⟩ := Cond.codeWith_spec hcode
  cases Option.some.inj (hn8.symm.trans hnamed)
  cases hmethM.symm.trans hmethM'
  obtain ⟨c2, r2, m2, q1, q2, q3, q4, kP, hkP, hkPi⟩ := Cond.selects_spec hsel
  cases hcls.symm.trans q1
  cases (State.methodFound?_of_named hnamed hy).symm.trans q2
  cases hnamed.symm.trans q3
  have hselP : selectMethod e.platform s.vm cellB.cls mk = .method mk := by rw [Launch.admits_selectMethod X.admits]; exact q4
  obtain ⟨vm₁, X₁, hstep₁⟩ := X.invokevirtual hexec hown hlink hnamed hmethM hstM hkP hkPi hy (a := b) (cell := cellB) hcell
    (fun z h => by rw [h] at hobj; cases hobj) hselP hmethM habM hkP hkPi (g := g) hg (argsL := argsL) (rest := rest) (hlen _ hsigM) hstack hdg
  obtain ⟨v, B, X', hpost, hsteps⟩ := hK m meth c ⟨T.setVm vm₁, locs, cells, slots⟩ { g with stack := rest } (.invokevirtual index) mk (Value.ref b :: argsL).toArray X₁ hg hsize hdg hW (X₁.named hnamed) (hpre vm₁ X₁.warmed)
  exact ⟨v, vm₁, B, X₁.warmed, X', hpost, fun target h => hstep₁ _ fun acts => by rw [doInvoke_state]; exact hsteps.trans h⟩
abbrev vx_CVW (R : Room) (s : State) (args : Array Value) (own C : String) (index : Nat) (y : MethodName) (bytes : ByteArray) (maxL : Nat) (ret : Option FieldType) (hh : List (Nat × Nat × Nat × Nat)) (ws : List Cond) (rm : Room) (mc ms n : Nat) : Prop :=
  (rm.cells = mc ∧ rm.slots = ms ∧ rm.frames + 1 ≤ R.frames ∧ 8 + (maxL + 11) + rm.locals ≤ R.locals ∧ (∀ w ∈ ws, ∀ (a' : Array Value) (U : State), s.WarmedH U.vm → w.before a' U = true) ∧ Cond.codeWith y bytes maxL ret hh ∈ ws) ∧
  (Cond.codeWith y bytes maxL ret hh).before args s = true ∧ (Cond.initialized y.cls).before args s = true ∧ (y.cls ≠ "java/lang/invoke/MethodHandle" ∧ y.cls ≠ "java/lang/invoke/VarHandle") ∧
  (∀ sig, parseMethodDescriptor y.desc = some sig → n = sig.parameters.length) ∧ (Cond.methodLink own index y).before args s = true ∧ (Cond.instanceMethod y).before args s = true ∧ (Cond.selects C y y).before args s = true
theorem vx_cwVW {own C : String} {index maxL mc ms : Nat} {y : MethodName} {bytes : ByteArray} {ret : Option FieldType} {hh : List (Nat × Nat × Nat × Nat)} {Ts ws ws' : List Cond} {rm : Room} (n : Nat) (ht : ∀ w ∈ Ts, w.before args s = true) (hT : GoodIn Ts (wsV own index C y ws)) (hw : ws = Cond.codeWith y bytes maxL ret hh :: ws') (hrc : rm.cells = mc) (hrs : rm.slots = ms)
    (hd : y.cls = C ∧ y.cls ≠ "java/lang/invoke/MethodHandle" ∧ y.cls ≠ "java/lang/invoke/VarHandle" ∧ (parseMethodDescriptor y.desc).map (fun d => d.parameters.length) = some n) (hR : rm.frames + 1 ≤ R.frames ∧ 8 + (maxL + 11) + rm.locals ≤ R.locals) :
    vx_CVW R s args own C index y bytes maxL ret hh ws rm mc ms n := by
  obtain ⟨hC, hd⟩ := hd
  subst hC
  have ok : ∀ w ∈ wsV own index y.cls y ws, w.before args s = true := fun w h => ht w (hT w h).1
  have hG : GoodIn Ts ws := fun w h => hT w (by unfold wsV; exact List.mem_append_right _ h)
  have hc : Cond.codeWith y bytes maxL ret hh ∈ ws := by rw [hw]; exact List.mem_cons_self
  refine ⟨⟨hrc, hrs, hR.1, hR.2, pay_in ht hG, hc⟩, ht _ (hG _ hc).1, ok _ (by simp [wsV]), ⟨hd.1, hd.2.1⟩, fun sig h => ?_, ok _ (by simp [wsV]), ok _ (by simp [wsV]), ok _ (by simp [wsV])⟩
  have h2 := hd.2.2
  rw [h] at h2
  exact (Option.some.inj h2).symm
theorem vx_runVW {y : MethodName} {bytes cc : ByteArray} {maxL nL mc ms n index : Nat} {ret : Option FieldType} {hh : List (Nat × Nat × Nat × Nat)} {ws : List Cond} {rm : Room} {Pc : Array Value → State → Prop} {Qc : Array Value → State → Outcome → State → Prop} {free : Addr → Prop} {Ts : List Cond} {own C : String} {b : Addr} {As rest : List Value} {g : JFrame}
    (S : CallFix p m c cc nL s args Ts own) (hM : Met l y ws rm Pc Qc mc ms free) (cw : vx_CVW R s args own C index y bytes maxL ret hh ws rm mc ms n) (hp : PreV s H C b Pc As)
    (hg : g.method = m) (hn : As.length = n) (hsize : g.locals.size = nL) (hstack : g.stack = As.reverse ++ .ref b :: rest) (hW : 2 * g.monitorRoom + (rest.map fun v => v.category).sum ≤ 8) (hdg : decode cc g.pc = .ok (.invokevirtual index, 3)) (hf : cells + mc ≤ R.cells ∧ slots + ms ≤ R.slots) :
    va_Run p l e R s m args below meth c H locs cells slots mc ms g rest (Qc (Value.ref b :: As).toArray) free := by
  obtain ⟨⟨hrc, hrs, hfr, hlo, hws, hcw⟩, hcode, hini, hy, hlen, hl, hin, hse⟩ := cw
  have hK : Back l R p e below s args y 3 8 (PreOf R mc ms Pc) (PostOf Qc mc ms free) := va_backW (hh := hh) (bytes := bytes) (maxL := maxL) (ret := ret) hM hp.1 hrc hrs hfr hlo hws hcw (fun a' U hW => word_at hW (Or.inl (by first | rfl | simp [Cond.onTables, Cond.keeps, Cond.steady])) hini)
  obtain ⟨hx, hb, hml, ho, -⟩ := S
  obtain ⟨-, ⟨cellB, hcB, hoB, hclB⟩, hPc⟩ := hp
  intro T hT X
  obtain ⟨v, vm₁, ⟨U', l2, c2, s2⟩, hW₁, X', ⟨g', mk, t, L, e1, e2, hq, h1, hL, h2, h3⟩, st⟩ := vx_callVW X hx (C := C) (hh := hh) (bytes := bytes) (maxL := maxL) (ret := ret) ho hl hin hse hcode hy hK (by rw [hT]; exact hcB) hoB hclB hg (hsize.trans hml.symm) (argsL := As) (rest := rest) (fun sig h => hn.trans (hlen sig h)) hstack hW (by rw [hb]; exact hdg)
    (fun vm₁ hW₁ => ⟨hf.1, hf.2, hPc (T.setVm vm₁) hT hW₁⟩)
  dsimp only [Pt.U, Pt.locs, Pt.cells, Pt.slots] at X' e1 e2 h1 h2 h3 st
  subst h1; subst h2; subst h3
  exact ⟨v, (T.setVm vm₁).calling g' mk (Value.ref b :: As).toArray, t, U', L, hT, X', hL, e1, e2, hq, st⟩
section
variable {y : MethodName} {bytes cc : ByteArray} {maxL nL mc ms n index : Nat} {ret : Option FieldType} {ws : List Cond} {rm : Room} {Pc : Array Value → State → Prop} {Qc : Array Value → State → Outcome → State → Prop} {XC : String → State → State → Prop} {free : Addr → Prop} {Ts : List Cond} {own C : String} {b : Addr} {As rest : List Value} {g : JFrame}
theorem vx_runVX {hh : List (Nat × Nat × Nat × Nat)} (S : CallFix p m c cc nL s args Ts own) (hM : vx_Met l y ws rm Pc Qc XC mc ms free) (cw : vx_CVW R s args own C index y bytes maxL ret hh ws rm mc ms n) (hp : PreV s H C b Pc As)
    (hg : g.method = m) (hn : As.length = n) (hsize : g.locals.size = nL) (hstack : g.stack = As.reverse ++ .ref b :: rest) (hW : 2 * g.monitorRoom + (rest.map fun v => v.category).sum ≤ 8) (hdg : decode cc g.pc = .ok (.invokevirtual index, 3)) (hf : cells + mc ≤ R.cells ∧ slots + ms ≤ R.slots) :
    vx_Run p l e R s m args below meth c H locs cells slots mc ms g rest (Qc (Value.ref b :: As).toArray) XC free := by
  obtain ⟨⟨hrc, hrs, hfr, hlo, hws, hcw⟩, hcode, hini, hy, hlen, hl, hin, hse⟩ := cw
  have hK : vx_Back l R p e below s args y 3 8 (PreOf R mc ms Pc) (PostOf Qc mc ms free) (vx_Post XC mc ms free) := vx_backW (hh := hh) (bytes := bytes) (maxL := maxL) (ret := ret) hM hp.1 hrc hrs hfr hlo hws hcw (fun a' U hW => word_at hW (Or.inl (by first | rfl | simp [Cond.onTables, Cond.keeps, Cond.steady])) hini)
  obtain ⟨hx, hb, hml, ho, -⟩ := S
  obtain ⟨-, ⟨cellB, hcB, hoB, hclB⟩, hPc⟩ := hp
  intro T hT X
  rcases vx_callVX X hx (C := C) (hh := hh) (bytes := bytes) (maxL := maxL) (ret := ret) ho hl hin hse hcode hy hK (by rw [hT]; exact hcB) hoB hclB hg (hsize.trans hml.symm) (argsL := As) (rest := rest) (fun sig h => hn.trans (hlen sig h)) hstack hW (by rw [hb]; exact hdg)
    (fun vm₁ hW₁ => ⟨hf.1, hf.2, hPc (T.setVm vm₁) hT hW₁⟩) with ⟨v, vm₁, ⟨U', l2, c2, s2⟩, hW₁, X', ⟨g', mk, t, L, e1, e2, hq, h1, hL, h2, h3⟩, st⟩ | ⟨q, vm₁, ⟨U', l2, c2, s2⟩, hW₁, X', ⟨g', mk, t, L, E, ce, e1, e2, hq, hce, hcv, hcl, h1, hL, h2, h3⟩, st⟩
  · dsimp only [Pt.U, Pt.locs, Pt.cells, Pt.slots] at X' e1 e2 h1 h2 h3 st
    subst h1; subst h2; subst h3
    exact Or.inl ⟨v, (T.setVm vm₁).calling g' mk (Value.ref b :: As).toArray, t, U', L, hT, X', hL, e1, e2, hq, st⟩
  · dsimp only [Pt.U, Pt.locs, Pt.cells, Pt.slots] at X' e1 e2 h1 h2 h3 st hcl
    subst h1; subst h2; subst h3
    exact Or.inr ⟨q, (T.setVm vm₁).calling g' mk (Value.ref b :: As).toArray, t, U', L, E, ce, hT, X', hL, e1, e2, hq, hce, hcv, vx_cls hW₁ hcl, st⟩
theorem vx_runSX {hh : List (Nat × Nat × Nat × Nat)} (S : CallFix p m c cc nL s args Ts own) (hM : vx_Met l y ws rm Pc Qc XC mc ms free) (cw : vx_CSW R s args own index y bytes maxL ret hh ws rm mc ms n) (hp : PreS s H Pc As)
    (hg : g.method = m) (hn : As.length = n) (hsize : g.locals.size = nL) (hstack : g.stack = As.reverse ++ rest) (hW : 2 * g.monitorRoom + (rest.map fun v => v.category).sum ≤ 8) (hdg : decode cc g.pc = .ok (.invokestatic index, 3)) (hf : cells + mc ≤ R.cells ∧ slots + ms ≤ R.slots) :
    vx_Run p l e R s m args below meth c H locs cells slots mc ms g rest (Qc As.toArray) XC free := by
  obtain ⟨⟨hrc, hrs, hfr, hlo, hws, hcw⟩, hcode, hini, hy, hlen, hl, hstt⟩ := cw
  have hK : vx_Back l R p e below s args y 3 8 (PreOf R mc ms Pc) (PostOf Qc mc ms free) (vx_Post XC mc ms free) := vx_backW (hh := hh) (bytes := bytes) (maxL := maxL) (ret := ret) hM hp.1 hrc hrs hfr hlo hws hcw (fun a' U hW => word_at hW (Or.inl (by first | rfl | simp [Cond.onTables, Cond.keeps, Cond.steady])) hini)
  obtain ⟨hx, hb, hml, ho, -⟩ := S
  intro T hT X
  rcases vx_callSX X hx (hh := hh) (bytes := bytes) (maxL := maxL) (ret := ret) ho hl hstt hini hcode hy hK hg (hsize.trans hml.symm) (argsL := As) (rest := rest) (fun sig h => hn.trans (hlen sig h)) hstack hW (by rw [hb]; exact hdg)
    (fun vm₁ hW₁ => ⟨hf.1, hf.2, hp.2 (T.setVm vm₁) hT hW₁⟩) with ⟨v, vm₁, ⟨U', l2, c2, s2⟩, hW₁, X', ⟨g', mk, t, L, e1, e2, hq, h1, hL, h2, h3⟩, st⟩ | ⟨q, vm₁, ⟨U', l2, c2, s2⟩, hW₁, X', ⟨g', mk, t, L, E, ce, e1, e2, hq, hce, hcv, hcl, h1, hL, h2, h3⟩, st⟩
  · dsimp only [Pt.U, Pt.locs, Pt.cells, Pt.slots] at X' e1 e2 h1 h2 h3 st
    subst h1; subst h2; subst h3
    exact Or.inl ⟨v, (T.setVm vm₁).calling g' mk As.toArray, t, U', L, hT, X', hL, e1, e2, hq, st⟩
  · dsimp only [Pt.U, Pt.locs, Pt.cells, Pt.slots] at X' e1 e2 h1 h2 h3 st hcl
    subst h1; subst h2; subst h3
    exact Or.inr ⟨q, (T.setVm vm₁).calling g' mk As.toArray, t, U', L, E, ce, hT, X', hL, e1, e2, hq, hce, hcv, vx_cls hW₁ hcl, st⟩
end
end VXH
theorem vx_ofWH {l : Launch} {y : MethodName} {ws ws' : List Cond} {rm : Room} {Pc : Array Value → State → Prop} {Qc : Array Value → State → Outcome → State → Prop} {XC : String → State → State → Prop} {mc ms : Nat} {free : Addr → Prop} {cc : ByteArray} {maxL : Nat} {ret : Option FieldType} {hh : List (Nat × Nat × Nat × Nat)}
    (hy : plainName y.cls = true) (hw : ws = Cond.codeWith y cc maxL ret hh :: ws')
    (body : ∀ p e s m args below meth c s₁, BodyLoose p l y (headSpec ws rm) cc maxL ret e s m args below meth c s₁ → c.maxLocals = maxL → Pc args s →
      W p l e (headSpec ws rm).room s m args below meth c s.heap [] 0 0 (vx_MQ below Qc XC args s mc ms free) (entryFrame m args maxL)) : vx_Met l y ws rm Pc Qc XC mc ms free := by
  refine MetFree.of_bodyS (code := cc) (maxLocals := maxL) (ret := ret) hy ?_ ?_
  · intro args s m h hn
    obtain ⟨m9, meth, c, hn9, h1, h2, h3, h4, -, h5, h6, -⟩ := Cond.codeWith_spec (atoms_spec (ws := ws) h _ (by rw [hw]; exact List.mem_cons_self))
    cases hn.symm.trans hn9
    exact ⟨meth, c, h1, h2, h3, h4, h5, h6⟩
  · intro p e s m args below meth c s₁ B hml hP _
    have hh0 : s₁.heap = s.heap := by rw [B.state]; rfl
    obtain ⟨t, a1, o, b1, b2, b3⟩ := body p e s m args below meth c s₁ B hml hP s₁ hh0 (Stand.of_body B)
    exact ⟨t, o, a1, b1, b2, b3⟩
/-! ===== END ===== -/
end
section
/-! ===== BEGIN printed: names, fields, word lists, decode rows ===== -/
def RX0 : String := "FeatureDesugarer$Code"
def TX0 : u_T := fun k => match k with
  | _ => ("", "", "", false)
def tyX0 : Nat → FieldType := fun k => match k with
  | _ => .int
abbrev wsX00 : List Cond := u_ws RX0 TX0 0
theorem nmX0 : ∀ a, a < 0 → ∀ b, b < 0 → a ≠ b → (TX0 a).2.1 ≠ (TX0 b).2.1 := by decide +kernel
theorem tyX0_ok : ∀ k, k < 0 → parseFieldDescriptor (TX0 k).2.2.1 = some (tyX0 k) := by decide +kernel
def RX1 : String := "FeatureDesugarer$Frames"
def TX1 : u_T := fun k => match k with
  | 0 => ("FeatureDesugarer$Frames", "slots", "[J", true)
  | 1 => ("FeatureDesugarer$Frames", "units", "[I", true)
  | 2 => ("FeatureDesugarer$Frames", "places", "[I", true)
  | 3 => ("FeatureDesugarer$Frames", "tops", "[I", true)
  | 4 => ("FeatureDesugarer$Frames", "taken", "[J", true)
  | 5 => ("FeatureDesugarer$Frames", "frames", "I", false)
  | _ => ("FeatureDesugarer$Frames", "current", "I", false)
def tyX1 : Nat → FieldType := fun k => match k with
  | 0 => .array .long
  | 1 => .array .int
  | 2 => .array .int
  | 3 => .array .int
  | 4 => .array .long
  | 5 => .int
  | _ => .int
abbrev wsX10 : List Cond := u_ws RX1 TX1 7
theorem nmX1 : ∀ a, a < 7 → ∀ b, b < 7 → a ≠ b → (TX1 a).2.1 ≠ (TX1 b).2.1 := by decide +kernel
theorem tyX1_ok : ∀ k, k < 7 → parseFieldDescriptor (TX1 k).2.2.1 = some (tyX1 k) := by decide +kernel
abbrev cX1_init : ByteArray := prog_3_method_1_code
def yX1_init : MethodName := ⟨RX1, "<init>", "()V"⟩
abbrev cX1_clear : ByteArray := prog_3_method_2_code
def yX1_clear : MethodName := ⟨RX1, "clear", "()V"⟩
abbrev cX1_areOpen : ByteArray := prog_3_method_3_code
def yX1_areOpen : MethodName := ⟨RX1, "areOpen", "()Z"⟩
abbrev cX1_open : ByteArray := prog_3_method_4_code
def yX1_open : MethodName := ⟨RX1, "open", "(I)V"⟩
abbrev cX1_close : ByteArray := prog_3_method_5_code
def yX1_close : MethodName := ⟨RX1, "close", "()V"⟩
abbrev cX1_unit : ByteArray := prog_3_method_6_code
def yX1_unit : MethodName := ⟨RX1, "unit", "()I"⟩
abbrev cX1_place : ByteArray := prog_3_method_7_code
def yX1_place : MethodName := ⟨RX1, "place", "()I"⟩
abbrev cX1_goTo : ByteArray := prog_3_method_8_code
def yX1_goTo : MethodName := ⟨RX1, "goTo", "(I)V"⟩
abbrev cX1_local : ByteArray := prog_3_method_9_code
def yX1_local : MethodName := ⟨RX1, "local", "(I)J"⟩
abbrev cX1_setLocal : ByteArray := prog_3_method_10_code
def yX1_setLocal : MethodName := ⟨RX1, "setLocal", "(IJ)V"⟩
abbrev cX1_push : ByteArray := prog_3_method_11_code
def yX1_push : MethodName := ⟨RX1, "push", "(J)V"⟩
abbrev cX1_pop : ByteArray := prog_3_method_12_code
def yX1_pop : MethodName := ⟨RX1, "pop", "()J"⟩
abbrev cX1_take : ByteArray := prog_3_method_13_code
def yX1_take : MethodName := ⟨RX1, "take", "(I)V"⟩
abbrev cX1_takenAt : ByteArray := prog_3_method_14_code
def yX1_takenAt : MethodName := ⟨RX1, "takenAt", "(I)J"⟩
abbrev cX1_setLocalsToTaken : ByteArray := prog_3_method_15_code
def yX1_setLocalsToTaken : MethodName := ⟨RX1, "setLocalsToTaken", "(II)V"⟩
def RX2 : String := "FeatureDesugarer$Holders"
def TX2 : u_T := fun k => match k with
  | 0 => ("FeatureDesugarer$Holders", "types", "[I", true)
  | 1 => ("FeatureDesugarer$Holders", "sizes", "[I", true)
  | 2 => ("FeatureDesugarer$Holders", "values", "[J", true)
  | _ => ("FeatureDesugarer$Holders", "holders", "I", false)
def tyX2 : Nat → FieldType := fun k => match k with
  | 0 => .array .int
  | 1 => .array .int
  | 2 => .array .long
  | _ => .int
abbrev wsX20 : List Cond := u_ws RX2 TX2 4
theorem nmX2 : ∀ a, a < 4 → ∀ b, b < 4 → a ≠ b → (TX2 a).2.1 ≠ (TX2 b).2.1 := by decide +kernel
theorem tyX2_ok : ∀ k, k < 4 → parseFieldDescriptor (TX2 k).2.2.1 = some (tyX2 k) := by decide +kernel
abbrev cX2_init : ByteArray := prog_4_method_1_code
def yX2_init : MethodName := ⟨RX2, "<init>", "()V"⟩
abbrev cX2_clear : ByteArray := prog_4_method_2_code
def yX2_clear : MethodName := ⟨RX2, "clear", "()V"⟩
abbrev cX2_add : ByteArray := prog_4_method_3_code
def yX2_add : MethodName := ⟨RX2, "add", "(II)J"⟩
abbrev cX2_typeOf : ByteArray := prog_4_method_4_code
def yX2_typeOf : MethodName := ⟨RX2, "typeOf", "(I)I"⟩
abbrev cX2_sizeOf : ByteArray := prog_4_method_5_code
def yX2_sizeOf : MethodName := ⟨RX2, "sizeOf", "(I)I"⟩
abbrev cX2_valueAt : ByteArray := prog_4_method_6_code
def yX2_valueAt : MethodName := ⟨RX2, "valueAt", "(II)J"⟩
abbrev cX2_setValue : ByteArray := prog_4_method_7_code
def yX2_setValue : MethodName := ⟨RX2, "setValue", "(IIJ)V"⟩
def RX3 : String := "FeatureDesugarer$Instructions"
def TX3 : u_T := fun k => match k with
  | 0 => ("FeatureDesugarer$Instructions", "words", "[I", false)
  | 1 => ("FeatureDesugarer$Instructions", "firstNumbers", "[I", false)
  | 2 => ("FeatureDesugarer$Instructions", "secondNumbers", "[I", false)
  | 3 => ("FeatureDesugarer$Instructions", "steps", "[I", false)
  | _ => ("FeatureDesugarer$Instructions", "length", "I", false)
def tyX3 : Nat → FieldType := fun k => match k with
  | 0 => .array .int
  | 1 => .array .int
  | 2 => .array .int
  | 3 => .array .int
  | _ => .int
abbrev wsX30 : List Cond := u_ws RX3 TX3 5
theorem nmX3 : ∀ a, a < 5 → ∀ b, b < 5 → a ≠ b → (TX3 a).2.1 ≠ (TX3 b).2.1 := by decide +kernel
theorem tyX3_ok : ∀ k, k < 5 → parseFieldDescriptor (TX3 k).2.2.1 = some (tyX3 k) := by decide +kernel
abbrev cX3_init : ByteArray := prog_5_method_1_code
def yX3_init : MethodName := ⟨RX3, "<init>", "()V"⟩
abbrev cX3_clear : ByteArray := prog_5_method_2_code
def yX3_clear : MethodName := ⟨RX3, "clear", "()V"⟩
abbrev cX3_length : ByteArray := prog_5_method_3_code
def yX3_length : MethodName := ⟨RX3, "length", "()I"⟩
abbrev cX3_add : ByteArray := prog_5_method_4_code
def yX3_add : MethodName := ⟨RX3, "add", "(III)V"⟩
abbrev cX3_grow : ByteArray := prog_5_method_5_code
def yX3_grow : MethodName := ⟨RX3, "grow", "()V"⟩
abbrev cX3_markStep : ByteArray := prog_5_method_6_code
def yX3_markStep : MethodName := ⟨RX3, "markStep", "(I)V"⟩
abbrev cX3_setFirstNumber : ByteArray := prog_5_method_7_code
def yX3_setFirstNumber : MethodName := ⟨RX3, "setFirstNumber", "(II)V"⟩
abbrev cX3_word : ByteArray := prog_5_method_8_code
def yX3_word : MethodName := ⟨RX3, "word", "(I)I"⟩
abbrev cX3_firstNumber : ByteArray := prog_5_method_9_code
def yX3_firstNumber : MethodName := ⟨RX3, "firstNumber", "(I)I"⟩
abbrev cX3_secondNumber : ByteArray := prog_5_method_10_code
def yX3_secondNumber : MethodName := ⟨RX3, "secondNumber", "(I)I"⟩
abbrev cX3_isStep : ByteArray := prog_5_method_11_code
def yX3_isStep : MethodName := ⟨RX3, "isStep", "(I)Z"⟩
def RX4 : String := "FeatureDesugarer$Machine"
def TX4 : u_T := fun k => match k with
  | 0 => ("FeatureDesugarer$Machine", "program", "LFeatureDesugarer$Program;", true)
  | 1 => ("FeatureDesugarer$Machine", "plainCode", "LFeatureDesugarer$PlainCode;", true)
  | 2 => ("FeatureDesugarer$Machine", "frames", "LFeatureDesugarer$Frames;", true)
  | 3 => ("FeatureDesugarer$Machine", "holders", "LFeatureDesugarer$Holders;", true)
  | 4 => ("FeatureDesugarer$Machine", "texts", "LFeatureDesugarer$Texts;", true)
  | 5 => ("FeatureDesugarer$Machine", "code", "LFeatureDesugarer$Code;", false)
  | 6 => ("FeatureDesugarer$Machine", "openFunctions", "I", false)
  | 7 => ("FeatureDesugarer$Machine", "steps", "I", false)
  | 8 => ("FeatureDesugarer$Machine", "fault", "I", false)
  | _ => ("FeatureDesugarer$Machine", "returned", "J", false)
def tyX4 : Nat → FieldType := fun k => match k with
  | 0 => .object "FeatureDesugarer$Program"
  | 1 => .object "FeatureDesugarer$PlainCode"
  | 2 => .object "FeatureDesugarer$Frames"
  | 3 => .object "FeatureDesugarer$Holders"
  | 4 => .object "FeatureDesugarer$Texts"
  | 5 => .object "FeatureDesugarer$Code"
  | 6 => .int
  | 7 => .int
  | 8 => .int
  | _ => .long
abbrev wsX40 : List Cond := u_ws RX4 TX4 10
theorem nmX4 : ∀ a, a < 10 → ∀ b, b < 10 → a ≠ b → (TX4 a).2.1 ≠ (TX4 b).2.1 := by decide +kernel
theorem tyX4_ok : ∀ k, k < 10 → parseFieldDescriptor (TX4 k).2.2.1 = some (tyX4 k) := by decide +kernel
abbrev cX4_init : ByteArray := prog_6_method_1_code
def yX4_init : MethodName := ⟨RX4, "<init>", "(LFeatureDesugarer$Program;LFeatureDesugarer$PlainCode;)V"⟩
abbrev cX4_outputLength : ByteArray := prog_6_method_2_code
def yX4_outputLength : MethodName := ⟨RX4, "outputLength", "()I"⟩
abbrev cX4_outputAt : ByteArray := prog_6_method_3_code
def yX4_outputAt : MethodName := ⟨RX4, "outputAt", "(I)I"⟩
abbrev cX4_stepTotal : ByteArray := prog_6_method_4_code
def yX4_stepTotal : MethodName := ⟨RX4, "stepTotal", "()I"⟩
abbrev cX4_returnedKind : ByteArray := prog_6_method_5_code
def yX4_returnedKind : MethodName := ⟨RX4, "returnedKind", "()I"⟩
abbrev cX4_returnedNumber : ByteArray := prog_6_method_6_code
def yX4_returnedNumber : MethodName := ⟨RX4, "returnedNumber", "()I"⟩
abbrev cX4_perform : ByteArray := prog_6_method_7_code
def yX4_perform : MethodName := ⟨RX4, "perform", "(IIIIZ)I"⟩
abbrev cX4_doNext : ByteArray := prog_6_method_8_code
def yX4_doNext : MethodName := ⟨RX4, "doNext", "()V"⟩
abbrev cX4_doShared : ByteArray := prog_6_method_9_code
def yX4_doShared : MethodName := ⟨RX4, "doShared", "(II)V"⟩
abbrev cX4_doFirst : ByteArray := prog_6_method_10_code
def yX4_doFirst : MethodName := ⟨RX4, "doFirst", "(III)V"⟩
abbrev cX4_doPlain : ByteArray := prog_6_method_11_code
def yX4_doPlain : MethodName := ⟨RX4, "doPlain", "(III)V"⟩
abbrev cX4_faultUnless : ByteArray := prog_6_method_12_code
def yX4_faultUnless : MethodName := ⟨RX4, "faultUnless", "(ZI)V"⟩
abbrev cX4_reckon : ByteArray := prog_6_method_13_code
def yX4_reckon : MethodName := ⟨RX4, "reckon", "(I)V"⟩
abbrev cX4_goIfZero : ByteArray := prog_6_method_14_code
def yX4_goIfZero : MethodName := ⟨RX4, "goIfZero", "(I)V"⟩
abbrev cX4_beginFunction : ByteArray := prog_6_method_15_code
def yX4_beginFunction : MethodName := ⟨RX4, "beginFunction", "(I)Z"⟩
abbrev cX4_callFunction : ByteArray := prog_6_method_16_code
def yX4_callFunction : MethodName := ⟨RX4, "callFunction", "(I)V"⟩
abbrev cX4_giveBack : ByteArray := prog_6_method_17_code
def yX4_giveBack : MethodName := ⟨RX4, "giveBack", "()V"⟩
abbrev cX4_applyTo : ByteArray := prog_6_method_18_code
def yX4_applyTo : MethodName := ⟨RX4, "applyTo", "(I)V"⟩
abbrev cX4_invoke : ByteArray := prog_6_method_19_code
def yX4_invoke : MethodName := ⟨RX4, "invoke", "(I)V"⟩
abbrev cX4_join : ByteArray := prog_6_method_20_code
def yX4_join : MethodName := ⟨RX4, "join", "(ILFeatureDesugarer$Recipes;)V"⟩
abbrev cX4_appendCharacters : ByteArray := prog_6_method_21_code
def yX4_appendCharacters : MethodName := ⟨RX4, "appendCharacters", "(II)V"⟩
def RX5 : String := "FeatureDesugarer$PlainCode"
def TX5 : u_T := fun k => match k with
  | 0 => ("FeatureDesugarer$PlainCode", "program", "LFeatureDesugarer$Program;", true)
  | 1 => ("FeatureDesugarer$PlainCode", "ways", "LFeatureDesugarer$Ways;", true)
  | 2 => ("FeatureDesugarer$PlainCode", "instructions", "LFeatureDesugarer$Instructions;", true)
  | 3 => ("FeatureDesugarer$PlainCode", "starts", "[I", true)
  | 4 => ("FeatureDesugarer$PlainCode", "classFunctions", "[I", true)
  | 5 => ("FeatureDesugarer$PlainCode", "classValues", "[I", true)
  | 6 => ("FeatureDesugarer$PlainCode", "sourceHeights", "[I", true)
  | 7 => ("FeatureDesugarer$PlainCode", "plainHeights", "[I", true)
  | 8 => ("FeatureDesugarer$PlainCode", "groupPlaces", "[I", true)
  | 9 => ("FeatureDesugarer$PlainCode", "classes", "I", false)
  | _ => ("FeatureDesugarer$PlainCode", "isMade", "Z", false)
def tyX5 : Nat → FieldType := fun k => match k with
  | 0 => .object "FeatureDesugarer$Program"
  | 1 => .object "FeatureDesugarer$Ways"
  | 2 => .object "FeatureDesugarer$Instructions"
  | 3 => .array .int
  | 4 => .array .int
  | 5 => .array .int
  | 6 => .array .int
  | 7 => .array .int
  | 8 => .array .int
  | 9 => .int
  | _ => .boolean
abbrev wsX50 : List Cond := u_ws RX5 TX5 11
theorem nmX5 : ∀ a, a < 11 → ∀ b, b < 11 → a ≠ b → (TX5 a).2.1 ≠ (TX5 b).2.1 := by decide +kernel
theorem tyX5_ok : ∀ k, k < 11 → parseFieldDescriptor (TX5 k).2.2.1 = some (tyX5 k) := by decide +kernel
abbrev cX5_init : ByteArray := prog_7_method_1_code
def yX5_init : MethodName := ⟨RX5, "<init>", "(LFeatureDesugarer$Program;LFeatureDesugarer$Ways;)V"⟩
abbrev cX5_forget : ByteArray := prog_7_method_2_code
def yX5_forget : MethodName := ⟨RX5, "forget", "()V"⟩
abbrev cX5_isMade : ByteArray := prog_7_method_3_code
def yX5_isMade : MethodName := ⟨RX5, "isMade", "()Z"⟩
abbrev cX5_classTotal : ByteArray := prog_7_method_4_code
def yX5_classTotal : MethodName := ⟨RX5, "classTotal", "()I"⟩
abbrev cX5_valuesOfClass : ByteArray := prog_7_method_5_code
def yX5_valuesOfClass : MethodName := ⟨RX5, "valuesOfClass", "(I)I"⟩
abbrev cX5_functionOfClass : ByteArray := prog_7_method_6_code
def yX5_functionOfClass : MethodName := ⟨RX5, "functionOfClass", "(I)I"⟩
abbrev cX5_methodOfClass : ByteArray := prog_7_method_7_code
def yX5_methodOfClass : MethodName := ⟨RX5, "methodOfClass", "(I)I"⟩
abbrev cX5_isMethod : ByteArray := prog_7_method_8_code
def yX5_isMethod : MethodName := ⟨RX5, "isMethod", "(I)Z"⟩
abbrev cX5_sourceHeightOf : ByteArray := prog_7_method_9_code
def yX5_sourceHeightOf : MethodName := ⟨RX5, "sourceHeightOf", "(I)I"⟩
abbrev cX5_plainHeightOf : ByteArray := prog_7_method_10_code
def yX5_plainHeightOf : MethodName := ⟨RX5, "plainHeightOf", "(I)I"⟩
abbrev cX5_lengthOf : ByteArray := prog_7_method_11_code
def yX5_lengthOf : MethodName := ⟨RX5, "lengthOf", "(I)I"⟩
abbrev cX5_wordAt : ByteArray := prog_7_method_12_code
def yX5_wordAt : MethodName := ⟨RX5, "wordAt", "(II)I"⟩
abbrev cX5_firstNumberAt : ByteArray := prog_7_method_13_code
def yX5_firstNumberAt : MethodName := ⟨RX5, "firstNumberAt", "(II)I"⟩
abbrev cX5_secondNumberAt : ByteArray := prog_7_method_14_code
def yX5_secondNumberAt : MethodName := ⟨RX5, "secondNumberAt", "(II)I"⟩
abbrev cX5_isStepAt : ByteArray := prog_7_method_15_code
def yX5_isStepAt : MethodName := ⟨RX5, "isStepAt", "(II)Z"⟩
abbrev cX5_make : ByteArray := prog_7_method_16_code
def yX5_make : MethodName := ⟨RX5, "make", "()I"⟩
abbrev cX5_makeFunction : ByteArray := prog_7_method_17_code
def yX5_makeFunction : MethodName := ⟨RX5, "makeFunction", "(I)V"⟩
abbrev cX5_makeGroup : ByteArray := prog_7_method_18_code
def yX5_makeGroup : MethodName := ⟨RX5, "makeGroup", "(II)V"⟩
abbrev cX5_makeNew : ByteArray := prog_7_method_19_code
def yX5_makeNew : MethodName := ⟨RX5, "makeNew", "(II)V"⟩
abbrev cX5_makeJoin : ByteArray := prog_7_method_20_code
def yX5_makeJoin : MethodName := ⟨RX5, "makeJoin", "(ILFeatureDesugarer$Recipes;)V"⟩
abbrev cX5_makeMethod : ByteArray := prog_7_method_21_code
def yX5_makeMethod : MethodName := ⟨RX5, "makeMethod", "(I)V"⟩
abbrev cX5_measure : ByteArray := prog_7_method_22_code
def yX5_measure : MethodName := ⟨RX5, "measure", "(III)V"⟩
abbrev cX5_risesBy : ByteArray := prog_7_method_23_code
def yX5_risesBy : MethodName := ⟨RX5, "risesBy", "(III)I"⟩
abbrev cX5_movePlaces : ByteArray := prog_7_method_24_code
def yX5_movePlaces : MethodName := ⟨RX5, "movePlaces", "(I)V"⟩
def RX6 : String := "FeatureDesugarer$Program"
def TX6 : u_T := fun k => match k with
  | 0 => ("FeatureDesugarer$Program", "recipes", "LFeatureDesugarer$Recipes;", true)
  | 1 => ("FeatureDesugarer$Program", "parameters", "[I", true)
  | 2 => ("FeatureDesugarer$Program", "lengths", "[I", true)
  | 3 => ("FeatureDesugarer$Program", "words", "[I", true)
  | 4 => ("FeatureDesugarer$Program", "firstNumbers", "[I", true)
  | 5 => ("FeatureDesugarer$Program", "secondNumbers", "[I", true)
  | _ => ("FeatureDesugarer$Program", "functions", "I", false)
def tyX6 : Nat → FieldType := fun k => match k with
  | 0 => .object "FeatureDesugarer$Recipes"
  | 1 => .array .int
  | 2 => .array .int
  | 3 => .array .int
  | 4 => .array .int
  | 5 => .array .int
  | _ => .int
abbrev wsX60 : List Cond := u_ws RX6 TX6 7
theorem nmX6 : ∀ a, a < 7 → ∀ b, b < 7 → a ≠ b → (TX6 a).2.1 ≠ (TX6 b).2.1 := by decide +kernel
theorem tyX6_ok : ∀ k, k < 7 → parseFieldDescriptor (TX6 k).2.2.1 = some (tyX6 k) := by decide +kernel
abbrev cX6_init : ByteArray := prog_8_method_1_code
def yX6_init : MethodName := ⟨RX6, "<init>", "()V"⟩
abbrev cX6_recipes : ByteArray := prog_8_method_2_code
def yX6_recipes : MethodName := ⟨RX6, "recipes", "()LFeatureDesugarer$Recipes;"⟩
abbrev cX6_addFunction : ByteArray := prog_8_method_3_code
def yX6_addFunction : MethodName := ⟨RX6, "addFunction", "(I)I"⟩
abbrev cX6_addInstruction : ByteArray := prog_8_method_4_code
def yX6_addInstruction : MethodName := ⟨RX6, "addInstruction", "(IIII)I"⟩
abbrev cX6_hasFunction : ByteArray := prog_8_method_5_code
def yX6_hasFunction : MethodName := ⟨RX6, "hasFunction", "(I)Z"⟩
abbrev cX6_functionTotal : ByteArray := prog_8_method_6_code
def yX6_functionTotal : MethodName := ⟨RX6, "functionTotal", "()I"⟩
abbrev cX6_parametersOf : ByteArray := prog_8_method_7_code
def yX6_parametersOf : MethodName := ⟨RX6, "parametersOf", "(I)I"⟩
abbrev cX6_lengthOf : ByteArray := prog_8_method_8_code
def yX6_lengthOf : MethodName := ⟨RX6, "lengthOf", "(I)I"⟩
abbrev cX6_wordAt : ByteArray := prog_8_method_9_code
def yX6_wordAt : MethodName := ⟨RX6, "wordAt", "(II)I"⟩
abbrev cX6_firstNumberAt : ByteArray := prog_8_method_10_code
def yX6_firstNumberAt : MethodName := ⟨RX6, "firstNumberAt", "(II)I"⟩
abbrev cX6_secondNumberAt : ByteArray := prog_8_method_11_code
def yX6_secondNumberAt : MethodName := ⟨RX6, "secondNumberAt", "(II)I"⟩
abbrev cX6_isStepAt : ByteArray := prog_8_method_12_code
def yX6_isStepAt : MethodName := ⟨RX6, "isStepAt", "(II)Z"⟩
abbrev cX6_hasNumbersInBounds : ByteArray := prog_8_method_13_code
def yX6_hasNumbersInBounds : MethodName := ⟨RX6, "hasNumbersInBounds", "(II)Z"⟩
abbrev cX6_popsOf : ByteArray := prog_8_method_14_code
def yX6_popsOf : MethodName := ⟨RX6, "popsOf", "(III)I"⟩
abbrev cX6_pushesOf : ByteArray := prog_8_method_15_code
def yX6_pushesOf : MethodName := ⟨RX6, "pushesOf", "(I)I"⟩
def RX7 : String := "FeatureDesugarer$Recipes"
def TX7 : u_T := fun k => match k with
  | 0 => ("FeatureDesugarer$Recipes", "lengths", "[I", true)
  | 1 => ("FeatureDesugarer$Recipes", "holes", "[I", true)
  | 2 => ("FeatureDesugarer$Recipes", "firstLetters", "[I", true)
  | 3 => ("FeatureDesugarer$Recipes", "digits", "[I", true)
  | 4 => ("FeatureDesugarer$Recipes", "letters", "[I", true)
  | 5 => ("FeatureDesugarer$Recipes", "recipes", "I", false)
  | _ => ("FeatureDesugarer$Recipes", "letterTotal", "I", false)
def tyX7 : Nat → FieldType := fun k => match k with
  | 0 => .array .int
  | 1 => .array .int
  | 2 => .array .int
  | 3 => .array .int
  | 4 => .array .int
  | 5 => .int
  | _ => .int
abbrev wsX70 : List Cond := u_ws RX7 TX7 7
theorem nmX7 : ∀ a, a < 7 → ∀ b, b < 7 → a ≠ b → (TX7 a).2.1 ≠ (TX7 b).2.1 := by decide +kernel
theorem tyX7_ok : ∀ k, k < 7 → parseFieldDescriptor (TX7 k).2.2.1 = some (tyX7 k) := by decide +kernel
abbrev cX7_init : ByteArray := prog_9_method_1_code
def yX7_init : MethodName := ⟨RX7, "<init>", "()V"⟩
abbrev cX7_isReadable : ByteArray := prog_9_method_2_code
def yX7_isReadable : MethodName := ⟨RX7, "isReadable", "(J)Z"⟩
abbrev cX7_add : ByteArray := prog_9_method_3_code
def yX7_add : MethodName := ⟨RX7, "add", "(J)I"⟩
abbrev cX7_addDigit : ByteArray := prog_9_method_4_code
def yX7_addDigit : MethodName := ⟨RX7, "addDigit", "(II)V"⟩
abbrev cX7_has : ByteArray := prog_9_method_5_code
def yX7_has : MethodName := ⟨RX7, "has", "(I)Z"⟩
abbrev cX7_total : ByteArray := prog_9_method_6_code
def yX7_total : MethodName := ⟨RX7, "total", "()I"⟩
abbrev cX7_lengthOf : ByteArray := prog_9_method_7_code
def yX7_lengthOf : MethodName := ⟨RX7, "lengthOf", "(I)I"⟩
abbrev cX7_holesOf : ByteArray := prog_9_method_8_code
def yX7_holesOf : MethodName := ⟨RX7, "holesOf", "(I)I"⟩
abbrev cX7_isHole : ByteArray := prog_9_method_9_code
def yX7_isHole : MethodName := ⟨RX7, "isHole", "(II)Z"⟩
abbrev cX7_firstLetterOf : ByteArray := prog_9_method_10_code
def yX7_firstLetterOf : MethodName := ⟨RX7, "firstLetterOf", "(I)I"⟩
abbrev cX7_letterTotal : ByteArray := prog_9_method_11_code
def yX7_letterTotal : MethodName := ⟨RX7, "letterTotal", "()I"⟩
abbrev cX7_letterAt : ByteArray := prog_9_method_12_code
def yX7_letterAt : MethodName := ⟨RX7, "letterAt", "(I)I"⟩
def RX8 : String := "FeatureDesugarer$Texts"
def TX8 : u_T := fun k => match k with
  | 0 => ("FeatureDesugarer$Texts", "starts", "[I", true)
  | 1 => ("FeatureDesugarer$Texts", "lengths", "[I", true)
  | 2 => ("FeatureDesugarer$Texts", "kept", "[B", false)
  | 3 => ("FeatureDesugarer$Texts", "texts", "I", false)
  | 4 => ("FeatureDesugarer$Texts", "spelled", "[B", true)
  | 5 => ("FeatureDesugarer$Texts", "spelledLength", "I", false)
  | 6 => ("FeatureDesugarer$Texts", "output", "[B", true)
  | _ => ("FeatureDesugarer$Texts", "outputLength", "I", false)
def tyX8 : Nat → FieldType := fun k => match k with
  | 0 => .array .int
  | 1 => .array .int
  | 2 => .array .byte
  | 3 => .int
  | 4 => .array .byte
  | 5 => .int
  | 6 => .array .byte
  | _ => .int
abbrev wsX80 : List Cond := u_ws RX8 TX8 8
theorem nmX8 : ∀ a, a < 8 → ∀ b, b < 8 → a ≠ b → (TX8 a).2.1 ≠ (TX8 b).2.1 := by decide +kernel
theorem tyX8_ok : ∀ k, k < 8 → parseFieldDescriptor (TX8 k).2.2.1 = some (tyX8 k) := by decide +kernel
abbrev cX8_init : ByteArray := prog_10_method_1_code
def yX8_init : MethodName := ⟨RX8, "<init>", "()V"⟩
abbrev cX8_clear : ByteArray := prog_10_method_2_code
def yX8_clear : MethodName := ⟨RX8, "clear", "()V"⟩
abbrev cX8_outputLength : ByteArray := prog_10_method_3_code
def yX8_outputLength : MethodName := ⟨RX8, "outputLength", "()I"⟩
abbrev cX8_outputAt : ByteArray := prog_10_method_4_code
def yX8_outputAt : MethodName := ⟨RX8, "outputAt", "(I)I"⟩
abbrev cX8_begin : ByteArray := prog_10_method_5_code
def yX8_begin : MethodName := ⟨RX8, "begin", "()J"⟩
abbrev cX8_appendLetter : ByteArray := prog_10_method_6_code
def yX8_appendLetter : MethodName := ⟨RX8, "appendLetter", "(II)Z"⟩
abbrev cX8_appendValue : ByteArray := prog_10_method_7_code
def yX8_appendValue : MethodName := ⟨RX8, "appendValue", "(IJ)Z"⟩
abbrev cX8_sayValue : ByteArray := prog_10_method_8_code
def yX8_sayValue : MethodName := ⟨RX8, "sayValue", "(J)Z"⟩
abbrev cX8_appendSpelled : ByteArray := prog_10_method_9_code
def yX8_appendSpelled : MethodName := ⟨RX8, "appendSpelled", "(I)Z"⟩
abbrev cX8_spell : ByteArray := prog_10_method_10_code
def yX8_spell : MethodName := ⟨RX8, "spell", "(J)V"⟩
abbrev cX8_spellNumber : ByteArray := prog_10_method_11_code
def yX8_spellNumber : MethodName := ⟨RX8, "spellNumber", "(I)V"⟩
def RX9 : String := "FeatureDesugarer$Ways"
def TX9 : u_T := fun k => match k with
  | 0 => ("FeatureDesugarer$Ways", "program", "LFeatureDesugarer$Program;", true)
  | 1 => ("FeatureDesugarer$Ways", "heights", "[I", true)
  | _ => ("FeatureDesugarer$Ways", "gone", "[Z", true)
def tyX9 : Nat → FieldType := fun k => match k with
  | 0 => .object "FeatureDesugarer$Program"
  | 1 => .array .int
  | _ => .array .boolean
abbrev wsX90 : List Cond := u_ws RX9 TX9 3
theorem nmX9 : ∀ a, a < 3 → ∀ b, b < 3 → a ≠ b → (TX9 a).2.1 ≠ (TX9 b).2.1 := by decide +kernel
theorem tyX9_ok : ∀ k, k < 3 → parseFieldDescriptor (TX9 k).2.2.1 = some (tyX9 k) := by decide +kernel
abbrev cX9_init : ByteArray := prog_11_method_1_code
def yX9_init : MethodName := ⟨RX9, "<init>", "(LFeatureDesugarer$Program;)V"⟩
abbrev cX9_wrongPlace : ByteArray := prog_11_method_2_code
def yX9_wrongPlace : MethodName := ⟨RX9, "wrongPlace", "(I)I"⟩
abbrev cX9_isMet : ByteArray := prog_11_method_3_code
def yX9_isMet : MethodName := ⟨RX9, "isMet", "(I)Z"⟩
abbrev cX9_heightAt : ByteArray := prog_11_method_4_code
def yX9_heightAt : MethodName := ⟨RX9, "heightAt", "(I)I"⟩
abbrev cX9_wrongOnWays : ByteArray := prog_11_method_5_code
def yX9_wrongOnWays : MethodName := ⟨RX9, "wrongOnWays", "(II)I"⟩
abbrev cX9_leastWaiting : ByteArray := prog_11_method_6_code
def yX9_leastWaiting : MethodName := ⟨RX9, "leastWaiting", "(I)I"⟩
abbrev cX9_goesOn : ByteArray := prog_11_method_7_code
def yX9_goesOn : MethodName := ⟨RX9, "goesOn", "(III)Z"⟩
abbrev cX9_meets : ByteArray := prog_11_method_8_code
def yX9_meets : MethodName := ⟨RX9, "meets", "(III)Z"⟩
def RX10 : String := "FeatureDesugarer"
def TX10 : u_T := fun k => match k with
  | 0 => ("FeatureDesugarer", "program", "LFeatureDesugarer$Program;", true)
  | 1 => ("FeatureDesugarer", "ways", "LFeatureDesugarer$Ways;", true)
  | 2 => ("FeatureDesugarer", "plainCode", "LFeatureDesugarer$PlainCode;", true)
  | _ => ("FeatureDesugarer", "machine", "LFeatureDesugarer$Machine;", true)
def tyX10 : Nat → FieldType := fun k => match k with
  | 0 => .object "FeatureDesugarer$Program"
  | 1 => .object "FeatureDesugarer$Ways"
  | 2 => .object "FeatureDesugarer$PlainCode"
  | _ => .object "FeatureDesugarer$Machine"
abbrev wsX100 : List Cond := u_ws RX10 TX10 4
theorem nmX10 : ∀ a, a < 4 → ∀ b, b < 4 → a ≠ b → (TX10 a).2.1 ≠ (TX10 b).2.1 := by decide +kernel
theorem tyX10_ok : ∀ k, k < 4 → parseFieldDescriptor (TX10 k).2.2.1 = some (tyX10 k) := by decide +kernel
abbrev cX10_init : ByteArray := prog_1_method_1_code
def yX10_init : MethodName := ⟨RX10, "<init>", "()V"⟩
abbrev cX10_function : ByteArray := prog_1_method_2_code
def yX10_function : MethodName := ⟨RX10, "function", "(I)I"⟩
abbrev cX10_code : ByteArray := prog_1_method_3_code
def yX10_code : MethodName := ⟨RX10, "code", "(IIII)I"⟩
abbrev cX10_recipe : ByteArray := prog_1_method_4_code
def yX10_recipe : MethodName := ⟨RX10, "recipe", "(J)I"⟩
abbrev cX10_check : ByteArray := prog_1_method_5_code
def yX10_check : MethodName := ⟨RX10, "check", "()I"⟩
abbrev cX10_lower : ByteArray := prog_1_method_6_code
def yX10_lower : MethodName := ⟨RX10, "lower", "()I"⟩
abbrev cX10_count : ByteArray := prog_1_method_7_code
def yX10_count : MethodName := ⟨RX10, "count", "(I)I"⟩
abbrev cX10_size : ByteArray := prog_1_method_8_code
def yX10_size : MethodName := ⟨RX10, "size", "(II)I"⟩
abbrev cX10_plain : ByteArray := prog_1_method_9_code
def yX10_plain : MethodName := ⟨RX10, "plain", "(III)I"⟩
abbrev cX10_made : ByteArray := prog_1_method_10_code
def yX10_made : MethodName := ⟨RX10, "made", "(II)I"⟩
abbrev cX10_character : ByteArray := prog_1_method_11_code
def yX10_character : MethodName := ⟨RX10, "character", "(I)I"⟩
abbrev cX10_run : ByteArray := prog_1_method_12_code
def yX10_run : MethodName := ⟨RX10, "run", "(IIIIZ)I"⟩
abbrev cX10_told : ByteArray := prog_1_method_13_code
def yX10_told : MethodName := ⟨RX10, "told", "(I)I"⟩
abbrev cX10_said : ByteArray := prog_1_method_14_code
def yX10_said : MethodName := ⟨RX10, "said", "(I)I"⟩
abbrev cX10_valueOf : ByteArray := prog_1_method_15_code
def yX10_valueOf : MethodName := ⟨RX10, "valueOf", "(II)J"⟩
abbrev cX10_kindOf : ByteArray := prog_1_method_16_code
def yX10_kindOf : MethodName := ⟨RX10, "kindOf", "(J)I"⟩
abbrev cX10_contentOf : ByteArray := prog_1_method_17_code
def yX10_contentOf : MethodName := ⟨RX10, "contentOf", "(J)I"⟩
def RX11 : String := "FeatureDesugarerModel"
def TX11 : u_T := fun k => match k with
  | 0 => ("FeatureDesugarerModel", "code", "I", false)
  | 1 => ("FeatureDesugarerModel", "functions", "I", false)
  | 2 => ("FeatureDesugarerModel", "parameters", "[I", true)
  | 3 => ("FeatureDesugarerModel", "sizes", "[I", true)
  | 4 => ("FeatureDesugarerModel", "word", "[I", true)
  | 5 => ("FeatureDesugarerModel", "numberA", "[I", true)
  | 6 => ("FeatureDesugarerModel", "numberB", "[I", true)
  | 7 => ("FeatureDesugarerModel", "recipes", "I", false)
  | 8 => ("FeatureDesugarerModel", "letters", "[I", true)
  | 9 => ("FeatureDesugarerModel", "letter", "[I", true)
  | 10 => ("FeatureDesugarerModel", "made", "Z", false)
  | 11 => ("FeatureDesugarerModel", "height", "[I", true)
  | 12 => ("FeatureDesugarerModel", "waits", "[Z", true)
  | 13 => ("FeatureDesugarerModel", "wrong", "I", false)
  | 14 => ("FeatureDesugarerModel", "highest", "[I", true)
  | 15 => ("FeatureDesugarerModel", "plainHighest", "[I", true)
  | 16 => ("FeatureDesugarerModel", "plainSize", "[I", true)
  | 17 => ("FeatureDesugarerModel", "plainWord", "[I", true)
  | 18 => ("FeatureDesugarerModel", "plainA", "[I", true)
  | 19 => ("FeatureDesugarerModel", "plainB", "[I", true)
  | 20 => ("FeatureDesugarerModel", "place", "[I", true)
  | 21 => ("FeatureDesugarerModel", "classes", "I", false)
  | 22 => ("FeatureDesugarerModel", "classValues", "[I", true)
  | 23 => ("FeatureDesugarerModel", "classFunction", "[I", true)
  | 24 => ("FeatureDesugarerModel", "table", "I", false)
  | 25 => ("FeatureDesugarerModel", "character", "[I", true)
  | 26 => ("FeatureDesugarerModel", "letterAt", "[I", true)
  | 27 => ("FeatureDesugarerModel", "steps", "I", false)
  | 28 => ("FeatureDesugarerModel", "fault", "I", false)
  | 29 => ("FeatureDesugarerModel", "returnedKind", "I", false)
  | 30 => ("FeatureDesugarerModel", "returned", "I", false)
  | 31 => ("FeatureDesugarerModel", "outputSize", "I", false)
  | 32 => ("FeatureDesugarerModel", "output", "[I", true)
  | 33 => ("FeatureDesugarerModel", "height0", "I", false)
  | 34 => ("FeatureDesugarerModel", "stackKind", "[I", true)
  | 35 => ("FeatureDesugarerModel", "stackValue", "[I", true)
  | 36 => ("FeatureDesugarerModel", "depth", "I", false)
  | 37 => ("FeatureDesugarerModel", "frameFunction", "[I", true)
  | 38 => ("FeatureDesugarerModel", "frameAt", "[I", true)
  | 39 => ("FeatureDesugarerModel", "frameBase", "[I", true)
  | 40 => ("FeatureDesugarerModel", "localKind", "[I", true)
  | 41 => ("FeatureDesugarerModel", "localValue", "[I", true)
  | 42 => ("FeatureDesugarerModel", "argumentKind", "[I", true)
  | 43 => ("FeatureDesugarerModel", "argumentValue", "[I", true)
  | 44 => ("FeatureDesugarerModel", "texts", "I", false)
  | 45 => ("FeatureDesugarerModel", "textSize", "[I", true)
  | 46 => ("FeatureDesugarerModel", "textBytes", "[I", true)
  | 47 => ("FeatureDesugarerModel", "closures", "I", false)
  | 48 => ("FeatureDesugarerModel", "closureFunction", "[I", true)
  | 49 => ("FeatureDesugarerModel", "closureSize", "[I", true)
  | 50 => ("FeatureDesugarerModel", "closureKind", "[I", true)
  | 51 => ("FeatureDesugarerModel", "closureValue", "[I", true)
  | 52 => ("FeatureDesugarerModel", "pieceSize", "I", false)
  | _ => ("FeatureDesugarerModel", "piece", "[I", true)
def tyX11 : Nat → FieldType := fun k => match k with
  | 0 => .int
  | 1 => .int
  | 2 => .array .int
  | 3 => .array .int
  | 4 => .array .int
  | 5 => .array .int
  | 6 => .array .int
  | 7 => .int
  | 8 => .array .int
  | 9 => .array .int
  | 10 => .boolean
  | 11 => .array .int
  | 12 => .array .boolean
  | 13 => .int
  | 14 => .array .int
  | 15 => .array .int
  | 16 => .array .int
  | 17 => .array .int
  | 18 => .array .int
  | 19 => .array .int
  | 20 => .array .int
  | 21 => .int
  | 22 => .array .int
  | 23 => .array .int
  | 24 => .int
  | 25 => .array .int
  | 26 => .array .int
  | 27 => .int
  | 28 => .int
  | 29 => .int
  | 30 => .int
  | 31 => .int
  | 32 => .array .int
  | 33 => .int
  | 34 => .array .int
  | 35 => .array .int
  | 36 => .int
  | 37 => .array .int
  | 38 => .array .int
  | 39 => .array .int
  | 40 => .array .int
  | 41 => .array .int
  | 42 => .array .int
  | 43 => .array .int
  | 44 => .int
  | 45 => .array .int
  | 46 => .array .int
  | 47 => .int
  | 48 => .array .int
  | 49 => .array .int
  | 50 => .array .int
  | 51 => .array .int
  | 52 => .int
  | _ => .array .int
abbrev wsX110 : List Cond := u_ws RX11 TX11 54
theorem nmX11 : ∀ a, a < 54 → ∀ b, b < 54 → a ≠ b → (TX11 a).2.1 ≠ (TX11 b).2.1 := by decide +kernel
theorem tyX11_ok : ∀ k, k < 54 → parseFieldDescriptor (TX11 k).2.2.1 = some (tyX11 k) := by decide +kernel
abbrev cX11_init : ByteArray := prog_13_method_1_code
def yX11_init : MethodName := ⟨RX11, "<init>", "()V"⟩
abbrev cX11_thrown : ByteArray := prog_13_method_2_code
def yX11_thrown : MethodName := ⟨RX11, "thrown", "()I"⟩
abbrev cX11_goes : ByteArray := prog_13_method_3_code
def yX11_goes : MethodName := ⟨RX11, "goes", "(ZZ)Z"⟩
abbrev cX11_function : ByteArray := prog_13_method_4_code
def yX11_function : MethodName := ⟨RX11, "function", "(I)I"⟩
abbrev cX11_isFunction : ByteArray := prog_13_method_5_code
def yX11_isFunction : MethodName := ⟨RX11, "isFunction", "(I)Z"⟩
abbrev cX11_code : ByteArray := prog_13_method_6_code
def yX11_code : MethodName := ⟨RX11, "code", "(IIII)I"⟩
abbrev cX11_recipe : ByteArray := prog_13_method_7_code
def yX11_recipe : MethodName := ⟨RX11, "recipe", "(J)I"⟩
abbrev cX11_holes : ByteArray := prog_13_method_8_code
def yX11_holes : MethodName := ⟨RX11, "holes", "(I)I"⟩
abbrev cX11_isBound : ByteArray := prog_13_method_9_code
def yX11_isBound : MethodName := ⟨RX11, "isBound", "(II)Z"⟩
abbrev cX11_pops : ByteArray := prog_13_method_10_code
def yX11_pops : MethodName := ⟨RX11, "pops", "(I)I"⟩
abbrev cX11_pushes : ByteArray := prog_13_method_11_code
def yX11_pushes : MethodName := ⟨RX11, "pushes", "(I)I"⟩
abbrev cX11_meet : ByteArray := prog_13_method_12_code
def yX11_meet : MethodName := ⟨RX11, "meet", "(III)V"⟩
abbrev cX11_least : ByteArray := prog_13_method_13_code
def yX11_least : MethodName := ⟨RX11, "least", "(I)I"⟩
abbrev cX11_walk : ByteArray := prog_13_method_14_code
def yX11_walk : MethodName := ⟨RX11, "walk", "(I)V"⟩
abbrev cX11_checkOne : ByteArray := prog_13_method_15_code
def yX11_checkOne : MethodName := ⟨RX11, "checkOne", "(I)I"⟩
abbrev cX11_checkAll : ByteArray := prog_13_method_16_code
def yX11_checkAll : MethodName := ⟨RX11, "checkAll", "()I"⟩
abbrev cX11_check : ByteArray := prog_13_method_17_code
def yX11_check : MethodName := ⟨RX11, "check", "()I"⟩
abbrev cX11_put : ByteArray := prog_13_method_18_code
def yX11_put : MethodName := ⟨RX11, "put", "(IIII)V"⟩
abbrev cX11_putFunction : ByteArray := prog_13_method_19_code
def yX11_putFunction : MethodName := ⟨RX11, "putFunction", "(III)V"⟩
abbrev cX11_putJoin : ByteArray := prog_13_method_20_code
def yX11_putJoin : MethodName := ⟨RX11, "putJoin", "(II)V"⟩
abbrev cX11_within : ByteArray := prog_13_method_21_code
def yX11_within : MethodName := ⟨RX11, "within", "(II)I"⟩
abbrev cX11_lowerOne : ByteArray := prog_13_method_22_code
def yX11_lowerOne : MethodName := ⟨RX11, "lowerOne", "(I)V"⟩
abbrev cX11_lower : ByteArray := prog_13_method_23_code
def yX11_lower : MethodName := ⟨RX11, "lower", "()I"⟩
abbrev cX11_count : ByteArray := prog_13_method_24_code
def yX11_count : MethodName := ⟨RX11, "count", "(I)I"⟩
abbrev cX11_size : ByteArray := prog_13_method_25_code
def yX11_size : MethodName := ⟨RX11, "size", "(II)I"⟩
abbrev cX11_plain : ByteArray := prog_13_method_26_code
def yX11_plain : MethodName := ⟨RX11, "plain", "(III)I"⟩
abbrev cX11_made : ByteArray := prog_13_method_27_code
def yX11_made : MethodName := ⟨RX11, "made", "(II)I"⟩
abbrev cX11_character : ByteArray := prog_13_method_28_code
def yX11_character : MethodName := ⟨RX11, "character", "(I)I"⟩
abbrev cX11_push : ByteArray := prog_13_method_29_code
def yX11_push : MethodName := ⟨RX11, "push", "(II)V"⟩
abbrev cX11_begin : ByteArray := prog_13_method_30_code
def yX11_begin : MethodName := ⟨RX11, "begin", "(II)V"⟩
abbrev cX11_take : ByteArray := prog_13_method_31_code
def yX11_take : MethodName := ⟨RX11, "take", "(II)V"⟩
abbrev cX11_letter : ByteArray := prog_13_method_32_code
def yX11_letter : MethodName := ⟨RX11, "letter", "(I)V"⟩
abbrev cX11_write : ByteArray := prog_13_method_33_code
def yX11_write : MethodName := ⟨RX11, "write", "(II)V"⟩
abbrev cX11_say : ByteArray := prog_13_method_34_code
def yX11_say : MethodName := ⟨RX11, "say", "()V"⟩
abbrev cX11_join : ByteArray := prog_13_method_35_code
def yX11_join : MethodName := ⟨RX11, "join", "(I)V"⟩
abbrev cX11_close : ByteArray := prog_13_method_36_code
def yX11_close : MethodName := ⟨RX11, "close", "(II)V"⟩
abbrev cX11_apply : ByteArray := prog_13_method_37_code
def yX11_apply : MethodName := ⟨RX11, "apply", "(I)V"⟩
abbrev cX11_reckon : ByteArray := prog_13_method_38_code
def yX11_reckon : MethodName := ⟨RX11, "reckon", "(I)V"⟩
abbrev cX11_leave : ByteArray := prog_13_method_39_code
def yX11_leave : MethodName := ⟨RX11, "leave", "()V"⟩
abbrev cX11_step : ByteArray := prog_13_method_40_code
def yX11_step : MethodName := ⟨RX11, "step", "()V"⟩
abbrev cX11_run : ByteArray := prog_13_method_41_code
def yX11_run : MethodName := ⟨RX11, "run", "(IIIIZ)I"⟩
abbrev cX11_told : ByteArray := prog_13_method_42_code
def yX11_told : MethodName := ⟨RX11, "told", "(I)I"⟩
abbrev cX11_said : ByteArray := prog_13_method_43_code
def yX11_said : MethodName := ⟨RX11, "said", "(I)I"⟩
def RJx8e188 : String := "java/lang/Cloneable"
def TJx8e188 : u_T := fun k => match k with
  | _ => ("", "", "", false)
def tyJx8e188 : Nat → FieldType := fun k => match k with
  | _ => .int
abbrev wsJx8e1880 : List Cond := u_ws RJx8e188 TJx8e188 0
theorem nmJx8e188 : ∀ a, a < 0 → ∀ b, b < 0 → a ≠ b → (TJx8e188 a).2.1 ≠ (TJx8e188 b).2.1 := by decide +kernel
theorem tyJx8e188_ok : ∀ k, k < 0 → parseFieldDescriptor (TJx8e188 k).2.2.1 = some (tyJx8e188 k) := by decide +kernel
def RJ9 : String := "java/lang/Math"
def TJ9 : u_T := fun k => match k with
  | _ => ("", "", "", false)
def tyJ9 : Nat → FieldType := fun k => match k with
  | _ => .int
abbrev wsJ90 : List Cond := u_ws RJ9 TJ9 0
theorem nmJ9 : ∀ a, a < 0 → ∀ b, b < 0 → a ≠ b → (TJ9 a).2.1 ≠ (TJ9 b).2.1 := by decide +kernel
theorem tyJ9_ok : ∀ k, k < 0 → parseFieldDescriptor (TJ9 k).2.2.1 = some (tyJ9 k) := by decide +kernel
abbrev cJ9_max_7cf53 : ByteArray := prog_18_method_65_code
def yJ9_max_7cf53 : MethodName := ⟨RJ9, "max", "(II)I"⟩
abbrev cJ9_min_7cf53 : ByteArray := prog_18_method_69_code
def yJ9_min_7cf53 : MethodName := ⟨RJ9, "min", "(II)I"⟩
def RJ10 : String := "java/lang/System"
def TJ10 : u_T := fun k => match k with
  | _ => ("", "", "", false)
def tyJ10 : Nat → FieldType := fun k => match k with
  | _ => .int
abbrev wsJ100 : List Cond := u_ws RJ10 TJ10 0
theorem nmJ10 : ∀ a, a < 0 → ∀ b, b < 0 → a ≠ b → (TJ10 a).2.1 ≠ (TJ10 b).2.1 := by decide +kernel
theorem tyJ10_ok : ∀ k, k < 0 → parseFieldDescriptor (TJ10 k).2.2.1 = some (tyJ10 k) := by decide +kernel
def RJ7 : String := "java/util/Arrays"
def TJ7 : u_T := fun k => match k with
  | _ => ("", "", "", false)
def tyJ7 : Nat → FieldType := fun k => match k with
  | _ => .int
abbrev wsJ70 : List Cond := u_ws RJ7 TJ7 0
theorem nmJ7 : ∀ a, a < 0 → ∀ b, b < 0 → a ≠ b → (TJ7 a).2.1 ≠ (TJ7 b).2.1 := by decide +kernel
theorem tyJ7_ok : ∀ k, k < 0 → parseFieldDescriptor (TJ7 k).2.2.1 = some (tyJ7 k) := by decide +kernel
abbrev cJ7_copyOf_9075b : ByteArray := prog_22_method_121_code
def yJ7_copyOf_9075b : MethodName := ⟨RJ7, "copyOf", "([BI)[B"⟩
abbrev cJ7_copyOf_59c91 : ByteArray := prog_22_method_123_code
def yJ7_copyOf_59c91 : MethodName := ⟨RJ7, "copyOf", "([II)[I"⟩
def RL : String := "FeatureDesugarerLaw"
abbrev cL_function : ByteArray := method_3_code
def yL_function : MethodName := ⟨RL, "function", "(LFeatureDesugarer;I[J)I"⟩
abbrev cL_code : ByteArray := method_4_code
def yL_code : MethodName := ⟨RL, "code", "(LFeatureDesugarer;IIII[J)I"⟩
abbrev cL_recipe : ByteArray := method_5_code
def yL_recipe : MethodName := ⟨RL, "recipe", "(LFeatureDesugarer;J[J)I"⟩
abbrev cL_count : ByteArray := method_6_code
def yL_count : MethodName := ⟨RL, "count", "(LFeatureDesugarer;I[J)I"⟩
abbrev cL_size : ByteArray := method_7_code
def yL_size : MethodName := ⟨RL, "size", "(LFeatureDesugarer;II[J)I"⟩
abbrev cL_plain : ByteArray := method_8_code
def yL_plain : MethodName := ⟨RL, "plain", "(LFeatureDesugarer;III[J)I"⟩
abbrev cL_made : ByteArray := method_9_code
def yL_made : MethodName := ⟨RL, "made", "(LFeatureDesugarer;II[J)I"⟩
abbrev cL_character : ByteArray := method_10_code
def yL_character : MethodName := ⟨RL, "character", "(LFeatureDesugarer;I[J)I"⟩
abbrev cL_run : ByteArray := method_11_code
def yL_run : MethodName := ⟨RL, "run", "(LFeatureDesugarer;IIIIZ[J)I"⟩
abbrev cL_told : ByteArray := method_12_code
def yL_told : MethodName := ⟨RL, "told", "(LFeatureDesugarer;I[J)I"⟩
abbrev cL_said : ByteArray := method_13_code
def yL_said : MethodName := ⟨RL, "said", "(LFeatureDesugarer;I[J)I"⟩
abbrev cL_law : ByteArray := code
def yL_law : MethodName := ⟨RL, "law", "([I)Z"⟩
end
section
/-! PURE WORLDS: cells have numbers 0, 1, ..; ad says where each lies. A shape: how many cells, the kind and length of each, the references in objects' fields. A memory: ints by cell and place, longs by cell and place. Kinds: 0 byte[], 1 int[], 2 long[], 3 boolean[], 4 + c an object of class c. -/
def lw_good : List Cond := lw_tbl.filter goodWord
theorem lw_good_in {w : Cond} (h : w ∈ lw_tbl) (hg : goodWord w = true) : w ∈ lw_good := List.mem_filter.mpr ⟨h, hg⟩
theorem lw_good_sub {w : Cond} (h : w ∈ lw_good) : w ∈ lw_tbl := (List.mem_filter.mp h).1
theorem lw_good_ok {w : Cond} (h : w ∈ lw_good) : goodWord w = true := (List.mem_filter.mp h).2
abbrev pz_cl : List vw_C := [(RX1, TX1, 7), (RX2, TX2, 4), (RX3, TX3, 5), (RX4, TX4, 10), (RX5, TX5, 11), (RX6, TX6, 7), (RX7, TX7, 7), (RX8, TX8, 8), (RX9, TX9, 3), (RX10, TX10, 4), (RX11, TX11, 54)]
abbrev pzM : Type := (Nat → Nat → Int32) × (Nat → Nat → Int64)
abbrev pzS : Type := Nat × (Nat → Nat × Nat) × (Nat → Nat → Option Nat)
def pz_t (ad : Nat → Nat) (v : Value) : Value := match v with
  | .ref i => .ref (ad i)
  | w => w
abbrev pz_p (ad : Nat → Nat) (q : Nat × Value) : Nat × Value := (q.1, pz_t ad q.2)
theorem pz_t_cat (ad : Nat → Nat) (v : Value) : (pz_t ad v).category = v.category := by cases v <;> rfl
/-- a value of type t of field k of object i -/
def pz_v (ad : Nat → Nat) (σ : pzS) (M : pzM) (i k t : Nat) : Value := if t = 0 then .int (M.1 i k) else if t = 1 then .long (M.2 i k) else va_rf ((σ.2.2 i k).map ad)
def pz_fs (ad : Nat → Nat) (σ : pzS) (M : pzM) (i : Nat) : Nat → List Nat → List Value
  | _, [] => []
  | k, t :: ts => pz_v ad σ M i k t :: pz_fs ad σ M i (k + 1) ts
theorem pz_fs_get (ad : Nat → Nat) (σ : pzS) (M : pzM) (i : Nat) : ∀ (ts : List Nat) (k0 k : Nat), (pz_fs ad σ M i k0 ts)[k]? = (ts[k]?).map (pz_v ad σ M i (k0 + k))
  | [], k0, k => by simp [pz_fs]
  | t :: ts, k0, 0 => by simp [pz_fs]
  | t :: ts, k0, k + 1 => by
    simp only [pz_fs, List.getElem?_cons_succ]
    rw [pz_fs_get ad σ M i ts (k0 + 1) k, show k0 + 1 + k = k0 + (k + 1) from by omega]
theorem pz_fs_len (ad : Nat → Nat) (σ : pzS) (M : pzM) (i : Nat) : ∀ (ts : List Nat) (k0 : Nat), (pz_fs ad σ M i k0 ts).length = ts.length
  | [], k0 => rfl
  | t :: ts, k0 => by simp [pz_fs, pz_fs_len ad σ M i ts (k0 + 1)]
/-- two tables of fields that agree -/
theorem pz_fs_congr {ad ad' : Nat → Nat} {σ σ' : pzS} {M M' : pzM} {i : Nat} : ∀ (ts : List Nat) (k0 : Nat), (∀ k t, ts[k]? = some t → pz_v ad σ M i (k0 + k) t = pz_v ad' σ' M' i (k0 + k) t) → pz_fs ad σ M i k0 ts = pz_fs ad' σ' M' i k0 ts
  | [], k0, _ => rfl
  | t :: ts, k0, h => by
    simp only [pz_fs]
    rw [show pz_v ad σ M i k0 t = pz_v ad' σ' M' i k0 t from h 0 t rfl, pz_fs_congr (ad := ad) (ad' := ad') (σ := σ) (σ' := σ') (M := M) (M' := M') ts (k0 + 1) (fun k t hk => by rw [show k0 + 1 + k = k0 + (k + 1) from by omega]; exact h (k + 1) t (by simpa using hk))]
theorem pz_fs_set {ad : Nat → Nat} {σ σ' : pzS} {M M' : pzM} {i : Nat} {v : Value} : ∀ (ts : List Nat) (k0 k t : Nat), ts[k]? = some t → pz_v ad σ' M' i (k0 + k) t = v → (∀ j u, j ≠ k → ts[j]? = some u → pz_v ad σ M i (k0 + j) u = pz_v ad σ' M' i (k0 + j) u) → (pz_fs ad σ M i k0 ts).set k v = pz_fs ad σ' M' i k0 ts
  | [], k0, k, t, h, _, _ => by simp at h
  | u :: ts, k0, 0, t, h, hv, hj => by
    simp only [List.getElem?_cons_zero, Option.some.injEq] at h
    subst h
    simp only [pz_fs, List.set_cons_zero]
    rw [show pz_v ad σ' M' i k0 u = v from hv, pz_fs_congr (ad := ad) (ad' := ad) (σ := σ) (σ' := σ') (M := M) (M' := M') ts (k0 + 1) (fun k t hk => by rw [show k0 + 1 + k = k0 + (k + 1) from by omega]; exact hj (k + 1) t (by omega) (by simpa using hk))]
  | u :: ts, k0, k + 1, t, h, hv, hj => by
    simp only [pz_fs, List.set_cons_succ]
    rw [show pz_v ad σ M i k0 u = pz_v ad σ' M' i k0 u from hj 0 u (by omega) rfl,
      pz_fs_set (σ' := σ') (M' := M') ts (k0 + 1) k t (by simpa using h) (by rw [show k0 + 1 + k = k0 + (k + 1) from by omega]; exact hv) (fun j u hjk hu => by rw [show k0 + 1 + j = k0 + (j + 1) from by omega]; exact hj (j + 1) u (by omega) (by simpa using hu))]
def pz_ft (c : Nat) : List Nat := ([[2, 2, 2, 2, 2, 0, 0], [2, 2, 2, 0], [2, 2, 2, 2, 0], [2, 2, 2, 2, 2, 2, 0, 0, 0, 1], [2, 2, 2, 2, 2, 2, 2, 2, 2, 0, 0], [2, 2, 2, 2, 2, 2, 0], [2, 2, 2, 2, 2, 0, 0], [2, 2, 2, 0, 2, 0, 2, 0], [2, 2, 2], [2, 2, 2, 2], [0, 0, 2, 2, 2, 2, 2, 0, 2, 2, 0, 2, 2, 0, 2, 2, 2, 2, 2, 2, 2, 0, 2, 2, 0, 2, 2, 0, 0, 0, 0, 0, 2, 0, 2, 2, 0, 2, 2, 2, 2, 2, 2, 2, 0, 2, 2, 0, 2, 2, 2, 2, 0, 2]] : List (List Nat)).getD c []

/-- what cell i is -/
def pz_e (cy : Nat → ClassId) (ad : Nat → Nat) (σ : pzS) (M : pzM) (i : Nat) : va_E :=
  match (σ.2.1 i).1 with
  | 0 => .inl (cy 0, (σ.2.1 i).2, .inl (M.1 i))
  | 1 => .inl (cy 1, (σ.2.1 i).2, .inl (M.1 i))
  | 2 => .inl (cy 2, (σ.2.1 i).2, .inr (.inl (M.2 i)))
  | 3 => .inl (cy 3, (σ.2.1 i).2, .inl (M.1 i))
  | c + 4 => .inr (c, pz_fs ad σ M i 0 (pz_ft c))
def pz_w (cy : Nat → ClassId) (ad : Nat → Nat) (σ : pzS) (M : pzM) : va_W := (List.range σ.1).map (fun i => (ad i, pz_e cy ad σ M i))
abbrev pz_tys (cy : Nat → ClassId) : List (ClassId × FieldType) := [(cy 0, .byte), (cy 1, .int), (cy 2, .long), (cy 3, .boolean)]
theorem pz_w_get {cy : Nat → ClassId} {ad : Nat → Nat} {σ : pzS} {M : pzM} {i : Nat} (h : i < σ.1) : (pz_w cy ad σ M)[i]? = some (ad i, pz_e cy ad σ M i) := by
  simp [pz_w, List.getElem?_range h]
theorem pz_w_len {cy : Nat → ClassId} {ad : Nat → Nat} {σ : pzS} {M : pzM} : (pz_w cy ad σ M).length = σ.1 := by simp [pz_w]
theorem pz_w_congr {cy : Nat → ClassId} {ad ad' : Nat → Nat} {σ σ' : pzS} {M M' : pzM} (hn : σ.1 = σ'.1) (ha : ∀ i, i < σ.1 → ad i = ad' i) (he : ∀ i, i < σ.1 → pz_e cy ad σ M i = pz_e cy ad' σ' M' i) : pz_w cy ad σ M = pz_w cy ad' σ' M' := by
  unfold pz_w
  rw [← hn]
  refine List.map_congr_left (fun i hi => ?_)
  have h := List.mem_range.mp hi
  rw [ha i h, he i h]
theorem pz_w_set {cy : Nat → ClassId} {ad : Nat → Nat} {σ σ' : pzS} {M M' : pzM} {i : Nat} {e : va_E} (hn : σ.1 = σ'.1) (hi : i < σ.1) (he : pz_e cy ad σ' M' i = e) (ho : ∀ j, j < σ.1 → j ≠ i → pz_e cy ad σ M j = pz_e cy ad σ' M' j) : (pz_w cy ad σ M).set i (ad i, e) = pz_w cy ad σ' M' := by
  apply List.ext_getElem?
  intro j
  by_cases hj : j < σ.1
  · by_cases hji : j = i
    · subst hji
      rw [List.getElem?_set_self (by rw [pz_w_len]; exact hj), pz_w_get (by rw [← hn]; exact hj), he]
    · rw [List.getElem?_set_ne (Ne.symm hji), pz_w_get hj, pz_w_get (by rw [← hn]; exact hj), ho j hj hji]
  · rw [List.getElem?_eq_none (by rw [List.length_set, pz_w_len]; omega), List.getElem?_eq_none (by rw [pz_w_len, ← hn]; omega)]
/-- a store into row i at place k -/
def pz_u {α : Type} (f : Nat → Nat → α) (i k : Nat) (x : α) : Nat → Nat → α := va_up f i (va_up (f i) k x)
theorem pz_u_row {α : Type} (f : Nat → Nat → α) (i k : Nat) (x : α) : pz_u f i k x i = va_up (f i) k x := by simp [pz_u, va_up]
theorem pz_u_off {α : Type} (f : Nat → Nat → α) {i j : Nat} (k : Nat) (x : α) (h : j ≠ i) : pz_u f i k x j = f j := by simp [pz_u, va_up, h]
theorem pz_u_eq {α : Type} (f : Nat → Nat → α) (i k : Nat) (x : α) : pz_u f i k x i k = x := by simp [pz_u, va_up]
theorem pz_u_ne {α : Type} (f : Nat → Nat → α) {i k a b : Nat} (x : α) (h : a ≠ i ∨ b ≠ k) : pz_u f i k x a b = f a b := by
  rcases h with h | h
  · rw [pz_u_off f k x h]
  · by_cases ha : a = i
    · subst ha; rw [pz_u_row]; simp [va_up, h]
    · rw [pz_u_off f k x ha]
theorem pz_updI (f : Nat → Int32) (k : Nat) (x : Int32) : upd f k x = va_up f k x := rfl
theorem pz_updL (f : Nat → Int64) (k : Nat) (x : Int64) : vp_updL f k x = va_up f k x := rfl
/-- cells other than i don't see what is written into i -/
theorem pz_e_off {cy : Nat → ClassId} {ad : Nat → Nat} {σ σ' : pzS} {M M' : pzM} {j : Nat} (hK : σ.2.1 j = σ'.2.1 j) (h1 : M.1 j = M'.1 j) (h2 : M.2 j = M'.2 j) (h3 : σ.2.2 j = σ'.2.2 j) : pz_e cy ad σ M j = pz_e cy ad σ' M' j := by
  unfold pz_e
  rw [← hK, ← h1, ← h2]
  have hf : ∀ c, pz_fs ad σ M j 0 (pz_ft c) = pz_fs ad σ' M' j 0 (pz_ft c) := fun c => pz_fs_congr _ _ (fun k t _ => by unfold pz_v; rw [h1, h2, h3])
  split <;> first | rfl | (rw [hf])
end
section
/-! THE WALK OVER PURE WORLDS -/
def pz_nests : List (String × Nat × MethodName × String) := [("FeatureDesugarer", 11, ⟨"FeatureDesugarer$Program", "<init>", "()V"⟩, "FeatureDesugarer"), ("FeatureDesugarer$Program", 11, ⟨"FeatureDesugarer$Recipes", "<init>", "()V"⟩, "FeatureDesugarer"), ("FeatureDesugarer$PlainCode", 11, ⟨"FeatureDesugarer$Instructions", "<init>", "()V"⟩, "FeatureDesugarer"), ("FeatureDesugarer$Machine", 11, ⟨"FeatureDesugarer$Frames", "<init>", "()V"⟩, "FeatureDesugarer"), ("FeatureDesugarer$Machine", 20, ⟨"FeatureDesugarer$Holders", "<init>", "()V"⟩, "FeatureDesugarer"), ("FeatureDesugarer$Machine", 27, ⟨"FeatureDesugarer$Texts", "<init>", "()V"⟩, "FeatureDesugarer"), ("FeatureDesugarer$Machine", 90, ⟨"FeatureDesugarer", "valueOf", "(II)J"⟩, "FeatureDesugarer"), ("FeatureDesugarer$Machine", 60, ⟨"FeatureDesugarer", "kindOf", "(J)I"⟩, "FeatureDesugarer"), ("FeatureDesugarer$Machine", 67, ⟨"FeatureDesugarer", "contentOf", "(J)I"⟩, "FeatureDesugarer"), ("FeatureDesugarer$Texts", 71, ⟨"FeatureDesugarer", "kindOf", "(J)I"⟩, "FeatureDesugarer"), ("FeatureDesugarer$Texts", 75, ⟨"FeatureDesugarer", "contentOf", "(J)I"⟩, "FeatureDesugarer"), ("FeatureDesugarer$Holders", 28, ⟨"FeatureDesugarer", "valueOf", "(II)J"⟩, "FeatureDesugarer"), ("FeatureDesugarer$Texts", 37, ⟨"FeatureDesugarer", "valueOf", "(II)J"⟩, "FeatureDesugarer")]
def lw_face : List Cond := lw_tbl.filter (fun w => w.onTables && w.keepsFace)
theorem lw_face_in {w : Cond} (h : w ∈ lw_tbl) (hg : (w.onTables && w.keepsFace) = true) : w ∈ lw_face := List.mem_filter.mpr ⟨h, hg⟩
def pz_N (U : State) : Prop := (∀ q ∈ pz_nests, va_Nw (.methodLinkNest q.1 q.2.1 q.2.2.1 q.2.2.2) U) ∧ ∀ w ∈ lw_face, va_Nw w U
theorem pz_N.warm {s U : State} (hW : s.WarmedH U.vm) (h : pz_N s) : pz_N U := ⟨fun q hq => va_Nw.warmM hW (h.1 q hq), fun w hw => by
  have hk := (List.mem_filter.mp hw).2
  simp only [Bool.and_eq_true] at hk
  have h1 : w.before #[] (s.setVm U.vm) = true := Cond.before_shiftedFace (State.Shifted.of_warmed hW) w hk.2 (h.2 w hw)
  exact va_tabs hk.1 (rfl : (s.setVm U.vm).vm = U.vm) h1⟩
theorem pz_N.same {u U : State} (he : u.vm = U.vm) (h : pz_N u) : pz_N U := ⟨fun q hq => va_Nw.same rfl he (h.1 q hq), fun w hw => by
  have hk := (List.mem_filter.mp hw).2
  simp only [Bool.and_eq_true] at hk
  exact va_Nw.same hk.1 he (h.2 w hw)⟩
theorem pz_N.use {w : Cond} {args : Array Value} {U : State} (h : pz_N U) (hw : w ∈ lw_face) : w.before args U = true := by
  have hk := (List.mem_filter.mp hw).2
  simp only [Bool.and_eq_true] at hk
  exact va_Nw.use hk.1 (h.2 w hw)
def pz_C (p : Program) (s : State) (m : MethodId) (args : Array Value) (meth : Method) (c : Code) (cc : ByteArray) (nL : Nat) (own : String) (D : va_G) (cy : Nat → ClassId) (A : Nat → Prop) : Prop :=
  (p.tables.exec = Jvm.exec ∧ c.code = cc ∧ c.maxLocals = nL ∧ s.vm.findClass own = some m.cls ∧ ∀ w ∈ lw_good, w.before args s = true) ∧ va_K D pz_cl (pz_tys cy) s ∧ (∀ q, s.heap.size ≤ q → A q) ∧ meth.locks = false ∧ pz_N s
def pz_W (p : Program) (l : Launch) (e : Env) (R : Room) (s : State) (m : MethodId) (args : Array Value) (below : List Frame) (meth : Method) (c : Code) (nL : Nat) (D : va_G) (cy : Nat → ClassId) (A : Nat → Prop) (n0 : Nat) (ad0 : Nat → Nat) (Q : State → Prop)
    (σ : pzS) (M : pzM) (cells slots pc : Nat) (loc : List (Nat × Value)) (st : List Value) : Prop :=
  ∀ (ad : Nat → Nat) (H : Heap) (locs : List Loc) (ls : Array Slot), (∀ i, i < n0 → ad i = ad0 i) → va_P D pz_cl (pz_w cy ad σ M) H → va_D A (pz_w cy ad σ M) → va_S A s.heap H locs → lv_has ls nL (loc.map (pz_p ad)) →
    W p l e R s m args below meth c H locs cells slots Q (F0 m pc ls (st.map (pz_t ad)))
theorem pz_loc {ls : Array Slot} {nL : Nat} {loc : List (Nat × Value)} {ad : Nat → Nat} (h : lv_has ls nL (loc.map (pz_p ad))) {k i : Nat} {v : Value} (hk : loc[k]? = some (i, v)) : ls[i]? = some (.val (pz_t ad v)) :=
  lv_at h k (by rw [List.getElem?_map, hk]; rfl)
def pz_f1 (i : Nat) (loc : List (Nat × Value)) : List (Nat × Value) := loc.filter (fun q => !(q.1 == i) && !(q.1 + 1 == i && q.2.category == 2))
def pz_f2 (i : Nat) (loc : List (Nat × Value)) : List (Nat × Value) := loc.filter (fun q => !(q.1 == i) && (!(q.1 == i + 1) && !(q.1 + 1 == i && q.2.category == 2)))
theorem pz_f1_map (ad : Nat → Nat) (i : Nat) (loc : List (Nat × Value)) : (loc.map (pz_p ad)).filter (fun q => !(q.1 == i) && !(q.1 + 1 == i && q.2.category == 2)) = (pz_f1 i loc).map (pz_p ad) := by
  induction loc with
  | nil => rfl
  | cons a t ih =>
    have hc := pz_t_cat ad a.2
    unfold pz_f1 at ih ⊢
    simp only [List.map_cons, List.filter_cons, pz_p, hc]
    split <;> simp only [List.map_cons, ih]
theorem pz_f2_map (ad : Nat → Nat) (i : Nat) (loc : List (Nat × Value)) : (loc.map (pz_p ad)).filter (fun q => !(q.1 == i) && (!(q.1 == i + 1) && !(q.1 + 1 == i && q.2.category == 2))) = (pz_f2 i loc).map (pz_p ad) := by
  induction loc with
  | nil => rfl
  | cons a t ih =>
    have hc := pz_t_cat ad a.2
    unfold pz_f2 at ih ⊢
    simp only [List.map_cons, List.filter_cons, pz_p, hc]
    split <;> simp only [List.map_cons, ih]
section PZH
variable {cy : Nat → ClassId} {ad : Nat → Nat} {σ : pzS} {M : pzM} {i ci k : Nat}
theorem pz_at (hi : i < σ.1) (hK : (σ.2.1 i).1 = ci + 4) : (pz_w cy ad σ M)[i]? = some (ad i, .inr (ci, pz_fs ad σ M i 0 (pz_ft ci))) := by
  rw [pz_w_get hi]; unfold pz_e; rw [hK]
theorem pz_ar0 (hi : i < σ.1) (hK : (σ.2.1 i).1 = 0) : (pz_w cy ad σ M)[i]? = some (ad i, .inl (cy 0, (σ.2.1 i).2, .inl (M.1 i))) := by
  rw [pz_w_get hi]; unfold pz_e; rw [hK]
theorem pz_ar1 (hi : i < σ.1) (hK : (σ.2.1 i).1 = 1) : (pz_w cy ad σ M)[i]? = some (ad i, .inl (cy 1, (σ.2.1 i).2, .inl (M.1 i))) := by
  rw [pz_w_get hi]; unfold pz_e; rw [hK]
theorem pz_ar2 (hi : i < σ.1) (hK : (σ.2.1 i).1 = 2) : (pz_w cy ad σ M)[i]? = some (ad i, .inl (cy 2, (σ.2.1 i).2, .inr (.inl (M.2 i)))) := by
  rw [pz_w_get hi]; unfold pz_e; rw [hK]
theorem pz_ar3 (hi : i < σ.1) (hK : (σ.2.1 i).1 = 3) : (pz_w cy ad σ M)[i]? = some (ad i, .inl (cy 3, (σ.2.1 i).2, .inl (M.1 i))) := by
  rw [pz_w_get hi]; unfold pz_e; rw [hK]
theorem pz_setI {x : Int32} (hi : i < σ.1) (hK : (σ.2.1 i).1 = ci + 4) (hft : (pz_ft ci)[k]? = some 0) : (pz_w cy ad σ M).set i (ad i, .inr (ci, (pz_fs ad σ M i 0 (pz_ft ci)).set k (.int x))) = pz_w cy ad σ (pz_u M.1 i k x, M.2) := by
  refine pz_w_set rfl hi ?_ (fun j _ hj => pz_e_off rfl (pz_u_off _ _ _ hj).symm rfl rfl)
  unfold pz_e; rw [hK]
  refine congrArg (fun z => Sum.inr (ci, z)) (pz_fs_set _ 0 k 0 hft ?_ ?_).symm
  · simp [pz_v, pz_u_eq]
  · intro j u hj hu
    unfold pz_v
    rw [Nat.zero_add, show (pz_u M.1 i k x, M.2).1 i j = M.1 i j from pz_u_ne _ _ (Or.inr hj)]
theorem pz_setJ {x : Int64} (hi : i < σ.1) (hK : (σ.2.1 i).1 = ci + 4) (hft : (pz_ft ci)[k]? = some 1) : (pz_w cy ad σ M).set i (ad i, .inr (ci, (pz_fs ad σ M i 0 (pz_ft ci)).set k (.long x))) = pz_w cy ad σ (M.1, pz_u M.2 i k x) := by
  refine pz_w_set rfl hi ?_ (fun j _ hj => pz_e_off rfl rfl (pz_u_off _ _ _ hj).symm rfl)
  unfold pz_e; rw [hK]
  refine congrArg (fun z => Sum.inr (ci, z)) (pz_fs_set _ 0 k 1 hft ?_ ?_).symm
  · simp [pz_v, pz_u_eq]
  · intro j u hj hu
    unfold pz_v
    rw [Nat.zero_add, show (M.1, pz_u M.2 i k x).2 i j = M.2 i j from pz_u_ne _ _ (Or.inr hj)]
theorem pz_setR {b : Nat} (hi : i < σ.1) (hK : (σ.2.1 i).1 = ci + 4) (hft : (pz_ft ci)[k]? = some 2) : (pz_w cy ad σ M).set i (ad i, .inr (ci, (pz_fs ad σ M i 0 (pz_ft ci)).set k (.ref (ad b)))) = pz_w cy ad (σ.1, σ.2.1, pz_u σ.2.2 i k (some b)) M := by
  refine pz_w_set rfl hi ?_ (fun j _ hj => pz_e_off rfl rfl rfl (pz_u_off _ _ _ hj).symm)
  unfold pz_e; rw [hK]
  refine congrArg (fun z => Sum.inr (ci, z)) (pz_fs_set _ 0 k 2 hft ?_ ?_).symm
  · simp [pz_v, pz_u_eq, va_rf]
  · intro j u hj hu
    unfold pz_v
    rw [Nat.zero_add, show ((σ.1, σ.2.1, pz_u σ.2.2 i k (some b)) : pzS).2.2 i j = σ.2.2 i j from pz_u_ne _ _ (Or.inr hj)]
theorem pz_as0 {j : Nat} {y : Int32} (hi : i < σ.1) (hK : (σ.2.1 i).1 = 0) : (pz_w cy ad σ M).set i (ad i, .inl (cy 0, (σ.2.1 i).2, .inl (upd (M.1 i) j (vp_nar .byte y)))) = pz_w cy ad σ (pz_u M.1 i j (vp_nar .byte y), M.2) := by
  refine pz_w_set rfl hi ?_ (fun j _ hj => pz_e_off rfl (pz_u_off _ _ _ hj).symm rfl rfl)
  unfold pz_e; rw [hK]
  show Sum.inl (cy 0, (σ.2.1 i).2, Sum.inl (pz_u M.1 i j _ i)) = _
  rw [pz_u_row]; rfl
theorem pz_as1 {j : Nat} {y : Int32} (hi : i < σ.1) (hK : (σ.2.1 i).1 = 1) : (pz_w cy ad σ M).set i (ad i, .inl (cy 1, (σ.2.1 i).2, .inl (upd (M.1 i) j y))) = pz_w cy ad σ (pz_u M.1 i j y, M.2) := by
  refine pz_w_set rfl hi ?_ (fun j _ hj => pz_e_off rfl (pz_u_off _ _ _ hj).symm rfl rfl)
  unfold pz_e; rw [hK]
  show Sum.inl (cy 1, (σ.2.1 i).2, Sum.inl (pz_u M.1 i j _ i)) = _
  rw [pz_u_row]; rfl
theorem pz_as3 {j : Nat} {y : Int32} (hi : i < σ.1) (hK : (σ.2.1 i).1 = 3) : (pz_w cy ad σ M).set i (ad i, .inl (cy 3, (σ.2.1 i).2, .inl (upd (M.1 i) j (vp_nar .boolean y)))) = pz_w cy ad σ (pz_u M.1 i j (vp_nar .boolean y), M.2) := by
  refine pz_w_set rfl hi ?_ (fun j _ hj => pz_e_off rfl (pz_u_off _ _ _ hj).symm rfl rfl)
  unfold pz_e; rw [hK]
  show Sum.inl (cy 3, (σ.2.1 i).2, Sum.inl (pz_u M.1 i j _ i)) = _
  rw [pz_u_row]; rfl
theorem pz_as2 {j : Nat} {y : Int64} (hi : i < σ.1) (hK : (σ.2.1 i).1 = 2) : (pz_w cy ad σ M).set i (ad i, .inl (cy 2, (σ.2.1 i).2, .inr (.inl (vp_updL (M.2 i) j y)))) = pz_w cy ad σ (M.1, pz_u M.2 i j y) := by
  refine pz_w_set rfl hi ?_ (fun j _ hj => pz_e_off rfl rfl (pz_u_off _ _ _ hj).symm rfl)
  unfold pz_e; rw [hK]
  show Sum.inl (cy 2, (σ.2.1 i).2, Sum.inr (Sum.inl (pz_u M.2 i j _ i))) = _
  rw [pz_u_row]; rfl
end PZH
section PZR
variable {p : Program} {l : Launch} {e : Env} {R : Room} {s : State} {m : MethodId} {args : Array Value} {below : List Frame} {meth : Method} {c : Code} {cc : ByteArray} {nL : Nat} {own : String} {D : va_G} {cy : Nat → ClassId} {A : Nat → Prop} {n0 : Nat} {ad0 : Nat → Nat} {Q : State → Prop} {σ : pzS} {M : pzM} {cells slots pc : Nat} {loc loc' : List (Nat × Value)} {st : List Value}
theorem pz_iconst (C : pz_C p s m args meth c cc nL own D cy A) {n : Int} {v : Int32} (hd : decode cc pc = .ok (.iconst n, 1)) (hv : Int32.ofInt n = v) (k : pz_W p l e R s m args below meth c nL D cy A n0 ad0 Q σ M cells slots (pc + 1) loc (.int v :: st)) : pz_W p l e R s m args below meth c nL D cy A n0 ad0 Q σ M cells slots pc loc st :=
  fun ad H locs ls ha hP hD hS hl => lv_iconst C.1.1 C.1.2.1 hd hv (k ad H locs ls ha hP hD hS hl)
theorem pz_bipush (C : pz_C p s m args meth c cc nL own D cy A) {n : Int} {v : Int32} (hd : decode cc pc = .ok (.bipush n, 2)) (hv : (Int8.ofInt n).toInt32 = v) (k : pz_W p l e R s m args below meth c nL D cy A n0 ad0 Q σ M cells slots (pc + 2) loc (.int v :: st)) : pz_W p l e R s m args below meth c nL D cy A n0 ad0 Q σ M cells slots pc loc st :=
  fun ad H locs ls ha hP hD hS hl => lv_bipush C.1.1 C.1.2.1 hd hv (k ad H locs ls ha hP hD hS hl)
theorem pz_sipush (C : pz_C p s m args meth c cc nL own D cy A) {n : Int} {v : Int32} (hd : decode cc pc = .ok (.sipush n, 3)) (hv : (Int16.ofInt n).toInt32 = v) (k : pz_W p l e R s m args below meth c nL D cy A n0 ad0 Q σ M cells slots (pc + 3) loc (.int v :: st)) : pz_W p l e R s m args below meth c nL D cy A n0 ad0 Q σ M cells slots pc loc st :=
  fun ad H locs ls ha hP hD hS hl => lv_sipush C.1.1 C.1.2.1 hd hv (k ad H locs ls ha hP hD hS hl)
theorem pz_lconst (C : pz_C p s m args meth c cc nL own D cy A) {n : Fin 2} {v : Int64} (hd : decode cc pc = .ok (.lconst n, 1)) (hv : Int64.ofNat (n : Nat) = v) (k : pz_W p l e R s m args below meth c nL D cy A n0 ad0 Q σ M cells slots (pc + 1) loc (.long v :: st)) : pz_W p l e R s m args below meth c nL D cy A n0 ad0 Q σ M cells slots pc loc st :=
  fun ad H locs ls ha hP hD hS hl => lv_lconst C.1.1 C.1.2.1 hd hv (k ad H locs ls ha hP hD hS hl)
theorem pz_iload_n (C : pz_C p s m args meth c cc nL own D cy A) {j : Fin 4} {x : Int32} (q : Nat) (hd : decode cc pc = .ok (.iload_n j, 1)) (hq : loc[q]? = some ((j : Nat), .int x)) (k : pz_W p l e R s m args below meth c nL D cy A n0 ad0 Q σ M cells slots (pc + 1) loc (.int x :: st)) : pz_W p l e R s m args below meth c nL D cy A n0 ad0 Q σ M cells slots pc loc st :=
  fun ad H locs ls ha hP hD hS hl => lv_iload_n C.1.1 C.1.2.1 hd rfl (pz_loc hl hq) (k ad H locs ls ha hP hD hS hl)
theorem pz_iload (C : pz_C p s m args meth c cc nL own D cy A) {j : Nat} {x : Int32} (q : Nat) (hd : decode cc pc = .ok (.iload j, 2)) (hq : loc[q]? = some (j, .int x)) (k : pz_W p l e R s m args below meth c nL D cy A n0 ad0 Q σ M cells slots (pc + 2) loc (.int x :: st)) : pz_W p l e R s m args below meth c nL D cy A n0 ad0 Q σ M cells slots pc loc st :=
  fun ad H locs ls ha hP hD hS hl => lv_iload C.1.1 C.1.2.1 hd (pz_loc hl hq) (k ad H locs ls ha hP hD hS hl)
theorem pz_istore_n (C : pz_C p s m args meth c cc nL own D cy A) {j : Fin 4} {x : Int32} (hd : decode cc pc = .ok (.istore_n j, 1)) (hn : (j : Nat) < nL) (hq : ((j : Nat), Value.int x) :: pz_f1 j loc = loc') (k : pz_W p l e R s m args below meth c nL D cy A n0 ad0 Q σ M cells slots (pc + 1) loc' st) : pz_W p l e R s m args below meth c nL D cy A n0 ad0 Q σ M cells slots pc loc (.int x :: st) :=
  fun ad H locs ls ha hP hD hS hl => lv_istore_n C.1.1 C.1.2.1 hd rfl hl hn (by rw [← hq, pz_f1_map]; rfl) (fun ls1 hl1 => k ad H locs ls1 ha hP hD hS hl1)
theorem pz_istore (C : pz_C p s m args meth c cc nL own D cy A) {j : Nat} {x : Int32} (hd : decode cc pc = .ok (.istore j, 2)) (hn : j < nL) (hq : (j, Value.int x) :: pz_f1 j loc = loc') (k : pz_W p l e R s m args below meth c nL D cy A n0 ad0 Q σ M cells slots (pc + 2) loc' st) : pz_W p l e R s m args below meth c nL D cy A n0 ad0 Q σ M cells slots pc loc (.int x :: st) :=
  fun ad H locs ls ha hP hD hS hl => lv_istore C.1.1 C.1.2.1 hd hl hn (by rw [← hq, pz_f1_map]; rfl) (fun ls1 hl1 => k ad H locs ls1 ha hP hD hS hl1)
theorem pz_lload_n (C : pz_C p s m args meth c cc nL own D cy A) {j : Fin 4} {x : Int64} (q : Nat) (hd : decode cc pc = .ok (.lload_n j, 1)) (hq : loc[q]? = some ((j : Nat), .long x)) (k : pz_W p l e R s m args below meth c nL D cy A n0 ad0 Q σ M cells slots (pc + 1) loc (.long x :: st)) : pz_W p l e R s m args below meth c nL D cy A n0 ad0 Q σ M cells slots pc loc st :=
  fun ad H locs ls ha hP hD hS hl => lv_lload_n C.1.1 C.1.2.1 hd rfl (pz_loc hl hq) (k ad H locs ls ha hP hD hS hl)
theorem pz_lload (C : pz_C p s m args meth c cc nL own D cy A) {j : Nat} {x : Int64} (q : Nat) (hd : decode cc pc = .ok (.lload j, 2)) (hq : loc[q]? = some (j, .long x)) (k : pz_W p l e R s m args below meth c nL D cy A n0 ad0 Q σ M cells slots (pc + 2) loc (.long x :: st)) : pz_W p l e R s m args below meth c nL D cy A n0 ad0 Q σ M cells slots pc loc st :=
  fun ad H locs ls ha hP hD hS hl => lv_lload C.1.1 C.1.2.1 hd (pz_loc hl hq) (k ad H locs ls ha hP hD hS hl)
theorem pz_lstore_n (C : pz_C p s m args meth c cc nL own D cy A) {j : Fin 4} {x : Int64} (hd : decode cc pc = .ok (.lstore_n j, 1)) (hn : (j : Nat) + 1 < nL) (hq : ((j : Nat), Value.long x) :: pz_f2 j loc = loc') (k : pz_W p l e R s m args below meth c nL D cy A n0 ad0 Q σ M cells slots (pc + 1) loc' st) : pz_W p l e R s m args below meth c nL D cy A n0 ad0 Q σ M cells slots pc loc (.long x :: st) :=
  fun ad H locs ls ha hP hD hS hl => lv_lstore_n C.1.1 C.1.2.1 hd rfl hl hn (by rw [← hq, pz_f2_map]; rfl) (fun ls1 hl1 => k ad H locs ls1 ha hP hD hS hl1)
theorem pz_lstore (C : pz_C p s m args meth c cc nL own D cy A) {j : Nat} {x : Int64} (hd : decode cc pc = .ok (.lstore j, 2)) (hn : j + 1 < nL) (hq : (j, Value.long x) :: pz_f2 j loc = loc') (k : pz_W p l e R s m args below meth c nL D cy A n0 ad0 Q σ M cells slots (pc + 2) loc' st) : pz_W p l e R s m args below meth c nL D cy A n0 ad0 Q σ M cells slots pc loc (.long x :: st) :=
  fun ad H locs ls ha hP hD hS hl => lv_lstore C.1.1 C.1.2.1 hd hl hn (by rw [← hq, pz_f2_map]; rfl) (fun ls1 hl1 => k ad H locs ls1 ha hP hD hS hl1)
theorem pz_aload_n (C : pz_C p s m args meth c cc nL own D cy A) {j : Fin 4} {x : Nat} (q : Nat) (hd : decode cc pc = .ok (.aload_n j, 1)) (hq : loc[q]? = some ((j : Nat), .ref x)) (k : pz_W p l e R s m args below meth c nL D cy A n0 ad0 Q σ M cells slots (pc + 1) loc (.ref x :: st)) : pz_W p l e R s m args below meth c nL D cy A n0 ad0 Q σ M cells slots pc loc st :=
  fun ad H locs ls ha hP hD hS hl => lv_aload_n C.1.1 C.1.2.1 hd rfl (pz_loc hl hq) (k ad H locs ls ha hP hD hS hl)
theorem pz_aload (C : pz_C p s m args meth c cc nL own D cy A) {j : Nat} {x : Nat} (q : Nat) (hd : decode cc pc = .ok (.aload j, 2)) (hq : loc[q]? = some (j, .ref x)) (k : pz_W p l e R s m args below meth c nL D cy A n0 ad0 Q σ M cells slots (pc + 2) loc (.ref x :: st)) : pz_W p l e R s m args below meth c nL D cy A n0 ad0 Q σ M cells slots pc loc st :=
  fun ad H locs ls ha hP hD hS hl => lv_aload C.1.1 C.1.2.1 hd (pz_loc hl hq) (k ad H locs ls ha hP hD hS hl)
theorem pz_astore_n (C : pz_C p s m args meth c cc nL own D cy A) {j : Fin 4} {x : Nat} (hd : decode cc pc = .ok (.astore_n j, 1)) (hn : (j : Nat) < nL) (hq : ((j : Nat), Value.ref x) :: pz_f1 j loc = loc') (k : pz_W p l e R s m args below meth c nL D cy A n0 ad0 Q σ M cells slots (pc + 1) loc' st) : pz_W p l e R s m args below meth c nL D cy A n0 ad0 Q σ M cells slots pc loc (.ref x :: st) :=
  fun ad H locs ls ha hP hD hS hl => lv_astore_n C.1.1 C.1.2.1 hd rfl hl hn (by rw [← hq, pz_f1_map]; rfl) (fun ls1 hl1 => k ad H locs ls1 ha hP hD hS hl1)
theorem pz_astore (C : pz_C p s m args meth c cc nL own D cy A) {j : Nat} {x : Nat} (hd : decode cc pc = .ok (.astore j, 2)) (hn : j < nL) (hq : (j, Value.ref x) :: pz_f1 j loc = loc') (k : pz_W p l e R s m args below meth c nL D cy A n0 ad0 Q σ M cells slots (pc + 2) loc' st) : pz_W p l e R s m args below meth c nL D cy A n0 ad0 Q σ M cells slots pc loc (.ref x :: st) :=
  fun ad H locs ls ha hP hD hS hl => lv_astore C.1.1 C.1.2.1 hd hl hn (by rw [← hq, pz_f1_map]; rfl) (fun ls1 hl1 => k ad H locs ls1 ha hP hD hS hl1)
theorem pz_iinc (C : pz_C p s m args meth c cc nL own D cy A) {j : Nat} {n : Int} {x v : Int32} (q : Nat) (hd : decode cc pc = .ok (.iinc j n, 3)) (hk : loc[q]? = some (j, .int x)) (hv : x + Int32.ofInt n = v) (hn : j < nL) (hq : (j, Value.int v) :: pz_f1 j loc = loc') (k : pz_W p l e R s m args below meth c nL D cy A n0 ad0 Q σ M cells slots (pc + 3) loc' st) : pz_W p l e R s m args below meth c nL D cy A n0 ad0 Q σ M cells slots pc loc st :=
  fun ad H locs ls ha hP hD hS hl => lv_iinc C.1.1 C.1.2.1 hd hl (k := q) (by rw [List.getElem?_map, hk]; rfl) hv hn (by rw [← hq, pz_f1_map]; rfl) (fun ls1 hl1 => k ad H locs ls1 ha hP hD hS hl1)
theorem pz_iadd (C : pz_C p s m args meth c cc nL own D cy A) {x y : Int32} (hd : decode cc pc = .ok (.iadd, 1))  (k : pz_W p l e R s m args below meth c nL D cy A n0 ad0 Q σ M cells slots (pc + 1) loc (.int (x + y) :: st)) : pz_W p l e R s m args below meth c nL D cy A n0 ad0 Q σ M cells slots pc loc (.int y :: .int x :: st) :=
  fun ad H locs ls ha hP hD hS hl => lv_iadd C.1.1 C.1.2.1 hd  (k ad H locs ls ha hP hD hS hl)
theorem pz_isub (C : pz_C p s m args meth c cc nL own D cy A) {x y : Int32} (hd : decode cc pc = .ok (.isub, 1))  (k : pz_W p l e R s m args below meth c nL D cy A n0 ad0 Q σ M cells slots (pc + 1) loc (.int (x - y) :: st)) : pz_W p l e R s m args below meth c nL D cy A n0 ad0 Q σ M cells slots pc loc (.int y :: .int x :: st) :=
  fun ad H locs ls ha hP hD hS hl => lv_isub C.1.1 C.1.2.1 hd  (k ad H locs ls ha hP hD hS hl)
theorem pz_imul (C : pz_C p s m args meth c cc nL own D cy A) {x y : Int32} (hd : decode cc pc = .ok (.imul, 1))  (k : pz_W p l e R s m args below meth c nL D cy A n0 ad0 Q σ M cells slots (pc + 1) loc (.int (x * y) :: st)) : pz_W p l e R s m args below meth c nL D cy A n0 ad0 Q σ M cells slots pc loc (.int y :: .int x :: st) :=
  fun ad H locs ls ha hP hD hS hl => lv_imul C.1.1 C.1.2.1 hd  (k ad H locs ls ha hP hD hS hl)
theorem pz_iand (C : pz_C p s m args meth c cc nL own D cy A) {x y : Int32} (hd : decode cc pc = .ok (.iand, 1))  (k : pz_W p l e R s m args below meth c nL D cy A n0 ad0 Q σ M cells slots (pc + 1) loc (.int (x &&& y) :: st)) : pz_W p l e R s m args below meth c nL D cy A n0 ad0 Q σ M cells slots pc loc (.int y :: .int x :: st) :=
  fun ad H locs ls ha hP hD hS hl => lv_iand C.1.1 C.1.2.1 hd  (k ad H locs ls ha hP hD hS hl)
theorem pz_ladd (C : pz_C p s m args meth c cc nL own D cy A) {x y : Int64} (hd : decode cc pc = .ok (.ladd, 1))  (k : pz_W p l e R s m args below meth c nL D cy A n0 ad0 Q σ M cells slots (pc + 1) loc (.long (x + y) :: st)) : pz_W p l e R s m args below meth c nL D cy A n0 ad0 Q σ M cells slots pc loc (.long y :: .long x :: st) :=
  fun ad H locs ls ha hP hD hS hl => lv_ladd C.1.1 C.1.2.1 hd  (k ad H locs ls ha hP hD hS hl)
theorem pz_lsub (C : pz_C p s m args meth c cc nL own D cy A) {x y : Int64} (hd : decode cc pc = .ok (.lsub, 1))  (k : pz_W p l e R s m args below meth c nL D cy A n0 ad0 Q σ M cells slots (pc + 1) loc (.long (x - y) :: st)) : pz_W p l e R s m args below meth c nL D cy A n0 ad0 Q σ M cells slots pc loc (.long y :: .long x :: st) :=
  fun ad H locs ls ha hP hD hS hl => lv_lsub C.1.1 C.1.2.1 hd  (k ad H locs ls ha hP hD hS hl)
theorem pz_lmul (C : pz_C p s m args meth c cc nL own D cy A) {x y : Int64} (hd : decode cc pc = .ok (.lmul, 1))  (k : pz_W p l e R s m args below meth c nL D cy A n0 ad0 Q σ M cells slots (pc + 1) loc (.long (x * y) :: st)) : pz_W p l e R s m args below meth c nL D cy A n0 ad0 Q σ M cells slots pc loc (.long y :: .long x :: st) :=
  fun ad H locs ls ha hP hD hS hl => lv_lmul C.1.1 C.1.2.1 hd  (k ad H locs ls ha hP hD hS hl)
theorem pz_land (C : pz_C p s m args meth c cc nL own D cy A) {x y : Int64} (hd : decode cc pc = .ok (.land, 1))  (k : pz_W p l e R s m args below meth c nL D cy A n0 ad0 Q σ M cells slots (pc + 1) loc (.long (x &&& y) :: st)) : pz_W p l e R s m args below meth c nL D cy A n0 ad0 Q σ M cells slots pc loc (.long y :: .long x :: st) :=
  fun ad H locs ls ha hP hD hS hl => lv_land C.1.1 C.1.2.1 hd  (k ad H locs ls ha hP hD hS hl)
theorem pz_lor (C : pz_C p s m args meth c cc nL own D cy A) {x y : Int64} (hd : decode cc pc = .ok (.lor, 1))  (k : pz_W p l e R s m args below meth c nL D cy A n0 ad0 Q σ M cells slots (pc + 1) loc (.long (x ||| y) :: st)) : pz_W p l e R s m args below meth c nL D cy A n0 ad0 Q σ M cells slots pc loc (.long y :: .long x :: st) :=
  fun ad H locs ls ha hP hD hS hl => lv_lor C.1.1 C.1.2.1 hd  (k ad H locs ls ha hP hD hS hl)
theorem pz_lcmp (C : pz_C p s m args meth c cc nL own D cy A) {x y : Int64} (hd : decode cc pc = .ok (.lcmp, 1))  (k : pz_W p l e R s m args below meth c nL D cy A n0 ad0 Q σ M cells slots (pc + 1) loc (.int (lg_cmp x y) :: st)) : pz_W p l e R s m args below meth c nL D cy A n0 ad0 Q σ M cells slots pc loc (.long y :: .long x :: st) :=
  fun ad H locs ls ha hP hD hS hl => W.lcmp C.1.1 C.1.2.1 hd  (k ad H locs ls ha hP hD hS hl)
theorem pz_i2l (C : pz_C p s m args meth c cc nL own D cy A) {x : Int32} (hd : decode cc pc = .ok (.i2l, 1))  (k : pz_W p l e R s m args below meth c nL D cy A n0 ad0 Q σ M cells slots (pc + 1) loc (.long x.toInt64 :: st)) : pz_W p l e R s m args below meth c nL D cy A n0 ad0 Q σ M cells slots pc loc (.int x :: st) :=
  fun ad H locs ls ha hP hD hS hl => lv_i2l C.1.1 C.1.2.1 hd rfl (k ad H locs ls ha hP hD hS hl)
theorem pz_l2i (C : pz_C p s m args meth c cc nL own D cy A) {x : Int64} (hd : decode cc pc = .ok (.l2i, 1))  (k : pz_W p l e R s m args below meth c nL D cy A n0 ad0 Q σ M cells slots (pc + 1) loc (.int x.toInt32 :: st)) : pz_W p l e R s m args below meth c nL D cy A n0 ad0 Q σ M cells slots pc loc (.long x :: st) :=
  fun ad H locs ls ha hP hD hS hl => lv_l2i C.1.1 C.1.2.1 hd rfl (k ad H locs ls ha hP hD hS hl)
theorem pz_i2b (C : pz_C p s m args meth c cc nL own D cy A) {x : Int32} (hd : decode cc pc = .ok (.i2b, 1))  (k : pz_W p l e R s m args below meth c nL D cy A n0 ad0 Q σ M cells slots (pc + 1) loc (.int x.toInt8.toInt32 :: st)) : pz_W p l e R s m args below meth c nL D cy A n0 ad0 Q σ M cells slots pc loc (.int x :: st) :=
  fun ad H locs ls ha hP hD hS hl => lv_i2b C.1.1 C.1.2.1 hd rfl (k ad H locs ls ha hP hD hS hl)
theorem pz_lshr (C : pz_C p s m args meth c cc nL own D cy A) {x : Int64} {y : Int32} (hd : decode cc pc = .ok (.lshr, 1))  (k : pz_W p l e R s m args below meth c nL D cy A n0 ad0 Q σ M cells slots (pc + 1) loc (.long (x >>> (y.toInt64 &&& 63)) :: st)) : pz_W p l e R s m args below meth c nL D cy A n0 ad0 Q σ M cells slots pc loc (.int y :: .long x :: st) :=
  fun ad H locs ls ha hP hD hS hl => lv_lshr C.1.1 C.1.2.1 hd rfl (k ad H locs ls ha hP hD hS hl)
theorem pz_lshl (C : pz_C p s m args meth c cc nL own D cy A) {x : Int64} {y : Int32} (hd : decode cc pc = .ok (.lshl, 1))  (k : pz_W p l e R s m args below meth c nL D cy A n0 ad0 Q σ M cells slots (pc + 1) loc (.long (x <<< (y.toInt64 &&& 63)) :: st)) : pz_W p l e R s m args below meth c nL D cy A n0 ad0 Q σ M cells slots pc loc (.int y :: .long x :: st) :=
  fun ad H locs ls ha hP hD hS hl => lv_lshl C.1.1 C.1.2.1 hd rfl (k ad H locs ls ha hP hD hS hl)
theorem pz_dup (C : pz_C p s m args meth c cc nL own D cy A) {va : Value} (hd : decode cc pc = .ok (.dup, 1)) (hv : va.category = 1) (k : pz_W p l e R s m args below meth c nL D cy A n0 ad0 Q σ M cells slots (pc + 1) loc (va :: va :: st)) : pz_W p l e R s m args below meth c nL D cy A n0 ad0 Q σ M cells slots pc loc (va :: st) :=
  fun ad H locs ls ha hP hD hS hl => lv_dup C.1.1 C.1.2.1 hd ((pz_t_cat ad va).trans hv) (k ad H locs ls ha hP hD hS hl)
theorem pz_pop (C : pz_C p s m args meth c cc nL own D cy A) {va : Value} (hd : decode cc pc = .ok (.pop, 1)) (hv : va.category = 1) (k : pz_W p l e R s m args below meth c nL D cy A n0 ad0 Q σ M cells slots (pc + 1) loc st) : pz_W p l e R s m args below meth c nL D cy A n0 ad0 Q σ M cells slots pc loc (va :: st) :=
  fun ad H locs ls ha hP hD hS hl => lv_pop C.1.1 C.1.2.1 hd ((pz_t_cat ad va).trans hv) (k ad H locs ls ha hP hD hS hl)
theorem pz_dup2 (C : pz_C p s m args meth c cc nL own D cy A) {va vb : Value} (hd : decode cc pc = .ok (.dup2, 1)) (hv : va.category = 1) (hv2 : vb.category = 1) (k : pz_W p l e R s m args below meth c nL D cy A n0 ad0 Q σ M cells slots (pc + 1) loc (va :: vb :: va :: vb :: st)) : pz_W p l e R s m args below meth c nL D cy A n0 ad0 Q σ M cells slots pc loc (va :: vb :: st) :=
  fun ad H locs ls ha hP hD hS hl => lv_dup2_11 C.1.1 C.1.2.1 hd ((pz_t_cat ad va).trans hv) ((pz_t_cat ad vb).trans hv2) (k ad H locs ls ha hP hD hS hl)
theorem pz_icmp_eq (C : pz_C p s m args meth c cc nL own D cy A) {x y : Int32} {off : Int} {tgt : Nat} (hd : decode cc pc = .ok (.if_icmp .eq off, 3)) (ht : (pc : Int) + off = (tgt : Int)) (kt : x = y → pz_W p l e R s m args below meth c nL D cy A n0 ad0 Q σ M cells slots tgt loc st) (kf : ¬ x = y → pz_W p l e R s m args below meth c nL D cy A n0 ad0 Q σ M cells slots (pc + 3) loc st) : pz_W p l e R s m args below meth c nL D cy A n0 ad0 Q σ M cells slots pc loc (.int y :: .int x :: st) :=
  fun ad H locs ls ha hP hD hS hl => lv_icmp_eq C.1.1 C.1.2.1 hd ht (fun h => kt h ad H locs ls ha hP hD hS hl) (fun h => kf h ad H locs ls ha hP hD hS hl)
theorem pz_icmp_ne (C : pz_C p s m args meth c cc nL own D cy A) {x y : Int32} {off : Int} {tgt : Nat} (hd : decode cc pc = .ok (.if_icmp .ne off, 3)) (ht : (pc : Int) + off = (tgt : Int)) (kt : x ≠ y → pz_W p l e R s m args below meth c nL D cy A n0 ad0 Q σ M cells slots tgt loc st) (kf : x = y → pz_W p l e R s m args below meth c nL D cy A n0 ad0 Q σ M cells slots (pc + 3) loc st) : pz_W p l e R s m args below meth c nL D cy A n0 ad0 Q σ M cells slots pc loc (.int y :: .int x :: st) :=
  fun ad H locs ls ha hP hD hS hl => lv_icmp_ne C.1.1 C.1.2.1 hd ht (fun h => kt h ad H locs ls ha hP hD hS hl) (fun h => kf h ad H locs ls ha hP hD hS hl)
theorem pz_icmp_lt (C : pz_C p s m args meth c cc nL own D cy A) {x y : Int32} {off : Int} {tgt : Nat} (hd : decode cc pc = .ok (.if_icmp .lt off, 3)) (ht : (pc : Int) + off = (tgt : Int)) (kt : x < y → pz_W p l e R s m args below meth c nL D cy A n0 ad0 Q σ M cells slots tgt loc st) (kf : ¬ x < y → pz_W p l e R s m args below meth c nL D cy A n0 ad0 Q σ M cells slots (pc + 3) loc st) : pz_W p l e R s m args below meth c nL D cy A n0 ad0 Q σ M cells slots pc loc (.int y :: .int x :: st) :=
  fun ad H locs ls ha hP hD hS hl => lv_icmp_lt C.1.1 C.1.2.1 hd ht (fun h => kt h ad H locs ls ha hP hD hS hl) (fun h => kf h ad H locs ls ha hP hD hS hl)
theorem pz_icmp_ge (C : pz_C p s m args meth c cc nL own D cy A) {x y : Int32} {off : Int} {tgt : Nat} (hd : decode cc pc = .ok (.if_icmp .ge off, 3)) (ht : (pc : Int) + off = (tgt : Int)) (kt : y ≤ x → pz_W p l e R s m args below meth c nL D cy A n0 ad0 Q σ M cells slots tgt loc st) (kf : ¬ y ≤ x → pz_W p l e R s m args below meth c nL D cy A n0 ad0 Q σ M cells slots (pc + 3) loc st) : pz_W p l e R s m args below meth c nL D cy A n0 ad0 Q σ M cells slots pc loc (.int y :: .int x :: st) :=
  fun ad H locs ls ha hP hD hS hl => lv_icmp_ge C.1.1 C.1.2.1 hd ht (fun h => kt h ad H locs ls ha hP hD hS hl) (fun h => kf h ad H locs ls ha hP hD hS hl)
theorem pz_icmp_gt (C : pz_C p s m args meth c cc nL own D cy A) {x y : Int32} {off : Int} {tgt : Nat} (hd : decode cc pc = .ok (.if_icmp .gt off, 3)) (ht : (pc : Int) + off = (tgt : Int)) (kt : y < x → pz_W p l e R s m args below meth c nL D cy A n0 ad0 Q σ M cells slots tgt loc st) (kf : ¬ y < x → pz_W p l e R s m args below meth c nL D cy A n0 ad0 Q σ M cells slots (pc + 3) loc st) : pz_W p l e R s m args below meth c nL D cy A n0 ad0 Q σ M cells slots pc loc (.int y :: .int x :: st) :=
  fun ad H locs ls ha hP hD hS hl => lv_icmp_gt C.1.1 C.1.2.1 hd ht (fun h => kt h ad H locs ls ha hP hD hS hl) (fun h => kf h ad H locs ls ha hP hD hS hl)
theorem pz_icmp_le (C : pz_C p s m args meth c cc nL own D cy A) {x y : Int32} {off : Int} {tgt : Nat} (hd : decode cc pc = .ok (.if_icmp .le off, 3)) (ht : (pc : Int) + off = (tgt : Int)) (kt : x ≤ y → pz_W p l e R s m args below meth c nL D cy A n0 ad0 Q σ M cells slots tgt loc st) (kf : ¬ x ≤ y → pz_W p l e R s m args below meth c nL D cy A n0 ad0 Q σ M cells slots (pc + 3) loc st) : pz_W p l e R s m args below meth c nL D cy A n0 ad0 Q σ M cells slots pc loc (.int y :: .int x :: st) :=
  fun ad H locs ls ha hP hD hS hl => lv_icmp_le C.1.1 C.1.2.1 hd ht (fun h => kt h ad H locs ls ha hP hD hS hl) (fun h => kf h ad H locs ls ha hP hD hS hl)
theorem pz_if_eq (C : pz_C p s m args meth c cc nL own D cy A) {x : Int32} {off : Int} {tgt : Nat} (hd : decode cc pc = .ok (.ifCond .eq off, 3)) (ht : (pc : Int) + off = (tgt : Int)) (kt : x = 0 → pz_W p l e R s m args below meth c nL D cy A n0 ad0 Q σ M cells slots tgt loc st) (kf : ¬ x = 0 → pz_W p l e R s m args below meth c nL D cy A n0 ad0 Q σ M cells slots (pc + 3) loc st) : pz_W p l e R s m args below meth c nL D cy A n0 ad0 Q σ M cells slots pc loc (.int x :: st) :=
  fun ad H locs ls ha hP hD hS hl => lv_if_eq C.1.1 C.1.2.1 hd ht (fun h => kt h ad H locs ls ha hP hD hS hl) (fun h => kf h ad H locs ls ha hP hD hS hl)
theorem pz_if_ne (C : pz_C p s m args meth c cc nL own D cy A) {x : Int32} {off : Int} {tgt : Nat} (hd : decode cc pc = .ok (.ifCond .ne off, 3)) (ht : (pc : Int) + off = (tgt : Int)) (kt : x ≠ 0 → pz_W p l e R s m args below meth c nL D cy A n0 ad0 Q σ M cells slots tgt loc st) (kf : x = 0 → pz_W p l e R s m args below meth c nL D cy A n0 ad0 Q σ M cells slots (pc + 3) loc st) : pz_W p l e R s m args below meth c nL D cy A n0 ad0 Q σ M cells slots pc loc (.int x :: st) :=
  fun ad H locs ls ha hP hD hS hl => lv_if_ne C.1.1 C.1.2.1 hd ht (fun h => kt h ad H locs ls ha hP hD hS hl) (fun h => kf h ad H locs ls ha hP hD hS hl)
theorem pz_if_lt (C : pz_C p s m args meth c cc nL own D cy A) {x : Int32} {off : Int} {tgt : Nat} (hd : decode cc pc = .ok (.ifCond .lt off, 3)) (ht : (pc : Int) + off = (tgt : Int)) (kt : x < 0 → pz_W p l e R s m args below meth c nL D cy A n0 ad0 Q σ M cells slots tgt loc st) (kf : ¬ x < 0 → pz_W p l e R s m args below meth c nL D cy A n0 ad0 Q σ M cells slots (pc + 3) loc st) : pz_W p l e R s m args below meth c nL D cy A n0 ad0 Q σ M cells slots pc loc (.int x :: st) :=
  fun ad H locs ls ha hP hD hS hl => lv_if_lt C.1.1 C.1.2.1 hd ht (fun h => kt h ad H locs ls ha hP hD hS hl) (fun h => kf h ad H locs ls ha hP hD hS hl)
theorem pz_if_ge (C : pz_C p s m args meth c cc nL own D cy A) {x : Int32} {off : Int} {tgt : Nat} (hd : decode cc pc = .ok (.ifCond .ge off, 3)) (ht : (pc : Int) + off = (tgt : Int)) (kt : 0 ≤ x → pz_W p l e R s m args below meth c nL D cy A n0 ad0 Q σ M cells slots tgt loc st) (kf : ¬ 0 ≤ x → pz_W p l e R s m args below meth c nL D cy A n0 ad0 Q σ M cells slots (pc + 3) loc st) : pz_W p l e R s m args below meth c nL D cy A n0 ad0 Q σ M cells slots pc loc (.int x :: st) :=
  fun ad H locs ls ha hP hD hS hl => lv_if_ge C.1.1 C.1.2.1 hd ht (fun h => kt h ad H locs ls ha hP hD hS hl) (fun h => kf h ad H locs ls ha hP hD hS hl)
theorem pz_if_gt (C : pz_C p s m args meth c cc nL own D cy A) {x : Int32} {off : Int} {tgt : Nat} (hd : decode cc pc = .ok (.ifCond .gt off, 3)) (ht : (pc : Int) + off = (tgt : Int)) (kt : 0 < x → pz_W p l e R s m args below meth c nL D cy A n0 ad0 Q σ M cells slots tgt loc st) (kf : ¬ 0 < x → pz_W p l e R s m args below meth c nL D cy A n0 ad0 Q σ M cells slots (pc + 3) loc st) : pz_W p l e R s m args below meth c nL D cy A n0 ad0 Q σ M cells slots pc loc (.int x :: st) :=
  fun ad H locs ls ha hP hD hS hl => lv_if_gt C.1.1 C.1.2.1 hd ht (fun h => kt h ad H locs ls ha hP hD hS hl) (fun h => kf h ad H locs ls ha hP hD hS hl)
theorem pz_if_le (C : pz_C p s m args meth c cc nL own D cy A) {x : Int32} {off : Int} {tgt : Nat} (hd : decode cc pc = .ok (.ifCond .le off, 3)) (ht : (pc : Int) + off = (tgt : Int)) (kt : x ≤ 0 → pz_W p l e R s m args below meth c nL D cy A n0 ad0 Q σ M cells slots tgt loc st) (kf : ¬ x ≤ 0 → pz_W p l e R s m args below meth c nL D cy A n0 ad0 Q σ M cells slots (pc + 3) loc st) : pz_W p l e R s m args below meth c nL D cy A n0 ad0 Q σ M cells slots pc loc (.int x :: st) :=
  fun ad H locs ls ha hP hD hS hl => lv_if_le C.1.1 C.1.2.1 hd ht (fun h => kt h ad H locs ls ha hP hD hS hl) (fun h => kf h ad H locs ls ha hP hD hS hl)
theorem pz_goto (C : pz_C p s m args meth c cc nL own D cy A) {off : Int} {tgt : Nat} (hd : decode cc pc = .ok (.goto off, 3)) (ht : (pc : Int) + off = (tgt : Int)) (k : pz_W p l e R s m args below meth c nL D cy A n0 ad0 Q σ M cells slots tgt loc st) : pz_W p l e R s m args below meth c nL D cy A n0 ad0 Q σ M cells slots pc loc st :=
  fun ad H locs ls ha hP hD hS hl => lv_goto C.1.1 C.1.2.1 hd ht (k ad H locs ls ha hP hD hS hl)
theorem pz_getI (C : pz_C p s m args meth c cc nL own D cy A) {C1 : String} {T : u_T} {N ci index k i : Nat} (hin : ∀ w ∈ u_ws C1 T N, w ∈ lw_good) (hc : pz_cl[ci]? = some (C1, T, N)) (hk : k < N) (hlink : Cond.fieldLink own index (T k).1 (T k).2.1 (T k).2.2.1 ∈ lw_good) (hi : i < σ.1) (hK : (σ.2.1 i).1 = ci + 4) (hft : (pz_ft ci)[k]? = some 0) (hd : decode cc pc = .ok (.getfield index, 3)) (kk : pz_W p l e R s m args below meth c nL D cy A n0 ad0 Q σ M cells slots (pc + 3) loc (.int (M.1 i k) :: st)) : pz_W p l e R s m args below meth c nL D cy A n0 ad0 Q σ M cells slots pc loc (.ref i :: st) := by
  intro ad H locs ls ha hP hD hS hl
  refine va_get (D := D) (ci := ci) (v := .int (M.1 i k)) (C := C1) (T := T) (N := N) C.1.1 C.1.2.1 C.1.2.2.2.2 hin C.1.2.2.2.1 C.2.1 hP i (fs := pz_fs ad σ M i 0 (pz_ft ci)) (pz_at hi hK) hc k hk (C.1.2.2.2.2 _ hlink) (fun _ h => h) ?_ hd (kk ad H locs ls ha hP hD hS hl)
  rw [pz_fs_get, hft]; simp [pz_v]
theorem pz_getJ (C : pz_C p s m args meth c cc nL own D cy A) {C1 : String} {T : u_T} {N ci index k i : Nat} (hin : ∀ w ∈ u_ws C1 T N, w ∈ lw_good) (hc : pz_cl[ci]? = some (C1, T, N)) (hk : k < N) (hlink : Cond.fieldLink own index (T k).1 (T k).2.1 (T k).2.2.1 ∈ lw_good) (hi : i < σ.1) (hK : (σ.2.1 i).1 = ci + 4) (hft : (pz_ft ci)[k]? = some 1) (hd : decode cc pc = .ok (.getfield index, 3)) (kk : pz_W p l e R s m args below meth c nL D cy A n0 ad0 Q σ M cells slots (pc + 3) loc (.long (M.2 i k) :: st)) : pz_W p l e R s m args below meth c nL D cy A n0 ad0 Q σ M cells slots pc loc (.ref i :: st) := by
  intro ad H locs ls ha hP hD hS hl
  refine va_get (D := D) (ci := ci) (v := .long (M.2 i k)) (C := C1) (T := T) (N := N) C.1.1 C.1.2.1 C.1.2.2.2.2 hin C.1.2.2.2.1 C.2.1 hP i (fs := pz_fs ad σ M i 0 (pz_ft ci)) (pz_at hi hK) hc k hk (C.1.2.2.2.2 _ hlink) (fun _ h => h) ?_ hd (kk ad H locs ls ha hP hD hS hl)
  rw [pz_fs_get, hft]; simp [pz_v]
theorem pz_getR (C : pz_C p s m args meth c cc nL own D cy A) {C1 : String} {T : u_T} {N ci index k i : Nat} (hin : ∀ w ∈ u_ws C1 T N, w ∈ lw_good) (hc : pz_cl[ci]? = some (C1, T, N)) (hk : k < N) (hlink : Cond.fieldLink own index (T k).1 (T k).2.1 (T k).2.2.1 ∈ lw_good) (hi : i < σ.1) (hK : (σ.2.1 i).1 = ci + 4) {j : Nat} (hft : (pz_ft ci)[k]? = some 2) (hj : σ.2.2 i k = some j) (hd : decode cc pc = .ok (.getfield index, 3)) (kk : pz_W p l e R s m args below meth c nL D cy A n0 ad0 Q σ M cells slots (pc + 3) loc (.ref j :: st)) : pz_W p l e R s m args below meth c nL D cy A n0 ad0 Q σ M cells slots pc loc (.ref i :: st) := by
  intro ad H locs ls ha hP hD hS hl
  refine va_get (D := D) (ci := ci) (v := .ref (ad j)) (C := C1) (T := T) (N := N) C.1.1 C.1.2.1 C.1.2.2.2.2 hin C.1.2.2.2.1 C.2.1 hP i (fs := pz_fs ad σ M i 0 (pz_ft ci)) (pz_at hi hK) hc k hk (C.1.2.2.2.2 _ hlink) (fun _ h => h) ?_ hd (kk ad H locs ls ha hP hD hS hl)
  rw [pz_fs_get, hft]; simp [pz_v, hj, va_rf]
theorem pz_putI (C : pz_C p s m args meth c cc nL own D cy A) {x : Int32} {C1 : String} {T : u_T} {N ci index k i : Nat} (hin : ∀ w ∈ u_ws C1 T N, w ∈ lw_good) (hc : pz_cl[ci]? = some (C1, T, N)) (hk : k < N) (hlink : Cond.fieldLink own index (T k).1 (T k).2.1 (T k).2.2.1 ∈ lw_good) (hi : i < σ.1) (hK : (σ.2.1 i).1 = ci + 4) {ty0 : Nat → FieldType} (hty : ∀ k, k < N → parseFieldDescriptor (T k).2.2.1 = some (ty0 k)) (hnm : ∀ a, a < N → ∀ b, b < N → a ≠ b → (T a).2.1 ≠ (T b).2.1) (hft : (pz_ft ci)[k]? = some 0) (hfin : (T k).2.2.2 = false) (hp : parseFieldDescriptor (T k).2.2.1 = some .int) (hd : decode cc pc = .ok (.putfield index, 3)) (kk : pz_W p l e R s m args below meth c nL D cy A n0 ad0 Q σ (pz_u M.1 i k x, M.2) cells slots (pc + 3) loc st) : pz_W p l e R s m args below meth c nL D cy A n0 ad0 Q σ M cells slots pc loc (.int x :: .ref i :: st) := by
  intro ad H locs ls ha hP hD hS hl
  have hl9 : k < (pz_ft ci).length := (List.getElem?_eq_some_iff.mp hft).1
  refine va_put (D := D) (ci := ci) (v := .int x) (C := C1) (T := T) (N := N) C.1.1 C.1.2.1 C.1.2.2.2.2 hin ty0 hty hnm C.1.2.2.2.1 C.2.1 hP hD hS i (fs := pz_fs ad σ M i 0 (pz_ft ci)) (pz_at hi hK) hc k hk (C.1.2.2.2.2 _ hlink) (fun _ h => h) hfin (ty := .int) hp rfl rfl (by rw [pz_fs_len]; exact hl9) hd (fun H1 locs1 hP1 hD1 hS1 => ?_)
  have e1 : (pz_w cy ad σ M).set i (ad i, .inr (ci, (pz_fs ad σ M i 0 (pz_ft ci)).set k (.int x))) = pz_w cy ad (σ) ((pz_u M.1 i k x, M.2)) := pz_setI hi hK hft
  rw [e1] at hP1 hD1
  exact kk ad H1 locs1 ls ha hP1 hD1 hS1 hl
theorem pz_putIZ (C : pz_C p s m args meth c cc nL own D cy A) {x : Int32} {C1 : String} {T : u_T} {N ci index k i : Nat} (hin : ∀ w ∈ u_ws C1 T N, w ∈ lw_good) (hc : pz_cl[ci]? = some (C1, T, N)) (hk : k < N) (hlink : Cond.fieldLink own index (T k).1 (T k).2.1 (T k).2.2.1 ∈ lw_good) (hi : i < σ.1) (hK : (σ.2.1 i).1 = ci + 4) {ty0 : Nat → FieldType} (hty : ∀ k, k < N → parseFieldDescriptor (T k).2.2.1 = some (ty0 k)) (hnm : ∀ a, a < N → ∀ b, b < N → a ≠ b → (T a).2.1 ≠ (T b).2.1) (hft : (pz_ft ci)[k]? = some 0) (hfin : (T k).2.2.2 = false) (hp : parseFieldDescriptor (T k).2.2.1 = some .boolean) (hx : narrow .boolean (.int x) = .int x) (hx2 : fits .boolean (.int x) = true) (hd : decode cc pc = .ok (.putfield index, 3)) (kk : pz_W p l e R s m args below meth c nL D cy A n0 ad0 Q σ (pz_u M.1 i k x, M.2) cells slots (pc + 3) loc st) : pz_W p l e R s m args below meth c nL D cy A n0 ad0 Q σ M cells slots pc loc (.int x :: .ref i :: st) := by
  intro ad H locs ls ha hP hD hS hl
  have hl9 : k < (pz_ft ci).length := (List.getElem?_eq_some_iff.mp hft).1
  refine va_put (D := D) (ci := ci) (v := .int x) (C := C1) (T := T) (N := N) C.1.1 C.1.2.1 C.1.2.2.2.2 hin ty0 hty hnm C.1.2.2.2.1 C.2.1 hP hD hS i (fs := pz_fs ad σ M i 0 (pz_ft ci)) (pz_at hi hK) hc k hk (C.1.2.2.2.2 _ hlink) (fun _ h => h) hfin (ty := .boolean) hp hx hx2 (by rw [pz_fs_len]; exact hl9) hd (fun H1 locs1 hP1 hD1 hS1 => ?_)
  have e1 : (pz_w cy ad σ M).set i (ad i, .inr (ci, (pz_fs ad σ M i 0 (pz_ft ci)).set k (.int x))) = pz_w cy ad (σ) ((pz_u M.1 i k x, M.2)) := pz_setI hi hK hft
  rw [e1] at hP1 hD1
  exact kk ad H1 locs1 ls ha hP1 hD1 hS1 hl
theorem pz_putJ (C : pz_C p s m args meth c cc nL own D cy A) {x : Int64} {C1 : String} {T : u_T} {N ci index k i : Nat} (hin : ∀ w ∈ u_ws C1 T N, w ∈ lw_good) (hc : pz_cl[ci]? = some (C1, T, N)) (hk : k < N) (hlink : Cond.fieldLink own index (T k).1 (T k).2.1 (T k).2.2.1 ∈ lw_good) (hi : i < σ.1) (hK : (σ.2.1 i).1 = ci + 4) {ty0 : Nat → FieldType} (hty : ∀ k, k < N → parseFieldDescriptor (T k).2.2.1 = some (ty0 k)) (hnm : ∀ a, a < N → ∀ b, b < N → a ≠ b → (T a).2.1 ≠ (T b).2.1) (hft : (pz_ft ci)[k]? = some 1) (hfin : (T k).2.2.2 = false) (hp : parseFieldDescriptor (T k).2.2.1 = some .long) (hd : decode cc pc = .ok (.putfield index, 3)) (kk : pz_W p l e R s m args below meth c nL D cy A n0 ad0 Q σ (M.1, pz_u M.2 i k x) cells slots (pc + 3) loc st) : pz_W p l e R s m args below meth c nL D cy A n0 ad0 Q σ M cells slots pc loc (.long x :: .ref i :: st) := by
  intro ad H locs ls ha hP hD hS hl
  have hl9 : k < (pz_ft ci).length := (List.getElem?_eq_some_iff.mp hft).1
  refine va_put (D := D) (ci := ci) (v := .long x) (C := C1) (T := T) (N := N) C.1.1 C.1.2.1 C.1.2.2.2.2 hin ty0 hty hnm C.1.2.2.2.1 C.2.1 hP hD hS i (fs := pz_fs ad σ M i 0 (pz_ft ci)) (pz_at hi hK) hc k hk (C.1.2.2.2.2 _ hlink) (fun _ h => h) hfin (ty := .long) hp rfl rfl (by rw [pz_fs_len]; exact hl9) hd (fun H1 locs1 hP1 hD1 hS1 => ?_)
  have e1 : (pz_w cy ad σ M).set i (ad i, .inr (ci, (pz_fs ad σ M i 0 (pz_ft ci)).set k (.long x))) = pz_w cy ad (σ) ((M.1, pz_u M.2 i k x)) := pz_setJ hi hK hft
  rw [e1] at hP1 hD1
  exact kk ad H1 locs1 ls ha hP1 hD1 hS1 hl
theorem pz_putR (C : pz_C p s m args meth c cc nL own D cy A) {j : Nat} {ty : FieldType} {C1 : String} {T : u_T} {N ci index k i : Nat} (hin : ∀ w ∈ u_ws C1 T N, w ∈ lw_good) (hc : pz_cl[ci]? = some (C1, T, N)) (hk : k < N) (hlink : Cond.fieldLink own index (T k).1 (T k).2.1 (T k).2.2.1 ∈ lw_good) (hi : i < σ.1) (hK : (σ.2.1 i).1 = ci + 4) {ty0 : Nat → FieldType} (hty : ∀ k, k < N → parseFieldDescriptor (T k).2.2.1 = some (ty0 k)) (hnm : ∀ a, a < N → ∀ b, b < N → a ≠ b → (T a).2.1 ≠ (T b).2.1) (hft : (pz_ft ci)[k]? = some 2) (hfin : (T k).2.2.2 = false) (hp : parseFieldDescriptor (T k).2.2.1 = some ty) (hx : ∀ a : Nat, narrow ty (.ref a) = .ref a) (hx2 : ∀ a : Nat, fits ty (.ref a) = true) (hd : decode cc pc = .ok (.putfield index, 3)) (kk : pz_W p l e R s m args below meth c nL D cy A n0 ad0 Q (σ.1, σ.2.1, pz_u σ.2.2 i k (some j)) M cells slots (pc + 3) loc st) : pz_W p l e R s m args below meth c nL D cy A n0 ad0 Q σ M cells slots pc loc (.ref j :: .ref i :: st) := by
  intro ad H locs ls ha hP hD hS hl
  have hl9 : k < (pz_ft ci).length := (List.getElem?_eq_some_iff.mp hft).1
  refine va_put (D := D) (ci := ci) (v := .ref (ad j)) (C := C1) (T := T) (N := N) C.1.1 C.1.2.1 C.1.2.2.2.2 hin ty0 hty hnm C.1.2.2.2.1 C.2.1 hP hD hS i (fs := pz_fs ad σ M i 0 (pz_ft ci)) (pz_at hi hK) hc k hk (C.1.2.2.2.2 _ hlink) (fun _ h => h) hfin (ty := ty) hp (hx _) (hx2 _) (by rw [pz_fs_len]; exact hl9) hd (fun H1 locs1 hP1 hD1 hS1 => ?_)
  have e1 : (pz_w cy ad σ M).set i (ad i, .inr (ci, (pz_fs ad σ M i 0 (pz_ft ci)).set k (.ref (ad j)))) = pz_w cy ad ((σ.1, σ.2.1, pz_u σ.2.2 i k (some j))) (M) := pz_setR hi hK hft
  rw [e1] at hP1 hD1
  exact kk ad H1 locs1 ls ha hP1 hD1 hS1 hl
theorem pz_putRF (C : pz_C p s m args meth c cc nL own D cy A) {j : Nat} {ty : FieldType} {C1 : String} {T : u_T} {N ci index k i : Nat} (hin : ∀ w ∈ u_ws C1 T N, w ∈ lw_good) (hc : pz_cl[ci]? = some (C1, T, N)) (hk : k < N) (hlink : Cond.fieldLink own index (T k).1 (T k).2.1 (T k).2.2.1 ∈ lw_good) (hi : i < σ.1) (hK : (σ.2.1 i).1 = ci + 4) {ty0 : Nat → FieldType} (hty : ∀ k, k < N → parseFieldDescriptor (T k).2.2.1 = some (ty0 k)) (hnm : ∀ a, a < N → ∀ b, b < N → a ≠ b → (T a).2.1 ≠ (T b).2.1) (hft : (pz_ft ci)[k]? = some 2) (hfin : (T k).2.2.2 = true) (hin2 : meth.name = "<init>") (hdecl : (T k).1 = own) (hp : parseFieldDescriptor (T k).2.2.1 = some ty) (hx : ∀ a : Nat, narrow ty (.ref a) = .ref a) (hx2 : ∀ a : Nat, fits ty (.ref a) = true) (hd : decode cc pc = .ok (.putfield index, 3)) (kk : pz_W p l e R s m args below meth c nL D cy A n0 ad0 Q (σ.1, σ.2.1, pz_u σ.2.2 i k (some j)) M cells slots (pc + 3) loc st) : pz_W p l e R s m args below meth c nL D cy A n0 ad0 Q σ M cells slots pc loc (.ref j :: .ref i :: st) := by
  intro ad H locs ls ha hP hD hS hl
  have hl9 : k < (pz_ft ci).length := (List.getElem?_eq_some_iff.mp hft).1
  refine va_putF (D := D) (ci := ci) (v := .ref (ad j)) (C := C1) (T := T) (N := N) C.1.1 C.1.2.1 C.1.2.2.2.2 hin ty0 hty hnm C.1.2.2.2.1 C.2.1 hP hD hS i (fs := pz_fs ad σ M i 0 (pz_ft ci)) (pz_at hi hK) hc k hk (C.1.2.2.2.2 _ hlink) (fun _ h => h) hfin hin2 hdecl (ty := ty) hp (hx _) (hx2 _) (by rw [pz_fs_len]; exact hl9) hd (fun H1 locs1 hP1 hD1 hS1 => ?_)
  have e1 : (pz_w cy ad σ M).set i (ad i, .inr (ci, (pz_fs ad σ M i 0 (pz_ft ci)).set k (.ref (ad j)))) = pz_w cy ad ((σ.1, σ.2.1, pz_u σ.2.2 i k (some j))) (M) := pz_setR hi hK hft
  rw [e1] at hP1 hD1
  exact kk ad H1 locs1 ls ha hP1 hD1 hS1 hl
theorem pz_iald (C : pz_C p s m args meth c cc nL own D cy A) {i : Nat} {x : Int32} (hi : i < σ.1) (hK : (σ.2.1 i).1 = 1) (hin : vp_in x (σ.2.1 i).2) (hd : decode cc pc = .ok (.iaload, 1)) (kk : pz_W p l e R s m args below meth c nL D cy A n0 ad0 Q σ M cells slots (pc + 1) loc (.int (M.1 i x.toNatClampNeg) :: st)) : pz_W p l e R s m args below meth c nL D cy A n0 ad0 Q σ M cells slots pc loc (.int x :: .ref i :: st) := by
  intro ad H locs ls ha hP hD hS hl
  exact va_iald C.1.1 C.1.2.1 C.2.1 hP i 1 (pz_ar1 hi hK) rfl hin hd (kk ad H locs ls ha hP hD hS hl)
theorem pz_bald (C : pz_C p s m args meth c cc nL own D cy A) {i : Nat} {x : Int32} (hi : i < σ.1) (hK : (σ.2.1 i).1 = 0) (hin : vp_in x (σ.2.1 i).2) (hd : decode cc pc = .ok (.baload, 1)) (kk : pz_W p l e R s m args below meth c nL D cy A n0 ad0 Q σ M cells slots (pc + 1) loc (.int (M.1 i x.toNatClampNeg) :: st)) : pz_W p l e R s m args below meth c nL D cy A n0 ad0 Q σ M cells slots pc loc (.int x :: .ref i :: st) := by
  intro ad H locs ls ha hP hD hS hl
  exact va_bald C.1.1 C.1.2.1 C.2.1 hP i 0 (pz_ar0 hi hK) rfl hin hd (kk ad H locs ls ha hP hD hS hl)
theorem pz_zald (C : pz_C p s m args meth c cc nL own D cy A) {i : Nat} {x : Int32} (hi : i < σ.1) (hK : (σ.2.1 i).1 = 3) (hin : vp_in x (σ.2.1 i).2) (hd : decode cc pc = .ok (.baload, 1)) (kk : pz_W p l e R s m args below meth c nL D cy A n0 ad0 Q σ M cells slots (pc + 1) loc (.int (M.1 i x.toNatClampNeg) :: st)) : pz_W p l e R s m args below meth c nL D cy A n0 ad0 Q σ M cells slots pc loc (.int x :: .ref i :: st) := by
  intro ad H locs ls ha hP hD hS hl
  exact va_zald C.1.1 C.1.2.1 C.2.1 hP i 3 (pz_ar3 hi hK) rfl hin hd (kk ad H locs ls ha hP hD hS hl)
theorem pz_lald (C : pz_C p s m args meth c cc nL own D cy A) {i : Nat} {x : Int32} (hi : i < σ.1) (hK : (σ.2.1 i).1 = 2) (hin : vp_in x (σ.2.1 i).2) (hd : decode cc pc = .ok (.laload, 1)) (kk : pz_W p l e R s m args below meth c nL D cy A n0 ad0 Q σ M cells slots (pc + 1) loc (.long (M.2 i x.toNatClampNeg) :: st)) : pz_W p l e R s m args below meth c nL D cy A n0 ad0 Q σ M cells slots pc loc (.int x :: .ref i :: st) := by
  intro ad H locs ls ha hP hD hS hl
  exact va_lald C.1.1 C.1.2.1 C.2.1 hP i 2 (pz_ar2 hi hK) rfl hin hd (kk ad H locs ls ha hP hD hS hl)
theorem pz_iast (C : pz_C p s m args meth c cc nL own D cy A) {i : Nat} {x : Int32} {y : Int32} (hi : i < σ.1) (hK : (σ.2.1 i).1 = 1) (hin : vp_in x (σ.2.1 i).2) (hd : decode cc pc = .ok (.iastore, 1)) (kk : pz_W p l e R s m args below meth c nL D cy A n0 ad0 Q σ (pz_u M.1 i x.toNatClampNeg y, M.2) cells slots (pc + 1) loc st) : pz_W p l e R s m args below meth c nL D cy A n0 ad0 Q σ M cells slots pc loc (.int y :: .int x :: .ref i :: st) := by
  intro ad H locs ls ha hP hD hS hl
  refine va_iast C.1.1 C.1.2.1 C.2.1 hP hD hS i 1 (pz_ar1 hi hK) rfl hin hd (fun H1 locs1 hP1 hD1 hS1 => ?_)
  rw [pz_as1 hi hK] at hP1 hD1
  exact kk ad H1 locs1 ls ha hP1 hD1 hS1 hl
theorem pz_bast (C : pz_C p s m args meth c cc nL own D cy A) {i : Nat} {x : Int32} {y : Int32} (hi : i < σ.1) (hK : (σ.2.1 i).1 = 0) (hin : vp_in x (σ.2.1 i).2) (hd : decode cc pc = .ok (.bastore, 1)) (kk : pz_W p l e R s m args below meth c nL D cy A n0 ad0 Q σ (pz_u M.1 i x.toNatClampNeg (vp_nar .byte y), M.2) cells slots (pc + 1) loc st) : pz_W p l e R s m args below meth c nL D cy A n0 ad0 Q σ M cells slots pc loc (.int y :: .int x :: .ref i :: st) := by
  intro ad H locs ls ha hP hD hS hl
  refine va_bast C.1.1 C.1.2.1 C.2.1 hP hD hS i 0 (pz_ar0 hi hK) rfl hin hd (fun H1 locs1 hP1 hD1 hS1 => ?_)
  rw [pz_as0 hi hK] at hP1 hD1
  exact kk ad H1 locs1 ls ha hP1 hD1 hS1 hl
theorem pz_zast (C : pz_C p s m args meth c cc nL own D cy A) {i : Nat} {x : Int32} {y : Int32} (hi : i < σ.1) (hK : (σ.2.1 i).1 = 3) (hin : vp_in x (σ.2.1 i).2) (hd : decode cc pc = .ok (.bastore, 1)) (kk : pz_W p l e R s m args below meth c nL D cy A n0 ad0 Q σ (pz_u M.1 i x.toNatClampNeg (vp_nar .boolean y), M.2) cells slots (pc + 1) loc st) : pz_W p l e R s m args below meth c nL D cy A n0 ad0 Q σ M cells slots pc loc (.int y :: .int x :: .ref i :: st) := by
  intro ad H locs ls ha hP hD hS hl
  refine va_zast C.1.1 C.1.2.1 C.2.1 hP hD hS i 3 (pz_ar3 hi hK) rfl hin hd (fun H1 locs1 hP1 hD1 hS1 => ?_)
  rw [pz_as3 hi hK] at hP1 hD1
  exact kk ad H1 locs1 ls ha hP1 hD1 hS1 hl
theorem pz_last (C : pz_C p s m args meth c cc nL own D cy A) {i : Nat} {x : Int32} {y : Int64} (hi : i < σ.1) (hK : (σ.2.1 i).1 = 2) (hin : vp_in x (σ.2.1 i).2) (hd : decode cc pc = .ok (.lastore, 1)) (kk : pz_W p l e R s m args below meth c nL D cy A n0 ad0 Q σ (M.1, pz_u M.2 i x.toNatClampNeg y) cells slots (pc + 1) loc st) : pz_W p l e R s m args below meth c nL D cy A n0 ad0 Q σ M cells slots pc loc (.long y :: .int x :: .ref i :: st) := by
  intro ad H locs ls ha hP hD hS hl
  refine va_last C.1.1 C.1.2.1 C.2.1 hP hD hS i 2 (pz_ar2 hi hK) rfl hin hd (fun H1 locs1 hP1 hD1 hS1 => ?_)
  rw [pz_as2 hi hK] at hP1 hD1
  exact kk ad H1 locs1 ls ha hP1 hD1 hS1 hl
theorem pz_alen (C : pz_C p s m args meth c cc nL own D cy A) {i t : Nat} {v : Int32} (hi : i < σ.1) (hK : (σ.2.1 i).1 = t) (ht : t < 4) (hv : Int32.ofNat (σ.2.1 i).2 = v) (hd : decode cc pc = .ok (.arraylength, 1)) (kk : pz_W p l e R s m args below meth c nL D cy A n0 ad0 Q σ M cells slots (pc + 1) loc (.int v :: st)) : pz_W p l e R s m args below meth c nL D cy A n0 ad0 Q σ M cells slots pc loc (.ref i :: st) := by
  intro ad H locs ls ha hP hD hS hl
  have k9 := kk ad H locs ls ha hP hD hS hl
  match t, ht, hK with
  | 0, _, hK => exact va_alen C.1.1 C.1.2.1 C.2.1 hP i 0 (pz_ar0 hi hK) (ty := .byte) rfl hv hd k9
  | 1, _, hK => exact va_alen C.1.1 C.1.2.1 C.2.1 hP i 1 (pz_ar1 hi hK) (ty := .int) rfl hv hd k9
  | 2, _, hK => exact va_alen C.1.1 C.1.2.1 C.2.1 hP i 2 (pz_ar2 hi hK) (ty := .long) rfl hv hd k9
  | 3, _, hK => exact va_alen C.1.1 C.1.2.1 C.2.1 hP i 3 (pz_ar3 hi hK) (ty := .boolean) rfl hv hd k9
end PZR
end
section
/-! CONTRACTS OVER PURE WORLDS: entry, ends, calls -/
def pz_bd (n : Nat) (v : Value) : Prop := match v with
  | .ref i => i < n
  | _ => True
def pz_all (n : Nat) : List Value → Prop
  | [] => True
  | v :: t => pz_bd n v ∧ pz_all n t
def pz_alll (n : Nat) : List (Nat × Value) → Prop
  | [] => True
  | q :: t => pz_bd n q.2 ∧ pz_alll n t
theorem pz_t_ext {ad ad' : Nat → Nat} {n : Nat} (h : ∀ i, i < n → ad' i = ad i) {v : Value} (hv : pz_bd n v) : pz_t ad' v = pz_t ad v := by
  cases v <;> first | rfl | exact congrArg Value.ref (h _ hv)
theorem pz_all_map {ad ad' : Nat → Nat} {n : Nat} (h : ∀ i, i < n → ad' i = ad i) : ∀ {st : List Value}, pz_all n st → st.map (pz_t ad') = st.map (pz_t ad)
  | [], _ => rfl
  | v :: t, hv => by simp only [List.map_cons]; rw [pz_t_ext h hv.1, pz_all_map h hv.2]
theorem pz_alll_map {ad ad' : Nat → Nat} {n : Nat} (h : ∀ i, i < n → ad' i = ad i) : ∀ {loc : List (Nat × Value)}, pz_alll n loc → loc.map (pz_p ad') = loc.map (pz_p ad)
  | [], _ => rfl
  | q :: t, hv => by simp only [List.map_cons, pz_p]; rw [pz_t_ext h hv.1, pz_alll_map h hv.2]
theorem pz_args_map (ad : Nat → Nat) : ∀ (av : List Value) (i : Nat), lv_args i (av.map (pz_t ad)) = (lv_args i av).map (pz_p ad)
  | [], i => rfl
  | v :: t, i => by simp only [List.map_cons, lv_args, pz_t_cat, pz_p]; rw [pz_args_map ad t]
theorem pz_sl_len (ad : Nat → Nat) : ∀ (av : List Value), (lg_sl (av.map (pz_t ad))).length = (lg_sl av).length
  | [] => rfl
  | v :: t => by
    have ih := pz_sl_len ad t
    unfold lg_sl at ih ⊢
    simp only [List.map_cons, List.flatMap_cons, List.length_append, pz_t_cat, ih]
    split <;> rfl
def pz_Q (D : va_G) (cy : Nat → ClassId) (n0 : Nat) (ad0 : Nat → Nat) (post : Option Value → pzS → pzM → Prop) (A : Nat → Prop) : Array Value → State → Outcome → State → Prop := fun _ st oc t =>
  (∃ (r : Option Value) (σ' : pzS) (M' : pzM) (ad' : Nat → Nat), (∀ i, i < n0 → ad' i = ad0 i) ∧ oc = .returned (r.map (pz_t ad')) ∧ post r σ' M' ∧ va_P D pz_cl (pz_w cy ad' σ' M') t.heap ∧ va_K D pz_cl (pz_tys cy) t ∧ va_D A (pz_w cy ad' σ' M')) ∧ va_F A st t
def pz_Pre (D : va_G) (cy : Nat → ClassId) (ad : Nat → Nat) (sz : Nat) (σ : pzS) (M : pzM) (U : State) : Prop :=
  U.heap.size = sz ∧ va_P D pz_cl (pz_w cy ad σ M) U.heap ∧ va_K D pz_cl (pz_tys cy) U ∧ va_D (fun _ => True) (pz_w cy ad σ M) ∧ pz_N U
def pz_Met (l : Launch) (y : MethodName) (cc : ByteArray) (maxL : Nat) (ret : Option FieldType) (fr lo mc ms : Nat) (D : va_G) (cy : Nat → ClassId) (σ : pzS) (M : pzM) (av : List Value) (post : Option Value → pzS → pzM → Prop) : Prop :=
  ∀ (ad : Nat → Nat) (sz : Nat), Met l y (Cond.code y cc maxL ret :: lw_good) ({ frames := fr, cells := mc, slots := ms, locals := lo }) (va_Pc (av.map (pz_t ad)) (pz_Pre D cy ad sz σ M)) (pz_Q D cy σ.1 ad post (va_A (pz_w cy ad σ M) sz)) mc ms (va_A (pz_w cy ad σ M) sz)
theorem pz_blind {D : va_G} {cy : Nat → ClassId} {ad : Nat → Nat} {sz : Nat} {σ : pzS} {M : pzM} {av : List Value} : FrameBlind (va_Pc av (pz_Pre D cy ad sz σ M)) := by
  intro a U g mk q
  obtain ⟨q0, q1, qP, qK, qD, qN⟩ := q
  exact ⟨q0, q1, qP, va_K.moved (u := U) (U := U.calling g mk a) (Vm.Alike.refl U.vm) qK, qD, pz_N.same (u := U) (U := U.calling g mk a) rfl qN⟩
theorem pz_ofW {l : Launch} {y : MethodName} {cc : ByteArray} {maxL : Nat} {ret : Option FieldType} {fr lo mc ms : Nat} {D : va_G} {cy : Nat → ClassId} {σ : pzS} {M : pzM} {av : List Value} {post : Option Value → pzS → pzM → Prop} (hy : plainName y.cls = true) (hlen : (lg_sl av).length ≤ maxL)
    (body : ∀ (p : Program) (e : Env) (s : State) (m : MethodId) (args : Array Value) (below : List Frame) (meth : Method) (c : Code) (ad : Nat → Nat) (A : Nat → Prop), pz_C p s m args meth c cc maxL y.cls D cy A → meth.sig.returnType = ret → meth.name = y.name →
      pz_W p l e ({ frames := fr, cells := mc, slots := ms, locals := lo }) s m args below meth c maxL D cy A σ.1 ad (MQ below (pz_Q D cy σ.1 ad post A) args s mc ms A) σ M 0 0 0 (lv_args 0 av) []) : pz_Met l y cc maxL ret fr lo mc ms D cy σ M av post := by
  intro ad sz
  refine Met.ofW (cc := cc) (maxL := maxL) (ret := ret) hy rfl ?_
  intro p e s m args below meth c s₁ B hml hv
  obtain ⟨rfl, hsz, hP, hK, hD0, hN⟩ := hv
  have hts := atoms_spec (ws := Cond.code y cc maxL ret :: lw_good) B.pre
  have hown : s.vm.findClass y.cls = some m.cls := findClass_of_methodNamed B.named
  subst hsz
  have hD := hD0.self (sz := s.heap.size)
  have hl := lv_entry (av.map (pz_t ad)) (n := maxL) (by rw [pz_sl_len]; exact hlen)
  rw [lg_entry_eq]
  rw [pz_args_map] at hl
  exact body p e s m _ below meth c ad _ ⟨⟨B.exec, B.bytes, hml, hown, fun w hw => hts w (List.mem_cons_of_mem _ hw)⟩, hK, fun q h => Or.inr h, B.notSynchronized, hN⟩ B.returns (name_of_methodNamed B.named B.method).1 ad s.heap [] _ (fun _ _ => rfl) hP hD va_S.rf hl
section PZE
variable {p : Program} {l : Launch} {e : Env} {R : Room} {s : State} {m : MethodId} {args : Array Value} {below : List Frame} {meth : Method} {c : Code} {cc : ByteArray} {nL : Nat} {own : String} {D : va_G} {cy : Nat → ClassId} {A : Nat → Prop} {n0 : Nat} {ad0 : Nat → Nat} {Q : State → Prop} {σ : pzS} {M : pzM} {cells slots pc mc ms : Nat} {loc loc' : List (Nat × Value)} {st : List Value} {post : Option Value → pzS → pzM → Prop}
theorem pz_iret (C : pz_C p s m args meth c cc nL own D cy A) {v : Int32} (hr : meth.sig.returnType = some .int) (hc : cells ≤ mc) (hs : slots ≤ ms) (hd : decode cc pc = .ok (.ireturn, 1)) (hp : post (some (.int v)) σ M) : pz_W p l e R s m args below meth c nL D cy A n0 ad0 (MQ below (pz_Q D cy n0 ad0 post A) args s mc ms A) σ M cells slots pc loc [.int v] :=
  fun ad H locs ls ha hP hD hS hl => W.widen hc hs (W.iret C.1.1 C.1.2.1 hr (fun t ht hW => ⟨⟨some (.int v), σ, M, ad, ha, rfl, hp, by rw [ht]; exact hP, va_K.moved hW.alike C.2.1, hD⟩, hS.F ht⟩) hS.2.2 hd C.2.2.2.1)
theorem pz_zret (C : pz_C p s m args meth c cc nL own D cy A) {v : Int32} (hr : meth.sig.returnType = some .boolean) (hn : narrow .boolean (.int v) = .int v) (hc : cells ≤ mc) (hs : slots ≤ ms) (hd : decode cc pc = .ok (.ireturn, 1)) (hp : post (some (.int v)) σ M) : pz_W p l e R s m args below meth c nL D cy A n0 ad0 (MQ below (pz_Q D cy n0 ad0 post A) args s mc ms A) σ M cells slots pc loc [.int v] :=
  fun ad H locs ls ha hP hD hS hl => W.widen hc hs (W.zret C.1.1 C.1.2.1 hr hn (fun t ht hW => ⟨⟨some (.int v), σ, M, ad, ha, rfl, hp, by rw [ht]; exact hP, va_K.moved hW.alike C.2.1, hD⟩, hS.F ht⟩) hS.2.2 hd C.2.2.2.1)
theorem pz_lret (C : pz_C p s m args meth c cc nL own D cy A) {v : Int64} (hr : meth.sig.returnType = some .long) (hc : cells ≤ mc) (hs : slots ≤ ms) (hd : decode cc pc = .ok (.lreturn, 1)) (hp : post (some (.long v)) σ M) : pz_W p l e R s m args below meth c nL D cy A n0 ad0 (MQ below (pz_Q D cy n0 ad0 post A) args s mc ms A) σ M cells slots pc loc [.long v] :=
  fun ad H locs ls ha hP hD hS hl => W.widen hc hs (W.lret C.1.1 C.1.2.1 hr (fun t ht hW => ⟨⟨some (.long v), σ, M, ad, ha, rfl, hp, by rw [ht]; exact hP, va_K.moved hW.alike C.2.1, hD⟩, hS.F ht⟩) hS.2.2 hd C.2.2.2.1)
theorem pz_vret (C : pz_C p s m args meth c cc nL own D cy A) (hr : meth.sig.returnType = none) (hc : cells ≤ mc) (hs : slots ≤ ms) (hd : decode cc pc = .ok (.return_, 1)) (hp : post none σ M) : pz_W p l e R s m args below meth c nL D cy A n0 ad0 (MQ below (pz_Q D cy n0 ad0 post A) args s mc ms A) σ M cells slots pc loc [] :=
  fun ad H locs ls ha hP hD hS hl => W.widen hc hs (W.vret C.1.1 C.1.2.1 hr (fun t ht hW => ⟨⟨none, σ, M, ad, ha, rfl, hp, by rw [ht]; exact hP, va_K.moved hW.alike C.2.1, hD⟩, hS.F ht⟩) hS.2.2 hd C.2.2.2.1)
theorem pz_aret (C : pz_C p s m args meth c cc nL own D cy A) {v : Nat} {rt : FieldType} (hr : meth.sig.returnType = some rt) (hrt : (∃ n, rt = .object n) ∨ ∃ t, rt = .array t) (hc : cells ≤ mc) (hs : slots ≤ ms) (hd : decode cc pc = .ok (.areturn, 1)) (hp : post (some (.ref v)) σ M) : pz_W p l e R s m args below meth c nL D cy A n0 ad0 (MQ below (pz_Q D cy n0 ad0 post A) args s mc ms A) σ M cells slots pc loc [.ref v] :=
  fun ad H locs ls ha hP hD hS hl => W.widen hc hs (W.aret C.1.1 C.1.2.1 hr hrt (Or.inr ⟨_, rfl⟩) (fun t ht hW => ⟨⟨some (.ref v), σ, M, ad, ha, rfl, hp, by rw [ht]; exact hP, va_K.moved hW.alike C.2.1, hD⟩, hS.F ht⟩) hS.2.2 hd C.2.2.2.1)
/-- which cells the callee may change are ours -/
theorem pz_freeA {H : Heap} {locs : List Loc} {ad : Nat → Nat} (C : pz_C p s m args meth c cc nL own D cy A) (hD : va_D A (pz_w cy ad σ M)) (hS : va_S A s.heap H locs) : ∀ q, va_A (pz_w cy ad σ M) H.size q → A q := by
  intro q h
  rcases h with ⟨k, e9, h⟩ | h
  · exact hD.2 k (q, e9) h
  · exact C.2.2.1 q (Nat.le_trans hS.1 h)
/-- behind a call -/
theorem pz_run {mc ms : Nat} {rest : List Value} {ad : Nat → Nat} {H : Heap} {locs : List Loc} {ls : Array Slot} {st0 : List Value} {a : Array Value} (C : pz_C p s m args meth c cc nL own D cy A)
    (hr : va_Run p l e R s m args below meth c H locs cells slots mc ms (F0 m pc ls st0) (rest.map (pz_t ad)) (pz_Q D cy σ.1 ad post (va_A (pz_w cy ad σ M) H.size) a) (va_A (pz_w cy ad σ M) H.size))
    (hn0 : n0 ≤ σ.1) (h1 : pz_all σ.1 rest) (h2 : pz_alll σ.1 loc) (ha : ∀ i, i < n0 → ad i = ad0 i) (hD : va_D A (pz_w cy ad σ M)) (hS : va_S A s.heap H locs) (hl : lv_has ls nL (loc.map (pz_p ad)))
    (kk : ∀ (r : Option Value) (σ' : pzS) (M' : pzM), post r σ' M' → pz_W p l e R s m args below meth c nL D cy A n0 ad0 Q σ' M' (cells + mc) (slots + ms) (pc + 3) loc (r.toList ++ rest)) : W p l e R s m args below meth c H locs cells slots Q (F0 m pc ls st0) := by
  intro T hT X
  obtain ⟨v, st₀, t, T', L, h0, X', hL, e1, e2, ⟨⟨r, σ', M', ad', hag, hv, hp, hP', hK', hD'⟩, hz, hk⟩, st9⟩ := hr T hT X
  have hv : v = r.map (pz_t ad') := by cases hv; rfl
  subst hv
  rw [h0] at hz hk
  have hfree := pz_freeA C hD hS
  have hS1 : va_S A s.heap T'.heap (locs ++ L) := ⟨Nat.le_trans hS.1 (by rw [e1]; exact hz), fun q g1 g2 => by rw [e1, hk q (Nat.lt_of_lt_of_le g1 hS.1) (fun z => g2 (hfree q z))]; exact hS.2.1 q g1 g2, fun q hq => by
      rcases List.mem_append.mp hq with h | h
      · exact hS.2.2 q h
      · exact hfree _ (hL q h)⟩
  obtain ⟨t2, a1, b1⟩ := kk r σ' M' hp ad' T'.heap (locs ++ L) ls (fun i hi => (hag i (Nat.lt_of_lt_of_le hi hn0)).trans (ha i hi)) (by rw [e1]; exact hP') (hD'.weaken (fun _ q _ h => hfree q.1 h)) hS1 (by rw [pz_alll_map hag h2]; exact hl) T' rfl X'
  refine ⟨t2, st9 t2 ?_, b1⟩
  have hst : (r.map (pz_t ad')).toList ++ rest.map (pz_t ad) = (r.toList ++ rest).map (pz_t ad') := by
    rw [List.map_append, pz_all_map hag h1]
    cases r <;> rfl
  have hst2 : ({ (F0 m pc ls st0) with pc := (F0 m pc ls st0).pc + 3, stack := (r.map (pz_t ad')).toList ++ rest.map (pz_t ad) } : JFrame) = F0 m (pc + 3) ls ((r.toList ++ rest).map (pz_t ad')) := by rw [hst]
  rw [hst2]
  exact a1
def pz_wB (y : MethodName) (bytes : ByteArray) (maxL : Nat) (ret : Option FieldType) (n : Nat) : Prop := Cond.initialized y.cls ∈ lw_good ∧ Cond.code y bytes maxL ret ∈ lw_good ∧ (y.cls ≠ "java/lang/invoke/MethodHandle" ∧ y.cls ≠ "java/lang/invoke/VarHandle" ∧ (parseMethodDescriptor y.desc).map (fun d => d.parameters.length) = some n)
theorem pz_goodIn {y : MethodName} {bytes : ByteArray} {maxL n : Nat} {ret : Option FieldType} (h : pz_wB y bytes maxL ret n) : GoodIn lw_good (Cond.code y bytes maxL ret :: lw_good) := by
  intro w hw
  rcases List.mem_cons.mp hw with rfl | hw
  · exact ⟨h.2.1, good_of_word (lw_good_ok h.2.1)⟩
  · exact ⟨hw, good_of_word (lw_good_ok hw)⟩
theorem pz_catsum {ad : Nat → Nat} : ∀ (rest : List Value), ((rest.map (pz_t ad)).map fun v => v.category).sum = (rest.map fun v => v.category).sum
  | [] => rfl
  | v :: t => by simp only [List.map_cons, List.sum_cons, pz_t_cat, pz_catsum t]
theorem pz_room {m : MethodId} {pc : Nat} {ls : Array Slot} {rest0 rest : List Value} {ad : Nat → Nat} (h : (rest.map fun v => v.category).sum ≤ 8) : 2 * (F0 m pc ls rest0).monitorRoom + ((rest.map (pz_t ad)).map fun v => v.category).sum ≤ 8 := lv_room (by rw [pz_catsum]; exact h)
theorem pz_pre {H : Heap} {ad : Nat → Nat} {av : List Value} (C : pz_C p s m args meth c cc nL own D cy A) (hP : va_P D pz_cl (pz_w cy ad σ M) H) (hD : va_D A (pz_w cy ad σ M)) : PreS s H (va_Pc (av.map (pz_t ad)) (pz_Pre D cy ad H.size σ M)) (av.map (pz_t ad)) :=
  ⟨pz_blind, fun U hU hW => ⟨rfl, by rw [hU], by rw [hU]; exact hP, va_K.moved hW.alike C.2.1, hD.weaken (fun _ _ _ _ => trivial), pz_N.warm hW C.2.2.2.2⟩⟩
theorem pz_callV (C : pz_C p s m args meth c cc nL own D cy A) {y : MethodName} {bytes : ByteArray} {maxL fr lo mc ms n index ci b N : Nat} {ret : Option FieldType} {T : u_T} {As rest : List Value} (hM : pz_Met l y bytes maxL ret fr lo mc ms D cy σ M (.ref b :: As) post)
    (hw : pz_wB y bytes maxL ret n) (hw1 : Cond.methodLink own index y ∈ lw_good) (hw2 : Cond.instanceMethod y ∈ lw_good) (hw3 : Cond.selects y.cls y y ∈ lw_good) (hci : pz_cl[ci]? = some (y.cls, T, N)) (hb : b < σ.1) (hK : (σ.2.1 b).1 = ci + 4)
    (hn : As.length = n) (hst : st = As.reverse ++ .ref b :: rest) (hcat : (rest.map fun v => v.category).sum ≤ 8) (hR : fr + 1 ≤ R.frames ∧ 8 + (maxL + 11) + lo ≤ R.locals) (hf : cells + mc ≤ R.cells ∧ slots + ms ≤ R.slots) (hd : decode cc pc = .ok (.invokevirtual index, 3))
    (hn0 : n0 ≤ σ.1) (h1 : pz_all σ.1 rest) (h2 : pz_alll σ.1 loc)
    (kk : ∀ (r : Option Value) (σ' : pzS) (M' : pzM), post r σ' M' → pz_W p l e R s m args below meth c nL D cy A n0 ad0 Q σ' M' (cells + mc) (slots + ms) (pc + 3) loc (r.toList ++ rest)) : pz_W p l e R s m args below meth c nL D cy A n0 ad0 Q σ M cells slots pc loc st := by
  intro ad H locs ls ha hP hD hS hl
  subst hst
  have hcw : CallW R s args own y.cls index y bytes maxL ret (Cond.code y bytes maxL ret :: lw_good) ({ frames := fr, cells := mc, slots := ms, locals := lo }) mc ms n :=
    ⟨callB_of n C.1.2.2.2.2 (pz_goodIn hw) rfl rfl rfl (C.1.2.2.2.2 _ hw.1) (C.1.2.2.2.2 _ hw1) hw.2.2 hR, C.1.2.2.2.2 _ hw2, C.1.2.2.2.2 _ hw3⟩
  have hpre : PreV s H y.cls (ad b) (va_Pc ((.ref b :: As).map (pz_t ad)) (pz_Pre D cy ad H.size σ M)) (As.map (pz_t ad)) :=
    ⟨pz_blind, va_recv C.2.1 hP hci (pz_at hb hK), (pz_pre (av := .ref b :: As) C hP hD).2⟩
  exact pz_run C (va_runV (As := As.map (pz_t ad)) (rest := rest.map (pz_t ad)) (b := ad b) C.1 (hM ad H.size) hcw hpre rfl (by rw [List.length_map]; exact hn) hl.1 (by simp [pz_t, List.map_reverse]) (pz_room hcat) hd hf) hn0 h1 h2 ha hD hS hl kk
theorem pz_callS (C : pz_C p s m args meth c cc nL own D cy A) {y : MethodName} {bytes : ByteArray} {maxL fr lo mc ms n index : Nat} {ret : Option FieldType} {As rest : List Value} (hM : pz_Met l y bytes maxL ret fr lo mc ms D cy σ M As post)
    (hw : pz_wB y bytes maxL ret n) (hw1 : Cond.methodLink own index y ∈ lw_good) (hw2 : Cond.static y ∈ lw_good) (hn : As.length = n) (hst : st = As.reverse ++ rest) (hcat : (rest.map fun v => v.category).sum ≤ 8) (hR : fr + 1 ≤ R.frames ∧ 8 + (maxL + 11) + lo ≤ R.locals) (hf : cells + mc ≤ R.cells ∧ slots + ms ≤ R.slots) (hd : decode cc pc = .ok (.invokestatic index, 3)) (hn0 : n0 ≤ σ.1) (h1 : pz_all σ.1 rest) (h2 : pz_alll σ.1 loc)
    (kk : ∀ (r : Option Value) (σ' : pzS) (M' : pzM), post r σ' M' → pz_W p l e R s m args below meth c nL D cy A n0 ad0 Q σ' M' (cells + mc) (slots + ms) (pc + 3) loc (r.toList ++ rest)) : pz_W p l e R s m args below meth c nL D cy A n0 ad0 Q σ M cells slots pc loc st := by
  intro ad H locs ls ha hP hD hS hl
  subst hst
  exact pz_run C (va_runS (As := As.map (pz_t ad)) (rest := rest.map (pz_t ad)) C.1 (hM ad H.size) ⟨callB_of n C.1.2.2.2.2 (pz_goodIn hw) rfl rfl rfl (C.1.2.2.2.2 _ hw.1) (C.1.2.2.2.2 _ hw1) hw.2.2 hR, C.1.2.2.2.2 _ hw2⟩ (pz_pre C hP hD) rfl (by rw [List.length_map]; exact hn) hl.1 (by simp [List.map_reverse]) (pz_room hcat) hd hf) hn0 h1 h2 ha hD hS hl kk
theorem pz_callSN (C : pz_C p s m args meth c cc nL own D cy A) {y : MethodName} {bytes : ByteArray} {maxL fr lo mc ms n index : Nat} {ret : Option FieldType} {As rest : List Value} {host : String} (hM : pz_Met l y bytes maxL ret fr lo mc ms D cy σ M As post)
    (hw : pz_wB y bytes maxL ret n) (hw1 : (own, index, y, host) ∈ pz_nests) (hw2 : Cond.static y ∈ lw_good) (hn : As.length = n) (hst : st = As.reverse ++ rest) (hcat : (rest.map fun v => v.category).sum ≤ 8) (hR : fr + 1 ≤ R.frames ∧ 8 + (maxL + 11) + lo ≤ R.locals) (hf : cells + mc ≤ R.cells ∧ slots + ms ≤ R.slots) (hd : decode cc pc = .ok (.invokestatic index, 3)) (hn0 : n0 ≤ σ.1) (h1 : pz_all σ.1 rest) (h2 : pz_alll σ.1 loc)
    (kk : ∀ (r : Option Value) (σ' : pzS) (M' : pzM), post r σ' M' → pz_W p l e R s m args below meth c nL D cy A n0 ad0 Q σ' M' (cells + mc) (slots + ms) (pc + 3) loc (r.toList ++ rest)) : pz_W p l e R s m args below meth c nL D cy A n0 ad0 Q σ M cells slots pc loc st := by
  intro ad H locs ls ha hP hD hS hl
  subst hst
  exact pz_run C (va_runSN (As := As.map (pz_t ad)) (rest := rest.map (pz_t ad)) C.1 (hM ad H.size) ⟨va_cnB n C.1.2.2.2.2 (pz_goodIn hw) rfl rfl rfl (C.2.2.2.2.1 _ hw1) (C.1.2.2.2.2 _ hw.1) hw.2.2 hR, C.1.2.2.2.2 _ hw2, trivial⟩ (pz_pre C hP hD) rfl (by rw [List.length_map]; exact hn) hl.1 (by simp [List.map_reverse]) (pz_room hcat) hd hf) hn0 h1 h2 ha hD hS hl kk
theorem pz_callI (C : pz_C p s m args meth c cc nL own D cy A) {y : MethodName} {bytes : ByteArray} {maxL fr lo mc ms n index : Nat} {As rest : List Value} {b : Nat} (hM : pz_Met l y bytes maxL none fr lo mc ms D cy σ M (.ref b :: As) post)
    (hw : pz_wB y bytes maxL none n) (hw1 : Cond.methodLink own index y ∈ lw_good) (hw2 : Cond.instanceMethod y ∈ lw_good) (hy : y.name = "<init>") (hn : As.length = n) (hst : st = As.reverse ++ .ref b :: rest) (hcat : (rest.map fun v => v.category).sum ≤ 8) (hR : fr + 1 ≤ R.frames ∧ 8 + (maxL + 11) + lo ≤ R.locals) (hf : cells + mc ≤ R.cells ∧ slots + ms ≤ R.slots) (hd : decode cc pc = .ok (.invokespecial index, 3)) (hn0 : n0 ≤ σ.1) (h1 : pz_all σ.1 rest) (h2 : pz_alll σ.1 loc)
    (kk : ∀ (r : Option Value) (σ' : pzS) (M' : pzM), post r σ' M' → pz_W p l e R s m args below meth c nL D cy A n0 ad0 Q σ' M' (cells + mc) (slots + ms) (pc + 3) loc (r.toList ++ rest)) : pz_W p l e R s m args below meth c nL D cy A n0 ad0 Q σ M cells slots pc loc st := by
  intro ad H locs ls ha hP hD hS hl
  subst hst
  exact pz_run C (va_runI (As := As.map (pz_t ad)) (rest := rest.map (pz_t ad)) (b := ad b) C.1 (hM ad H.size) ⟨callB_of n C.1.2.2.2.2 (pz_goodIn hw) rfl rfl rfl (C.1.2.2.2.2 _ hw.1) (C.1.2.2.2.2 _ hw1) hw.2.2 hR, hy, C.1.2.2.2.2 _ hw2⟩ (pz_pre (av := .ref b :: As) C hP hD) rfl (by rw [List.length_map]; exact hn) hl.1 (by simp [pz_t, List.map_reverse]) (pz_room hcat) hd hf) hn0 h1 h2 ha hD hS hl kk
theorem pz_callIN (C : pz_C p s m args meth c cc nL own D cy A) {y : MethodName} {bytes : ByteArray} {maxL fr lo mc ms n index : Nat} {As rest : List Value} {b : Nat} {host : String} (hM : pz_Met l y bytes maxL none fr lo mc ms D cy σ M (.ref b :: As) post)
    (hw : pz_wB y bytes maxL none n) (hw1 : (own, index, y, host) ∈ pz_nests) (hw2 : Cond.instanceMethod y ∈ lw_good) (hy : y.name = "<init>") (hn : As.length = n) (hst : st = As.reverse ++ .ref b :: rest) (hcat : (rest.map fun v => v.category).sum ≤ 8) (hR : fr + 1 ≤ R.frames ∧ 8 + (maxL + 11) + lo ≤ R.locals) (hf : cells + mc ≤ R.cells ∧ slots + ms ≤ R.slots) (hd : decode cc pc = .ok (.invokespecial index, 3)) (hn0 : n0 ≤ σ.1) (h1 : pz_all σ.1 rest) (h2 : pz_alll σ.1 loc)
    (kk : ∀ (r : Option Value) (σ' : pzS) (M' : pzM), post r σ' M' → pz_W p l e R s m args below meth c nL D cy A n0 ad0 Q σ' M' (cells + mc) (slots + ms) (pc + 3) loc (r.toList ++ rest)) : pz_W p l e R s m args below meth c nL D cy A n0 ad0 Q σ M cells slots pc loc st := by
  intro ad H locs ls ha hP hD hS hl
  subst hst
  exact pz_run C (va_runIN (As := As.map (pz_t ad)) (rest := rest.map (pz_t ad)) (b := ad b) C.1 (hM ad H.size) ⟨va_cnB n C.1.2.2.2.2 (pz_goodIn hw) rfl rfl rfl (C.2.2.2.2.1 _ hw1) (C.1.2.2.2.2 _ hw.1) hw.2.2 hR, hy, C.1.2.2.2.2 _ hw2⟩ (pz_pre (av := .ref b :: As) C hP hD) rfl (by rw [List.length_map]; exact hn) hl.1 (by simp [pz_t, List.map_reverse]) (pz_room hcat) hd hf) hn0 h1 h2 ha hD hS hl kk
theorem pz_objInit (C : pz_C p s m args meth c cc nL own D cy A) {idx b : Nat} (hw1 : Cond.methodLink own idx objectInit ∈ lw_good) (hw2 : Cond.instanceMethod objectInit ∈ lw_good) (hw3 : Cond.code objectInit ⟨#[0xb1]⟩ 1 none ∈ lw_good) (hd : decode cc pc = .ok (.invokespecial idx, 3)) (hfr : 1 ≤ R.frames) (hlo : (st.map fun v => v.category).sum + 12 ≤ R.locals)
    (k : pz_W p l e R s m args below meth c nL D cy A n0 ad0 Q σ M cells slots (pc + 3) loc st) : pz_W p l e R s m args below meth c nL D cy A n0 ad0 Q σ M cells slots pc loc (.ref b :: st) :=
  fun ad H locs ls ha hP hD hS hl => W.objInit C.1.1 C.1.2.1 C.1.2.2.2.1 (C.1.2.2.2.2 _ hw1) (C.1.2.2.2.2 _ hw2) (C.1.2.2.2.2 _ hw3) rfl (by rw [C.1.2.2.1]; exact hl.1) rfl hd hfr (by show 2 * 0 + ((st.map (pz_t ad)).map fun v => v.category).sum + 12 ≤ _; rw [pz_catsum]; omega) (k ad H locs ls ha hP hD hS hl)
theorem pz_ldc2 (C : pz_C p s m args meth c cc nL own D cy A) {index : Nat} {v : Int64} (hw : Cond.constantLong own index v ∈ lw_good) (hd : decode cc pc = .ok (.ldc2_w index, 3)) (k : pz_W p l e R s m args below meth c nL D cy A n0 ad0 Q σ M cells slots (pc + 3) loc (.long v :: st)) : pz_W p l e R s m args below meth c nL D cy A n0 ad0 Q σ M cells slots pc loc st :=
  fun ad H locs ls ha hP hD hS hl => lv_ldc2 C.1.1 C.1.2.1 C.1.2.2.2.1 (C.1.2.2.2.2 _ hw) hd (k ad H locs ls ha hP hD hS hl)
theorem pz_ldc (C : pz_C p s m args meth c cc nL own D cy A) {index : Nat} {v : Int32} (hw : Cond.constant own index v ∈ lw_good) (hd : decode cc pc = .ok (.ldc index, 2)) (k : pz_W p l e R s m args below meth c nL D cy A n0 ad0 Q σ M cells slots (pc + 2) loc (.int v :: st)) : pz_W p l e R s m args below meth c nL D cy A n0 ad0 Q σ M cells slots pc loc st :=
  fun ad H locs ls ha hP hD hS hl => lv_ldc C.1.1 C.1.2.1 C.1.2.2.2.1 (C.1.2.2.2.2 _ hw) hd (k ad H locs ls ha hP hD hS hl)
/-! new cells -/
def pz_wf (σ : pzS) : Prop := ∀ i k r, σ.2.2 i k = some r → r < σ.1
theorem pz_wf_put {σ : pzS} {i k j : Nat} (h : pz_wf σ) (hj : j < σ.1) : pz_wf (σ.1, σ.2.1, pz_u σ.2.2 i k (some j)) := by
  intro a b r hr
  by_cases hab : a = i ∧ b = k
  · obtain ⟨rfl, rfl⟩ := hab
    have : pz_u σ.2.2 a b (some j) a b = some r := hr
    rw [pz_u_eq] at this
    cases this; exact hj
  · have : pz_u σ.2.2 i k (some j) a b = some r := hr
    rw [pz_u_ne _ _ (by by_cases ha : a = i <;> simp_all)] at this
    exact h a b r this
/-- one cell more: kind q, no references, zeros -/
def pz_new (σ : pzS) (q : Nat × Nat) : pzS := (σ.1 + 1, va_up σ.2.1 σ.1 q, va_up σ.2.2 σ.1 (fun _ => none))
def pz_nM (σ : pzS) (M : pzM) : pzM := (va_up M.1 σ.1 (fun _ => 0), va_up M.2 σ.1 (fun _ => 0))
theorem pz_wf_new {σ : pzS} {q : Nat × Nat} (h : pz_wf σ) : pz_wf (pz_new σ q) := by
  intro a b r hr
  have hr : va_up σ.2.2 σ.1 (fun _ => none) a b = some r := hr
  by_cases ha : a = σ.1
  · subst ha; simp [va_up] at hr
  · simp only [va_up, if_neg ha] at hr
    exact Nat.lt_succ_of_lt (h a b r hr)
theorem pz_w_push {cy : Nat → ClassId} {ad : Nat → Nat} {σ : pzS} {M : pzM} {q : Nat} {kd : Nat × Nat} {e9 : va_E} (hwf : pz_wf σ) (he : pz_e cy (va_up ad σ.1 q) (pz_new σ kd) (pz_nM σ M) σ.1 = e9) : pz_w cy ad σ M ++ [(q, e9)] = pz_w cy (va_up ad σ.1 q) (pz_new σ kd) (pz_nM σ M) := by
  show _ = (List.range (σ.1 + 1)).map _
  rw [List.range_succ, List.map_append]
  refine congr (congrArg _ ?_) ?_
  · refine List.map_congr_left (fun i hi => ?_)
    have hi : i < σ.1 := List.mem_range.mp hi
    have hne : i ≠ σ.1 := by omega
    have e1 : va_up ad σ.1 q i = ad i := by simp [va_up, hne]
    rw [e1]
    refine congrArg (fun z => (ad i, z)) ?_
    unfold pz_e
    have hk : (pz_new σ kd).2.1 i = σ.2.1 i := by simp [pz_new, va_up, hne]
    have h1 : (pz_nM σ M).1 i = M.1 i := by simp [pz_nM, va_up, hne]
    have h2 : (pz_nM σ M).2 i = M.2 i := by simp [pz_nM, va_up, hne]
    have h3 : (pz_new σ kd).2.2 i = σ.2.2 i := by simp [pz_new, va_up, hne]
    rw [hk, h1, h2]
    have hf : ∀ c, pz_fs (va_up ad σ.1 q) (pz_new σ kd) (pz_nM σ M) i 0 (pz_ft c) = pz_fs ad σ M i 0 (pz_ft c) := fun c => pz_fs_congr _ _ (fun k t _ => by
      unfold pz_v
      rw [h1, h2, h3]
      cases hr : σ.2.2 i (0 + k) with
      | none => rfl
      | some r =>
        have hlt := hwf i _ r hr
        have : va_up ad σ.1 q r = ad r := by simp [va_up, Nat.ne_of_lt hlt]
        simp [this])
    split <;> first | rfl | (rw [hf])
  · simp [va_up, he]
theorem pz_up_ad {ad : Nat → Nat} {n q : Nat} : ∀ i, i < n → va_up ad n q i = ad i := fun i h => by simp [va_up, Nat.ne_of_lt h]
theorem pz_newarr (C : pz_C p s m args meth c cc nL own D cy A) {atype : ArrayType} {ty : FieldType} {t N' : Nat} {x : Int32} (hd : decode cc pc = .ok (.newarray atype, 2)) (hty : newarray.typeOf atype = ty) (hw : Cond.arrayClass (newarray.typeOf atype) ∈ lw_good) (ht : (t, ty) = (0, .byte) ∨ (t, ty) = (1, .int) ∨ (t, ty) = (2, .long) ∨ (t, ty) = (3, .boolean)) (hx : ¬ x < 0) (hN : x.toNatClampNeg = N') (hb : N' ≤ 1000000)
    (hwf : pz_wf σ) (hn0 : n0 ≤ σ.1) (h1 : pz_all σ.1 st) (h2 : pz_alll σ.1 loc) (hcells : cells + 1 ≤ R.cells) (hslots : slots + N' ≤ R.slots)
    (kk : pz_W p l e R s m args below meth c nL D cy A n0 ad0 Q (pz_new σ (t, N')) (pz_nM σ M) (cells + 1) (slots + N') (pc + 2) loc (.ref σ.1 :: st)) : pz_W p l e R s m args below meth c nL D cy A n0 ad0 Q σ M cells slots pc loc (.int x :: st) := by
  intro ad H locs ls ha hP hD hS hl
  have hby : N' * componentBytes ty ≤ 536870912 := by rcases ht with h | h | h | h <;> cases h <;> simp [componentBytes] <;> omega
  obtain ⟨a0, ha0, he9⟩ : ∃ a0 : vp_A, (∀ cA : ClassId, vp_cell cA a0 = arrV cA N' (fun _ => defaultValue ty)) ∧ ∀ q, pz_e cy (va_up ad σ.1 q) (pz_new σ (t, N')) (pz_nM σ M) σ.1 = .inl (cy t, a0) := by
    rcases ht with h | h | h | h <;> cases h
    · exact ⟨(N', .inl (fun _ => 0)), fun _ => rfl, fun q => by simp [pz_e, pz_new, pz_nM, va_up]⟩
    · exact ⟨(N', .inl (fun _ => 0)), fun _ => rfl, fun q => by simp [pz_e, pz_new, pz_nM, va_up]⟩
    · exact ⟨(N', .inr (.inl (fun _ => 0))), fun _ => rfl, fun q => by simp [pz_e, pz_new, pz_nM, va_up]⟩
    · exact ⟨(N', .inl (fun _ => 0)), fun _ => rfl, fun q => by simp [pz_e, pz_new, pz_nM, va_up]⟩
  refine va_newa C.1.1 C.1.2.1 (C.1.2.2.2.2 _ hw) hty C.2.1 hP hD hS C.2.2.1 ha0 hx hN hby hcells hslots hd (fun q cA H1 hK1 hP1 hD1 hS1 => ?_)
  have hcA : cA = cy t := by
    have g1 := (hK1.2 4 (cA, ty) rfl).2
    rcases ht with h | h | h | h <;> cases h
    · exact Option.some.inj (g1.symm.trans (C.2.1.2 0 (cy 0, .byte) rfl).2)
    · exact Option.some.inj (g1.symm.trans (C.2.1.2 1 (cy 1, .int) rfl).2)
    · exact Option.some.inj (g1.symm.trans (C.2.1.2 2 (cy 2, .long) rfl).2)
    · exact Option.some.inj (g1.symm.trans (C.2.1.2 3 (cy 3, .boolean) rfl).2)
  subst hcA
  have e1 := pz_w_push (M := M) hwf (he9 q)
  rw [e1] at hP1 hD1
  have k9 := kk (va_up ad σ.1 q) H1 locs ls (fun i hi => (pz_up_ad i (Nat.lt_of_lt_of_le hi hn0)).trans (ha i hi)) hP1 hD1 hS1 (by rw [pz_alll_map (fun i hi => pz_up_ad i hi) h2]; exact hl)
  simp only [List.map_cons] at k9
  rw [pz_all_map (fun i hi => pz_up_ad i hi) h1] at k9
  have e2 : pz_t (va_up ad σ.1 q) (.ref σ.1) = .ref q := by simp [pz_t, va_up]
  rw [e2] at k9
  exact k9
end PZE
end
section
/-! MORE ROWS: names for computed values, new objects, switches; methods that throw -/
def pz_dv (t : Nat) : Value := if t = 0 then .int 0 else if t = 1 then .long 0 else .null
theorem pz_fs_zero {ad : Nat → Nat} {σ : pzS} {M : pzM} {i : Nat} (h1 : ∀ k, M.1 i k = 0) (h2 : ∀ k, M.2 i k = 0) (h3 : ∀ k, σ.2.2 i k = none) : ∀ (ts : List Nat) (k0 : Nat), pz_fs ad σ M i k0 ts = ts.map pz_dv
  | [], k0 => rfl
  | t :: ts, k0 => by
    simp only [pz_fs, List.map_cons]
    rw [pz_fs_zero h1 h2 h3 ts (k0 + 1)]
    refine congrArg (· :: _) ?_
    unfold pz_v pz_dv
    rw [h1, h2, h3]
    rfl
section PZF
variable {p : Program} {l : Launch} {e : Env} {R : Room} {s : State} {m : MethodId} {args : Array Value} {below : List Frame} {meth : Method} {c : Code} {cc : ByteArray} {nL : Nat} {own : String} {D : va_G} {cy : Nat → ClassId} {A : Nat → Prop} {n0 : Nat} {ad0 : Nat → Nat} {Q : State → Prop} {σ : pzS} {M : pzM} {cells slots pc mc ms : Nat} {loc loc' : List (Nat × Value)} {st : List Value} {post : Option Value → pzS → pzM → Prop} {postX : String → pzS → pzM → Prop}
theorem pz_topi {x : Int32} (k : ∀ y : Int32, y = x → pz_W p l e R s m args below meth c nL D cy A n0 ad0 Q σ M cells slots pc loc (.int y :: st)) : pz_W p l e R s m args below meth c nL D cy A n0 ad0 Q σ M cells slots pc loc (.int x :: st) := k x rfl
theorem pz_topl {x : Int64} (k : ∀ y : Int64, y = x → pz_W p l e R s m args below meth c nL D cy A n0 ad0 Q σ M cells slots pc loc (.long y :: st)) : pz_W p l e R s m args below meth c nL D cy A n0 ad0 Q σ M cells slots pc loc (.long x :: st) := k x rfl
theorem pz_nmM (k : ∀ M1 : pzM, M1 = M → pz_W p l e R s m args below meth c nL D cy A n0 ad0 Q σ M1 cells slots pc loc st) : pz_W p l e R s m args below meth c nL D cy A n0 ad0 Q σ M cells slots pc loc st := k M rfl
theorem pz_nmS (k : ∀ S1 : pzS, S1 = σ → pz_W p l e R s m args below meth c nL D cy A n0 ad0 Q S1 M cells slots pc loc st) : pz_W p l e R s m args below meth c nL D cy A n0 ad0 Q σ M cells slots pc loc st := k σ rfl
theorem pz_widen {k n : Nat} (h1 : cells ≤ k) (h2 : slots ≤ n) (kk : pz_W p l e R s m args below meth c nL D cy A n0 ad0 Q σ M k n pc loc st) : pz_W p l e R s m args below meth c nL D cy A n0 ad0 Q σ M cells slots pc loc st :=
  fun ad H locs ls ha hP hD hS hl => W.widen h1 h2 (kk ad H locs ls ha hP hD hS hl)
theorem pz_newobj (C : pz_C p s m args meth c cc nL own D cy A) {C1 : String} {T : u_T} {N ci index : Nat} {ty : Nat → FieldType} (hd : decode cc pc = .ok (.new index, 3)) (hin : ∀ w ∈ u_ws C1 T N, w ∈ lw_good) (hty : ∀ k, k < N → parseFieldDescriptor (T k).2.2.1 = some (ty k)) (hw1 : Cond.classLink own index C1 ∈ lw_good) (hw2 : Cond.instantiable C1 N ∈ lw_good) (hw3 : Cond.initialized C1 ∈ lw_good) (hc : pz_cl[ci]? = some (C1, T, N)) (hfs : ∀ j, j < N → defaultValue (ty j) = vp_V ((pz_ft ci).map pz_dv) j)
    (hwf : pz_wf σ) (hn0 : n0 ≤ σ.1) (h1 : pz_all σ.1 st) (h2 : pz_alll σ.1 loc) (hcells : cells + 1 ≤ R.cells) (hslots : slots + N ≤ R.slots)
    (kk : pz_W p l e R s m args below meth c nL D cy A n0 ad0 Q (pz_new σ (ci + 4, 0)) (pz_nM σ M) (cells + 1) (slots + N) (pc + 3) loc (.ref σ.1 :: st)) : pz_W p l e R s m args below meth c nL D cy A n0 ad0 Q σ M cells slots pc loc st := by
  intro ad H locs ls ha hP hD hS hl
  refine va_new (ci := ci) (fs := (pz_ft ci).map pz_dv) (C := C1) (T := T) (N := N) C.1.1 C.1.2.1 C.1.2.2.2.2 hin ty hty C.1.2.2.2.1 (C.1.2.2.2.2 _ hw1) (C.1.2.2.2.2 _ hw2) (C.1.2.2.2.2 _ hw3) C.2.1 hP hD hS C.2.2.1 hc hfs hcells hslots hd (fun q H1 hP1 hD1 hS1 => ?_)
  have he9 : pz_e cy (va_up ad σ.1 q) (pz_new σ (ci + 4, 0)) (pz_nM σ M) σ.1 = .inr (ci, (pz_ft ci).map pz_dv) := by
    unfold pz_e
    have hk : ((pz_new σ (ci + 4, 0)).2.1 σ.1).1 = ci + 4 := by simp [pz_new, va_up]
    rw [hk]
    exact congrArg (fun z => Sum.inr (ci, z)) (pz_fs_zero (fun k => by simp [pz_nM, va_up]) (fun k => by simp [pz_nM, va_up]) (fun k => by simp [pz_new, va_up]) _ _)
  have e1 := pz_w_push (M := M) hwf he9
  rw [e1] at hP1 hD1
  have k9 := kk (va_up ad σ.1 q) H1 locs ls (fun i hi => (pz_up_ad i (Nat.lt_of_lt_of_le hi hn0)).trans (ha i hi)) hP1 hD1 hS1 (by rw [pz_alll_map (fun i hi => pz_up_ad i hi) h2]; exact hl)
  simp only [List.map_cons] at k9
  rw [pz_all_map (fun i hi => pz_up_ad i hi) h1] at k9
  have e2 : pz_t (va_up ad σ.1 q) (.ref σ.1) = .ref q := by simp [pz_t, va_up]
  rw [e2] at k9
  exact k9
theorem pz_tableIn (C : pz_C p s m args meth c cc nL own D cy A) {dflt lo hi : Int} {offs : Array Int} {len : Nat} {x : Int32} {off : Int} {tgt : Nat} (hd : decode cc pc = .ok (.tableswitch dflt lo hi offs, len)) (h1 : ¬ x.toInt < lo) (h2 : ¬ hi < x.toInt) (ho : offs[(x.toInt - lo).toNat]? = some off) (ht : (pc : Int) + off = (tgt : Int)) (k : pz_W p l e R s m args below meth c nL D cy A n0 ad0 Q σ M cells slots tgt loc st) : pz_W p l e R s m args below meth c nL D cy A n0 ad0 Q σ M cells slots pc loc (.int x :: st) :=
  fun ad H locs ls ha hP hD hS hl => lv_tableIn C.1.1 C.1.2.1 hd h1 h2 ho ht (k ad H locs ls ha hP hD hS hl)
theorem pz_tableOut (C : pz_C p s m args meth c cc nL own D cy A) {dflt lo hi : Int} {offs : Array Int} {len : Nat} {x : Int32} {tgt : Nat} (hd : decode cc pc = .ok (.tableswitch dflt lo hi offs, len)) (h : x.toInt < lo ∨ hi < x.toInt) (ht : (pc : Int) + dflt = (tgt : Int)) (k : pz_W p l e R s m args below meth c nL D cy A n0 ad0 Q σ M cells slots tgt loc st) : pz_W p l e R s m args below meth c nL D cy A n0 ad0 Q σ M cells slots pc loc (.int x :: st) :=
  fun ad H locs ls ha hP hD hS hl => lv_tableOut C.1.1 C.1.2.1 hd h ht (k ad H locs ls ha hP hD hS hl)
/-! methods that may throw -/
def pz_Z (A : Nat → Prop) (U : State) (H : Heap) : Prop := vx_Zq Bundle.tN "UNASSIGNED_STACK" Bundle.steD A U H ∧ vx_Zq Bundle.tN "SUPPRESSED_SENTINEL" Bundle.listD A U H ∧ va_Nc "java/lang/IllegalStateException" "java/lang/IllegalArgumentException" U
theorem pz_Z.moved {A : Nat → Prop} {u U : State} {H : Heap} (hvm : u.vm.Alike U.vm) (h : pz_Z A u H) : pz_Z A U H := ⟨vx_Zq.moved hvm h.1, vx_Zq.moved hvm h.2.1, va_Nc.moved hvm h.2.2⟩
theorem pz_Z.kept {A : Nat → Prop} {U : State} {H H1 : Heap} (h : pz_Z A U H) (hq : ∀ a : Nat, a < H.size → ¬ A a → H1[a]? = H[a]?) : pz_Z A U H1 := ⟨vx_Zq.kept h.1 hq, vx_Zq.kept h.2.1 hq, h.2.2⟩
theorem pz_Z.narrow {A B : Nat → Prop} {U : State} {H : Heap} (h : pz_Z A U H) (hAB : ∀ q, B q → A q) : pz_Z B U H := ⟨vx_Zq.narrow h.1 hAB, vx_Zq.narrow h.2.1 hAB, h.2.2⟩
def pz_XQ (D : va_G) (cy : Nat → ClassId) (n0 : Nat) (ad0 : Nat → Nat) (postX : String → pzS → pzM → Prop) (A : Nat → Prop) : String → State → State → Prop := fun E st t =>
  (∃ (σ' : pzS) (M' : pzM) (ad' : Nat → Nat), (∀ i, i < n0 → ad' i = ad0 i) ∧ postX E σ' M' ∧ va_P D pz_cl (pz_w cy ad' σ' M') t.heap ∧ va_K D pz_cl (pz_tys cy) t ∧ va_D A (pz_w cy ad' σ' M')) ∧ va_F A st t
def pz_PreX (D : va_G) (cy : Nat → ClassId) (ad : Nat → Nat) (sz : Nat) (σ : pzS) (M : pzM) (U : State) : Prop := pz_Pre D cy ad sz σ M U ∧ pz_Z (va_A (pz_w cy ad σ M) sz) U U.heap
def pz_MetX (l : Launch) (y : MethodName) (cc : ByteArray) (maxL : Nat) (ret : Option FieldType) (fr lo mc ms : Nat) (D : va_G) (cy : Nat → ClassId) (σ : pzS) (M : pzM) (av : List Value) (post : Option Value → pzS → pzM → Prop) (postX : String → pzS → pzM → Prop) : Prop :=
  ∀ (ad : Nat → Nat) (sz : Nat), vx_Met l y (Cond.code y cc maxL ret :: lw_good) ({ frames := fr, cells := mc, slots := ms, locals := lo }) (va_Pc (av.map (pz_t ad)) (pz_PreX D cy ad sz σ M)) (pz_Q D cy σ.1 ad post (va_A (pz_w cy ad σ M) sz)) (pz_XQ D cy σ.1 ad postX (va_A (pz_w cy ad σ M) sz)) mc ms (va_A (pz_w cy ad σ M) sz)
theorem pz_blindX {ad : Nat → Nat} {sz : Nat} {av : List Value} : FrameBlind (va_Pc av (pz_PreX D cy ad sz σ M)) := by
  intro a U g mk q
  have h1 := pz_blind (D := D) (cy := cy) (ad := ad) (sz := sz) (σ := σ) (M := M) (av := av) a U g mk ⟨q.1, q.2.1⟩
  exact ⟨q.1, h1.2, pz_Z.moved (u := U) (U := U.calling g mk a) (Vm.Alike.refl U.vm) q.2.2⟩
theorem pz_ofWX {y : MethodName} {maxL : Nat} {ret : Option FieldType} {fr lo : Nat} {av : List Value} (hy : plainName y.cls = true) (hlen : (lg_sl av).length ≤ maxL)
    (body : ∀ (p : Program) (e : Env) (s : State) (m : MethodId) (args : Array Value) (below : List Frame) (meth : Method) (c : Code) (ad : Nat → Nat) (A : Nat → Prop), pz_C p s m args meth c cc maxL y.cls D cy A → meth.sig.returnType = ret → pz_Z A s s.heap → (∀ x ∈ c.exceptionTable.toList, False) →
      pz_W p l e ({ frames := fr, cells := mc, slots := ms, locals := lo }) s m args below meth c maxL D cy A σ.1 ad (vx_MQ below (pz_Q D cy σ.1 ad post A) (pz_XQ D cy σ.1 ad postX A) args s mc ms A) σ M 0 0 0 (lv_args 0 av) []) : pz_MetX l y cc maxL ret fr lo mc ms D cy σ M av post postX := by
  intro ad sz
  refine vx_ofW (cc := cc) (maxL := maxL) (ret := ret) hy rfl ?_
  intro p e s m args below meth c s₁ B hml hno hv
  obtain ⟨rfl, ⟨hsz, hP, hK, hD0, hN⟩, hZ⟩ := hv
  have hts := atoms_spec (ws := Cond.code y cc maxL ret :: lw_good) B.pre
  have hown : s.vm.findClass y.cls = some m.cls := findClass_of_methodNamed B.named
  subst hsz
  have hD := hD0.self (sz := s.heap.size)
  have hl := lv_entry (av.map (pz_t ad)) (n := maxL) (by rw [pz_sl_len]; exact hlen)
  rw [lg_entry_eq]
  rw [pz_args_map] at hl
  exact body p e s m _ below meth c ad _ ⟨⟨B.exec, B.bytes, hml, hown, fun w hw => hts w (List.mem_cons_of_mem _ hw)⟩, hK, fun q h => Or.inr h, B.notSynchronized, hN⟩ B.returns hZ hno ad s.heap [] _ (fun _ _ => rfl) hP hD va_S.rf hl
theorem pz_retX {Qc : Array Value → State → Outcome → State → Prop} {XC : String → State → State → Prop} (k : pz_W p l e R s m args below meth c nL D cy A n0 ad0 (MQ below Qc args s mc ms A) σ M cells slots pc loc st) : pz_W p l e R s m args below meth c nL D cy A n0 ad0 (vx_MQ below Qc XC args s mc ms A) σ M cells slots pc loc st :=
  fun ad H locs ls ha hP hD hS hl => vx_ret (k ad H locs ls ha hP hD hS hl)
theorem pz_throw0 (C : pz_C p s m args meth c cc nL own D cy A) {Qc : Array Value → State → Outcome → State → Prop} (hl0 : l.stackTraces = false) (hZ : pz_Z A s s.heap) (hno : ∀ x ∈ c.exceptionTable.toList, False) {cls : String} {names : List String} {ik ic : Nat}
    (d0 : decode cc pc = .ok (.new ik, 3)) (d3 : decode cc (pc + 3) = .ok (.dup, 1)) (d4 : decode cc (pc + 4) = .ok (.invokespecial ic, 3)) (d7 : decode cc (pc + 7) = .ok (.athrow, 1))
    (hcls : Bundle.fit cls = true) (hnames : ∀ n ∈ names, Bundle.fit n = true) (hat : ∀ w ∈ Cond.classLink own ik cls :: Cond.initialized cls :: vx_at0 own ic cls names, w ∈ lw_face)
    (hfr : names.length + 3 < R.frames) (hlo : (st.map fun v => v.category).sum + (13 * (names.length + 1) + 42) ≤ R.locals) (hRc : cells + 1 ≤ R.cells) (hRs : slots + 6 ≤ R.slots) (hc : cells + 1 ≤ mc) (hs : slots + 6 ≤ ms) (hx : postX cls σ M) :
    pz_W p l e R s m args below meth c nL D cy A n0 ad0 (vx_MQ below Qc (pz_XQ D cy n0 ad0 postX A) args s mc ms A) σ M cells slots pc loc st := by
  intro ad H locs ls ha hP hD hS hl
  have hw : ∀ w ∈ Cond.classLink own ik cls :: Cond.initialized cls :: vx_at0 own ic cls names, w.before args s = true := fun w h => pz_N.use C.2.2.2.2 (hat w h)
  refine vx_throw0 C.1.1 C.1.2.1 hl0 C.1.2.2.2.1 hcls hnames (hw _ List.mem_cons_self) (hw _ (List.mem_cons_of_mem _ List.mem_cons_self)) (fun w h => hw w (List.mem_cons_of_mem _ (List.mem_cons_of_mem _ h))) ?_ hZ.1 hZ.2.1 hS (by rw [C.1.2.2.1]; exact hl.1) d0 d3 d4 d7 (fun x h => (hno x h).elim) hfr (by rw [pz_catsum]; exact hlo) hRc hRs C.2.2.2.1 ?_ hS.2.2 hc hs
  · intro w h
    have h9 := (List.mem_filter.mp (hat w h)).2
    simp only [Bool.and_eq_true] at h9
    simp [vx_ot, h9.1]
  · intro t hvm hz hk
    have hlt : ∀ (k : Nat) (q : Nat × va_E), (pz_w cy ad σ M)[k]? = some q → t.heap[q.1]? = H[q.1]? := fun k q hq => hk _ (hP k q hq).lt
    exact ⟨⟨σ, M, ad, ha, hx, hP.kept hlt, va_K.moved hvm C.2.1, hD⟩, Nat.le_trans hS.1 hz, fun q g1 g2 => by rw [hk q (Nat.lt_of_lt_of_le g1 hS.1)]; exact hS.2.1 q g1 g2⟩
end PZF
end
section
/-! METHODS WITH HANDLERS: the law's own small methods; calls of methods that throw -/
theorem pz_w_ad {cy : Nat → ClassId} {ad : Nat → Nat} {σ : pzS} {M : pzM} {q : Nat} (hwf : pz_wf σ) : pz_w cy (va_up ad σ.1 q) σ M = pz_w cy ad σ M := by
  refine pz_w_congr rfl (fun i hi => pz_up_ad i hi) (fun i hi => ?_)
  unfold pz_e
  have hf : ∀ c, pz_fs (va_up ad σ.1 q) σ M i 0 (pz_ft c) = pz_fs ad σ M i 0 (pz_ft c) := fun c => pz_fs_congr _ _ (fun k t _ => by
    unfold pz_v
    cases hr : σ.2.2 i (0 + k) with
    | none => rfl
    | some r =>
      have hlt := hwf i _ r hr
      have : va_up ad σ.1 q r = ad r := by simp [va_up, Nat.ne_of_lt hlt]
      simp [this])
  split <;> first | rfl | (rw [hf])
def pz_MetH (l : Launch) (y : MethodName) (cc : ByteArray) (maxL : Nat) (ret : Option FieldType) (hh : List (Nat × Nat × Nat × Nat)) (fr lo mc ms : Nat) (D : va_G) (cy : Nat → ClassId) (σ : pzS) (M : pzM) (av : List Value) (post : Option Value → pzS → pzM → Prop) : Prop :=
  ∀ (ad : Nat → Nat) (sz : Nat), Met l y (Cond.codeWith y cc maxL ret hh :: lw_good) ({ frames := fr, cells := mc, slots := ms, locals := lo }) (va_Pc (av.map (pz_t ad)) (pz_PreX D cy ad sz σ M)) (pz_Q D cy σ.1 ad post (va_A (pz_w cy ad σ M) sz)) mc ms (va_A (pz_w cy ad σ M) sz)
section PZG
variable {p : Program} {l : Launch} {e : Env} {R : Room} {s : State} {m : MethodId} {args : Array Value} {below : List Frame} {meth : Method} {c : Code} {cc : ByteArray} {nL : Nat} {own : String} {D : va_G} {cy : Nat → ClassId} {A : Nat → Prop} {n0 : Nat} {ad0 : Nat → Nat} {Q : State → Prop} {σ : pzS} {M : pzM} {cells slots pc mc ms : Nat} {loc loc' : List (Nat × Value)} {st : List Value} {post : Option Value → pzS → pzM → Prop} {postX : String → pzS → pzM → Prop}
theorem pz_ofWH {y : MethodName} {maxL : Nat} {ret : Option FieldType} {hh : List (Nat × Nat × Nat × Nat)} {fr lo : Nat} {av : List Value} (hy : plainName y.cls = true) (hlen : (lg_sl av).length ≤ maxL)
    (body : ∀ (p : Program) (e : Env) (s : State) (m : MethodId) (args : Array Value) (below : List Frame) (meth : Method) (c : Code) (ad : Nat → Nat) (A : Nat → Prop), pz_C p s m args meth c cc maxL y.cls D cy A → meth.sig.returnType = ret → pz_Z A s s.heap → c.exceptionTable.toList = tableOf hh →
      pz_W p l e ({ frames := fr, cells := mc, slots := ms, locals := lo }) s m args below meth c maxL D cy A σ.1 ad (MQ below (pz_Q D cy σ.1 ad post A) args s mc ms A) σ M 0 0 0 (lv_args 0 av) []) : pz_MetH l y cc maxL ret hh fr lo mc ms D cy σ M av post := by
  intro ad sz
  refine MetFree.of_bodyS (code := cc) (maxLocals := maxL) (ret := ret) hy ?_ ?_
  · intro args s m h hn
    obtain ⟨m9, meth, c, hn9, h1, h2, h3, h4, -, h5, h6, -⟩ := Cond.codeWith_spec (atoms_spec (ws := Cond.codeWith y cc maxL ret hh :: lw_good) h _ List.mem_cons_self)
    cases hn.symm.trans hn9
    exact ⟨meth, c, h1, h2, h3, h4, h5, h6⟩
  · intro p e s m args below meth c s₁ B hml hv _
    obtain ⟨rfl, ⟨hsz, hP, hK, hD0, hN⟩, hZ⟩ := hv
    have hts := atoms_spec (ws := Cond.codeWith y cc maxL ret hh :: lw_good) B.pre
    have hown : s.vm.findClass y.cls = some m.cls := findClass_of_methodNamed B.named
    have htab : c.exceptionTable.toList = tableOf hh := vx_table (x := y) (hh := hh) B (hts _ List.mem_cons_self)
    have hh0 : s₁.heap = s.heap := by rw [B.state]; rfl
    subst hsz
    have hD := hD0.self (sz := s.heap.size)
    have hl := lv_entry (av.map (pz_t ad)) (n := maxL) (by rw [pz_sl_len]; exact hlen)
    rw [pz_args_map] at hl
    have K := body p e s m _ below meth c ad _ ⟨⟨B.exec, B.bytes, hml, hown, fun w hw => hts w (List.mem_cons_of_mem _ hw)⟩, hK, fun q h => Or.inr h, B.notSynchronized, hN⟩ B.returns hZ htab ad s.heap [] _ (fun _ _ => rfl) hP hD va_S.rf hl
    have K2 : W p l e ({ frames := fr, cells := mc, slots := ms, locals := lo }) s m (av.map (pz_t ad)).toArray below meth c s.heap [] 0 0 (MQ below (pz_Q D cy σ.1 ad post (va_A (pz_w cy ad σ M) s.heap.size)) (av.map (pz_t ad)).toArray s mc ms (va_A (pz_w cy ad σ M) s.heap.size)) (entryFrame m (av.map (pz_t ad)).toArray maxL) := by
      rw [lg_entry_eq]; exact K
    obtain ⟨t, a1, o, b1, b2, b3⟩ := K2 s₁ hh0 (Stand.of_body B)
    exact ⟨t, o, a1, b1, b2, ⟨b3.1, b3.2⟩⟩
/-- what takes an exception of class E that comes at pc -/
def pz_takes (c : Code) (own : String) (s : State) (pc : Nat) (E : String) (hpc : Nat) : Prop :=
  ∃ (pre : List ExceptionTableEntry) (x : ExceptionTableEntry) (suf : List ExceptionTableEntry) (name : String), c.exceptionTable.toList = pre ++ x :: suf ∧ (∀ z ∈ pre, covers z pc = false ∨ (z.catchType ≠ 0 ∧ ∃ nm : String, Cond.classLink own z.catchType nm ∈ lw_good ∧ va_Nc E nm s)) ∧ covers x pc = true ∧ x.catchType ≠ 0 ∧ Cond.classLink own x.catchType name ∈ lw_good ∧ Cond.castable E name ∈ lw_face ∧ x.handlerPc = hpc
theorem pz_callVX (C : pz_C p s m args meth c cc nL own D cy A) {y : MethodName} {bytes : ByteArray} {maxL fr lo mc ms n index ci b N : Nat} {ret : Option FieldType} {T : u_T} {As rest : List Value} (hZ : pz_Z A s s.heap) (hM : pz_MetX l y bytes maxL ret fr lo mc ms D cy σ M (.ref b :: As) post postX)
    (hw : pz_wB y bytes maxL ret n) (hw1 : Cond.methodLink own index y ∈ lw_good) (hw2 : Cond.instanceMethod y ∈ lw_good) (hw3 : Cond.selects y.cls y y ∈ lw_good) (hci : pz_cl[ci]? = some (y.cls, T, N)) (hb : b < σ.1) (hK : (σ.2.1 b).1 = ci + 4)
    (hn : As.length = n) (hst : st = As.reverse ++ .ref b :: rest) (hcat : (rest.map fun v => v.category).sum ≤ 8) (hR : fr + 1 ≤ R.frames ∧ 8 + (maxL + 11) + lo ≤ R.locals) (hf : cells + mc ≤ R.cells ∧ slots + ms ≤ R.slots) (hd : decode cc pc = .ok (.invokevirtual index, 3))
    (hn0 : n0 ≤ σ.1) (h1 : pz_all σ.1 rest) (h2 : pz_alll σ.1 loc)
    (kx : ∀ (E : String) (σ' : pzS) (M' : pzM), postX E σ' M' → σ.1 ≤ σ'.1 ∧ pz_wf σ' ∧ ∃ hpc, pz_takes c own s pc E hpc ∧ pz_W p l e R s m args below meth c nL D cy A n0 ad0 Q σ' M' (cells + mc) (slots + ms) hpc loc [.ref σ'.1])
    (kk : ∀ (r : Option Value) (σ' : pzS) (M' : pzM), post r σ' M' → pz_W p l e R s m args below meth c nL D cy A n0 ad0 Q σ' M' (cells + mc) (slots + ms) (pc + 3) loc (r.toList ++ rest)) : pz_W p l e R s m args below meth c nL D cy A n0 ad0 Q σ M cells slots pc loc st := by
  intro ad H locs ls ha hP hD hS hl
  subst hst
  have hfree := pz_freeA C hD hS
  have hcw : CallW R s args own y.cls index y bytes maxL ret (Cond.code y bytes maxL ret :: lw_good) ({ frames := fr, cells := mc, slots := ms, locals := lo }) mc ms n :=
    ⟨callB_of n C.1.2.2.2.2 (pz_goodIn hw) rfl rfl rfl (C.1.2.2.2.2 _ hw.1) (C.1.2.2.2.2 _ hw1) hw.2.2 hR, C.1.2.2.2.2 _ hw2, C.1.2.2.2.2 _ hw3⟩
  have hZH : pz_Z (va_A (pz_w cy ad σ M) H.size) s H := (hZ.kept (fun a g1 g2 => hS.2.1 a g1 g2)).narrow hfree
  have hpre : PreV s H y.cls (ad b) (va_Pc ((.ref b :: As).map (pz_t ad)) (pz_PreX D cy ad H.size σ M)) (As.map (pz_t ad)) :=
    ⟨pz_blindX, va_recv C.2.1 hP hci (pz_at hb hK), fun U hU hW => ⟨rfl, ((pz_pre (av := .ref b :: As) C hP hD).2 U hU hW).2, by rw [hU]; exact hZH.moved hW.alike⟩⟩
  have hr : vx_Run p l e R s m args below meth c H locs cells slots mc ms (F0 m pc ls ((As.reverse ++ .ref b :: rest).map (pz_t ad))) (rest.map (pz_t ad)) (pz_Q D cy σ.1 ad post (va_A (pz_w cy ad σ M) H.size) (Value.ref (ad b) :: As.map (pz_t ad)).toArray) (pz_XQ D cy σ.1 ad postX (va_A (pz_w cy ad σ M) H.size)) (va_A (pz_w cy ad σ M) H.size) := vx_runV (As := As.map (pz_t ad)) (rest := rest.map (pz_t ad)) (b := ad b) C.1 (hM ad H.size) hcw hpre rfl (by rw [List.length_map]; exact hn) hl.1 (by simp [pz_t, List.map_reverse]) (pz_room hcat) hd hf
  intro T9 hT X
  rcases hr T9 hT X with ⟨v, st₀, t, T', L, h0, X', hL, e1, e2, hq, st9⟩ | ⟨q, st₀, t, T', L, E, ce, h0, X', hL, e1, e2, ⟨⟨σ', M', ad', hag, hp, hP', hK', hD'⟩, hF⟩, hce, hcv, hcl, st9⟩
  · have hr2 : va_Run p l e R s m args below meth c H locs cells slots mc ms (F0 m pc ls ((As.reverse ++ .ref b :: rest).map (pz_t ad))) (rest.map (pz_t ad)) (fun _ _ _ => True) (fun _ => True) → True := fun _ => trivial
    obtain ⟨⟨r, σ', M', ad', hag, hv, hp, hP', hK', hD'⟩, hF⟩ := hq
    have hv : v = r.map (pz_t ad') := by cases hv; rfl
    subst hv
    obtain ⟨k1, k2, k3⟩ := vx_keep h0 e1 hS (fun q _ h => hfree q h) hfree hL hF
    obtain ⟨t2, a1, b1⟩ := kk r σ' M' hp ad' T'.heap (locs ++ L) ls (fun i hi => (hag i (Nat.lt_of_lt_of_le hi hn0)).trans (ha i hi)) (by rw [e1]; exact hP') (hD'.weaken (fun _ q _ h => hfree q.1 h)) k3 (by rw [pz_alll_map hag h2]; exact hl) T' rfl X'
    refine ⟨t2, st9 t2 ?_, b1⟩
    have hst : (r.map (pz_t ad')).toList ++ rest.map (pz_t ad) = (r.toList ++ rest).map (pz_t ad') := by
      rw [List.map_append, pz_all_map hag h1]
      cases r <;> rfl
    rw [hst]
    exact a1
  · obtain ⟨hle, hwf, hpc, ⟨pre, x, suf, name, hsp, hpass, hcov, h0t, hlk, hcs, hpce⟩, hk9⟩ := kx E σ' M' hp
    obtain ⟨k1, k2, k3⟩ := vx_keep h0 e1 hS (fun q _ h => hfree q h) hfree hL hF
    have hwq := pz_w_ad (cy := cy) (ad := ad') (M := M') (q := q) hwf
    have hk := hk9 (va_up ad' σ'.1 q) T'.heap (locs ++ L) ls (fun i hi => (pz_up_ad i (Nat.lt_of_lt_of_le hi (Nat.le_trans hn0 hle))).trans ((hag i (Nat.lt_of_lt_of_le hi hn0)).trans (ha i hi))) (by rw [e1, hwq]; exact hP') (by rw [hwq]; exact hD'.weaken (fun _ q _ h => hfree q.1 h)) k3 (by rw [pz_alll_map (ad := ad) (fun i hi => (pz_up_ad i (Nat.lt_of_lt_of_le hi hle)).trans (hag i hi)) h2]; exact hl)
    have e3 : ([Value.ref σ'.1] : List Value).map (pz_t (va_up ad' σ'.1 q)) = [.ref q] := by simp [pz_t, va_up]
    rw [e3, ← hpce] at hk
    have hcatch := vx_catch (pc := pc) (ls := ls) (rest := rest.map (pz_t ad)) (E := E) (ce := ce) (q := q) C.1.2.2.2.1 pre x suf hsp (fun z hz => (hpass z hz).imp id (fun h => ⟨h.1, h.2.imp (fun nm hn => ⟨C.1.2.2.2.2 _ hn.1, hn.2⟩)⟩)) hcov h0t (C.1.2.2.2.2 _ hlk) (pz_N.use C.2.2.2.2 hcs) (by rw [e1]; exact hce) hcv hcl hk
    obtain ⟨t2, a1, b1⟩ := hcatch T' rfl X'
    exact ⟨t2, st9.trans a1, b1⟩
/-- the law's call of one of its own methods with handlers -/
theorem pz_callSH (C : pz_C p s m args meth c cc nL own D cy A) {y : MethodName} {bytes : ByteArray} {maxL fr lo mc ms n index : Nat} {ret : Option FieldType} {hh : List (Nat × Nat × Nat × Nat)} {As rest : List Value} (hZ : pz_Z A s s.heap) (hM : pz_MetH l y bytes maxL ret hh fr lo mc ms D cy σ M As post)
    (hw0 : Cond.initialized y.cls ∈ lw_good) (hw : Cond.codeWith y bytes maxL ret hh ∈ lw_good) (hwd : y.cls ≠ "java/lang/invoke/MethodHandle" ∧ y.cls ≠ "java/lang/invoke/VarHandle" ∧ (parseMethodDescriptor y.desc).map (fun d => d.parameters.length) = some n) (hw1 : Cond.methodLink own index y ∈ lw_good) (hw2 : Cond.static y ∈ lw_good)
    (hn : As.length = n) (hst : st = As.reverse ++ rest) (hcat : (rest.map fun v => v.category).sum ≤ 8) (hR : fr + 1 ≤ R.frames ∧ 8 + (maxL + 11) + lo ≤ R.locals) (hf : cells + mc ≤ R.cells ∧ slots + ms ≤ R.slots) (hd : decode cc pc = .ok (.invokestatic index, 3))
    (hn0 : n0 ≤ σ.1) (h1 : pz_all σ.1 rest) (h2 : pz_alll σ.1 loc)
    (kk : ∀ (r : Option Value) (σ' : pzS) (M' : pzM), post r σ' M' → pz_W p l e R s m args below meth c nL D cy A n0 ad0 Q σ' M' (cells + mc) (slots + ms) (pc + 3) loc (r.toList ++ rest)) : pz_W p l e R s m args below meth c nL D cy A n0 ad0 Q σ M cells slots pc loc st := by
  intro ad H locs ls ha hP hD hS hl
  subst hst
  have hfree := pz_freeA C hD hS
  have hZH : pz_Z (va_A (pz_w cy ad σ M) H.size) s H := (hZ.kept (fun a g1 g2 => hS.2.1 a g1 g2)).narrow hfree
  have hG : GoodIn lw_good (va_wsS own index y (Cond.codeWith y bytes maxL ret hh :: lw_good)) := by
    intro w h9
    have hm : w ∈ lw_good := by
      simp only [va_wsS, List.mem_append, List.mem_cons, List.not_mem_nil, or_false] at h9
      rcases h9 with (rfl | rfl | rfl) | rfl | h
      · exact hw1
      · exact hw2
      · exact hw0
      · exact hw
      · exact h
    exact ⟨hm, good_of_word (lw_good_ok hm)⟩
  have hpre : PreS s H (va_Pc (As.map (pz_t ad)) (pz_PreX D cy ad H.size σ M)) (As.map (pz_t ad)) :=
    ⟨pz_blindX, fun U hU hW => ⟨rfl, ((pz_pre (av := As) C hP hD).2 U hU hW).2, by rw [hU]; exact hZH.moved hW.alike⟩⟩
  exact pz_run C (vx_runSW (As := As.map (pz_t ad)) (rest := rest.map (pz_t ad)) C.1 (hM ad H.size) (vx_cwSW n C.1.2.2.2.2 hG rfl rfl rfl hwd hR) hpre rfl (by rw [List.length_map]; exact hn) hl.1 (by simp [List.map_reverse]) (pz_room hcat) hd hf) hn0 h1 h2 ha hD hS hl kk
end PZG
end
