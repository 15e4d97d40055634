section
-- ===== PART A: goes FIRST, ahead of the names: the tables' words, and 'selects' of the private methods out of them =====
/-- a private method of a class that the tables say can be made, by its rows of tables_1 -/
def lw_okq (q : MethodName × Nat) : Prop := (q.1.cls ≠ "java/lang/invoke/MethodHandle" ∧ q.1.cls ≠ "java/lang/invoke/VarHandle") ∧ Cond.instantiable q.1.cls q.2 ∈ tables_1 ∧ Cond.privateMethod q.1 ∈ tables_1 ∧ Cond.instanceMethod q.1 ∈ tables_1
theorem lw_p0 : lw_okq (⟨"FeatureDesugarer$Ways", "wrongOnWays", "(II)I"⟩, 3) := ⟨⟨by decide +kernel, by decide +kernel⟩, List.mem_of_getElem? (i := 86) (by decide +kernel), List.mem_of_getElem? (i := 335) (by decide +kernel), List.mem_of_getElem? (i := 336) (by decide +kernel)⟩
theorem lw_p1 : lw_okq (⟨"FeatureDesugarer$Ways", "leastWaiting", "(I)I"⟩, 3) := ⟨⟨by decide +kernel, by decide +kernel⟩, List.mem_of_getElem? (i := 86) (by decide +kernel), List.mem_of_getElem? (i := 339) (by decide +kernel), List.mem_of_getElem? (i := 340) (by decide +kernel)⟩
theorem lw_p2 : lw_okq (⟨"FeatureDesugarer$Ways", "goesOn", "(III)Z"⟩, 3) := ⟨⟨by decide +kernel, by decide +kernel⟩, List.mem_of_getElem? (i := 86) (by decide +kernel), List.mem_of_getElem? (i := 343) (by decide +kernel), List.mem_of_getElem? (i := 344) (by decide +kernel)⟩
theorem lw_p3 : lw_okq (⟨"FeatureDesugarer$Ways", "meets", "(III)Z"⟩, 3) := ⟨⟨by decide +kernel, by decide +kernel⟩, List.mem_of_getElem? (i := 86) (by decide +kernel), List.mem_of_getElem? (i := 362) (by decide +kernel), List.mem_of_getElem? (i := 363) (by decide +kernel)⟩
theorem lw_p4 : lw_okq (⟨"FeatureDesugarer$PlainCode", "makeFunction", "(I)V"⟩, 11) := ⟨⟨by decide +kernel, by decide +kernel⟩, List.mem_of_getElem? (i := 103) (by decide +kernel), List.mem_of_getElem? (i := 380) (by decide +kernel), List.mem_of_getElem? (i := 381) (by decide +kernel)⟩
theorem lw_p5 : lw_okq (⟨"FeatureDesugarer$PlainCode", "makeGroup", "(II)V"⟩, 11) := ⟨⟨by decide +kernel, by decide +kernel⟩, List.mem_of_getElem? (i := 103) (by decide +kernel), List.mem_of_getElem? (i := 390) (by decide +kernel), List.mem_of_getElem? (i := 391) (by decide +kernel)⟩
theorem lw_p6 : lw_okq (⟨"FeatureDesugarer$PlainCode", "makeNew", "(II)V"⟩, 11) := ⟨⟨by decide +kernel, by decide +kernel⟩, List.mem_of_getElem? (i := 103) (by decide +kernel), List.mem_of_getElem? (i := 397) (by decide +kernel), List.mem_of_getElem? (i := 398) (by decide +kernel)⟩
theorem lw_p7 : lw_okq (⟨"FeatureDesugarer$Instructions", "grow", "()V"⟩, 5) := ⟨⟨by decide +kernel, by decide +kernel⟩, List.mem_of_getElem? (i := 109) (by decide +kernel), List.mem_of_getElem? (i := 405) (by decide +kernel), List.mem_of_getElem? (i := 406) (by decide +kernel)⟩
theorem lw_p8 : lw_okq (⟨"FeatureDesugarer$PlainCode", "makeJoin", "(ILFeatureDesugarer$Recipes;)V"⟩, 11) := ⟨⟨by decide +kernel, by decide +kernel⟩, List.mem_of_getElem? (i := 103) (by decide +kernel), List.mem_of_getElem? (i := 429) (by decide +kernel), List.mem_of_getElem? (i := 430) (by decide +kernel)⟩
theorem lw_p9 : lw_okq (⟨"FeatureDesugarer$PlainCode", "measure", "(III)V"⟩, 11) := ⟨⟨by decide +kernel, by decide +kernel⟩, List.mem_of_getElem? (i := 103) (by decide +kernel), List.mem_of_getElem? (i := 454) (by decide +kernel), List.mem_of_getElem? (i := 455) (by decide +kernel)⟩
theorem lw_p10 : lw_okq (⟨"FeatureDesugarer$PlainCode", "risesBy", "(III)I"⟩, 11) := ⟨⟨by decide +kernel, by decide +kernel⟩, List.mem_of_getElem? (i := 103) (by decide +kernel), List.mem_of_getElem? (i := 462) (by decide +kernel), List.mem_of_getElem? (i := 463) (by decide +kernel)⟩
theorem lw_p11 : lw_okq (⟨"FeatureDesugarer$PlainCode", "movePlaces", "(I)V"⟩, 11) := ⟨⟨by decide +kernel, by decide +kernel⟩, List.mem_of_getElem? (i := 103) (by decide +kernel), List.mem_of_getElem? (i := 483) (by decide +kernel), List.mem_of_getElem? (i := 484) (by decide +kernel)⟩
theorem lw_p12 : lw_okq (⟨"FeatureDesugarer$PlainCode", "makeMethod", "(I)V"⟩, 11) := ⟨⟨by decide +kernel, by decide +kernel⟩, List.mem_of_getElem? (i := 103) (by decide +kernel), List.mem_of_getElem? (i := 491) (by decide +kernel), List.mem_of_getElem? (i := 492) (by decide +kernel)⟩
theorem lw_p13 : lw_okq (⟨"java/lang/Throwable", "fillInStackTrace", "(I)Ljava/lang/Throwable;"⟩, 6) := ⟨⟨by decide +kernel, by decide +kernel⟩, List.mem_of_getElem? (i := 549) (by decide +kernel), List.mem_of_getElem? (i := 547) (by decide +kernel), List.mem_of_getElem? (i := 548) (by decide +kernel)⟩
theorem lw_p14 : lw_okq (⟨"FeatureDesugarer$Recipes", "addDigit", "(II)V"⟩, 7) := ⟨⟨by decide +kernel, by decide +kernel⟩, List.mem_of_getElem? (i := 35) (by decide +kernel), List.mem_of_getElem? (i := 630) (by decide +kernel), List.mem_of_getElem? (i := 631) (by decide +kernel)⟩
theorem lw_p15 : lw_okq (⟨"FeatureDesugarer$Machine", "beginFunction", "(I)Z"⟩, 10) := ⟨⟨by decide +kernel, by decide +kernel⟩, List.mem_of_getElem? (i := 165) (by decide +kernel), List.mem_of_getElem? (i := 741) (by decide +kernel), List.mem_of_getElem? (i := 742) (by decide +kernel)⟩
def lw_privs_1 : List (MethodName × Nat) := [(⟨"FeatureDesugarer$Ways", "wrongOnWays", "(II)I"⟩, 3), (⟨"FeatureDesugarer$Ways", "leastWaiting", "(I)I"⟩, 3), (⟨"FeatureDesugarer$Ways", "goesOn", "(III)Z"⟩, 3), (⟨"FeatureDesugarer$Ways", "meets", "(III)Z"⟩, 3), (⟨"FeatureDesugarer$PlainCode", "makeFunction", "(I)V"⟩, 11), (⟨"FeatureDesugarer$PlainCode", "makeGroup", "(II)V"⟩, 11), (⟨"FeatureDesugarer$PlainCode", "makeNew", "(II)V"⟩, 11), (⟨"FeatureDesugarer$Instructions", "grow", "()V"⟩, 5), (⟨"FeatureDesugarer$PlainCode", "makeJoin", "(ILFeatureDesugarer$Recipes;)V"⟩, 11), (⟨"FeatureDesugarer$PlainCode", "measure", "(III)V"⟩, 11), (⟨"FeatureDesugarer$PlainCode", "risesBy", "(III)I"⟩, 11), (⟨"FeatureDesugarer$PlainCode", "movePlaces", "(I)V"⟩, 11), (⟨"FeatureDesugarer$PlainCode", "makeMethod", "(I)V"⟩, 11), (⟨"java/lang/Throwable", "fillInStackTrace", "(I)Ljava/lang/Throwable;"⟩, 6), (⟨"FeatureDesugarer$Recipes", "addDigit", "(II)V"⟩, 7), (⟨"FeatureDesugarer$Machine", "beginFunction", "(I)Z"⟩, 10)]
theorem lw_r1 : ∀ q ∈ lw_privs_1, lw_okq q := List.forall_mem_cons.mpr ⟨lw_p0, List.forall_mem_cons.mpr ⟨lw_p1, List.forall_mem_cons.mpr ⟨lw_p2, List.forall_mem_cons.mpr ⟨lw_p3, List.forall_mem_cons.mpr ⟨lw_p4, List.forall_mem_cons.mpr ⟨lw_p5, List.forall_mem_cons.mpr ⟨lw_p6, List.forall_mem_cons.mpr ⟨lw_p7, List.forall_mem_cons.mpr ⟨lw_p8, List.forall_mem_cons.mpr ⟨lw_p9, List.forall_mem_cons.mpr ⟨lw_p10, List.forall_mem_cons.mpr ⟨lw_p11, List.forall_mem_cons.mpr ⟨lw_p12, List.forall_mem_cons.mpr ⟨lw_p13, List.forall_mem_cons.mpr ⟨lw_p14, List.forall_mem_cons.mpr ⟨lw_p15, fun _ h => absurd h List.not_mem_nil⟩⟩⟩⟩⟩⟩⟩⟩⟩⟩⟩⟩⟩⟩⟩⟩
theorem lw_p16 : lw_okq (⟨"FeatureDesugarer$Machine", "doNext", "()V"⟩, 10) := ⟨⟨by decide +kernel, by decide +kernel⟩, List.mem_of_getElem? (i := 165) (by decide +kernel), List.mem_of_getElem? (i := 764) (by decide +kernel), List.mem_of_getElem? (i := 765) (by decide +kernel)⟩
theorem lw_p17 : lw_okq (⟨"FeatureDesugarer$Machine", "doShared", "(II)V"⟩, 10) := ⟨⟨by decide +kernel, by decide +kernel⟩, List.mem_of_getElem? (i := 165) (by decide +kernel), List.mem_of_getElem? (i := 830) (by decide +kernel), List.mem_of_getElem? (i := 831) (by decide +kernel)⟩
theorem lw_p18 : lw_okq (⟨"FeatureDesugarer$Machine", "goIfZero", "(I)V"⟩, 10) := ⟨⟨by decide +kernel, by decide +kernel⟩, List.mem_of_getElem? (i := 165) (by decide +kernel), List.mem_of_getElem? (i := 846) (by decide +kernel), List.mem_of_getElem? (i := 847) (by decide +kernel)⟩
theorem lw_p19 : lw_okq (⟨"FeatureDesugarer$Machine", "callFunction", "(I)V"⟩, 10) := ⟨⟨by decide +kernel, by decide +kernel⟩, List.mem_of_getElem? (i := 165) (by decide +kernel), List.mem_of_getElem? (i := 856) (by decide +kernel), List.mem_of_getElem? (i := 857) (by decide +kernel)⟩
theorem lw_p20 : lw_okq (⟨"FeatureDesugarer$Machine", "giveBack", "()V"⟩, 10) := ⟨⟨by decide +kernel, by decide +kernel⟩, List.mem_of_getElem? (i := 165) (by decide +kernel), List.mem_of_getElem? (i := 870) (by decide +kernel), List.mem_of_getElem? (i := 871) (by decide +kernel)⟩
theorem lw_p21 : lw_okq (⟨"FeatureDesugarer$Texts", "spell", "(J)V"⟩, 8) := ⟨⟨by decide +kernel, by decide +kernel⟩, List.mem_of_getElem? (i := 219) (by decide +kernel), List.mem_of_getElem? (i := 887) (by decide +kernel), List.mem_of_getElem? (i := 888) (by decide +kernel)⟩
theorem lw_p22 : lw_okq (⟨"FeatureDesugarer$Texts", "spellNumber", "(I)V"⟩, 8) := ⟨⟨by decide +kernel, by decide +kernel⟩, List.mem_of_getElem? (i := 219) (by decide +kernel), List.mem_of_getElem? (i := 893) (by decide +kernel), List.mem_of_getElem? (i := 894) (by decide +kernel)⟩
theorem lw_p23 : lw_okq (⟨"FeatureDesugarer$Machine", "faultUnless", "(ZI)V"⟩, 10) := ⟨⟨by decide +kernel, by decide +kernel⟩, List.mem_of_getElem? (i := 165) (by decide +kernel), List.mem_of_getElem? (i := 900) (by decide +kernel), List.mem_of_getElem? (i := 901) (by decide +kernel)⟩
theorem lw_p24 : lw_okq (⟨"FeatureDesugarer$Machine", "reckon", "(I)V"⟩, 10) := ⟨⟨by decide +kernel, by decide +kernel⟩, List.mem_of_getElem? (i := 165) (by decide +kernel), List.mem_of_getElem? (i := 904) (by decide +kernel), List.mem_of_getElem? (i := 905) (by decide +kernel)⟩
theorem lw_p25 : lw_okq (⟨"FeatureDesugarer$Machine", "doFirst", "(III)V"⟩, 10) := ⟨⟨by decide +kernel, by decide +kernel⟩, List.mem_of_getElem? (i := 165) (by decide +kernel), List.mem_of_getElem? (i := 912) (by decide +kernel), List.mem_of_getElem? (i := 913) (by decide +kernel)⟩
theorem lw_p26 : lw_okq (⟨"FeatureDesugarer$Machine", "applyTo", "(I)V"⟩, 10) := ⟨⟨by decide +kernel, by decide +kernel⟩, List.mem_of_getElem? (i := 165) (by decide +kernel), List.mem_of_getElem? (i := 926) (by decide +kernel), List.mem_of_getElem? (i := 927) (by decide +kernel)⟩
theorem lw_p27 : lw_okq (⟨"FeatureDesugarer$Machine", "join", "(ILFeatureDesugarer$Recipes;)V"⟩, 10) := ⟨⟨by decide +kernel, by decide +kernel⟩, List.mem_of_getElem? (i := 165) (by decide +kernel), List.mem_of_getElem? (i := 943) (by decide +kernel), List.mem_of_getElem? (i := 944) (by decide +kernel)⟩
theorem lw_p28 : lw_okq (⟨"FeatureDesugarer$Texts", "appendSpelled", "(I)Z"⟩, 8) := ⟨⟨by decide +kernel, by decide +kernel⟩, List.mem_of_getElem? (i := 219) (by decide +kernel), List.mem_of_getElem? (i := 961) (by decide +kernel), List.mem_of_getElem? (i := 962) (by decide +kernel)⟩
theorem lw_p29 : lw_okq (⟨"FeatureDesugarer$Machine", "doPlain", "(III)V"⟩, 10) := ⟨⟨by decide +kernel, by decide +kernel⟩, List.mem_of_getElem? (i := 165) (by decide +kernel), List.mem_of_getElem? (i := 980) (by decide +kernel), List.mem_of_getElem? (i := 981) (by decide +kernel)⟩
theorem lw_p30 : lw_okq (⟨"FeatureDesugarer$Machine", "invoke", "(I)V"⟩, 10) := ⟨⟨by decide +kernel, by decide +kernel⟩, List.mem_of_getElem? (i := 165) (by decide +kernel), List.mem_of_getElem? (i := 985) (by decide +kernel), List.mem_of_getElem? (i := 986) (by decide +kernel)⟩
theorem lw_p31 : lw_okq (⟨"FeatureDesugarer$Machine", "appendCharacters", "(II)V"⟩, 10) := ⟨⟨by decide +kernel, by decide +kernel⟩, List.mem_of_getElem? (i := 165) (by decide +kernel), List.mem_of_getElem? (i := 991) (by decide +kernel), List.mem_of_getElem? (i := 992) (by decide +kernel)⟩
def lw_privs_2 : List (MethodName × Nat) := [(⟨"FeatureDesugarer$Machine", "doNext", "()V"⟩, 10), (⟨"FeatureDesugarer$Machine", "doShared", "(II)V"⟩, 10), (⟨"FeatureDesugarer$Machine", "goIfZero", "(I)V"⟩, 10), (⟨"FeatureDesugarer$Machine", "callFunction", "(I)V"⟩, 10), (⟨"FeatureDesugarer$Machine", "giveBack", "()V"⟩, 10), (⟨"FeatureDesugarer$Texts", "spell", "(J)V"⟩, 8), (⟨"FeatureDesugarer$Texts", "spellNumber", "(I)V"⟩, 8), (⟨"FeatureDesugarer$Machine", "faultUnless", "(ZI)V"⟩, 10), (⟨"FeatureDesugarer$Machine", "reckon", "(I)V"⟩, 10), (⟨"FeatureDesugarer$Machine", "doFirst", "(III)V"⟩, 10), (⟨"FeatureDesugarer$Machine", "applyTo", "(I)V"⟩, 10), (⟨"FeatureDesugarer$Machine", "join", "(ILFeatureDesugarer$Recipes;)V"⟩, 10), (⟨"FeatureDesugarer$Texts", "appendSpelled", "(I)Z"⟩, 8), (⟨"FeatureDesugarer$Machine", "doPlain", "(III)V"⟩, 10), (⟨"FeatureDesugarer$Machine", "invoke", "(I)V"⟩, 10), (⟨"FeatureDesugarer$Machine", "appendCharacters", "(II)V"⟩, 10)]
theorem lw_r2 : ∀ q ∈ lw_privs_2, lw_okq q := List.forall_mem_cons.mpr ⟨lw_p16, List.forall_mem_cons.mpr ⟨lw_p17, List.forall_mem_cons.mpr ⟨lw_p18, List.forall_mem_cons.mpr ⟨lw_p19, List.forall_mem_cons.mpr ⟨lw_p20, List.forall_mem_cons.mpr ⟨lw_p21, List.forall_mem_cons.mpr ⟨lw_p22, List.forall_mem_cons.mpr ⟨lw_p23, List.forall_mem_cons.mpr ⟨lw_p24, List.forall_mem_cons.mpr ⟨lw_p25, List.forall_mem_cons.mpr ⟨lw_p26, List.forall_mem_cons.mpr ⟨lw_p27, List.forall_mem_cons.mpr ⟨lw_p28, List.forall_mem_cons.mpr ⟨lw_p29, List.forall_mem_cons.mpr ⟨lw_p30, List.forall_mem_cons.mpr ⟨lw_p31, fun _ h => absurd h List.not_mem_nil⟩⟩⟩⟩⟩⟩⟩⟩⟩⟩⟩⟩⟩⟩⟩⟩
theorem lw_p32 : lw_okq (⟨"FeatureDesugarerModel", "goes", "(ZZ)Z"⟩, 54) := ⟨⟨by decide +kernel, by decide +kernel⟩, List.mem_of_getElem? (i := 1038) (by decide +kernel), List.mem_of_getElem? (i := 1216) (by decide +kernel), List.mem_of_getElem? (i := 1217) (by decide +kernel)⟩
theorem lw_p33 : lw_okq (⟨"FeatureDesugarerModel", "isFunction", "(I)Z"⟩, 54) := ⟨⟨by decide +kernel, by decide +kernel⟩, List.mem_of_getElem? (i := 1038) (by decide +kernel), List.mem_of_getElem? (i := 1224) (by decide +kernel), List.mem_of_getElem? (i := 1225) (by decide +kernel)⟩
theorem lw_p34 : lw_okq (⟨"FeatureDesugarerModel", "checkAll", "()I"⟩, 54) := ⟨⟨by decide +kernel, by decide +kernel⟩, List.mem_of_getElem? (i := 1038) (by decide +kernel), List.mem_of_getElem? (i := 1238) (by decide +kernel), List.mem_of_getElem? (i := 1239) (by decide +kernel)⟩
theorem lw_p35 : lw_okq (⟨"FeatureDesugarerModel", "checkOne", "(I)I"⟩, 54) := ⟨⟨by decide +kernel, by decide +kernel⟩, List.mem_of_getElem? (i := 1038) (by decide +kernel), List.mem_of_getElem? (i := 1242) (by decide +kernel), List.mem_of_getElem? (i := 1243) (by decide +kernel)⟩
theorem lw_p36 : lw_okq (⟨"FeatureDesugarerModel", "isBound", "(II)Z"⟩, 54) := ⟨⟨by decide +kernel, by decide +kernel⟩, List.mem_of_getElem? (i := 1038) (by decide +kernel), List.mem_of_getElem? (i := 1246) (by decide +kernel), List.mem_of_getElem? (i := 1247) (by decide +kernel)⟩
theorem lw_p37 : lw_okq (⟨"FeatureDesugarerModel", "walk", "(I)V"⟩, 54) := ⟨⟨by decide +kernel, by decide +kernel⟩, List.mem_of_getElem? (i := 1038) (by decide +kernel), List.mem_of_getElem? (i := 1250) (by decide +kernel), List.mem_of_getElem? (i := 1251) (by decide +kernel)⟩
theorem lw_p38 : lw_okq (⟨"FeatureDesugarerModel", "least", "(I)I"⟩, 54) := ⟨⟨by decide +kernel, by decide +kernel⟩, List.mem_of_getElem? (i := 1038) (by decide +kernel), List.mem_of_getElem? (i := 1254) (by decide +kernel), List.mem_of_getElem? (i := 1255) (by decide +kernel)⟩
theorem lw_p39 : lw_okq (⟨"FeatureDesugarerModel", "pops", "(I)I"⟩, 54) := ⟨⟨by decide +kernel, by decide +kernel⟩, List.mem_of_getElem? (i := 1038) (by decide +kernel), List.mem_of_getElem? (i := 1258) (by decide +kernel), List.mem_of_getElem? (i := 1259) (by decide +kernel)⟩
theorem lw_p40 : lw_okq (⟨"FeatureDesugarerModel", "holes", "(I)I"⟩, 54) := ⟨⟨by decide +kernel, by decide +kernel⟩, List.mem_of_getElem? (i := 1038) (by decide +kernel), List.mem_of_getElem? (i := 1262) (by decide +kernel), List.mem_of_getElem? (i := 1263) (by decide +kernel)⟩
theorem lw_p41 : lw_okq (⟨"FeatureDesugarerModel", "pushes", "(I)I"⟩, 54) := ⟨⟨by decide +kernel, by decide +kernel⟩, List.mem_of_getElem? (i := 1038) (by decide +kernel), List.mem_of_getElem? (i := 1266) (by decide +kernel), List.mem_of_getElem? (i := 1267) (by decide +kernel)⟩
theorem lw_p42 : lw_okq (⟨"FeatureDesugarerModel", "meet", "(III)V"⟩, 54) := ⟨⟨by decide +kernel, by decide +kernel⟩, List.mem_of_getElem? (i := 1038) (by decide +kernel), List.mem_of_getElem? (i := 1270) (by decide +kernel), List.mem_of_getElem? (i := 1271) (by decide +kernel)⟩
theorem lw_p43 : lw_okq (⟨"FeatureDesugarerModel", "lowerOne", "(I)V"⟩, 54) := ⟨⟨by decide +kernel, by decide +kernel⟩, List.mem_of_getElem? (i := 1038) (by decide +kernel), List.mem_of_getElem? (i := 1278) (by decide +kernel), List.mem_of_getElem? (i := 1279) (by decide +kernel)⟩
theorem lw_p44 : lw_okq (⟨"FeatureDesugarerModel", "within", "(II)I"⟩, 54) := ⟨⟨by decide +kernel, by decide +kernel⟩, List.mem_of_getElem? (i := 1038) (by decide +kernel), List.mem_of_getElem? (i := 1282) (by decide +kernel), List.mem_of_getElem? (i := 1283) (by decide +kernel)⟩
theorem lw_p45 : lw_okq (⟨"FeatureDesugarerModel", "putFunction", "(III)V"⟩, 54) := ⟨⟨by decide +kernel, by decide +kernel⟩, List.mem_of_getElem? (i := 1038) (by decide +kernel), List.mem_of_getElem? (i := 1286) (by decide +kernel), List.mem_of_getElem? (i := 1287) (by decide +kernel)⟩
theorem lw_p46 : lw_okq (⟨"FeatureDesugarerModel", "put", "(IIII)V"⟩, 54) := ⟨⟨by decide +kernel, by decide +kernel⟩, List.mem_of_getElem? (i := 1038) (by decide +kernel), List.mem_of_getElem? (i := 1290) (by decide +kernel), List.mem_of_getElem? (i := 1291) (by decide +kernel)⟩
theorem lw_p47 : lw_okq (⟨"FeatureDesugarerModel", "putJoin", "(II)V"⟩, 54) := ⟨⟨by decide +kernel, by decide +kernel⟩, List.mem_of_getElem? (i := 1038) (by decide +kernel), List.mem_of_getElem? (i := 1294) (by decide +kernel), List.mem_of_getElem? (i := 1295) (by decide +kernel)⟩
def lw_privs_3 : List (MethodName × Nat) := [(⟨"FeatureDesugarerModel", "goes", "(ZZ)Z"⟩, 54), (⟨"FeatureDesugarerModel", "isFunction", "(I)Z"⟩, 54), (⟨"FeatureDesugarerModel", "checkAll", "()I"⟩, 54), (⟨"FeatureDesugarerModel", "checkOne", "(I)I"⟩, 54), (⟨"FeatureDesugarerModel", "isBound", "(II)Z"⟩, 54), (⟨"FeatureDesugarerModel", "walk", "(I)V"⟩, 54), (⟨"FeatureDesugarerModel", "least", "(I)I"⟩, 54), (⟨"FeatureDesugarerModel", "pops", "(I)I"⟩, 54), (⟨"FeatureDesugarerModel", "holes", "(I)I"⟩, 54), (⟨"FeatureDesugarerModel", "pushes", "(I)I"⟩, 54), (⟨"FeatureDesugarerModel", "meet", "(III)V"⟩, 54), (⟨"FeatureDesugarerModel", "lowerOne", "(I)V"⟩, 54), (⟨"FeatureDesugarerModel", "within", "(II)I"⟩, 54), (⟨"FeatureDesugarerModel", "putFunction", "(III)V"⟩, 54), (⟨"FeatureDesugarerModel", "put", "(IIII)V"⟩, 54), (⟨"FeatureDesugarerModel", "putJoin", "(II)V"⟩, 54)]
theorem lw_r3 : ∀ q ∈ lw_privs_3, lw_okq q := List.forall_mem_cons.mpr ⟨lw_p32, List.forall_mem_cons.mpr ⟨lw_p33, List.forall_mem_cons.mpr ⟨lw_p34, List.forall_mem_cons.mpr ⟨lw_p35, List.forall_mem_cons.mpr ⟨lw_p36, List.forall_mem_cons.mpr ⟨lw_p37, List.forall_mem_cons.mpr ⟨lw_p38, List.forall_mem_cons.mpr ⟨lw_p39, List.forall_mem_cons.mpr ⟨lw_p40, List.forall_mem_cons.mpr ⟨lw_p41, List.forall_mem_cons.mpr ⟨lw_p42, List.forall_mem_cons.mpr ⟨lw_p43, List.forall_mem_cons.mpr ⟨lw_p44, List.forall_mem_cons.mpr ⟨lw_p45, List.forall_mem_cons.mpr ⟨lw_p46, List.forall_mem_cons.mpr ⟨lw_p47, fun _ h => absurd h List.not_mem_nil⟩⟩⟩⟩⟩⟩⟩⟩⟩⟩⟩⟩⟩⟩⟩⟩
theorem lw_p48 : lw_okq (⟨"FeatureDesugarerModel", "begin", "(II)V"⟩, 54) := ⟨⟨by decide +kernel, by decide +kernel⟩, List.mem_of_getElem? (i := 1038) (by decide +kernel), List.mem_of_getElem? (i := 1322) (by decide +kernel), List.mem_of_getElem? (i := 1323) (by decide +kernel)⟩
theorem lw_p49 : lw_okq (⟨"FeatureDesugarerModel", "step", "()V"⟩, 54) := ⟨⟨by decide +kernel, by decide +kernel⟩, List.mem_of_getElem? (i := 1038) (by decide +kernel), List.mem_of_getElem? (i := 1326) (by decide +kernel), List.mem_of_getElem? (i := 1327) (by decide +kernel)⟩
theorem lw_p50 : lw_okq (⟨"FeatureDesugarerModel", "push", "(II)V"⟩, 54) := ⟨⟨by decide +kernel, by decide +kernel⟩, List.mem_of_getElem? (i := 1038) (by decide +kernel), List.mem_of_getElem? (i := 1330) (by decide +kernel), List.mem_of_getElem? (i := 1331) (by decide +kernel)⟩
theorem lw_p51 : lw_okq (⟨"FeatureDesugarerModel", "reckon", "(I)V"⟩, 54) := ⟨⟨by decide +kernel, by decide +kernel⟩, List.mem_of_getElem? (i := 1038) (by decide +kernel), List.mem_of_getElem? (i := 1334) (by decide +kernel), List.mem_of_getElem? (i := 1335) (by decide +kernel)⟩
theorem lw_p52 : lw_okq (⟨"FeatureDesugarerModel", "take", "(II)V"⟩, 54) := ⟨⟨by decide +kernel, by decide +kernel⟩, List.mem_of_getElem? (i := 1038) (by decide +kernel), List.mem_of_getElem? (i := 1338) (by decide +kernel), List.mem_of_getElem? (i := 1339) (by decide +kernel)⟩
theorem lw_p53 : lw_okq (⟨"FeatureDesugarerModel", "leave", "()V"⟩, 54) := ⟨⟨by decide +kernel, by decide +kernel⟩, List.mem_of_getElem? (i := 1038) (by decide +kernel), List.mem_of_getElem? (i := 1342) (by decide +kernel), List.mem_of_getElem? (i := 1343) (by decide +kernel)⟩
theorem lw_p54 : lw_okq (⟨"FeatureDesugarerModel", "say", "()V"⟩, 54) := ⟨⟨by decide +kernel, by decide +kernel⟩, List.mem_of_getElem? (i := 1038) (by decide +kernel), List.mem_of_getElem? (i := 1346) (by decide +kernel), List.mem_of_getElem? (i := 1347) (by decide +kernel)⟩
theorem lw_p55 : lw_okq (⟨"FeatureDesugarerModel", "write", "(II)V"⟩, 54) := ⟨⟨by decide +kernel, by decide +kernel⟩, List.mem_of_getElem? (i := 1038) (by decide +kernel), List.mem_of_getElem? (i := 1350) (by decide +kernel), List.mem_of_getElem? (i := 1351) (by decide +kernel)⟩
theorem lw_p56 : lw_okq (⟨"FeatureDesugarerModel", "letter", "(I)V"⟩, 54) := ⟨⟨by decide +kernel, by decide +kernel⟩, List.mem_of_getElem? (i := 1038) (by decide +kernel), List.mem_of_getElem? (i := 1354) (by decide +kernel), List.mem_of_getElem? (i := 1355) (by decide +kernel)⟩
theorem lw_p57 : lw_okq (⟨"FeatureDesugarerModel", "close", "(II)V"⟩, 54) := ⟨⟨by decide +kernel, by decide +kernel⟩, List.mem_of_getElem? (i := 1038) (by decide +kernel), List.mem_of_getElem? (i := 1360) (by decide +kernel), List.mem_of_getElem? (i := 1361) (by decide +kernel)⟩
theorem lw_p58 : lw_okq (⟨"FeatureDesugarerModel", "apply", "(I)V"⟩, 54) := ⟨⟨by decide +kernel, by decide +kernel⟩, List.mem_of_getElem? (i := 1038) (by decide +kernel), List.mem_of_getElem? (i := 1364) (by decide +kernel), List.mem_of_getElem? (i := 1365) (by decide +kernel)⟩
theorem lw_p59 : lw_okq (⟨"FeatureDesugarerModel", "join", "(I)V"⟩, 54) := ⟨⟨by decide +kernel, by decide +kernel⟩, List.mem_of_getElem? (i := 1038) (by decide +kernel), List.mem_of_getElem? (i := 1368) (by decide +kernel), List.mem_of_getElem? (i := 1369) (by decide +kernel)⟩
def lw_privs_4 : List (MethodName × Nat) := [(⟨"FeatureDesugarerModel", "begin", "(II)V"⟩, 54), (⟨"FeatureDesugarerModel", "step", "()V"⟩, 54), (⟨"FeatureDesugarerModel", "push", "(II)V"⟩, 54), (⟨"FeatureDesugarerModel", "reckon", "(I)V"⟩, 54), (⟨"FeatureDesugarerModel", "take", "(II)V"⟩, 54), (⟨"FeatureDesugarerModel", "leave", "()V"⟩, 54), (⟨"FeatureDesugarerModel", "say", "()V"⟩, 54), (⟨"FeatureDesugarerModel", "write", "(II)V"⟩, 54), (⟨"FeatureDesugarerModel", "letter", "(I)V"⟩, 54), (⟨"FeatureDesugarerModel", "close", "(II)V"⟩, 54), (⟨"FeatureDesugarerModel", "apply", "(I)V"⟩, 54), (⟨"FeatureDesugarerModel", "join", "(I)V"⟩, 54)]
theorem lw_r4 : ∀ q ∈ lw_privs_4, lw_okq q := List.forall_mem_cons.mpr ⟨lw_p48, List.forall_mem_cons.mpr ⟨lw_p49, List.forall_mem_cons.mpr ⟨lw_p50, List.forall_mem_cons.mpr ⟨lw_p51, List.forall_mem_cons.mpr ⟨lw_p52, List.forall_mem_cons.mpr ⟨lw_p53, List.forall_mem_cons.mpr ⟨lw_p54, List.forall_mem_cons.mpr ⟨lw_p55, List.forall_mem_cons.mpr ⟨lw_p56, List.forall_mem_cons.mpr ⟨lw_p57, List.forall_mem_cons.mpr ⟨lw_p58, List.forall_mem_cons.mpr ⟨lw_p59, fun _ h => absurd h List.not_mem_nil⟩⟩⟩⟩⟩⟩⟩⟩⟩⟩⟩⟩
def lw_privs : List (MethodName × Nat) := lw_privs_1 ++ (lw_privs_2 ++ (lw_privs_3 ++ (lw_privs_4)))
def lw_tbl : List Cond := k2_sels lw_privs ++ tables_1
theorem lw_privs_ok : ∀ q ∈ lw_privs, lw_okq q := by
  show ∀ q ∈ lw_privs_1 ++ (lw_privs_2 ++ (lw_privs_3 ++ (lw_privs_4))), lw_okq q
  exact List.forall_mem_append.mpr ⟨lw_r1, List.forall_mem_append.mpr ⟨lw_r2, List.forall_mem_append.mpr ⟨lw_r3, lw_r4⟩⟩⟩
end
section
/-! ===== BEGIN words of one list among another's, by their places ===== -/
theorem goodIn_r {big : List Cond} (ws : List Cond) (ps : List Nat) (hp : ws = ps.filterMap (fun i => big[i]?)) (h : ws.all goodWord = true) : GoodIn big ws := by
  intro w hw
  have h1 := List.all_eq_true.mp h w hw
  rw [hp] at hw
  obtain ⟨i, -, hi⟩ := List.mem_filterMap.mp hw
  have hm : w ∈ big := by first | exact List.mem_of_getElem? hi | exact List.getElem?_mem hi
  exact ⟨hm, good_of_word h1⟩
theorem goodIn_app {big a b : List Cond} (ha : GoodIn big a) (hb : GoodIn big b) : GoodIn big (a ++ b) := fun w h => (List.mem_append.mp h).elim (ha w) (hb w)
theorem goodIn_ca {big a b : List Cond} {c : Cond} (ha : GoodIn big (c :: a)) (hb : GoodIn big b) : GoodIn big (c :: (a ++ b)) := fun w h => (List.mem_cons.mp h).elim (fun e => ha w (List.mem_cons.mpr (Or.inl e))) (fun h => (List.mem_append.mp h).elim (fun h => ha w (List.mem_cons.mpr (Or.inr h))) (hb w))
theorem goodIn_sub {big ws : List Cond} (hm : ∀ w ∈ ws, w ∈ big) (h : ws.all goodWord = true) : GoodIn big ws := fun w hw => ⟨hm w hw, good_of_word (List.all_eq_true.mp h w hw)⟩
/-! ===== END ===== -/

/-! ===== BEGIN exceptions that leave a method, and their catching by the caller (launches without stack traces) ===== -/
section VXA
/-! The laws vx_back, vx_callV, vx_callS, vx_callSW, vx_throw0, vx_throwS follow proofs of the library, with one case more: JvmDerived/Free/Laws.lean (Back.of_free), Shelf42/LK1.lean (callV, callS), Shelf/KitTraced.lean (throwNew0V, throwNewS). -/
/-- where a method has thrown q: the class by its name, the cell, what was written, the world -/
def vx_T (XC : String → State → State → Prop) (st : State) (q : Addr) (t : State) (mc ms : Nat) (free : Addr → Prop) : Prop :=
  ∃ (E : String) (ce : Cell) (L : List Loc), XC E st t ∧ t.heap[q]? = some ce ∧ ce.vm = .none ∧ st.vm.findClass E = some ce.cls ∧ st.WarmedH t.vm ∧ st.sameButNew ({ t with vm := st.vm } : State) L mc ms ∧ ∀ z ∈ L, free z.base
def vx_Q (Qc : Array Value → State → Outcome → State → Prop) (XC : String → State → State → Prop) (mc ms : Nat) (free : Addr → Prop) : Array Value → State → Outcome → State → Prop := fun a st o t =>
  (Qc a st o t ∧ ∃ L, FrameEnd st o t L mc ms ∧ ∀ q ∈ L, free q.base) ∨ ∃ q, o = .threw q ∧ vx_T XC st q t mc ms free
/-- a callee that returns or throws -/
def vx_Met (l : Launch) (y : MethodName) (ws : List Cond) (rm : Room) (Pc : Array Value → State → Prop) (Qc : Array Value → State → Outcome → State → Prop) (XC : String → State → State → Prop) (mc ms : Nat) (free : Addr → Prop) : Prop :=
  MetFree l y (headSpec ws rm) Pc (fun _ _ _ _ _ => True) (vx_Q Qc XC mc ms free)
def vx_Post (XC : String → State → State → Prop) (mc ms : Nat) (free : Addr → Prop) : Pt → Array Value → Addr → Pt → Prop := fun A a q B =>
  ∃ (g : JFrame) (mk : MethodId) (t : State) (L : List Loc) (E : String) (ce : Cell), B.U.heap = t.heap ∧ B.U.vm = t.vm ∧ XC E (A.U.calling g mk a) t ∧ t.heap[q]? = some ce ∧ ce.vm = .none ∧ A.U.vm.findClass E = some ce.cls ∧ B.locs = A.locs ++ L ∧ (∀ z ∈ L, free z.base) ∧ B.cells = A.cells + mc ∧ B.slots = A.slots + ms
def vx_Back (l : Launch) (R : Room) (p : Program) (e : Env) (below : List Frame) (s : State) (sargs : Array Value) (y : MethodName) (len W9 : Nat)
    (Pre : Pt → Array Value → Prop) (Post : Pt → Array Value → Option Value → Pt → Prop) (PostX : Pt → Array Value → Addr → Pt → Prop) : Prop :=
  ∀ (m : MethodId) (meth : Method) (c : Code) (A : Pt) (g : JFrame) (ig : Instr) (mk : MethodId) (a : Array Value),
    Stand p l e R s m sargs below meth c A.U A.locs A.cells A.slots → g.method = m → g.locals.size = c.maxLocals → decode c.code g.pc = .ok (ig, len) →
    2 * g.monitorRoom + (g.stack.map fun v => v.category).sum ≤ W9 → A.U.methodNamed? y = some mk → Pre A a →
    (∃ (v : Option Value) (B : Pt), Stand p l e R s m sargs below meth c B.U B.locs B.cells B.slots ∧ Post A a v B ∧
      Steps p.tables e below (doInvoke e (A.U.setTop g) [] mk a).1 (B.U.setTop { g with pc := g.pc + len, stack := v.toList ++ g.stack })) ∨
    (∃ (q : Addr) (B : Pt), Stand p l e R s m sargs below meth c B.U B.locs B.cells B.slots ∧ PostX A a q B ∧
      Steps p.tables e below (doInvoke e (A.U.setTop g) [] mk a).1 ((B.U.setTop g).pushFrame (.throwing q)))
section Payer
variable {l : Launch} {R : Room} {p : Program} {e : Env} {below : List Frame} {s : State} {sargs : Array Value} {y : MethodName} {len W9 : Nat}
theorem vx_back {ws : List Cond} {rm : Room} {Pc : Array Value → State → Prop} {Qc : Array Value → State → Outcome → State → Prop} {XC : String → State → State → Prop} {mc ms : Nat} {free : Addr → Prop} {bytes : ByteArray} {maxL : Nat} {ret : Option FieldType}
    (hM : vx_Met l y ws rm Pc Qc XC mc ms free) (hblind : FrameBlind Pc) (hrc : rm.cells = mc) (hrs : rm.slots = ms)
    (hframes : rm.frames + 1 ≤ R.frames) (hlocals : W9 + (maxL + 11) + rm.locals ≤ R.locals)
    (hws : ∀ w ∈ ws, ∀ a' U, s.WarmedH U.vm → w.before a' U = true) (hcode : Cond.code y bytes maxL ret ∈ ws) (hinit : ∀ a' U, s.WarmedH U.vm → (Cond.initialized y.cls).before a' U = true) :
    vx_Back l R p e below s sargs y len W9 (PreOf R mc ms Pc) (PostOf Qc mc ms free) (vx_Post XC mc ms free) := by
  intro m meth c A g ig mk a X hg hsize hdg hW hn hp
  have h1 : (headSpec ws rm).pre.before a A.U = true := atoms_intro fun w hw => hws w hw _ _ X.warmed
  have h2 : (Cond.code y bytes maxL ret).before a A.U = true := hws _ hcode _ _ X.warmed
  have h3 : (Cond.initialized y.cls).before a A.U = true := hinit _ _ X.warmed
  have h4 : A.cells + (headSpec ws rm).room.cells ≤ R.cells := by rw [show (headSpec ws rm).room.cells = mc from hrc]; exact hp.1
  have h5 : A.slots + (headSpec ws rm).room.slots ≤ R.slots := by rw [show (headSpec ws rm).room.slots = ms from hrs]; exact hp.2.1
  have hPc : Pc a (A.U.calling g mk a) := hblind _ _ _ _ hp.2.2
  obtain ⟨U, Ls, c0, s0⟩ := A
  dsimp only [Pt.U, Pt.locs, Pt.cells, Pt.slots] at h1 h2 h3 h4 h5 X hn hPc ⊢
  obtain ⟨methY, cY, hmY, hcY, -, hlY, -, -, -, -⟩ := Cond.code_spec hn h2
  obtain ⟨kY, hkY, -⟩ := className_of_methodNamed hn
  have hinitY : kY.init = .initialized := Cond.initialized_spec (findClass_of_methodNamed hn) hkY h3
  have h : At U g.method c below := by rw [hg]; exact X.here
  have hlocals9 : W9 + (maxL + 11) + (headSpec ws rm).room.locals ≤ R.locals := hlocals
  have happ : (headSpec ws rm).appliesLoose y e.platform (U.calling g mk a) = true :=
    Spec.appliesLoose_calling (g := g) h hdg hn hkY hinitY
      (X.room_calling (g := g) (R' := (headSpec ws rm).room) hsize hmY hcY hframes (by rw [hlY]; omega) h4 h5) h1
  obtain ⟨mid, hmid⟩ := h.above
  have hfr : (U.setTop g).frames = (.java g :: mid) ++ below := by rw [State.frames_setTop' g h.top, hmid]; rfl
  obtain ⟨o, s₂, hsteps, -, hend, hq⟩ := Steps.callFree hM p X.admits X.cas X.clock (acts := []) hfr happ hPc trivial
  have hq' : vx_Q Qc XC mc ms free a (U.calling g mk a) o s₂ := hq
  rw [State.frames_setTop' g h.top] at hend
  obtain ⟨g₀, hg0⟩ := Option.isSome_iff_exists.mp h.top
  obtain ⟨r, hr⟩ := State.topJava?_eq_some.mp hg0
  have hr' : (({ U with heap := s₂.heap, slotsUsed := s₂.slotsUsed } : State).setVm s₂.vm).frames = .java g₀ :: r := hr
  rcases hq' with ⟨hqc, L, hfe, hL⟩ | ⟨q, rfl, E, ce, L, hx, hce, hcv, hcl, hW₂, hsm, hL⟩
  · obtain ⟨⟨v, rfl⟩, hW₂, e2, q2, q3, q4, q5, q6⟩ := id hfe
    have e3 : s₂ = ({ (U.calling g mk a).setFrames s₂.frames with heap := s₂.heap, slotsUsed := s₂.slotsUsed } : State).setVm s₂.vm := by
      have : s₂ = ({ s₂ with vm := (U.calling g mk a).vm } : State).setVm s₂.vm := rfl
      rw [e2] at this
      exact this
    obtain ⟨c₂, i₂, len₂, hc₂, hd₂, hf₂⟩ := hend
    have hW' : U.WarmedH s₂.vm := hW₂
    have hcc : c₂ = c := by
      have h1 : s₂.code? g.method = U.code? g.method := by
        rw [State.code?_eq, State.code?_eq, hW'.alike.method?]
      exact Option.some.inj (hc₂.symm.trans (h1.trans h.code))
    subst hcc
    have hlen : len₂ = len := by rw [hdg] at hd₂; cases hd₂; rfl
    subst hlen
    have hs₂ : s₂ = (({ U with heap := s₂.heap, slotsUsed := s₂.slotsUsed } : State).setVm s₂.vm).setTop { g with pc := g.pc + len₂, stack := v.toList ++ g.stack } := by
      refine e3.trans ?_
      rw [hf₂, State.calling_eq h.top, State.setFrames_setFrames, State.setTop_of_frames _ hr', hr]
      rfl
    have hsame : U.sameButNew ({ U with heap := s₂.heap, slotsUsed := s₂.slotsUsed } : State) L mc ms := by
      refine ⟨?_, q2, q3, q4, q5, q6⟩
      obtain ⟨t, ht, -⟩ := State.frames_cons hr
      show ({ U with heap := s₂.heap, slotsUsed := s₂.slotsUsed } : State) = { U.setFrames U.frames with heap := s₂.heap, slotsUsed := s₂.slotsUsed }
      rw [State.setFrames_self ht]
    subst hg
    refine Or.inl ⟨v, ⟨(({ U with heap := s₂.heap, slotsUsed := s₂.slotsUsed } : State).setVm s₂.vm), Ls ++ L, c0 + mc, s0 + ms⟩,
      ⟨X.admits, X.cas, X.clock, X.frames, X.room, X.hears, X.method, X.code, (X.here.setHeapUsed s₂.heap s₂.slotsUsed).setVm hW'.alike, X.tail, State.WarmedH.trans X.warmed hW', X.limits, X.bytes, X.same.trans (hsame.setVm s.vm)⟩,
      ⟨g, mk, s₂, L, rfl, rfl, hqc, rfl, hL, rfl, rfl⟩, ?_⟩
    show Steps p.tables e below _ ((({ U with heap := s₂.heap, slotsUsed := s₂.slotsUsed } : State).setVm s₂.vm).setTop { g with pc := g.pc + len₂, stack := v.toList ++ g.stack })
    rw [← hs₂]
    exact hsteps
  · obtain ⟨e2, q2, q3, q4, q5, q6⟩ := id hsm
    have e3 : s₂ = ({ (U.calling g mk a).setFrames s₂.frames with heap := s₂.heap, slotsUsed := s₂.slotsUsed } : State).setVm s₂.vm := by
      have : s₂ = ({ s₂ with vm := (U.calling g mk a).vm } : State).setVm s₂.vm := rfl
      rw [e2] at this
      exact this
    have hf₂ : s₂.frames = .throwing q :: .java g :: U.frames.tail := hend
    have hW' : U.WarmedH s₂.vm := hW₂
    have hs₂ : s₂ = ((({ U with heap := s₂.heap, slotsUsed := s₂.slotsUsed } : State).setVm s₂.vm).setTop g).pushFrame (.throwing q) := by
      refine e3.trans ?_
      rw [hf₂, State.calling_eq h.top, State.setFrames_setFrames, State.pushFrame, State.frames_setTop _ hr', State.setTop_of_frames _ hr', State.setFrames_setFrames, hr]
      rfl
    have hsame : U.sameButNew ({ U with heap := s₂.heap, slotsUsed := s₂.slotsUsed } : State) L mc ms := by
      refine ⟨?_, q2, q3, q4, q5, q6⟩
      obtain ⟨t, ht, -⟩ := State.frames_cons hr
      show ({ U with heap := s₂.heap, slotsUsed := s₂.slotsUsed } : State) = { U.setFrames U.frames with heap := s₂.heap, slotsUsed := s₂.slotsUsed }
      rw [State.setFrames_self ht]
    subst hg
    refine Or.inr ⟨q, ⟨(({ U with heap := s₂.heap, slotsUsed := s₂.slotsUsed } : State).setVm s₂.vm), Ls ++ L, c0 + mc, s0 + ms⟩,
      ⟨X.admits, X.cas, X.clock, X.frames, X.room, X.hears, X.method, X.code, (X.here.setHeapUsed s₂.heap s₂.slotsUsed).setVm hW'.alike, X.tail, State.WarmedH.trans X.warmed hW', X.limits, X.bytes, X.same.trans (hsame.setVm s.vm)⟩,
      ⟨g, mk, s₂, L, E, ce, rfl, rfl, hx, hce, hcv, hcl, rfl, hL, rfl, rfl⟩, ?_⟩
    show Steps p.tables e below _ (((({ U with heap := s₂.heap, slotsUsed := s₂.slotsUsed } : State).setVm s₂.vm).setTop g).pushFrame (.throwing q))
    rw [← hs₂]
    exact hsteps
end Payer
section Calls
variable {p : Program} {l : Launch} {e : Env} {R : Room} {s : State} {m : MethodId} {args : Array Value} {below : List Frame} {meth : Method} {c : Code} {T : State} {locs : List Loc} {cells slots : Nat}
theorem vx_callV (X : Stand p l e R s m args below meth c T locs cells slots) (hexec : p.tables.exec = Jvm.exec) {own C : String} {index : Nat} {y : MethodName} {bytes : ByteArray} {maxL : Nat} {ret : Option FieldType}
    (hown : s.vm.findClass own = some m.cls) (hlink : (Cond.methodLink own index y).before args s = true) (hinst : (Cond.instanceMethod y).before args s = true) (hsel : (Cond.selects C y y).before args s = true)
    (hcode : (Cond.code y bytes maxL ret).before args s = true) (hy : y.cls ≠ "java/lang/invoke/MethodHandle" ∧ y.cls ≠ "java/lang/invoke/VarHandle")
    {W9 : Nat} {Pre : Pt → Array Value → Prop} {Post : Pt → Array Value → Option Value → Pt → Prop} {PostX : Pt → Array Value → Addr → Pt → Prop} (hK : vx_Back l R p e below s args y 3 W9 Pre Post PostX)
    {b : Addr} {cellB : Cell} (hcell : T.heap[b]? = some cellB) (hobj : cellB.vm.isStatics = false) (hcls : s.vm.findClass C = some cellB.cls)
    {g : JFrame} (hg : g.method = m) (hsize : g.locals.size = c.maxLocals) {argsL rest : List Value} (hlen : ∀ sig, parseMethodDescriptor y.desc = some sig → argsL.length = sig.parameters.length)
    (hstack : g.stack = argsL.reverse ++ .ref b :: rest) (hW : 2 * g.monitorRoom + (rest.map fun v => v.category).sum ≤ W9) (hdg : decode c.code g.pc = .ok (.invokevirtual index, 3))
    (hpre : ∀ vm₁, s.WarmedH vm₁ → Pre ⟨T.setVm vm₁, locs, cells, slots⟩ (Value.ref b :: argsL).toArray) :
    (∃ (v : Option Value) (vm₁ : Vm) (B : Pt), s.WarmedH vm₁ ∧ Stand p l e R s m args below meth c B.U B.locs B.cells B.slots ∧ Post ⟨T.setVm vm₁, locs, cells, slots⟩ (Value.ref b :: argsL).toArray v B ∧
      ∀ target, Steps p.tables e below (B.U.setTop { g with pc := g.pc + 3, stack := v.toList ++ rest }) target → Steps p.tables e below (T.setTop g) target) ∨
    (∃ (q : Addr) (vm₁ : Vm) (B : Pt), s.WarmedH vm₁ ∧ Stand p l e R s m args below meth c B.U B.locs B.cells B.slots ∧ PostX ⟨T.setVm vm₁, locs, cells, slots⟩ (Value.ref b :: argsL).toArray q B ∧
      Steps p.tables e below (T.setTop g) ((B.U.setTop { g with stack := rest }).pushFrame (.throwing q))) := by
  obtain ⟨mk, methM, hnamed, hmethM, hstM, habM⟩ := Cond.instanceMethod_spec hinst
  obtain ⟨methM', cM, hmethM', -, -, -, -, -, -, hsigM⟩ := Cond.code_spec hnamed hcode
  cases hmethM.symm.trans hmethM'
  obtain ⟨c2, r2, m2, q1, q2, q3, q4, kP, hkP, hkPi⟩ := Cond.selects_spec hsel
  cases hcls.symm.trans q1
  cases (State.methodFound?_of_named hnamed hy).symm.trans q2
  cases hnamed.symm.trans q3
  have hselP : selectMethod e.platform s.vm cellB.cls mk = .method mk := by rw [Launch.admits_selectMethod X.admits]; exact q4
  obtain ⟨vm₁, X₁, hstep₁⟩ := X.invokevirtual hexec hown hlink hnamed hmethM hstM hkP hkPi hy (a := b) (cell := cellB) hcell
    (fun z h => by rw [h] at hobj; cases hobj) hselP hmethM habM hkP hkPi (g := g) hg (argsL := argsL) (rest := rest) (hlen _ hsigM) hstack hdg
  rcases hK m meth c ⟨T.setVm vm₁, locs, cells, slots⟩ { g with stack := rest } (.invokevirtual index) mk (Value.ref b :: argsL).toArray X₁ hg hsize hdg hW (X₁.named hnamed) (hpre vm₁ X₁.warmed) with ⟨v, B, X', hpost, hsteps⟩ | ⟨q, B, X', hpost, hsteps⟩
  · exact Or.inl ⟨v, vm₁, B, X₁.warmed, X', hpost, fun target h => hstep₁ _ fun acts => by rw [doInvoke_state]; exact hsteps.trans h⟩
  · exact Or.inr ⟨q, vm₁, B, X₁.warmed, X', hpost, hstep₁ _ fun acts => by rw [doInvoke_state]; exact hsteps⟩
theorem vx_callS (X : Stand p l e R s m args below meth c T locs cells slots) (hexec : p.tables.exec = Jvm.exec) {own : String} {index : Nat} {y : MethodName} {bytes : ByteArray} {maxL : Nat} {ret : Option FieldType}
    (hown : s.vm.findClass own = some m.cls) (hlink : (Cond.methodLink own index y).before args s = true) (hstat : (Cond.static y).before args s = true) (hinit : (Cond.initialized y.cls).before args s = true)
    (hcode : (Cond.code y bytes maxL ret).before args s = true) (hy : y.cls ≠ "java/lang/invoke/MethodHandle" ∧ y.cls ≠ "java/lang/invoke/VarHandle")
    {W9 : Nat} {Pre : Pt → Array Value → Prop} {Post : Pt → Array Value → Option Value → Pt → Prop} {PostX : Pt → Array Value → Addr → Pt → Prop} (hK : vx_Back l R p e below s args y 3 W9 Pre Post PostX)
    {g : JFrame} (hg : g.method = m) (hsize : g.locals.size = c.maxLocals) {argsL rest : List Value} (hlen : ∀ sig, parseMethodDescriptor y.desc = some sig → argsL.length = sig.parameters.length)
    (hstack : g.stack = argsL.reverse ++ rest) (hW : 2 * g.monitorRoom + (rest.map fun v => v.category).sum ≤ W9) (hdg : decode c.code g.pc = .ok (.invokestatic index, 3))
    (hpre : ∀ vm₁, s.WarmedH vm₁ → Pre ⟨T.setVm vm₁, locs, cells, slots⟩ argsL.toArray) :
    (∃ (v : Option Value) (vm₁ : Vm) (B : Pt), s.WarmedH vm₁ ∧ Stand p l e R s m args below meth c B.U B.locs B.cells B.slots ∧ Post ⟨T.setVm vm₁, locs, cells, slots⟩ argsL.toArray v B ∧
      ∀ target, Steps p.tables e below (B.U.setTop { g with pc := g.pc + 3, stack := v.toList ++ rest }) target → Steps p.tables e below (T.setTop g) target) ∨
    (∃ (q : Addr) (vm₁ : Vm) (B : Pt), s.WarmedH vm₁ ∧ Stand p l e R s m args below meth c B.U B.locs B.cells B.slots ∧ PostX ⟨T.setVm vm₁, locs, cells, slots⟩ argsL.toArray q B ∧
      Steps p.tables e below (T.setTop g) ((B.U.setTop { g with stack := rest }).pushFrame (.throwing q))) := by
  obtain ⟨mk, hnamed⟩ := Cond.code_named hcode
  obtain ⟨methM, cM, hmethM, -, -, -, -, -, -, hsigM⟩ := Cond.code_spec hnamed hcode
  have hstatic : methM.isStatic = true := Cond.static_spec hnamed hmethM hstat
  obtain ⟨kP, hkP, -⟩ := className_of_methodNamed hnamed
  have hinitP : kP.init = .initialized := Cond.initialized_spec (findClass_of_methodNamed hnamed) hkP hinit
  obtain ⟨vm₁, X₁, hstep₁⟩ := X.invokestatic hexec hown hlink hnamed hmethM hstatic hkP hinitP hy (g := g) hg (argsL := argsL) (rest := rest) (hlen _ hsigM) hstack hdg
  rcases hK m meth c ⟨T.setVm vm₁, locs, cells, slots⟩ { g with stack := rest } (.invokestatic index) mk argsL.toArray X₁ hg hsize hdg hW (X₁.named hnamed) (hpre vm₁ X₁.warmed) with ⟨v, B, X', hpost, hsteps⟩ | ⟨q, B, X', hpost, hsteps⟩
  · exact Or.inl ⟨v, vm₁, B, X₁.warmed, X', hpost, fun target h => hstep₁ _ fun acts => by rw [doInvoke_state]; exact hsteps.trans h⟩
  · exact Or.inr ⟨q, vm₁, B, X₁.warmed, X', hpost, hstep₁ _ fun acts => by rw [doInvoke_state]; exact hsteps⟩
end Calls
theorem vx_cls {s : State} {T : State} {vm₁ : Vm} {E : String} {k : ClassId} (hW : s.WarmedH vm₁) (h : (T.setVm vm₁).vm.findClass E = some k) : s.vm.findClass E = some k := by
  have h1 : vm₁.findClass E = some k := h
  rw [hW.alike.findClass] at h1
  exact h1
/-- the method's frame g, with q thrown over it -/
def vx_W (p : Program) (l : Launch) (e : Env) (R : Room) (s : State) (m : MethodId) (args : Array Value) (below : List Frame) (meth : Method) (c : Code) (H : Heap) (locs : List Loc) (cells slots : Nat) (Q : State → Prop) (g : JFrame) (q : Addr) : Prop :=
  ∀ T : State, T.heap = H → Stand p l e R s m args below meth c T locs cells slots → ∃ t, Steps p.tables e below ((T.setTop g).pushFrame (.throwing q)) t ∧ Q t
def vx_Run (p : Program) (l : Launch) (e : Env) (R : Room) (s : State) (m : MethodId) (args : Array Value) (below : List Frame) (meth : Method) (c : Code) (H : Heap) (locs : List Loc) (cells slots mc ms : Nat) (g : JFrame) (rest : List Value) (Qa : State → Outcome → State → Prop) (XC : String → State → State → Prop) (free : Addr → Prop) : Prop :=
  ∀ T : State, T.heap = H → Stand p l e R s m args below meth c T locs cells slots →
    (∃ (v : Option Value) (st₀ t T' : State) (L : List Loc), st₀.heap = H ∧ Stand p l e R s m args below meth c T' (locs ++ L) (cells + mc) (slots + ms) ∧ (∀ q ∈ L, free q.base) ∧ T'.heap = t.heap ∧ T'.vm = t.vm ∧ Qa st₀ (.returned v) t ∧
      Goes p e below T g T' { g with pc := g.pc + 3, stack := v.toList ++ rest }) ∨
    (∃ (q : Addr) (st₀ t T' : State) (L : List Loc) (E : String) (ce : Cell), st₀.heap = H ∧ Stand p l e R s m args below meth c T' (locs ++ L) (cells + mc) (slots + ms) ∧ (∀ z ∈ L, free z.base) ∧ T'.heap = t.heap ∧ T'.vm = t.vm ∧ XC E st₀ t ∧ t.heap[q]? = some ce ∧ ce.vm = .none ∧ s.vm.findClass E = some ce.cls ∧
      Steps p.tables e below (T.setTop g) ((T'.setTop { g with stack := rest }).pushFrame (.throwing q)))
def vx_X {S : Type} (px : S → Prop) (B : String → S → State → Prop) (A : Nat → Prop) : String → State → State → Prop := fun E st t => ∃ u : S, px u ∧ B E u t ∧ va_F A st t
section Runs
variable {p : Program} {l : Launch} {e : Env} {R : Room} {s : State} {m : MethodId} {args : Array Value} {below : List Frame} {meth : Method} {c : Code} {H : Heap} {locs : List Loc} {cells slots : Nat}
variable {y : MethodName} {bytes cc : ByteArray} {maxL nL mc ms n index : Nat} {ret : Option FieldType} {ws : List Cond} {rm : Room} {Pc : Array Value → State → Prop} {Qc : Array Value → State → Outcome → State → Prop} {XC : String → State → State → Prop} {free : Addr → Prop} {Ts : List Cond} {own C : String} {b : Addr} {As rest : List Value} {g : JFrame}
theorem vx_callBack (cb : CallB R s args own index y bytes maxL ret ws rm mc ms n) (hM : vx_Met l y ws rm Pc Qc XC mc ms free) (hbl : FrameBlind Pc) : vx_Back l R p e below s args y 3 8 (PreOf R mc ms Pc) (PostOf Qc mc ms free) (vx_Post XC mc ms free) := by
  obtain ⟨hrc, hrs, hfr, hlo, hws, hcw, -, hini, -⟩ := cb
  exact vx_back (bytes := bytes) (maxL := maxL) (ret := ret) hM hbl hrc hrs hfr hlo hws hcw (fun a' U hW => word_at hW (Or.inl (by first | rfl | simp [Cond.onTables, Cond.keeps, Cond.steady])) hini)
theorem vx_runV (S : CallFix p m c cc nL s args Ts own) (hM : vx_Met l y ws rm Pc Qc XC mc ms free) (cw : CallW R s args own C index y bytes maxL ret ws rm mc ms n) (hp : PreV s H C b Pc As)
    (hg : g.method = m) (hn : As.length = n) (hsize : g.locals.size = nL) (hstack : g.stack = As.reverse ++ .ref b :: rest) (hW : 2 * g.monitorRoom + (rest.map fun v => v.category).sum ≤ 8) (hdg : decode cc g.pc = .ok (.invokevirtual index, 3)) (hf : cells + mc ≤ R.cells ∧ slots + ms ≤ R.slots) :
    vx_Run p l e R s m args below meth c H locs cells slots mc ms g rest (Qc (Value.ref b :: As).toArray) XC free := by
  have hK : vx_Back l R p e below s args y 3 8 (PreOf R mc ms Pc) (PostOf Qc mc ms free) (vx_Post XC mc ms free) := vx_callBack cw.1 hM hp.1
  obtain ⟨⟨-, -, -, -, -, -, hcode, -, hy, hlen, hl⟩, hin, hse⟩ := cw
  obtain ⟨hx, hb, hml, ho, -⟩ := S
  obtain ⟨-, ⟨cellB, hcB, hoB, hclB⟩, hPc⟩ := hp
  intro T hT X
  rcases vx_callV X hx (C := C) (bytes := bytes) (maxL := maxL) (ret := ret) ho hl hin hse hcode hy hK (by rw [hT]; exact hcB) hoB hclB hg (hsize.trans hml.symm) (argsL := As) (rest := rest) (fun sig h => hn.trans (hlen sig h)) hstack hW (by rw [hb]; exact hdg)
    (fun vm₁ hW₁ => ⟨hf.1, hf.2, hPc (T.setVm vm₁) hT hW₁⟩) with ⟨v, vm₁, ⟨U', l2, c2, s2⟩, hW₁, X', ⟨g', mk, t, L, e1, e2, hq, h1, hL, h2, h3⟩, st⟩ | ⟨q, vm₁, ⟨U', l2, c2, s2⟩, hW₁, X', ⟨g', mk, t, L, E, ce, e1, e2, hq, hce, hcv, hcl, h1, hL, h2, h3⟩, st⟩
  · dsimp only [Pt.U, Pt.locs, Pt.cells, Pt.slots] at X' e1 e2 h1 h2 h3 st
    subst h1; subst h2; subst h3
    exact Or.inl ⟨v, (T.setVm vm₁).calling g' mk (Value.ref b :: As).toArray, t, U', L, hT, X', hL, e1, e2, hq, st⟩
  · dsimp only [Pt.U, Pt.locs, Pt.cells, Pt.slots] at X' e1 e2 h1 h2 h3 st hcl
    subst h1; subst h2; subst h3
    exact Or.inr ⟨q, (T.setVm vm₁).calling g' mk (Value.ref b :: As).toArray, t, U', L, E, ce, hT, X', hL, e1, e2, hq, hce, hcv, vx_cls hW₁ hcl, st⟩
theorem vx_runS (S : CallFix p m c cc nL s args Ts own) (hM : vx_Met l y ws rm Pc Qc XC mc ms free) (cw : CallB R s args own index y bytes maxL ret ws rm mc ms n ∧ (Cond.static y).before args s = true) (hp : PreS s H Pc As)
    (hg : g.method = m) (hn : As.length = n) (hsize : g.locals.size = nL) (hstack : g.stack = As.reverse ++ rest) (hW : 2 * g.monitorRoom + (rest.map fun v => v.category).sum ≤ 8) (hdg : decode cc g.pc = .ok (.invokestatic index, 3)) (hf : cells + mc ≤ R.cells ∧ slots + ms ≤ R.slots) :
    vx_Run p l e R s m args below meth c H locs cells slots mc ms g rest (Qc As.toArray) XC free := by
  have hK : vx_Back l R p e below s args y 3 8 (PreOf R mc ms Pc) (PostOf Qc mc ms free) (vx_Post XC mc ms free) := vx_callBack cw.1 hM hp.1
  obtain ⟨⟨-, -, -, -, -, -, hcode, hini, hy, hlen, hl⟩, hstt⟩ := cw
  obtain ⟨hx, hb, hml, ho, -⟩ := S
  intro T hT X
  rcases vx_callS X hx (bytes := bytes) (maxL := maxL) (ret := ret) ho hl hstt hini hcode hy hK hg (hsize.trans hml.symm) (argsL := As) (rest := rest) (fun sig h => hn.trans (hlen sig h)) hstack hW (by rw [hb]; exact hdg)
    (fun vm₁ hW₁ => ⟨hf.1, hf.2, hp.2 (T.setVm vm₁) hT hW₁⟩) with ⟨v, vm₁, ⟨U', l2, c2, s2⟩, hW₁, X', ⟨g', mk, t, L, e1, e2, hq, h1, hL, h2, h3⟩, st⟩ | ⟨q, vm₁, ⟨U', l2, c2, s2⟩, hW₁, X', ⟨g', mk, t, L, E, ce, e1, e2, hq, hce, hcv, hcl, h1, hL, h2, h3⟩, st⟩
  · dsimp only [Pt.U, Pt.locs, Pt.cells, Pt.slots] at X' e1 e2 h1 h2 h3 st
    subst h1; subst h2; subst h3
    exact Or.inl ⟨v, (T.setVm vm₁).calling g' mk As.toArray, t, U', L, hT, X', hL, e1, e2, hq, st⟩
  · dsimp only [Pt.U, Pt.locs, Pt.cells, Pt.slots] at X' e1 e2 h1 h2 h3 st hcl
    subst h1; subst h2; subst h3
    exact Or.inr ⟨q, (T.setVm vm₁).calling g' mk As.toArray, t, U', L, E, ce, hT, X', hL, e1, e2, hq, hce, hcv, vx_cls hW₁ hcl, st⟩
end Runs
section Rows
variable {p : Program} {l : Launch} {e : Env} {R : Room} {s : State} {m : MethodId} {args : Array Value} {below : List Frame} {meth : Method} {c : Code} {H : Heap} {locs : List Loc} {cells slots : Nat} {Q : State → Prop}
variable {mc ms : Nat} {free : Addr → Prop} {A0 A1 : Nat → Prop} {H0 : Heap} {a : Array Value} {pc : Nat} {ls : Array Slot} {st0 rest : List Value}
theorem vx_keep {st₀ t T' : State} {L : List Loc} (h0 : st₀.heap = H) (e1 : T'.heap = t.heap) (hS : va_S A0 H0 H locs) (hA : ∀ q, q < H.size → A1 q → A0 q) (hf : ∀ q, free q → A0 q) (hL : ∀ q ∈ L, free q.base) (hF : va_F A1 st₀ t) :
    H.size ≤ T'.heap.size ∧ (∀ q : Nat, q < H.size → ¬ A1 q → T'.heap[q]? = H[q]?) ∧ va_S A0 H0 T'.heap (locs ++ L) := by
  obtain ⟨hz, hk⟩ := hF
  rw [h0] at hz hk
  exact ⟨by rw [e1]; exact hz, fun q h1 h2 => by rw [e1]; exact hk q h1 h2,
    ⟨Nat.le_trans hS.1 (by rw [e1]; exact hz), fun q h1 h2 => by rw [e1, hk q (Nat.lt_of_lt_of_le h1 hS.1) (fun z => h2 (hA q (Nat.lt_of_lt_of_le h1 hS.1) z))]; exact hS.2.1 q h1 h2, fun q hq => by
      rcases List.mem_append.mp hq with h | h
      · exact hS.2.2 q h
      · exact hf _ (hL q h)⟩⟩
theorem vx_calli {S SX : Type} {post : Int32 → S → Prop} {px : SX → Prop} {B : S → State → Prop} {BX : String → SX → State → Prop} {AX : Nat → Prop} (hr : vx_Run p l e R s m args below meth c H locs cells slots mc ms (F0 m pc ls st0) rest (va_Qi post B A1 a) (vx_X px BX AX) free) (hS : va_S A0 H0 H locs) (hA : ∀ q, q < H.size → A1 q → A0 q) (hf : ∀ q, free q → A0 q) (hAX : ∀ q, q < H.size → AX q → A0 q)
    (kx : ∀ (E : String) (ce : Cell) (q9 : Addr) (u : SX) (t : State) (H1 : Heap) (locs1 : List Loc), t.heap = H1 → s.vm.Alike t.vm → px u → BX E u t → H.size ≤ H1.size → (∀ q : Nat, q < H.size → ¬ AX q → H1[q]? = H[q]?) → va_S A0 H0 H1 locs1 → H1[q9]? = some ce → ce.vm = .none → s.vm.findClass E = some ce.cls → vx_W p l e R s m args below meth c H1 locs1 (cells + mc) (slots + ms) Q (F0 m pc ls rest) q9)
    (kk : ∀ (r : Int32) (u : S) (t : State) (H1 : Heap) (locs1 : List Loc), t.heap = H1 → s.vm.Alike t.vm → post r u → B u t → H.size ≤ H1.size → (∀ q : Nat, q < H.size → ¬ A1 q → H1[q]? = H[q]?) → va_S A0 H0 H1 locs1 → W p l e R s m args below meth c H1 locs1 (cells + mc) (slots + ms) Q (F0 m (pc + 3) ls (.int r :: rest))) : W p l e R s m args below meth c H locs cells slots Q (F0 m pc ls st0) := by
  intro T hT X
  rcases hr T hT X with ⟨v, st₀, t, T', L, h0, X', hL, e1, e2, ⟨⟨r, u, hv, hp, hb⟩, hF⟩, st⟩ | ⟨q, st₀, t, T', L, E, ce, h0, X', hL, e1, e2, ⟨u, hp, hb, hF⟩, hce, hcv, hcl, st⟩
  · cases hv
    obtain ⟨k1, k2, k3⟩ := vx_keep h0 e1 hS hA hf hL hF
    obtain ⟨t2, a1, b1⟩ := kk r u t T'.heap (locs ++ L) e1.symm (by rw [← e2]; exact X'.warmed.alike) hp hb k1 k2 k3 T' rfl X'
    exact ⟨t2, st t2 a1, b1⟩
  · obtain ⟨k1, k2, k3⟩ := vx_keep h0 e1 hS hAX hf hL hF
    obtain ⟨t2, a1, b1⟩ := kx E ce q u t T'.heap (locs ++ L) e1.symm (by rw [← e2]; exact X'.warmed.alike) hp hb k1 k2 k3 (by rw [e1]; exact hce) hcv hcl T' rfl X'
    exact ⟨t2, st.trans a1, b1⟩
theorem vx_calll {S SX : Type} {post : Int64 → S → Prop} {px : SX → Prop} {B : S → State → Prop} {BX : String → SX → State → Prop} {AX : Nat → Prop} (hr : vx_Run p l e R s m args below meth c H locs cells slots mc ms (F0 m pc ls st0) rest (va_Ql post B A1 a) (vx_X px BX AX) free) (hS : va_S A0 H0 H locs) (hA : ∀ q, q < H.size → A1 q → A0 q) (hf : ∀ q, free q → A0 q) (hAX : ∀ q, q < H.size → AX q → A0 q)
    (kx : ∀ (E : String) (ce : Cell) (q9 : Addr) (u : SX) (t : State) (H1 : Heap) (locs1 : List Loc), t.heap = H1 → s.vm.Alike t.vm → px u → BX E u t → H.size ≤ H1.size → (∀ q : Nat, q < H.size → ¬ AX q → H1[q]? = H[q]?) → va_S A0 H0 H1 locs1 → H1[q9]? = some ce → ce.vm = .none → s.vm.findClass E = some ce.cls → vx_W p l e R s m args below meth c H1 locs1 (cells + mc) (slots + ms) Q (F0 m pc ls rest) q9)
    (kk : ∀ (r : Int64) (u : S) (t : State) (H1 : Heap) (locs1 : List Loc), t.heap = H1 → s.vm.Alike t.vm → post r u → B u t → H.size ≤ H1.size → (∀ q : Nat, q < H.size → ¬ A1 q → H1[q]? = H[q]?) → va_S A0 H0 H1 locs1 → W p l e R s m args below meth c H1 locs1 (cells + mc) (slots + ms) Q (F0 m (pc + 3) ls (.long r :: rest))) : W p l e R s m args below meth c H locs cells slots Q (F0 m pc ls st0) := by
  intro T hT X
  rcases hr T hT X with ⟨v, st₀, t, T', L, h0, X', hL, e1, e2, ⟨⟨r, u, hv, hp, hb⟩, hF⟩, st⟩ | ⟨q, st₀, t, T', L, E, ce, h0, X', hL, e1, e2, ⟨u, hp, hb, hF⟩, hce, hcv, hcl, st⟩
  · cases hv
    obtain ⟨k1, k2, k3⟩ := vx_keep h0 e1 hS hA hf hL hF
    obtain ⟨t2, a1, b1⟩ := kk r u t T'.heap (locs ++ L) e1.symm (by rw [← e2]; exact X'.warmed.alike) hp hb k1 k2 k3 T' rfl X'
    exact ⟨t2, st t2 a1, b1⟩
  · obtain ⟨k1, k2, k3⟩ := vx_keep h0 e1 hS hAX hf hL hF
    obtain ⟨t2, a1, b1⟩ := kx E ce q u t T'.heap (locs ++ L) e1.symm (by rw [← e2]; exact X'.warmed.alike) hp hb k1 k2 k3 (by rw [e1]; exact hce) hcv hcl T' rfl X'
    exact ⟨t2, st.trans a1, b1⟩
theorem vx_callf {S SX : Type} {post : UInt32 → S → Prop} {px : SX → Prop} {B : S → State → Prop} {BX : String → SX → State → Prop} {AX : Nat → Prop} (hr : vx_Run p l e R s m args below meth c H locs cells slots mc ms (F0 m pc ls st0) rest (va_Qf post B A1 a) (vx_X px BX AX) free) (hS : va_S A0 H0 H locs) (hA : ∀ q, q < H.size → A1 q → A0 q) (hf : ∀ q, free q → A0 q) (hAX : ∀ q, q < H.size → AX q → A0 q)
    (kx : ∀ (E : String) (ce : Cell) (q9 : Addr) (u : SX) (t : State) (H1 : Heap) (locs1 : List Loc), t.heap = H1 → s.vm.Alike t.vm → px u → BX E u t → H.size ≤ H1.size → (∀ q : Nat, q < H.size → ¬ AX q → H1[q]? = H[q]?) → va_S A0 H0 H1 locs1 → H1[q9]? = some ce → ce.vm = .none → s.vm.findClass E = some ce.cls → vx_W p l e R s m args below meth c H1 locs1 (cells + mc) (slots + ms) Q (F0 m pc ls rest) q9)
    (kk : ∀ (r : UInt32) (u : S) (t : State) (H1 : Heap) (locs1 : List Loc), t.heap = H1 → s.vm.Alike t.vm → post r u → B u t → H.size ≤ H1.size → (∀ q : Nat, q < H.size → ¬ A1 q → H1[q]? = H[q]?) → va_S A0 H0 H1 locs1 → W p l e R s m args below meth c H1 locs1 (cells + mc) (slots + ms) Q (F0 m (pc + 3) ls (.float r :: rest))) : W p l e R s m args below meth c H locs cells slots Q (F0 m pc ls st0) := by
  intro T hT X
  rcases hr T hT X with ⟨v, st₀, t, T', L, h0, X', hL, e1, e2, ⟨⟨r, u, hv, hp, hb⟩, hF⟩, st⟩ | ⟨q, st₀, t, T', L, E, ce, h0, X', hL, e1, e2, ⟨u, hp, hb, hF⟩, hce, hcv, hcl, st⟩
  · cases hv
    obtain ⟨k1, k2, k3⟩ := vx_keep h0 e1 hS hA hf hL hF
    obtain ⟨t2, a1, b1⟩ := kk r u t T'.heap (locs ++ L) e1.symm (by rw [← e2]; exact X'.warmed.alike) hp hb k1 k2 k3 T' rfl X'
    exact ⟨t2, st t2 a1, b1⟩
  · obtain ⟨k1, k2, k3⟩ := vx_keep h0 e1 hS hAX hf hL hF
    obtain ⟨t2, a1, b1⟩ := kx E ce q u t T'.heap (locs ++ L) e1.symm (by rw [← e2]; exact X'.warmed.alike) hp hb k1 k2 k3 (by rw [e1]; exact hce) hcv hcl T' rfl X'
    exact ⟨t2, st.trans a1, b1⟩
theorem vx_calld {S SX : Type} {post : UInt64 → S → Prop} {px : SX → Prop} {B : S → State → Prop} {BX : String → SX → State → Prop} {AX : Nat → Prop} (hr : vx_Run p l e R s m args below meth c H locs cells slots mc ms (F0 m pc ls st0) rest (va_Qd post B A1 a) (vx_X px BX AX) free) (hS : va_S A0 H0 H locs) (hA : ∀ q, q < H.size → A1 q → A0 q) (hf : ∀ q, free q → A0 q) (hAX : ∀ q, q < H.size → AX q → A0 q)
    (kx : ∀ (E : String) (ce : Cell) (q9 : Addr) (u : SX) (t : State) (H1 : Heap) (locs1 : List Loc), t.heap = H1 → s.vm.Alike t.vm → px u → BX E u t → H.size ≤ H1.size → (∀ q : Nat, q < H.size → ¬ AX q → H1[q]? = H[q]?) → va_S A0 H0 H1 locs1 → H1[q9]? = some ce → ce.vm = .none → s.vm.findClass E = some ce.cls → vx_W p l e R s m args below meth c H1 locs1 (cells + mc) (slots + ms) Q (F0 m pc ls rest) q9)
    (kk : ∀ (r : UInt64) (u : S) (t : State) (H1 : Heap) (locs1 : List Loc), t.heap = H1 → s.vm.Alike t.vm → post r u → B u t → H.size ≤ H1.size → (∀ q : Nat, q < H.size → ¬ A1 q → H1[q]? = H[q]?) → va_S A0 H0 H1 locs1 → W p l e R s m args below meth c H1 locs1 (cells + mc) (slots + ms) Q (F0 m (pc + 3) ls (.double r :: rest))) : W p l e R s m args below meth c H locs cells slots Q (F0 m pc ls st0) := by
  intro T hT X
  rcases hr T hT X with ⟨v, st₀, t, T', L, h0, X', hL, e1, e2, ⟨⟨r, u, hv, hp, hb⟩, hF⟩, st⟩ | ⟨q, st₀, t, T', L, E, ce, h0, X', hL, e1, e2, ⟨u, hp, hb, hF⟩, hce, hcv, hcl, st⟩
  · cases hv
    obtain ⟨k1, k2, k3⟩ := vx_keep h0 e1 hS hA hf hL hF
    obtain ⟨t2, a1, b1⟩ := kk r u t T'.heap (locs ++ L) e1.symm (by rw [← e2]; exact X'.warmed.alike) hp hb k1 k2 k3 T' rfl X'
    exact ⟨t2, st t2 a1, b1⟩
  · obtain ⟨k1, k2, k3⟩ := vx_keep h0 e1 hS hAX hf hL hF
    obtain ⟨t2, a1, b1⟩ := kx E ce q u t T'.heap (locs ++ L) e1.symm (by rw [← e2]; exact X'.warmed.alike) hp hb k1 k2 k3 (by rw [e1]; exact hce) hcv hcl T' rfl X'
    exact ⟨t2, st.trans a1, b1⟩
theorem vx_callv {S SX : Type} {post : S → Prop} {px : SX → Prop} {B : S → State → Prop} {BX : String → SX → State → Prop} {AX : Nat → Prop} (hr : vx_Run p l e R s m args below meth c H locs cells slots mc ms (F0 m pc ls st0) rest (va_Qv post B A1 a) (vx_X px BX AX) free) (hS : va_S A0 H0 H locs) (hA : ∀ q, q < H.size → A1 q → A0 q) (hf : ∀ q, free q → A0 q) (hAX : ∀ q, q < H.size → AX q → A0 q)
    (kx : ∀ (E : String) (ce : Cell) (q9 : Addr) (u : SX) (t : State) (H1 : Heap) (locs1 : List Loc), t.heap = H1 → s.vm.Alike t.vm → px u → BX E u t → H.size ≤ H1.size → (∀ q : Nat, q < H.size → ¬ AX q → H1[q]? = H[q]?) → va_S A0 H0 H1 locs1 → H1[q9]? = some ce → ce.vm = .none → s.vm.findClass E = some ce.cls → vx_W p l e R s m args below meth c H1 locs1 (cells + mc) (slots + ms) Q (F0 m pc ls rest) q9)
    (kk : ∀ (u : S) (t : State) (H1 : Heap) (locs1 : List Loc), t.heap = H1 → s.vm.Alike t.vm → post u → B u t → H.size ≤ H1.size → (∀ q : Nat, q < H.size → ¬ A1 q → H1[q]? = H[q]?) → va_S A0 H0 H1 locs1 → W p l e R s m args below meth c H1 locs1 (cells + mc) (slots + ms) Q (F0 m (pc + 3) ls (rest))) : W p l e R s m args below meth c H locs cells slots Q (F0 m pc ls st0) := by
  intro T hT X
  rcases hr T hT X with ⟨v, st₀, t, T', L, h0, X', hL, e1, e2, ⟨⟨u, hv, hp, hb⟩, hF⟩, st⟩ | ⟨q, st₀, t, T', L, E, ce, h0, X', hL, e1, e2, ⟨u, hp, hb, hF⟩, hce, hcv, hcl, st⟩
  · cases hv
    obtain ⟨k1, k2, k3⟩ := vx_keep h0 e1 hS hA hf hL hF
    obtain ⟨t2, a1, b1⟩ := kk u t T'.heap (locs ++ L) e1.symm (by rw [← e2]; exact X'.warmed.alike) hp hb k1 k2 k3 T' rfl X'
    exact ⟨t2, st t2 a1, b1⟩
  · obtain ⟨k1, k2, k3⟩ := vx_keep h0 e1 hS hAX hf hL hF
    obtain ⟨t2, a1, b1⟩ := kx E ce q u t T'.heap (locs ++ L) e1.symm (by rw [← e2]; exact X'.warmed.alike) hp hb k1 k2 k3 (by rw [e1]; exact hce) hcv hcl T' rfl X'
    exact ⟨t2, st.trans a1, b1⟩
/-- caught by the row x of this method's table; the rows ahead don't take it -/
theorem vx_catch {own name : String} {E : String} {ce : Cell} {q : Addr} (hown : s.vm.findClass own = some m.cls) (pre : List ExceptionTableEntry) (x : ExceptionTableEntry) (suf : List ExceptionTableEntry) (hsplit : c.exceptionTable.toList = pre ++ x :: suf)
    (hpass : ∀ z ∈ pre, covers z pc = false ∨ (z.catchType ≠ 0 ∧ ∃ nm : String, (Cond.classLink own z.catchType nm).before args s = true ∧ va_Nc E nm s)) (hx : covers x pc = true) (h0 : x.catchType ≠ 0)
    (hlink : (Cond.classLink own x.catchType name).before args s = true) (hcast : (Cond.castable E name).before args s = true) (hcell : H[q]? = some ce) (hv : ce.vm = .none) (hcl : s.vm.findClass E = some ce.cls)
    (kk : W p l e R s m args below meth c H locs cells slots Q (F0 m x.handlerPc ls [.ref q])) : vx_W p l e R s m args below meth c H locs cells slots Q (F0 m pc ls rest) q := by
  sorry
end Rows
section Ends
variable {p : Program} {l : Launch} {e : Env} {R : Room} {s : State} {m : MethodId} {args : Array Value} {below : List Frame} {meth : Method} {c : Code} {H : Heap} {locs : List Loc} {cells slots : Nat} {Q : State → Prop}
variable {mc ms : Nat} {free : Addr → Prop} {A0 A1 : Nat → Prop} {H0 : Heap} {a : Array Value} {ls : Array Slot} {st0 rest : List Value}
variable {Qc : Array Value → State → Outcome → State → Prop} {XC : String → State → State → Prop}
/-- what a body that may throw owes at its end -/
def vx_MQ (below : List Frame) (Qc : Array Value → State → Outcome → State → Prop) (XC : String → State → State → Prop) (a : Array Value) (s : State) (mc ms : Nat) (free : Addr → Prop) : State → Prop := fun t =>
  ∃ o, t.status = .running ∧ Ended t below o ∧ vx_Q Qc XC mc ms free a s o t
theorem vx_ret {g : JFrame} {mc ms : Nat} (k : W p l e R s m args below meth c H locs cells slots (MQ below Qc args s mc ms free) g) : W p l e R s m args below meth c H locs cells slots (vx_MQ below Qc XC args s mc ms free) g := by
  intro T hT X
  obtain ⟨t, a1, o, b1, b2, b3, b4⟩ := k T hT X
  exact ⟨t, a1, o, b1, b2, Or.inl ⟨b3, b4⟩⟩
/-- not caught here: it goes on to the caller -/
theorem vx_widen {g : JFrame} {q : Addr} {k n : Nat} (h1 : cells ≤ k) (h2 : slots ≤ n) (kk : vx_W p l e R s m args below meth c H locs k n Q g q) : vx_W p l e R s m args below meth c H locs cells slots Q g q := fun T hT X => kk T hT (stand_widen X h1 h2)
theorem vx_out {pc : Nat} {E : String} {ce : Cell} {q : Addr} {mc ms : Nat} (hout : ∀ x ∈ c.exceptionTable.toList, covers x pc = false) (hlocks : meth.locks = false) (hcell : H[q]? = some ce) (hv : ce.vm = .none) (hcl : s.vm.findClass E = some ce.cls)
    (hx : ∀ t : State, t.heap = H → s.vm.Alike t.vm → XC E s t) (hf : ∀ z ∈ locs, free z.base) (hc : cells ≤ mc) (hs : slots ≤ ms) :
    vx_W p l e R s m args below meth c H locs cells slots (vx_MQ below Qc XC args s mc ms free) (F0 m pc ls rest) q := by
  intro T hT X
  obtain ⟨st1, hrun, hend, hW, hsm⟩ := X.leaveThrown q (g := F0 m pc ls rest) rfl rfl rfl hout hlocks
  have hcell9 : (T.setFrames (.throwing q :: below)).heap[q]? = some ce := by
    show T.heap[q]? = some ce
    rw [hT]; exact hcell
  exact ⟨_, st1, .threw q, hrun, hend, Or.inr ⟨q, rfl, E, ce, locs, hx _ hT hW.alike, hcell9, hv, hcl, hW, hsm.mono hc hs, hf⟩⟩
theorem vx_frame {U : State} {k n : Nat} (h : s.sameButNew ({ U with vm := s.vm } : State) locs k n) : s.heap.size ≤ U.heap.size ∧ ∀ q : Nat, q < s.heap.size → (∀ z ∈ locs, z.base ≠ q) → U.heap[q]? = s.heap[q]? := by
  obtain ⟨-, h2, -, -, -, h6⟩ := h
  refine ⟨h2, fun q hq hz => ?_⟩
  obtain ⟨c9, e1, e2, e3, e4⟩ := h6 q _ (Array.getElem?_eq_getElem hq)
  have hs : c9.slots = (s.heap[q]).slots := Array.ext_getElem? fun i => e4 i fun hm => hz _ hm rfl
  have h9 : c9 = s.heap[q] := by
    rw [hs] at e2
    exact e2
  have e5 : U.heap[q]? = some c9 := e1
  rw [e5, h9, Array.getElem?_eq_getElem hq]
/-- the words of a throw but the four that speak of the heap -/
def vx_no (w : Cond) : Bool := decide (w ≠ .isRef (.static Bundle.tN "UNASSIGNED_STACK" Bundle.steD)) && decide (w ≠ .isRef (.static Bundle.tN "SUPPRESSED_SENTINEL" Bundle.listD)) && decide (w ≠ .laysStatic Bundle.tN "UNASSIGNED_STACK" Bundle.steD) && decide (w ≠ .laysStatic Bundle.tN "SUPPRESSED_SENTINEL" Bundle.listD)
def vx_at0 (own : String) (ic : Nat) (X : String) (names : List String) : List Cond := (Bundle.ownAtoms0 own ic X names).filter vx_no
def vx_atS (own : String) (ic : Nat) (X : String) (names : List String) : List Cond := (Bundle.ownAtoms own ic X names).filter vx_no
/-- a word that the tables alone decide, or a good one -/
def vx_ot (w : Cond) : Bool := w.onTables || goodWord w
theorem vx_ot_at {args a' : Array Value} {s U : State} {w : Cond} (hW : s.WarmedH U.vm) (hvm : s.vm = U.vm) (hg : vx_ot w = true) (h : w.before args s = true) : w.before a' U = true := by
  simp only [vx_ot, Bool.or_eq_true] at hg
  rcases hg with hg | hg
  · exact va_tabs hg hvm h
  · exact word_at hW (good_of_word hg) h
/-- a list's words: the good ones out of the method's own list, the others by premises of their own -/
theorem vx_hat {args : Array Value} {s : State} {L B : List Cond} (h1 : ∀ w ∈ L.filter goodWord, w.before args s = true) (h2 : ∀ w ∈ L.filter (fun w => !goodWord w), w ∈ B) (h3 : ∀ w ∈ B, w.before args s = true) : ∀ w ∈ L, w.before args s = true := by
  intro w hw
  by_cases g : goodWord w = true
  · exact h1 w (List.mem_filter.mpr ⟨hw, g⟩)
  · refine h3 w (h2 w (List.mem_filter.mpr ⟨hw, ?_⟩))
    show (!goodWord w) = true
    cases hgw : goodWord w
    · rfl
    · exact absurd hgw g
theorem vx_c {args : Array Value} {s : State} {w : Cond} {B : List Cond} (h : w.before args s = true) (t : ∀ w ∈ B, w.before args s = true) : ∀ w' ∈ w :: B, w'.before args s = true := fun w' h' => (List.mem_cons.mp h').elim (fun e => by rw [e]; exact h) (t w')
theorem vx_n {args : Array Value} {s : State} : ∀ w ∈ ([] : List Cond), w.before args s = true := fun _ h => nomatch h
theorem vx_own {args : Array Value} {s : State} {L : List Cond} (h1 : ∀ w ∈ L.filter vx_no, w.before args s = true)
    (hU : (Cond.isRef (.static Bundle.tN "UNASSIGNED_STACK" Bundle.steD)).before args s = true) (hN : (Cond.isRef (.static Bundle.tN "SUPPRESSED_SENTINEL" Bundle.listD)).before args s = true)
    (lU : (Cond.laysStatic Bundle.tN "UNASSIGNED_STACK" Bundle.steD).before args s = true) (lN : (Cond.laysStatic Bundle.tN "SUPPRESSED_SENTINEL" Bundle.listD).before args s = true) : ∀ w ∈ L, w.before args s = true := by
  intro w hw
  by_cases e1 : w = .isRef (.static Bundle.tN "UNASSIGNED_STACK" Bundle.steD)
  · rw [e1]; exact hU
  · by_cases e2 : w = .isRef (.static Bundle.tN "SUPPRESSED_SENTINEL" Bundle.listD)
    · rw [e2]; exact hN
    · by_cases e3 : w = .laysStatic Bundle.tN "UNASSIGNED_STACK" Bundle.steD
      · rw [e3]; exact lU
      · by_cases e4 : w = .laysStatic Bundle.tN "SUPPRESSED_SENTINEL" Bundle.listD
        · rw [e4]; exact lN
        · exact h1 w (List.mem_filter.mpr ⟨hw, by unfold vx_no; rw [decide_eq_true e1, decide_eq_true e2, decide_eq_true e3, decide_eq_true e4]; rfl⟩)
/-- where a static field lies, its class's statics cell in H -/
def vx_L (C n d : String) (A : Nat → Prop) (U : State) (H : Heap) : Prop := ∃ (c : ClassId) (k : Class) (i : Nat) (f : Field) (a : Nat) (cell : Cell), U.vm.findClass C = some c ∧ U.fieldFound? C n d = some (c, k, i, f) ∧ f.isStatic = true ∧ k.statics = some a ∧ H[a]? = some cell ∧ cell.vm.isStatics = true ∧ cell.cls = c ∧ f.slot < cell.slots.size ∧ k.staticTypes[f.slot]? = some f.type ∧ ¬ A a
theorem vx_L.moved {C n d : String} {A : Nat → Prop} {u U : State} {H : Heap} (hvm : u.vm.Alike U.vm) (h : vx_L C n d A u H) : vx_L C n d A U H := by
  obtain ⟨c, k, i, f, a, cell, h1, h2, h3, h4, h5, h6, h7, h8, h9, h10⟩ := h
  obtain ⟨k', hi', he⟩ := State.fieldFound?_setVm hvm h2
  exact ⟨c, k', i, f, a, cell, by rw [hvm.findClass]; exact h1, hi', h3, by rw [he]; exact h4, h5, h6, h7, h8, by rw [he]; exact h9, h10⟩
theorem vx_L.kept {C n d : String} {A : Nat → Prop} {U : State} {H H1 : Heap} (h : vx_L C n d A U H) (hq : ∀ a : Nat, a < H.size → ¬ A a → H1[a]? = H[a]?) : vx_L C n d A U H1 := by
  obtain ⟨c, k, i, f, a, cell, h1, h2, h3, h4, h5, h6, h7, h8, h9, h10⟩ := h
  exact ⟨c, k, i, f, a, cell, h1, h2, h3, h4, by rw [hq a (Array.getElem?_eq_some_iff.mp h5).1 h10]; exact h5, h6, h7, h8, h9, h10⟩
theorem vx_L.narrow {C n d : String} {A B : Nat → Prop} {U : State} {H : Heap} (h : vx_L C n d A U H) (hAB : ∀ q, B q → A q) : vx_L C n d B U H := by
  obtain ⟨c, k, i, f, a, cell, h1, h2, h3, h4, h5, h6, h7, h8, h9, h10⟩ := h
  exact ⟨c, k, i, f, a, cell, h1, h2, h3, h4, h5, h6, h7, h8, h9, fun z => h10 (hAB _ z)⟩
theorem vx_L.word {C n d : String} {A : Nat → Prop} {s : State} {args : Array Value} (h : vx_L C n d A s s.heap) : (Cond.laysStatic C n d).before args s = true := by
  obtain ⟨c, k, i, f, a, cell, h1, h2, h3, h4, h5, h6, h7, h8, h9, -⟩ := h
  show (Cond.laysStatic C n d).holds args s none s [] = true
  exact Cond.laysStatic_of h1 h2 h3 h4 h5 h6 h7 h8 h9
/-- .. and what it holds: null or some reference -/
def vx_Zq (C n d : String) (A : Nat → Prop) (U : State) (H : Heap) : Prop := va_Zq C n d A U H ∧ vx_L C n d A U H
theorem vx_Zq.moved {C n d : String} {A : Nat → Prop} {u U : State} {H : Heap} (hvm : u.vm.Alike U.vm) (h : vx_Zq C n d A u H) : vx_Zq C n d A U H := ⟨va_Zq.moved hvm h.1, vx_L.moved hvm h.2⟩
theorem vx_Zq.kept {C n d : String} {A : Nat → Prop} {U : State} {H H1 : Heap} (h : vx_Zq C n d A U H) (hq : ∀ a : Nat, a < H.size → ¬ A a → H1[a]? = H[a]?) : vx_Zq C n d A U H1 := ⟨va_Zq.kept h.1 hq, vx_L.kept h.2 hq⟩
theorem vx_Zq.narrow {C n d : String} {A B : Nat → Prop} {U : State} {H : Heap} (h : vx_Zq C n d A U H) (hAB : ∀ q, B q → A q) : vx_Zq C n d B U H := ⟨va_Zq.narrow h.1 hAB, vx_L.narrow h.2 hAB⟩
theorem vx_Zqof {args : Array Value} {s : State} {C n d : String} {A : Nat → Prop} (hl : (Cond.laysStatic C n d).before args s = true) (hini : (Cond.initialized C).before args s = true) (h : (Cond.isRef (.static C n d)).before args s = true) (hA : ∀ a : Nat, a < s.heap.size → ¬ A a) : vx_Zq C n d A s s.heap := by
  refine ⟨va_Zqof hl hini h hA, ?_⟩
  obtain ⟨c, k, i, f, a, cell, h1, h2, h3, h4, h5, h6, h7, h8, h9⟩ := Cond.laysStatic_spec hl
  exact ⟨c, k, i, f, a, cell, h1, h2, h3, h4, h5, h6, h7, h8, h9, hA a (Array.getElem?_eq_some_iff.mp h5).1⟩
theorem vx_isRef {C n d : String} {v : Value} {A : Nat → Prop} {s : State} {args : Array Value} (h : va_Z C n d v A s s.heap) (hv : v.isRef = true) : (Cond.isRef (.static C n d)).before args s = true := by
  obtain ⟨cf, kf, fi, f, a, cell, h1, h2, h3, h4, h5, h6, h7, -⟩ := h
  have he : (Term.static C n d).eval args s none [] s = some v := by
    simp [Term.eval, State.fieldNamed?, h1, h2, h4, h5, h6, h7]
  simp only [Cond.before, Cond.holds, Cond.value, he]
  cases v <;> simp_all [Value.isRef]
theorem vx_isRefq {C n d : String} {A : Nat → Prop} {s : State} {args : Array Value} (h : va_Zq C n d A s s.heap) : (Cond.isRef (.static C n d)).before args s = true := by
  rcases h with h | ⟨t, h⟩
  · exact vx_isRef h rfl
  · exact vx_isRef h rfl
/-- the same frame, seen from here: as if the method were called anew in this heap -/
theorem vx_rebase {T : State} (X : Stand p l e R s m args below meth c T locs cells slots) {R' : Room} (hf : R'.frames ≤ R.frames) (hl : R'.locals ≤ R.locals) (hc : cells + R'.cells ≤ R.cells) (hs : slots + R'.slots ≤ R.slots) :
    Stand p l e R' ((T.setVm s.vm).setFrames (.invoking m args :: below)) m args below meth c T [] 0 0 := by
  have htop : (T.setVm s.vm).topJava?.isSome := X.here.top
  have hF : ((T.setVm s.vm).setFrames (.invoking m args :: below)).frames = .invoking m args :: below := State.frames_setFrames _ (State.cur_lt_of_top htop)
  obtain ⟨g₀, hg0⟩ := Option.isSome_iff_exists.mp htop
  obtain ⟨r, hr⟩ := State.topJava?_eq_some.mp hg0
  have hl9 : e.platform.stackLimits (T.setVm s.vm).me = e.platform.stackLimits s.me := X.limits
  have hb9 : (T.setVm s.vm).me.stackBytes = s.me.stackBytes := X.bytes
  refine ⟨X.admits, X.cas, X.clock, hF, ?_, X.hears, X.method, X.code, X.here, X.tail, X.warmed, ?_, ?_, ?_⟩
  · have h := X.room
    have hU : ((T.setVm s.vm).setFrames (.invoking m args :: below)).localsInUse = s.localsInUse := by
      rw [State.localsInUse_invoking hF (meth := meth) (c := c) X.method X.code, State.localsInUse_invoking X.frames X.method X.code]
    simp only [State.hasRoom, Bool.and_eq_true, decide_eq_true_eq] at h ⊢
    obtain ⟨⟨⟨⟨h1, h2, h3, h4, h5, h6⟩, h7⟩, h8⟩, h9⟩ := h
    rw [X.frames, List.length_cons] at h2 h3
    have q1 := X.heapSize
    have q2 := X.used
    simp only [hF, hU, List.length_cons, State.stackLimits_setFrames, State.stackBytes_setFrames, hl9, hb9]
    refine ⟨⟨⟨⟨by omega, by omega, by omega, by omega, by omega, h6⟩, ?_⟩, ?_⟩, X.book⟩
    · show T.heap.size + R'.cells ≤ e.platform.maxCells
      omega
    · show T.slotsUsed + R'.slots ≤ e.platform.maxSlots
      omega
  · rw [State.stackLimits_setFrames]; rfl
  · rw [State.stackBytes_setFrames]; rfl
  · refine ⟨?_, Nat.le_refl _, Nat.le_refl _, ?_, ?_, fun a c9 h9 => ⟨c9, h9, rfl, rfl, fun _ _ => rfl⟩⟩
    · obtain ⟨t, ht, -⟩ := State.frames_cons hr
      show T.setVm s.vm = { ((T.setVm s.vm).setFrames (.invoking m args :: below)).setFrames (T.setVm s.vm).frames with heap := T.heap, slotsUsed := T.slotsUsed }
      rw [State.setFrames_setFrames, State.setFrames_self ht]
      rfl
    · show T.slotsUsed = T.slotsUsed + ((T.heap.toList.drop T.heap.size).map (·.slots.size)).sum
      rw [List.drop_eq_nil_of_le (Nat.le_of_eq Array.length_toList)]
      rfl
    · show ((T.heap.toList.drop T.heap.size).map (·.slots.size)).sum ≤ 0
      rw [List.drop_eq_nil_of_le (Nat.le_of_eq Array.length_toList)]
      exact Nat.le_refl _
/-- 'throw new E()': new; dup; invokespecial; athrow -/
theorem vx_throw0 {cc : ByteArray} {pc : Nat} (hexec : p.tables.exec = Jvm.exec) (hb : c.code = cc) (hl : l.stackTraces = false) {own cls : String} {names : List String} {ik ic mc ms : Nat} {A : Nat → Prop}
    (hown : s.vm.findClass own = some m.cls) (hcls : Bundle.fit cls = true) (hnames : ∀ n ∈ names, Bundle.fit n = true)
    (hk : (Cond.classLink own ik cls).before args s = true) (hini : (Cond.initialized cls).before args s = true) (hat : ∀ w ∈ vx_at0 own ic cls names, w.before args s = true)
    (hgood : ∀ w ∈ Cond.classLink own ik cls :: Cond.initialized cls :: vx_at0 own ic cls names, vx_ot w = true)
    (hU : vx_Zq Bundle.tN "UNASSIGNED_STACK" Bundle.steD A s s.heap) (hN : vx_Zq Bundle.tN "SUPPRESSED_SENTINEL" Bundle.listD A s s.heap) (hS : va_S A s.heap H locs) (hsize : ls.size = c.maxLocals)
    (d0 : decode cc pc = .ok (.new ik, 3)) (d3 : decode cc (pc + 3) = .ok (.dup, 1)) (d4 : decode cc (pc + 4) = .ok (.invokespecial ic, 3)) (d7 : decode cc (pc + 7) = .ok (.athrow, 1))
    (hout : ∀ x ∈ c.exceptionTable.toList, covers x (pc + 7) = false)
    (hRframes : names.length + 3 < R.frames) (hRlocals : (rest.map fun v => v.category).sum + (13 * (names.length + 1) + 42) ≤ R.locals) (hRcells : cells + 1 ≤ R.cells) (hRslots : slots + 6 ≤ R.slots) (hlocks : meth.locks = false)
    (hx : ∀ t : State, s.vm.Alike t.vm → H.size ≤ t.heap.size → (∀ q : Nat, q < H.size → t.heap[q]? = H[q]?) → XC cls s t)
    (hf : ∀ z ∈ locs, free z.base) (hc : cells + 1 ≤ mc) (hs : slots + 6 ≤ ms) :
    W p l e R s m args below meth c H locs cells slots (vx_MQ below Qc XC args s mc ms free) (F0 m pc ls rest) := by
  intro T hT X
  have htr : e.platform.stackTraces = false := (show e.platform.stackTraces = l.stackTraces by rw [X.admits.platform]).trans hl
  have Y := vx_rebase X (R' := { frames := R.frames, locals := R.locals, cells := 1, slots := 6 }) (Nat.le_refl _) (Nat.le_refl _) hRcells hRslots
  obtain ⟨s', hA⟩ : ∃ z, z = (T.setVm s.vm).setFrames (.invoking m args :: below) := ⟨_, rfl⟩
  rw [← hA] at Y
  have hvm : s'.vm = s.vm := by rw [hA]; rfl
  have hhp : s'.heap = H := by rw [hA]; exact hT
  have hW0 : s.WarmedH s'.vm := by rw [hvm]; exact State.WarmedH.refl s
  have hat' : ∀ w ∈ vx_at0 own ic cls names, w.before args s' = true := fun w hw => vx_ot_at hW0 hvm.symm (hgood w (List.mem_cons_of_mem _ (List.mem_cons_of_mem _ hw))) (hat w hw)
  have hk' : (Cond.classLink own ik cls).before args s' = true := vx_ot_at hW0 hvm.symm (hgood _ List.mem_cons_self) hk
  have hini' : (Cond.initialized cls).before args s' = true := vx_ot_at hW0 hvm.symm (hgood _ (List.mem_cons_of_mem _ List.mem_cons_self)) hini
  have hU' : vx_Zq Bundle.tN "UNASSIGNED_STACK" Bundle.steD A s' s'.heap := by rw [hhp]; exact vx_Zq.moved hW0.alike (hU.kept hS.2.1)
  have hN' : vx_Zq Bundle.tN "SUPPRESSED_SENTINEL" Bundle.listD A s' s'.heap := by rw [hhp]; exact vx_Zq.moved hW0.alike (hN.kept hS.2.1)
  have h : ∀ w ∈ Bundle.ownAtoms0 own ic cls names, w.before args s' = true := vx_own hat' (vx_isRefq hU'.1) (vx_isRefq hN'.1) hU'.2.word hN'.2.word
  have hown' : s'.vm.findClass own = some m.cls := by rw [hvm]; exact hown
  have hins : (Cond.instantiable cls 6).before args s' = true := h _ (by simp [Bundle.ownAtoms0])
  obtain ⟨vm₁, cX, kX, hfX, hkX, -, -, X₁, st1⟩ := Y.newCold hexec (own := own) (C := cls) (index := ik) (n := 6) hown' hk' hins hini'
    (g := F0 m pc ls rest) rfl (by rw [hb]; exact d0) (Nat.le_refl _) (Nat.le_refl _)
  generalize hT1 : (T.setVm vm₁).pushCell { cls := cX, slots := kX.instanceTypes.map defaultValue, vm := .none } = T1 at X₁ st1
  have hcat : (Value.ref T.heap.size).category = 1 := rfl
  have hcellA : T1.heap[T.heap.size]? = some (freshCell cX kX) := by rw [← hT1]; exact State.heap_pushCell_size _ _
  have d3' : decode c.code (pc + 3) = .ok (.dup, 1) := by rw [hb]; exact d3
  obtain ⟨U, hsteps, hrun, hend, hW, hsame, ce, hce, hO⟩ := X₁.ctorThrow0 hexec htr (own := own) (cls := cls) (names := names) (ic := ic) hown' hcls hnames h (fun x hx => nomatch hx) hfX hkX hcellA (by rw [hhp, hT]; exact Nat.le_refl _)
    (g := { method := m, pc := pc + 4, locals := ls, stack := .ref T.heap.size :: .ref T.heap.size :: rest, locked := none }) rfl hsize rfl rfl (rest := rest) rfl
    (by rw [hb]; exact d4) (by rw [hb]; exact d7) hout hRframes (by simp only [List.map_cons, List.sum_cons, hcat]; omega) hlocks
  obtain ⟨f1, f2⟩ := vx_frame hsame
  rw [hhp] at f1 f2
  have hWs : s.WarmedH U.vm := State.WarmedH.trans hW0 hW
  have hcl : s.vm.findClass cls = some ce.cls := by
    have h9 := hO.cls
    rw [hvm] at h9
    exact h9
  have hall : s.sameButNew ({ U with vm := s.vm } : State) locs mc ms := by
    subst hA
    obtain ⟨e1, e2⟩ := hsame
    rw [State.setFrames_setFrames] at e1
    have h2 : (T.setVm s.vm).sameButNew ({ U with vm := s.vm } : State) [] (0 + 1) (0 + 6) := ⟨e1, e2⟩
    have h3 := X.same.trans h2
    rw [List.append_nil] at h3
    exact h3.mono hc hs
  refine ⟨U, ?_, .threw T.heap.size, hrun, hend, Or.inr ⟨T.heap.size, rfl, cls, ce, locs, hx U hWs.alike f1 (fun q hq => f2 q hq (fun z hz => nomatch hz)), hce, hO.vm, hcl, hWs, hall, hf⟩⟩
  refine st1 _ ?_
  show Steps p.tables e below (T1.setTop { method := m, pc := pc + 3, locals := ls, stack := .ref T.heap.size :: rest, locked := none }) _
  jvm_step X₁.here [X₁.here.top, hexec, d3', Value.category]
  exact hsteps
/-- 'throw new E("text")': new; dup; ldc; invokespecial; athrow -/
theorem vx_throwS {cc : ByteArray} {pc : Nat} (hexec : p.tables.exec = Jvm.exec) (hb : c.code = cc) (hl : l.stackTraces = false) {own cls text : String} {names : List String} {ik is ic mc ms sa : Nat} {A : Nat → Prop}
    (hown : s.vm.findClass own = some m.cls) (hcls : Bundle.fit cls = true) (hnames : ∀ n ∈ names, Bundle.fit n = true)
    (hk : (Cond.classLink own ik cls).before args s = true) (hini : (Cond.initialized cls).before args s = true) (hstr : vk_R own is text sa s) (hat : ∀ w ∈ vx_atS own ic cls names, w.before args s = true)
    (hgood : ∀ w ∈ Cond.classLink own ik cls :: Cond.initialized cls :: vx_atS own ic cls names, vx_ot w = true)
    (hU : vx_Zq Bundle.tN "UNASSIGNED_STACK" Bundle.steD A s s.heap) (hN : vx_Zq Bundle.tN "SUPPRESSED_SENTINEL" Bundle.listD A s s.heap) (hS : va_S A s.heap H locs) (hsize : ls.size = c.maxLocals)
    (d0 : decode cc pc = .ok (.new ik, 3)) (d3 : decode cc (pc + 3) = .ok (.dup, 1)) (d4 : decode cc (pc + 4) = .ok (.ldc is, 2)) (d6 : decode cc (pc + 6) = .ok (.invokespecial ic, 3)) (d9 : decode cc (pc + 9) = .ok (.athrow, 1))
    (hout : ∀ x ∈ c.exceptionTable.toList, covers x (pc + 9) = false)
    (hRframes : names.length + 3 < R.frames) (hRlocals : (rest.map fun v => v.category).sum + (13 * (names.length + 1) + 43) ≤ R.locals) (hRcells : cells + 1 ≤ R.cells) (hRslots : slots + 6 ≤ R.slots) (hlocks : meth.locks = false)
    (hx : ∀ t : State, s.vm.Alike t.vm → H.size ≤ t.heap.size → (∀ q : Nat, q < H.size → t.heap[q]? = H[q]?) → XC cls s t)
    (hf : ∀ z ∈ locs, free z.base) (hc : cells + 1 ≤ mc) (hs : slots + 6 ≤ ms) :
    W p l e R s m args below meth c H locs cells slots (vx_MQ below Qc XC args s mc ms free) (F0 m pc ls rest) := by
  intro T hT X
  have htr : e.platform.stackTraces = false := (show e.platform.stackTraces = l.stackTraces by rw [X.admits.platform]).trans hl
  have Y := vx_rebase X (R' := { frames := R.frames, locals := R.locals, cells := 1, slots := 6 }) (Nat.le_refl _) (Nat.le_refl _) hRcells hRslots
  obtain ⟨s', hA⟩ : ∃ z, z = (T.setVm s.vm).setFrames (.invoking m args :: below) := ⟨_, rfl⟩
  rw [← hA] at Y
  have hvm : s'.vm = s.vm := by rw [hA]; rfl
  have hhp : s'.heap = H := by rw [hA]; exact hT
  have hW0 : s.WarmedH s'.vm := by rw [hvm]; exact State.WarmedH.refl s
  have hat' : ∀ w ∈ vx_atS own ic cls names, w.before args s' = true := fun w hw => vx_ot_at hW0 hvm.symm (hgood w (List.mem_cons_of_mem _ (List.mem_cons_of_mem _ hw))) (hat w hw)
  have hk' : (Cond.classLink own ik cls).before args s' = true := vx_ot_at hW0 hvm.symm (hgood _ List.mem_cons_self) hk
  have hini' : (Cond.initialized cls).before args s' = true := vx_ot_at hW0 hvm.symm (hgood _ (List.mem_cons_of_mem _ List.mem_cons_self)) hini
  have hU' : vx_Zq Bundle.tN "UNASSIGNED_STACK" Bundle.steD A s' s'.heap := by rw [hhp]; exact vx_Zq.moved hW0.alike (hU.kept hS.2.1)
  have hN' : vx_Zq Bundle.tN "SUPPRESSED_SENTINEL" Bundle.listD A s' s'.heap := by rw [hhp]; exact vx_Zq.moved hW0.alike (hN.kept hS.2.1)
  have h : ∀ w ∈ Bundle.ownAtoms own ic cls names, w.before args s' = true := vx_own hat' (vx_isRefq hU'.1) (vx_isRefq hN'.1) hU'.2.word hN'.2.word
  have hown' : s'.vm.findClass own = some m.cls := by rw [hvm]; exact hown
  have hins : (Cond.instantiable cls 6).before args s' = true := h _ (by simp [Bundle.ownAtoms])
  obtain ⟨vm₁, cX, kX, hfX, hkX, -, -, X₁, st1⟩ := Y.newCold hexec (own := own) (C := cls) (index := ik) (n := 6) hown' hk' hins hini'
    (g := F0 m pc ls rest) rfl (by rw [hb]; exact d0) (Nat.le_refl _) (Nat.le_refl _)
  generalize hT1 : (T.setVm vm₁).pushCell { cls := cX, slots := kX.instanceTypes.map defaultValue, vm := .none } = T1 at X₁ st1
  have hcat : (Value.ref T.heap.size).category = 1 := rfl
  have hcellA : T1.heap[T.heap.size]? = some (freshCell cX kX) := by rw [← hT1]; exact State.heap_pushCell_size _ _
  have d3' : decode c.code (pc + 3) = .ok (.dup, 1) := by rw [hb]; exact d3
  have d4' : decode c.code (pc + 4) = .ok (.ldc is, 2) := by rw [hb]; exact d4
  have hstr' : vk_R own is text sa s' := vk_R.warm hW0 hstr
  obtain ⟨U, hsteps, hrun, hend, hW, hsame, ce, hce, hO⟩ := X₁.ctorThrowS hexec htr (own := own) (cls := cls) (names := names) (ic := ic) hown' hcls hnames h (fun x hx => nomatch hx) hfX hkX hcellA (by rw [hhp, hT]; exact Nat.le_refl _) (msg := .ref sa) rfl
    (g := { method := m, pc := pc + 6, locals := ls, stack := .ref sa :: .ref T.heap.size :: .ref T.heap.size :: rest, locked := none }) rfl hsize rfl rfl (rest := rest) rfl
    (by rw [hb]; exact d6) (by rw [hb]; exact d9) hout hRframes (by simp only [List.map_cons, List.sum_cons, hcat]; omega) hlocks
  obtain ⟨f1, f2⟩ := vx_frame hsame
  rw [hhp] at f1 f2
  have hWs : s.WarmedH U.vm := State.WarmedH.trans hW0 hW
  have hcl : s.vm.findClass cls = some ce.cls := by
    have h9 := hO.cls
    rw [hvm] at h9
    exact h9
  have hall : s.sameButNew ({ U with vm := s.vm } : State) locs mc ms := by
    subst hA
    obtain ⟨e1, e2⟩ := hsame
    rw [State.setFrames_setFrames] at e1
    have h2 : (T.setVm s.vm).sameButNew ({ U with vm := s.vm } : State) [] (0 + 1) (0 + 6) := ⟨e1, e2⟩
    have h3 := X.same.trans h2
    rw [List.append_nil] at h3
    exact h3.mono hc hs
  refine ⟨U, ?_, .threw T.heap.size, hrun, hend, Or.inr ⟨T.heap.size, rfl, cls, ce, locs, hx U hWs.alike f1 (fun q hq => f2 q hq (fun z hz => nomatch hz)), hce, hO.vm, hcl, hWs, hall, hf⟩⟩
  refine st1 _ ?_
  show Steps p.tables e below (T1.setTop { method := m, pc := pc + 3, locals := ls, stack := .ref T.heap.size :: rest, locked := none }) _
  jvm_step X₁.here [X₁.here.top, hexec, d3', Value.category]
  exact X₁.ldcString hexec (own := own) (text := text) (index := is) (a := sa) hown' hstr'.1 hstr'.2
    (g := { method := m, pc := pc + 4, locals := ls, stack := .ref T.heap.size :: .ref T.heap.size :: rest, locked := none }) rfl d4' _ hsteps
/-- 'throw new E("text")', the text by a wide index -/
theorem vx_throwSW {cc : ByteArray} {pc : Nat} (hexec : p.tables.exec = Jvm.exec) (hb : c.code = cc) (hl : l.stackTraces = false) {own cls text : String} {names : List String} {ik is ic mc ms sa : Nat} {A : Nat → Prop}
    (hown : s.vm.findClass own = some m.cls) (hcls : Bundle.fit cls = true) (hnames : ∀ n ∈ names, Bundle.fit n = true)
    (hk : (Cond.classLink own ik cls).before args s = true) (hini : (Cond.initialized cls).before args s = true) (hstr : vk_R own is text sa s) (hat : ∀ w ∈ vx_atS own ic cls names, w.before args s = true)
    (hgood : ∀ w ∈ Cond.classLink own ik cls :: Cond.initialized cls :: vx_atS own ic cls names, vx_ot w = true)
    (hU : vx_Zq Bundle.tN "UNASSIGNED_STACK" Bundle.steD A s s.heap) (hN : vx_Zq Bundle.tN "SUPPRESSED_SENTINEL" Bundle.listD A s s.heap) (hS : va_S A s.heap H locs) (hsize : ls.size = c.maxLocals)
    (d0 : decode cc pc = .ok (.new ik, 3)) (d3 : decode cc (pc + 3) = .ok (.dup, 1)) (d4 : decode cc (pc + 4) = .ok (.ldc_w is, 3)) (d7 : decode cc (pc + 7) = .ok (.invokespecial ic, 3)) (d10 : decode cc (pc + 10) = .ok (.athrow, 1))
    (hout : ∀ x ∈ c.exceptionTable.toList, covers x (pc + 10) = false)
    (hRframes : names.length + 3 < R.frames) (hRlocals : (rest.map fun v => v.category).sum + (13 * (names.length + 1) + 43) ≤ R.locals) (hRcells : cells + 1 ≤ R.cells) (hRslots : slots + 6 ≤ R.slots) (hlocks : meth.locks = false)
    (hx : ∀ t : State, s.vm.Alike t.vm → H.size ≤ t.heap.size → (∀ q : Nat, q < H.size → t.heap[q]? = H[q]?) → XC cls s t)
    (hf : ∀ z ∈ locs, free z.base) (hc : cells + 1 ≤ mc) (hs : slots + 6 ≤ ms) :
    W p l e R s m args below meth c H locs cells slots (vx_MQ below Qc XC args s mc ms free) (F0 m pc ls rest) := by
  intro T hT X
  have htr : e.platform.stackTraces = false := (show e.platform.stackTraces = l.stackTraces by rw [X.admits.platform]).trans hl
  have Y := vx_rebase X (R' := { frames := R.frames, locals := R.locals, cells := 1, slots := 6 }) (Nat.le_refl _) (Nat.le_refl _) hRcells hRslots
  obtain ⟨s', hA⟩ : ∃ z, z = (T.setVm s.vm).setFrames (.invoking m args :: below) := ⟨_, rfl⟩
  rw [← hA] at Y
  have hvm : s'.vm = s.vm := by rw [hA]; rfl
  have hhp : s'.heap = H := by rw [hA]; exact hT
  have hW0 : s.WarmedH s'.vm := by rw [hvm]; exact State.WarmedH.refl s
  have hat' : ∀ w ∈ vx_atS own ic cls names, w.before args s' = true := fun w hw => vx_ot_at hW0 hvm.symm (hgood w (List.mem_cons_of_mem _ (List.mem_cons_of_mem _ hw))) (hat w hw)
  have hk' : (Cond.classLink own ik cls).before args s' = true := vx_ot_at hW0 hvm.symm (hgood _ List.mem_cons_self) hk
  have hini' : (Cond.initialized cls).before args s' = true := vx_ot_at hW0 hvm.symm (hgood _ (List.mem_cons_of_mem _ List.mem_cons_self)) hini
  have hU' : vx_Zq Bundle.tN "UNASSIGNED_STACK" Bundle.steD A s' s'.heap := by rw [hhp]; exact vx_Zq.moved hW0.alike (hU.kept hS.2.1)
  have hN' : vx_Zq Bundle.tN "SUPPRESSED_SENTINEL" Bundle.listD A s' s'.heap := by rw [hhp]; exact vx_Zq.moved hW0.alike (hN.kept hS.2.1)
  have h : ∀ w ∈ Bundle.ownAtoms own ic cls names, w.before args s' = true := vx_own hat' (vx_isRefq hU'.1) (vx_isRefq hN'.1) hU'.2.word hN'.2.word
  have hown' : s'.vm.findClass own = some m.cls := by rw [hvm]; exact hown
  have hins : (Cond.instantiable cls 6).before args s' = true := h _ (by simp [Bundle.ownAtoms])
  obtain ⟨vm₁, cX, kX, hfX, hkX, -, -, X₁, st1⟩ := Y.newCold hexec (own := own) (C := cls) (index := ik) (n := 6) hown' hk' hins hini'
    (g := F0 m pc ls rest) rfl (by rw [hb]; exact d0) (Nat.le_refl _) (Nat.le_refl _)
  generalize hT1 : (T.setVm vm₁).pushCell { cls := cX, slots := kX.instanceTypes.map defaultValue, vm := .none } = T1 at X₁ st1
  have hcat : (Value.ref T.heap.size).category = 1 := rfl
  have hcellA : T1.heap[T.heap.size]? = some (freshCell cX kX) := by rw [← hT1]; exact State.heap_pushCell_size _ _
  have d3' : decode c.code (pc + 3) = .ok (.dup, 1) := by rw [hb]; exact d3
  have d4' : decode c.code (pc + 4) = .ok (.ldc_w is, 3) := by rw [hb]; exact d4
  have hstr' : vk_R own is text sa s' := vk_R.warm hW0 hstr
  obtain ⟨U, hsteps, hrun, hend, hW, hsame, ce, hce, hO⟩ := X₁.ctorThrowS hexec htr (own := own) (cls := cls) (names := names) (ic := ic) hown' hcls hnames h (fun x hx => nomatch hx) hfX hkX hcellA (by rw [hhp, hT]; exact Nat.le_refl _) (msg := .ref sa) rfl
    (g := { method := m, pc := pc + 7, locals := ls, stack := .ref sa :: .ref T.heap.size :: .ref T.heap.size :: rest, locked := none }) rfl hsize rfl rfl (rest := rest) rfl
    (by rw [hb]; exact d7) (by rw [hb]; exact d10) hout hRframes (by simp only [List.map_cons, List.sum_cons, hcat]; omega) hlocks
  obtain ⟨f1, f2⟩ := vx_frame hsame
  rw [hhp] at f1 f2
  have hWs : s.WarmedH U.vm := State.WarmedH.trans hW0 hW
  have hcl : s.vm.findClass cls = some ce.cls := by
    have h9 := hO.cls
    rw [hvm] at h9
    exact h9
  have hall : s.sameButNew ({ U with vm := s.vm } : State) locs mc ms := by
    subst hA
    obtain ⟨e1, e2⟩ := hsame
    rw [State.setFrames_setFrames] at e1
    have h2 : (T.setVm s.vm).sameButNew ({ U with vm := s.vm } : State) [] (0 + 1) (0 + 6) := ⟨e1, e2⟩
    have h3 := X.same.trans h2
    rw [List.append_nil] at h3
    exact h3.mono hc hs
  refine ⟨U, ?_, .threw T.heap.size, hrun, hend, Or.inr ⟨T.heap.size, rfl, cls, ce, locs, hx U hWs.alike f1 (fun q hq => f2 q hq (fun z hz => nomatch hz)), hce, hO.vm, hcl, hWs, hall, hf⟩⟩
  refine st1 _ ?_
  show Steps p.tables e below (T1.setTop { method := m, pc := pc + 3, locals := ls, stack := .ref T.heap.size :: rest, locked := none }) _
  jvm_step X₁.here [X₁.here.top, hexec, d3', Value.category]
  exact X₁.ldcStringW hexec (own := own) (text := text) (index := is) (a := sa) hown' hstr'.1 hstr'.2
    (g := { method := m, pc := pc + 4, locals := ls, stack := .ref T.heap.size :: .ref T.heap.size :: rest, locked := none }) rfl d4' _ hsteps
end Ends
section Bodies
variable {l : Launch}
theorem vx_ofW {y : MethodName} {ws ws' : List Cond} {rm : Room} {Pc : Array Value → State → Prop} {Qc : Array Value → State → Outcome → State → Prop} {XC : String → State → State → Prop} {mc ms : Nat} {free : Addr → Prop} {cc : ByteArray} {maxL : Nat} {ret : Option FieldType}
    (hy : plainName y.cls = true) (hw : ws = Cond.code y cc maxL ret :: ws')
    (body : ∀ p e s m args below meth c s₁, BodyLoose p l y (headSpec ws rm) cc maxL ret e s m args below meth c s₁ → c.maxLocals = maxL → (∀ x ∈ c.exceptionTable.toList, False) → Pc args s →
      W p l e (headSpec ws rm).room s m args below meth c s.heap [] 0 0 (vx_MQ below Qc XC args s mc ms free) (entryFrame m args maxL)) : vx_Met l y ws rm Pc Qc XC mc ms free := by
  refine MetFree.of_bodyS (code := cc) (maxLocals := maxL) (ret := ret) hy ?_ ?_
  · intro args s m h hn
    obtain ⟨meth, c, h1, h2, h3, h4, h5, h6, -, -⟩ := Cond.code_spec hn (atoms_spec (ws := ws) h _ (by rw [hw]; exact List.mem_cons_self))
    exact ⟨meth, c, h1, h2, h3, h4, h5, h6⟩
  · intro p e s m args below meth c s₁ B hml hP _
    have hh0 : s₁.heap = s.heap := by rw [B.state]; rfl
    have ht : ∀ x ∈ c.exceptionTable.toList, False := by
      obtain ⟨meth9, c9, h1, h2, -, -, -, -, h7, -⟩ := Cond.code_spec B.named (atoms_spec (ws := ws) B.pre _ (by rw [hw]; exact List.mem_cons_self))
      cases Option.some.inj (h1.symm.trans B.method)
      cases Option.some.inj (h2.symm.trans (Stand.of_body B).code)
      intro x hx
      rw [Array.isEmpty_iff.mp h7] at hx
      cases hx
    obtain ⟨t, a1, o, b1, b2, b3⟩ := body p e s m args below meth c s₁ B hml ht hP s₁ hh0 (Stand.of_body B)
    exact ⟨t, o, a1, b1, b2, b3⟩
/-- the table of a body with handlers -/
theorem vx_table {p : Program} {x y : MethodName} {S : Spec} {cc bytes : ByteArray} {maxL maxL' : Nat} {ret ret' : Option FieldType} {e : Env} {s s₁ : State} {m : MethodId} {args : Array Value} {below : List Frame} {meth : Method} {c : Code} {hh : List (Nat × Nat × Nat × Nat)}
    (B : BodyLoose p l y S cc maxL ret e s m args below meth c s₁) (h : (Cond.codeWith y bytes maxL' ret' hh).before args s = true) : c.exceptionTable.toList = tableOf hh := by
  obtain ⟨m9, meth9, c9, hn9, h1, h2, -, -, h6, -⟩ := Cond.codeWith_spec h
  cases Option.some.inj (hn9.symm.trans B.named)
  cases Option.some.inj (h1.symm.trans B.method)
  cases Option.some.inj (h2.symm.trans (Stand.of_body B).code)
  rw [← h6, table_eq]
end Bodies
end VXA
/-! ===== END ===== -/
/-! ===== BEGIN a static call of a method with an exception table ===== -/
section VXS
variable {p : Program} {l : Launch} {e : Env} {R : Room} {s : State} {m : MethodId} {args : Array Value} {below : List Frame} {meth : Method} {c : Code} {T : State} {H : Heap} {locs : List Loc} {cells slots : Nat}
abbrev vx_CSW (R : Room) (s : State) (args : Array Value) (own : String) (index : Nat) (y : MethodName) (bytes : ByteArray) (maxL : Nat) (ret : Option FieldType) (hh : List (Nat × Nat × Nat × Nat)) (ws : List Cond) (rm : Room) (mc ms n : Nat) : Prop :=
  (rm.cells = mc ∧ rm.slots = ms ∧ rm.frames + 1 ≤ R.frames ∧ 8 + (maxL + 11) + rm.locals ≤ R.locals ∧ (∀ w ∈ ws, ∀ (a' : Array Value) (U : State), s.WarmedH U.vm → w.before a' U = true) ∧ Cond.codeWith y bytes maxL ret hh ∈ ws) ∧
  (Cond.codeWith y bytes maxL ret hh).before args s = true ∧ (Cond.initialized y.cls).before args s = true ∧ (y.cls ≠ "java/lang/invoke/MethodHandle" ∧ y.cls ≠ "java/lang/invoke/VarHandle") ∧
  (∀ sig, parseMethodDescriptor y.desc = some sig → n = sig.parameters.length) ∧ (Cond.methodLink own index y).before args s = true ∧ (Cond.static y).before args s = true
theorem vx_cwSW {own : String} {index maxL mc ms : Nat} {y : MethodName} {bytes : ByteArray} {ret : Option FieldType} {hh : List (Nat × Nat × Nat × Nat)} {Ts ws ws' : List Cond} {rm : Room} (n : Nat) (ht : ∀ w ∈ Ts, w.before args s = true) (hT : GoodIn Ts (va_wsS own index y ws)) (hw : ws = Cond.codeWith y bytes maxL ret hh :: ws') (hrc : rm.cells = mc) (hrs : rm.slots = ms)
    (hd : y.cls ≠ "java/lang/invoke/MethodHandle" ∧ y.cls ≠ "java/lang/invoke/VarHandle" ∧ (parseMethodDescriptor y.desc).map (fun d => d.parameters.length) = some n) (hR : rm.frames + 1 ≤ R.frames ∧ 8 + (maxL + 11) + rm.locals ≤ R.locals) :
    vx_CSW R s args own index y bytes maxL ret hh ws rm mc ms n := by
  have ok : ∀ w ∈ va_wsS own index y ws, w.before args s = true := fun w h => ht w (hT w h).1
  have hG : GoodIn Ts ws := fun w h => hT w (by unfold va_wsS; exact List.mem_append_right _ h)
  have hc : Cond.codeWith y bytes maxL ret hh ∈ ws := by rw [hw]; exact List.mem_cons_self
  refine ⟨⟨hrc, hrs, hR.1, hR.2, pay_in ht hG, hc⟩, ht _ (hG _ hc).1, ok _ (by simp [va_wsS]), ⟨hd.1, hd.2.1⟩, fun sig h => ?_, ok _ (by simp [va_wsS]), ok _ (by simp [va_wsS])⟩
  have h2 := hd.2.2
  rw [h] at h2
  exact (Option.some.inj h2).symm
theorem vx_callSW (X : Stand p l e R s m args below meth c T locs cells slots) (hexec : p.tables.exec = Jvm.exec) {own : String} {index : Nat} {y : MethodName} {bytes : ByteArray} {maxL : Nat} {ret : Option FieldType} {hh : List (Nat × Nat × Nat × Nat)}
    (hown : s.vm.findClass own = some m.cls) (hlink : (Cond.methodLink own index y).before args s = true) (hstat : (Cond.static y).before args s = true) (hinit : (Cond.initialized y.cls).before args s = true)
    (hcode : (Cond.codeWith y bytes maxL ret hh).before args s = true) (hy : y.cls ≠ "java/lang/invoke/MethodHandle" ∧ y.cls ≠ "java/lang/invoke/VarHandle")
    {W9 : Nat} {Pre : Pt → Array Value → Prop} {Post : Pt → Array Value → Option Value → Pt → Prop} (hK : Back l R p e below s args y 3 W9 Pre Post)
    {g : JFrame} (hg : g.method = m) (hsize : g.locals.size = c.maxLocals) {argsL rest : List Value} (hlen : ∀ sig, parseMethodDescriptor y.desc = some sig → argsL.length = sig.parameters.length)
    (hstack : g.stack = argsL.reverse ++ rest) (hW : 2 * g.monitorRoom + (rest.map fun v => v.category).sum ≤ W9) (hdg : decode c.code g.pc = .ok (.invokestatic index, 3))
    (hpre : ∀ vm₁, s.WarmedH vm₁ → Pre ⟨T.setVm vm₁, locs, cells, slots⟩ argsL.toArray) :
    ∃ (v : Option Value) (vm₁ : Vm) (B : Pt), s.WarmedH vm₁ ∧ Stand p l e R s m args below meth c B.U B.locs B.cells B.slots ∧ Post ⟨T.setVm vm₁, locs, cells, slots⟩ argsL.toArray v B ∧
      ∀ target, Steps p.tables e below (B.U.setTop { g with pc := g.pc + 3, stack := v.toList ++ rest }) target → Steps p.tables e below (T.setTop g) target := by
  obtain ⟨mk, methM, cM, hnamed, hmethM, -, -, -, -, -, -, hsigM⟩ := Cond.codeWith_spec hcode
  have hstatic : methM.isStatic = true := Cond.static_spec hnamed hmethM hstat
  obtain ⟨kP, hkP, -⟩ := className_of_methodNamed hnamed
  have hinitP : kP.init = .initialized := Cond.initialized_spec (findClass_of_methodNamed hnamed) hkP hinit
  obtain ⟨vm₁, X₁, hstep₁⟩ := X.invokestatic hexec hown hlink hnamed hmethM hstatic hkP hinitP hy (g := g) hg (argsL := argsL) (rest := rest) (hlen _ hsigM) hstack hdg
  obtain ⟨v, B, X', hpost, hsteps⟩ := hK m meth c ⟨T.setVm vm₁, locs, cells, slots⟩ { g with stack := rest } (.invokestatic index) mk argsL.toArray X₁ hg hsize hdg hW (X₁.named hnamed) (hpre vm₁ X₁.warmed)
  exact ⟨v, vm₁, B, X₁.warmed, X', hpost, fun target h => hstep₁ _ fun acts => by rw [doInvoke_state]; exact hsteps.trans h⟩
theorem vx_runSW {y : MethodName} {bytes cc : ByteArray} {maxL nL mc ms n index : Nat} {ret : Option FieldType} {hh : List (Nat × Nat × Nat × Nat)} {ws : List Cond} {rm : Room} {Pc : Array Value → State → Prop} {Qc : Array Value → State → Outcome → State → Prop} {free : Addr → Prop} {Ts : List Cond} {own : String} {As rest : List Value} {g : JFrame}
    (S : CallFix p m c cc nL s args Ts own) (hM : Met l y ws rm Pc Qc mc ms free) (cw : vx_CSW R s args own index y bytes maxL ret hh ws rm mc ms n) (hp : PreS s H Pc As)
    (hg : g.method = m) (hn : As.length = n) (hsize : g.locals.size = nL) (hstack : g.stack = As.reverse ++ rest) (hW : 2 * g.monitorRoom + (rest.map fun v => v.category).sum ≤ 8) (hdg : decode cc g.pc = .ok (.invokestatic index, 3)) (hf : cells + mc ≤ R.cells ∧ slots + ms ≤ R.slots) :
    va_Run p l e R s m args below meth c H locs cells slots mc ms g rest (Qc As.toArray) (free) := by
  obtain ⟨⟨hrc, hrs, hfr, hlo, hws, hcw⟩, hcode, hini, hy, hlen, hl, hstt⟩ := cw
  have hK : Back l R p e below s args y 3 8 (PreOf R mc ms Pc) (PostOf Qc mc ms free) := va_backW (hh := hh) (bytes := bytes) (maxL := maxL) (ret := ret) hM hp.1 hrc hrs hfr hlo hws hcw (fun a' U hW => word_at hW (Or.inl (by first | rfl | simp [Cond.onTables, Cond.keeps, Cond.steady])) hini)
  obtain ⟨hx, hb, hml, ho, -⟩ := S
  intro T hT X
  obtain ⟨v, vm₁, ⟨U', l2, c2, s2⟩, hW₁, X', ⟨g', mk, t, L, e1, e2, hq, h1, hL, h2, h3⟩, st⟩ := vx_callSW X hx (hh := hh) (bytes := bytes) (maxL := maxL) (ret := ret) ho hl hstt hini hcode hy hK hg (hsize.trans hml.symm) (argsL := As) (rest := rest) (fun sig h => hn.trans (hlen sig h)) hstack hW (by rw [hb]; exact hdg)
    (fun vm₁ hW₁ => ⟨hf.1, hf.2, hp.2 (T.setVm vm₁) hT hW₁⟩)
  dsimp only [Pt.U, Pt.locs, Pt.cells, Pt.slots] at X' e1 e2 h1 h2 h3 st
  subst h1; subst h2; subst h3
  exact ⟨v, (T.setVm vm₁).calling g' mk As.toArray, t, U', L, hT, X', hL, e1, e2, hq, st⟩
/-- not caught here, past rows that name other classes: it goes on to the caller -/
theorem vx_outP {p : Program} {l : Launch} {e : Env} {R : Room} {s : State} {m : MethodId} {args : Array Value} {below : List Frame} {meth : Method} {c : Code} {H : Heap} {locs : List Loc} {cells slots : Nat} {free : Addr → Prop} {ls : Array Slot} {rest : List Value} {Qc : Array Value → State → Outcome → State → Prop} {XC : String → State → State → Prop}
    {pc : Nat} {own E : String} {ce : Cell} {q : Addr} {mc ms : Nat} (hown : s.vm.findClass own = some m.cls) (hlocks : meth.locks = false)
    (hpass : ∀ z ∈ c.exceptionTable.toList, covers z pc = false ∨ (z.catchType ≠ 0 ∧ ∃ nm : String, (Cond.classLink own z.catchType nm).before args s = true ∧ va_Nc E nm s)) (hcell : H[q]? = some ce) (hv : ce.vm = .none) (hcl : s.vm.findClass E = some ce.cls)
    (hx : ∀ t : State, t.heap = H → s.vm.Alike t.vm → XC E s t) (hf : ∀ z ∈ locs, free z.base) (hc : cells ≤ mc) (hs : slots ≤ ms) :
    vx_W p l e R s m args below meth c H locs cells slots (vx_MQ below Qc XC args s mc ms free) (F0 m pc ls rest) q := by
  sorry
/-- a thing of a world lies in the heap -/
theorem vx_lt {D : va_G} {cl : List vw_C} {ws : va_W} {H1 : Heap} (h : va_P D cl ws H1) {k : Nat} {q : Nat × va_E} (hk : ws[k]? = some q) : q.1 < H1.size := (h k q hk).lt
end VXS
/-! ===== END ===== -/
/-! ===== BEGIN methods with a table of their own: called by a name, returning or throwing ===== -/
section VXH
/-! vx_backW, vx_callVX, vx_callSX, vx_callVW, vx_runVW, vx_runVX, vx_runSX, vx_ofWH follow the same proofs as their sisters above (Free/Laws.lean, Shelf42/LK1.lean); vx_outP calls Shelf42/NT130.lean (outThrough). -/
section
variable {l : Launch} {R : Room} {p : Program} {e : Env} {below : List Frame} {s : State} {sargs : Array Value} {y : MethodName} {len W9 : Nat}
theorem vx_backW {ws : List Cond} {rm : Room} {Pc : Array Value → State → Prop} {Qc : Array Value → State → Outcome → State → Prop} {XC : String → State → State → Prop} {mc ms : Nat} {free : Addr → Prop} {bytes : ByteArray} {maxL : Nat} {ret : Option FieldType} {hh : List (Nat × Nat × Nat × Nat)}
    (hM : vx_Met l y ws rm Pc Qc XC mc ms free) (hblind : FrameBlind Pc) (hrc : rm.cells = mc) (hrs : rm.slots = ms)
    (hframes : rm.frames + 1 ≤ R.frames) (hlocals : W9 + (maxL + 11) + rm.locals ≤ R.locals)
    (hws : ∀ w ∈ ws, ∀ a' U, s.WarmedH U.vm → w.before a' U = true) (hcode : Cond.codeWith y bytes maxL ret hh ∈ ws) (hinit : ∀ a' U, s.WarmedH U.vm → (Cond.initialized y.cls).before a' U = true) :
    vx_Back l R p e below s sargs y len W9 (PreOf R mc ms Pc) (PostOf Qc mc ms free) (vx_Post XC mc ms free) := by
  intro m meth c A g ig mk a X hg hsize hdg hW hn hp
  have h1 : (headSpec ws rm).pre.before a A.U = true := atoms_intro fun w hw => hws w hw _ _ X.warmed
  have h2 : (Cond.codeWith y bytes maxL ret hh).before a A.U = true := hws _ hcode _ _ X.warmed
  have h3 : (Cond.initialized y.cls).before a A.U = true := hinit _ _ X.warmed
  have h4 : A.cells + (headSpec ws rm).room.cells ≤ R.cells := by rw [show (headSpec ws rm).room.cells = mc from hrc]; exact hp.1
  have h5 : A.slots + (headSpec ws rm).room.slots ≤ R.slots := by rw [show (headSpec ws rm).room.slots = ms from hrs]; exact hp.2.1
  have hPc : Pc a (A.U.calling g mk a) := hblind _ _ _ _ hp.2.2
  obtain ⟨U, Ls, c0, s0⟩ := A
  dsimp only [Pt.U, Pt.locs, Pt.cells, Pt.slots] at h1 h2 h3 h4 h5 X hn hPc ⊢
  obtain ⟨m9, methY, cY, hn9, hmY, hcY, -, hlY, -⟩ := Cond.codeWith_spec h2
  cases Option.some.inj (hn9.symm.trans hn)
  obtain ⟨kY, hkY, -⟩ := className_of_methodNamed hn
  have hinitY : kY.init = .initialized := Cond.initialized_spec (findClass_of_methodNamed hn) hkY h3
  have h : At U g.method c below := by rw [hg]; exact X.here
  have hlocals9 : W9 + (maxL + 11) + (headSpec ws rm).room.locals ≤ R.locals := hlocals
  have happ : (headSpec ws rm).appliesLoose y e.platform (U.calling g mk a) = true :=
    Spec.appliesLoose_calling (g := g) h hdg hn hkY hinitY
      (X.room_calling (g := g) (R' := (headSpec ws rm).room) hsize hmY hcY hframes (by rw [hlY]; omega) h4 h5) h1
  obtain ⟨mid, hmid⟩ := h.above
  have hfr : (U.setTop g).frames = (.java g :: mid) ++ below := by rw [State.frames_setTop' g h.top, hmid]; rfl
  obtain ⟨o, s₂, hsteps, -, hend, hq⟩ := Steps.callFree hM p X.admits X.cas X.clock (acts := []) hfr happ hPc trivial
  have hq' : vx_Q Qc XC mc ms free a (U.calling g mk a) o s₂ := hq
  rw [State.frames_setTop' g h.top] at hend
  obtain ⟨g₀, hg0⟩ := Option.isSome_iff_exists.mp h.top
  obtain ⟨r, hr⟩ := State.topJava?_eq_some.mp hg0
  have hr' : (({ U with heap := s₂.heap, slotsUsed := s₂.slotsUsed } : State).setVm s₂.vm).frames = .java g₀ :: r := hr
  rcases hq' with ⟨hqc, L, hfe, hL⟩ | ⟨q, rfl, E, ce, L, hx, hce, hcv, hcl, hW₂, hsm, hL⟩
  · obtain ⟨⟨v, rfl⟩, hW₂, e2, q2, q3, q4, q5, q6⟩ := id hfe
    have e3 : s₂ = ({ (U.calling g mk a).setFrames s₂.frames with heap := s₂.heap, slotsUsed := s₂.slotsUsed } : State).setVm s₂.vm := by
      have : s₂ = ({ s₂ with vm := (U.calling g mk a).vm } : State).setVm s₂.vm := rfl
      rw [e2] at this
      exact this
    obtain ⟨c₂, i₂, len₂, hc₂, hd₂, hf₂⟩ := hend
    have hW' : U.WarmedH s₂.vm := hW₂
    have hcc : c₂ = c := by
      have h1 : s₂.code? g.method = U.code? g.method := by
        rw [State.code?_eq, State.code?_eq, hW'.alike.method?]
      exact Option.some.inj (hc₂.symm.trans (h1.trans h.code))
    subst hcc
    have hlen : len₂ = len := by rw [hdg] at hd₂; cases hd₂; rfl
    subst hlen
    have hs₂ : s₂ = (({ U with heap := s₂.heap, slotsUsed := s₂.slotsUsed } : State).setVm s₂.vm).setTop { g with pc := g.pc + len₂, stack := v.toList ++ g.stack } := by
      refine e3.trans ?_
      rw [hf₂, State.calling_eq h.top, State.setFrames_setFrames, State.setTop_of_frames _ hr', hr]
      rfl
    have hsame : U.sameButNew ({ U with heap := s₂.heap, slotsUsed := s₂.slotsUsed } : State) L mc ms := by
      refine ⟨?_, q2, q3, q4, q5, q6⟩
      obtain ⟨t, ht, -⟩ := State.frames_cons hr
      show ({ U with heap := s₂.heap, slotsUsed := s₂.slotsUsed } : State) = { U.setFrames U.frames with heap := s₂.heap, slotsUsed := s₂.slotsUsed }
      rw [State.setFrames_self ht]
    subst hg
    refine Or.inl ⟨v, ⟨(({ U with heap := s₂.heap, slotsUsed := s₂.slotsUsed } : State).setVm s₂.vm), Ls ++ L, c0 + mc, s0 + ms⟩,
      ⟨X.admits, X.cas, X.clock, X.frames, X.room, X.hears, X.method, X.code, (X.here.setHeapUsed s₂.heap s₂.slotsUsed).setVm hW'.alike, X.tail, State.WarmedH.trans X.warmed hW', X.limits, X.bytes, X.same.trans (hsame.setVm s.vm)⟩,
      ⟨g, mk, s₂, L, rfl, rfl, hqc, rfl, hL, rfl, rfl⟩, ?_⟩
    show Steps p.tables e below _ ((({ U with heap := s₂.heap, slotsUsed := s₂.slotsUsed } : State).setVm s₂.vm).setTop { g with pc := g.pc + len₂, stack := v.toList ++ g.stack })
    rw [← hs₂]
    exact hsteps
  · obtain ⟨e2, q2, q3, q4, q5, q6⟩ := id hsm
    have e3 : s₂ = ({ (U.calling g mk a).setFrames s₂.frames with heap := s₂.heap, slotsUsed := s₂.slotsUsed } : State).setVm s₂.vm := by
      have : s₂ = ({ s₂ with vm := (U.calling g mk a).vm } : State).setVm s₂.vm := rfl
      rw [e2] at this
      exact this
    have hf₂ : s₂.frames = .throwing q :: .java g :: U.frames.tail := hend
    have hW' : U.WarmedH s₂.vm := hW₂
    have hs₂ : s₂ = ((({ U with heap := s₂.heap, slotsUsed := s₂.slotsUsed } : State).setVm s₂.vm).setTop g).pushFrame (.throwing q) := by
      refine e3.trans ?_
      rw [hf₂, State.calling_eq h.top, State.setFrames_setFrames, State.pushFrame, State.frames_setTop _ hr', State.setTop_of_frames _ hr', State.setFrames_setFrames, hr]
      rfl
    have hsame : U.sameButNew ({ U with heap := s₂.heap, slotsUsed := s₂.slotsUsed } : State) L mc ms := by
      refine ⟨?_, q2, q3, q4, q5, q6⟩
      obtain ⟨t, ht, -⟩ := State.frames_cons hr
      show ({ U with heap := s₂.heap, slotsUsed := s₂.slotsUsed } : State) = { U.setFrames U.frames with heap := s₂.heap, slotsUsed := s₂.slotsUsed }
      rw [State.setFrames_self ht]
    subst hg
    refine Or.inr ⟨q, ⟨(({ U with heap := s₂.heap, slotsUsed := s₂.slotsUsed } : State).setVm s₂.vm), Ls ++ L, c0 + mc, s0 + ms⟩,
      ⟨X.admits, X.cas, X.clock, X.frames, X.room, X.hears, X.method, X.code, (X.here.setHeapUsed s₂.heap s₂.slotsUsed).setVm hW'.alike, X.tail, State.WarmedH.trans X.warmed hW', X.limits, X.bytes, X.same.trans (hsame.setVm s.vm)⟩,
      ⟨g, mk, s₂, L, E, ce, rfl, rfl, hx, hce, hcv, hcl, rfl, hL, rfl, rfl⟩, ?_⟩
    show Steps p.tables e below _ (((({ U with heap := s₂.heap, slotsUsed := s₂.slotsUsed } : State).setVm s₂.vm).setTop g).pushFrame (.throwing q))
    rw [← hs₂]
    exact hsteps
end
variable {p : Program} {l : Launch} {e : Env} {R : Room} {s : State} {m : MethodId} {args : Array Value} {below : List Frame} {meth : Method} {c : Code} {T : State} {H : Heap} {locs : List Loc} {cells slots : Nat}
theorem vx_callVX (X : Stand p l e R s m args below meth c T locs cells slots) (hexec : p.tables.exec = Jvm.exec) {own C : String} {index : Nat} {y : MethodName} {bytes : ByteArray} {maxL : Nat} {ret : Option FieldType} {hh : List (Nat × Nat × Nat × Nat)}
    (hown : s.vm.findClass own = some m.cls) (hlink : (Cond.methodLink own index y).before args s = true) (hinst : (Cond.instanceMethod y).before args s = true) (hsel : (Cond.selects C y y).before args s = true)
    (hcode : (Cond.codeWith y bytes maxL ret hh).before args s = true) (hy : y.cls ≠ "java/lang/invoke/MethodHandle" ∧ y.cls ≠ "java/lang/invoke/VarHandle")
    {W9 : Nat} {Pre : Pt → Array Value → Prop} {Post : Pt → Array Value → Option Value → Pt → Prop} {PostX : Pt → Array Value → Addr → Pt → Prop} (hK : vx_Back l R p e below s args y 3 W9 Pre Post PostX)
    {b : Addr} {cellB : Cell} (hcell : T.heap[b]? = some cellB) (hobj : cellB.vm.isStatics = false) (hcls : s.vm.findClass C = some cellB.cls)
    {g : JFrame} (hg : g.method = m) (hsize : g.locals.size = c.maxLocals) {argsL rest : List Value} (hlen : ∀ sig, parseMethodDescriptor y.desc = some sig → argsL.length = sig.parameters.length)
    (hstack : g.stack = argsL.reverse ++ .ref b :: rest) (hW : 2 * g.monitorRoom + (rest.map fun v => v.category).sum ≤ W9) (hdg : decode c.code g.pc = .ok (.invokevirtual index, 3))
    (hpre : ∀ vm₁, s.WarmedH vm₁ → Pre ⟨T.setVm vm₁, locs, cells, slots⟩ (Value.ref b :: argsL).toArray) :
    (∃ (v : Option Value) (vm₁ : Vm) (B : Pt), s.WarmedH vm₁ ∧ Stand p l e R s m args below meth c B.U B.locs B.cells B.slots ∧ Post ⟨T.setVm vm₁, locs, cells, slots⟩ (Value.ref b :: argsL).toArray v B ∧
      ∀ target, Steps p.tables e below (B.U.setTop { g with pc := g.pc + 3, stack := v.toList ++ rest }) target → Steps p.tables e below (T.setTop g) target) ∨
    (∃ (q : Addr) (vm₁ : Vm) (B : Pt), s.WarmedH vm₁ ∧ Stand p l e R s m args below meth c B.U B.locs B.cells B.slots ∧ PostX ⟨T.setVm vm₁, locs, cells, slots⟩ (Value.ref b :: argsL).toArray q B ∧
      Steps p.tables e below (T.setTop g) ((B.U.setTop { g with stack := rest }).pushFrame (.throwing q))) := by
  obtain ⟨mk, methM, hnamed, hmethM, hstM, habM⟩ := Cond.instanceMethod_spec hinst
  obtain ⟨m8, methM', cM, hn8, hmethM', -, -, -, -, -, -, hsigM⟩ := Cond.codeWith_spec hcode
  cases Option.some.inj (hn8.symm.trans hnamed)
  cases hmethM.symm.trans hmethM'
  obtain ⟨c2, r2, m2, q1, q2, q3, q4, kP, hkP, hkPi⟩ := Cond.selects_spec hsel
  cases hcls.symm.trans q1
  cases (State.methodFound?_of_named hnamed hy).symm.trans q2
  cases hnamed.symm.trans q3
  have hselP : selectMethod e.platform s.vm cellB.cls mk = .method mk := by rw [Launch.admits_selectMethod X.admits]; exact q4
  obtain ⟨vm₁, X₁, hstep₁⟩ := X.invokevirtual hexec hown hlink hnamed hmethM hstM hkP hkPi hy (a := b) (cell := cellB) hcell
    (fun z h => by rw [h] at hobj; cases hobj) hselP hmethM habM hkP hkPi (g := g) hg (argsL := argsL) (rest := rest) (hlen _ hsigM) hstack hdg
  rcases hK m meth c ⟨T.setVm vm₁, locs, cells, slots⟩ { g with stack := rest } (.invokevirtual index) mk (Value.ref b :: argsL).toArray X₁ hg hsize hdg hW (X₁.named hnamed) (hpre vm₁ X₁.warmed) with ⟨v, B, X', hpost, hsteps⟩ | ⟨q, B, X', hpost, hsteps⟩
  · exact Or.inl ⟨v, vm₁, B, X₁.warmed, X', hpost, fun target h => hstep₁ _ fun acts => by rw [doInvoke_state]; exact hsteps.trans h⟩
  · exact Or.inr ⟨q, vm₁, B, X₁.warmed, X', hpost, hstep₁ _ fun acts => by rw [doInvoke_state]; exact hsteps⟩
theorem vx_callSX (X : Stand p l e R s m args below meth c T locs cells slots) (hexec : p.tables.exec = Jvm.exec) {own : String} {index : Nat} {y : MethodName} {bytes : ByteArray} {maxL : Nat} {ret : Option FieldType} {hh : List (Nat × Nat × Nat × Nat)}
    (hown : s.vm.findClass own = some m.cls) (hlink : (Cond.methodLink own index y).before args s = true) (hstat : (Cond.static y).before args s = true) (hinit : (Cond.initialized y.cls).before args s = true)
    (hcode : (Cond.codeWith y bytes maxL ret hh).before args s = true) (hy : y.cls ≠ "java/lang/invoke/MethodHandle" ∧ y.cls ≠ "java/lang/invoke/VarHandle")
    {W9 : Nat} {Pre : Pt → Array Value → Prop} {Post : Pt → Array Value → Option Value → Pt → Prop} {PostX : Pt → Array Value → Addr → Pt → Prop} (hK : vx_Back l R p e below s args y 3 W9 Pre Post PostX)
    {g : JFrame} (hg : g.method = m) (hsize : g.locals.size = c.maxLocals) {argsL rest : List Value} (hlen : ∀ sig, parseMethodDescriptor y.desc = some sig → argsL.length = sig.parameters.length)
    (hstack : g.stack = argsL.reverse ++ rest) (hW : 2 * g.monitorRoom + (rest.map fun v => v.category).sum ≤ W9) (hdg : decode c.code g.pc = .ok (.invokestatic index, 3))
    (hpre : ∀ vm₁, s.WarmedH vm₁ → Pre ⟨T.setVm vm₁, locs, cells, slots⟩ argsL.toArray) :
    (∃ (v : Option Value) (vm₁ : Vm) (B : Pt), s.WarmedH vm₁ ∧ Stand p l e R s m args below meth c B.U B.locs B.cells B.slots ∧ Post ⟨T.setVm vm₁, locs, cells, slots⟩ argsL.toArray v B ∧
      ∀ target, Steps p.tables e below (B.U.setTop { g with pc := g.pc + 3, stack := v.toList ++ rest }) target → Steps p.tables e below (T.setTop g) target) ∨
    (∃ (q : Addr) (vm₁ : Vm) (B : Pt), s.WarmedH vm₁ ∧ Stand p l e R s m args below meth c B.U B.locs B.cells B.slots ∧ PostX ⟨T.setVm vm₁, locs, cells, slots⟩ argsL.toArray q B ∧
      Steps p.tables e below (T.setTop g) ((B.U.setTop { g with stack := rest }).pushFrame (.throwing q))) := by
  obtain ⟨mk, methM, cM, hnamed, hmethM, -, -, -, -, -, -, hsigM⟩ := Cond.codeWith_spec hcode
  have hstatic : methM.isStatic = true := Cond.static_spec hnamed hmethM hstat
  obtain ⟨kP, hkP, -⟩ := className_of_methodNamed hnamed
  have hinitP : kP.init = .initialized := Cond.initialized_spec (findClass_of_methodNamed hnamed) hkP hinit
  obtain ⟨vm₁, X₁, hstep₁⟩ := X.invokestatic hexec hown hlink hnamed hmethM hstatic hkP hinitP hy (g := g) hg (argsL := argsL) (rest := rest) (hlen _ hsigM) hstack hdg
  rcases hK m meth c ⟨T.setVm vm₁, locs, cells, slots⟩ { g with stack := rest } (.invokestatic index) mk argsL.toArray X₁ hg hsize hdg hW (X₁.named hnamed) (hpre vm₁ X₁.warmed) with ⟨v, B, X', hpost, hsteps⟩ | ⟨q, B, X', hpost, hsteps⟩
  · exact Or.inl ⟨v, vm₁, B, X₁.warmed, X', hpost, fun target h => hstep₁ _ fun acts => by rw [doInvoke_state]; exact hsteps.trans h⟩
  · exact Or.inr ⟨q, vm₁, B, X₁.warmed, X', hpost, hstep₁ _ fun acts => by rw [doInvoke_state]; exact hsteps⟩
theorem vx_callVW (X : Stand p l e R s m args below meth c T locs cells slots) (hexec : p.tables.exec = Jvm.exec) {own C : String} {index : Nat} {y : MethodName} {bytes : ByteArray} {maxL : Nat} {ret : Option FieldType} {hh : List (Nat × Nat × Nat × Nat)}
    (hown : s.vm.findClass own = some m.cls) (hlink : (Cond.methodLink own index y).before args s = true) (hinst : (Cond.instanceMethod y).before args s = true) (hsel : (Cond.selects C y y).before args s = true)
    (hcode : (Cond.codeWith y bytes maxL ret hh).before args s = true) (hy : y.cls ≠ "java/lang/invoke/MethodHandle" ∧ y.cls ≠ "java/lang/invoke/VarHandle")
    {W9 : Nat} {Pre : Pt → Array Value → Prop} {Post : Pt → Array Value → Option Value → Pt → Prop} (hK : Back l R p e below s args y 3 W9 Pre Post)
    {b : Addr} {cellB : Cell} (hcell : T.heap[b]? = some cellB) (hobj : cellB.vm.isStatics = false) (hcls : s.vm.findClass C = some cellB.cls)
    {g : JFrame} (hg : g.method = m) (hsize : g.locals.size = c.maxLocals) {argsL rest : List Value} (hlen : ∀ sig, parseMethodDescriptor y.desc = some sig → argsL.length = sig.parameters.length)
    (hstack : g.stack = argsL.reverse ++ .ref b :: rest) (hW : 2 * g.monitorRoom + (rest.map fun v => v.category).sum ≤ W9) (hdg : decode c.code g.pc = .ok (.invokevirtual index, 3))
    (hpre : ∀ vm₁, s.WarmedH vm₁ → Pre ⟨T.setVm vm₁, locs, cells, slots⟩ (Value.ref b :: argsL).toArray) :
    ∃ (v : Option Value) (vm₁ : Vm) (B : Pt), s.WarmedH vm₁ ∧ Stand p l e R s m args below meth c B.U B.locs B.cells B.slots ∧ Post ⟨T.setVm vm₁, locs, cells, slots⟩ (Value.ref b :: argsL).toArray v B ∧
      ∀ target, Steps p.tables e below (B.U.setTop { g with pc := g.pc + 3, stack := v.toList ++ rest }) target → Steps p.tables e below (T.setTop g) target := by
  obtain ⟨mk, methM, hnamed, hmethM, hstM, habM⟩ := Cond.instanceMethod_spec hinst
  obtain ⟨m8, methM', cM, hn8, hmethM', -, -, -, -, -, -, hsigM⟩ := Cond.codeWith_spec hcode
  cases Option.some.inj (hn8.symm.trans hnamed)
  cases hmethM.symm.trans hmethM'
  obtain ⟨c2, r2, m2, q1, q2, q3, q4, kP, hkP, hkPi⟩ := Cond.selects_spec hsel
  cases hcls.symm.trans q1
  cases (State.methodFound?_of_named hnamed hy).symm.trans q2
  cases hnamed.symm.trans q3
  have hselP : selectMethod e.platform s.vm cellB.cls mk = .method mk := by rw [Launch.admits_selectMethod X.admits]; exact q4
  obtain ⟨vm₁, X₁, hstep₁⟩ := X.invokevirtual hexec hown hlink hnamed hmethM hstM hkP hkPi hy (a := b) (cell := cellB) hcell
    (fun z h => by rw [h] at hobj; cases hobj) hselP hmethM habM hkP hkPi (g := g) hg (argsL := argsL) (rest := rest) (hlen _ hsigM) hstack hdg
  obtain ⟨v, B, X', hpost, hsteps⟩ := hK m meth c ⟨T.setVm vm₁, locs, cells, slots⟩ { g with stack := rest } (.invokevirtual index) mk (Value.ref b :: argsL).toArray X₁ hg hsize hdg hW (X₁.named hnamed) (hpre vm₁ X₁.warmed)
  exact ⟨v, vm₁, B, X₁.warmed, X', hpost, fun target h => hstep₁ _ fun acts => by rw [doInvoke_state]; exact hsteps.trans h⟩
abbrev vx_CVW (R : Room) (s : State) (args : Array Value) (own C : String) (index : Nat) (y : MethodName) (bytes : ByteArray) (maxL : Nat) (ret : Option FieldType) (hh : List (Nat × Nat × Nat × Nat)) (ws : List Cond) (rm : Room) (mc ms n : Nat) : Prop :=
  (rm.cells = mc ∧ rm.slots = ms ∧ rm.frames + 1 ≤ R.frames ∧ 8 + (maxL + 11) + rm.locals ≤ R.locals ∧ (∀ w ∈ ws, ∀ (a' : Array Value) (U : State), s.WarmedH U.vm → w.before a' U = true) ∧ Cond.codeWith y bytes maxL ret hh ∈ ws) ∧
  (Cond.codeWith y bytes maxL ret hh).before args s = true ∧ (Cond.initialized y.cls).before args s = true ∧ (y.cls ≠ "java/lang/invoke/MethodHandle" ∧ y.cls ≠ "java/lang/invoke/VarHandle") ∧
  (∀ sig, parseMethodDescriptor y.desc = some sig → n = sig.parameters.length) ∧ (Cond.methodLink own index y).before args s = true ∧ (Cond.instanceMethod y).before args s = true ∧ (Cond.selects C y y).before args s = true
theorem vx_cwVW {own C : String} {index maxL mc ms : Nat} {y : MethodName} {bytes : ByteArray} {ret : Option FieldType} {hh : List (Nat × Nat × Nat × Nat)} {Ts ws ws' : List Cond} {rm : Room} (n : Nat) (ht : ∀ w ∈ Ts, w.before args s = true) (hT : GoodIn Ts (wsV own index C y ws)) (hw : ws = Cond.codeWith y bytes maxL ret hh :: ws') (hrc : rm.cells = mc) (hrs : rm.slots = ms)
    (hd : y.cls = C ∧ y.cls ≠ "java/lang/invoke/MethodHandle" ∧ y.cls ≠ "java/lang/invoke/VarHandle" ∧ (parseMethodDescriptor y.desc).map (fun d => d.parameters.length) = some n) (hR : rm.frames + 1 ≤ R.frames ∧ 8 + (maxL + 11) + rm.locals ≤ R.locals) :
    vx_CVW R s args own C index y bytes maxL ret hh ws rm mc ms n := by
  obtain ⟨hC, hd⟩ := hd
  subst hC
  have ok : ∀ w ∈ wsV own index y.cls y ws, w.before args s = true := fun w h => ht w (hT w h).1
  have hG : GoodIn Ts ws := fun w h => hT w (by unfold wsV; exact List.mem_append_right _ h)
  have hc : Cond.codeWith y bytes maxL ret hh ∈ ws := by rw [hw]; exact List.mem_cons_self
  refine ⟨⟨hrc, hrs, hR.1, hR.2, pay_in ht hG, hc⟩, ht _ (hG _ hc).1, ok _ (by simp [wsV]), ⟨hd.1, hd.2.1⟩, fun sig h => ?_, ok _ (by simp [wsV]), ok _ (by simp [wsV]), ok _ (by simp [wsV])⟩
  have h2 := hd.2.2
  rw [h] at h2
  exact (Option.some.inj h2).symm
theorem vx_runVW {y : MethodName} {bytes cc : ByteArray} {maxL nL mc ms n index : Nat} {ret : Option FieldType} {hh : List (Nat × Nat × Nat × Nat)} {ws : List Cond} {rm : Room} {Pc : Array Value → State → Prop} {Qc : Array Value → State → Outcome → State → Prop} {free : Addr → Prop} {Ts : List Cond} {own C : String} {b : Addr} {As rest : List Value} {g : JFrame}
    (S : CallFix p m c cc nL s args Ts own) (hM : Met l y ws rm Pc Qc mc ms free) (cw : vx_CVW R s args own C index y bytes maxL ret hh ws rm mc ms n) (hp : PreV s H C b Pc As)
    (hg : g.method = m) (hn : As.length = n) (hsize : g.locals.size = nL) (hstack : g.stack = As.reverse ++ .ref b :: rest) (hW : 2 * g.monitorRoom + (rest.map fun v => v.category).sum ≤ 8) (hdg : decode cc g.pc = .ok (.invokevirtual index, 3)) (hf : cells + mc ≤ R.cells ∧ slots + ms ≤ R.slots) :
    va_Run p l e R s m args below meth c H locs cells slots mc ms g rest (Qc (Value.ref b :: As).toArray) free := by
  obtain ⟨⟨hrc, hrs, hfr, hlo, hws, hcw⟩, hcode, hini, hy, hlen, hl, hin, hse⟩ := cw
  have hK : Back l R p e below s args y 3 8 (PreOf R mc ms Pc) (PostOf Qc mc ms free) := va_backW (hh := hh) (bytes := bytes) (maxL := maxL) (ret := ret) hM hp.1 hrc hrs hfr hlo hws hcw (fun a' U hW => word_at hW (Or.inl (by first | rfl | simp [Cond.onTables, Cond.keeps, Cond.steady])) hini)
  obtain ⟨hx, hb, hml, ho, -⟩ := S
  obtain ⟨-, ⟨cellB, hcB, hoB, hclB⟩, hPc⟩ := hp
  intro T hT X
  obtain ⟨v, vm₁, ⟨U', l2, c2, s2⟩, hW₁, X', ⟨g', mk, t, L, e1, e2, hq, h1, hL, h2, h3⟩, st⟩ := vx_callVW X hx (C := C) (hh := hh) (bytes := bytes) (maxL := maxL) (ret := ret) ho hl hin hse hcode hy hK (by rw [hT]; exact hcB) hoB hclB hg (hsize.trans hml.symm) (argsL := As) (rest := rest) (fun sig h => hn.trans (hlen sig h)) hstack hW (by rw [hb]; exact hdg)
    (fun vm₁ hW₁ => ⟨hf.1, hf.2, hPc (T.setVm vm₁) hT hW₁⟩)
  dsimp only [Pt.U, Pt.locs, Pt.cells, Pt.slots] at X' e1 e2 h1 h2 h3 st
  subst h1; subst h2; subst h3
  exact ⟨v, (T.setVm vm₁).calling g' mk (Value.ref b :: As).toArray, t, U', L, hT, X', hL, e1, e2, hq, st⟩
section
variable {y : MethodName} {bytes cc : ByteArray} {maxL nL mc ms n index : Nat} {ret : Option FieldType} {ws : List Cond} {rm : Room} {Pc : Array Value → State → Prop} {Qc : Array Value → State → Outcome → State → Prop} {XC : String → State → State → Prop} {free : Addr → Prop} {Ts : List Cond} {own C : String} {b : Addr} {As rest : List Value} {g : JFrame}
theorem vx_runVX {hh : List (Nat × Nat × Nat × Nat)} (S : CallFix p m c cc nL s args Ts own) (hM : vx_Met l y ws rm Pc Qc XC mc ms free) (cw : vx_CVW R s args own C index y bytes maxL ret hh ws rm mc ms n) (hp : PreV s H C b Pc As)
    (hg : g.method = m) (hn : As.length = n) (hsize : g.locals.size = nL) (hstack : g.stack = As.reverse ++ .ref b :: rest) (hW : 2 * g.monitorRoom + (rest.map fun v => v.category).sum ≤ 8) (hdg : decode cc g.pc = .ok (.invokevirtual index, 3)) (hf : cells + mc ≤ R.cells ∧ slots + ms ≤ R.slots) :
    vx_Run p l e R s m args below meth c H locs cells slots mc ms g rest (Qc (Value.ref b :: As).toArray) XC free := by
  obtain ⟨⟨hrc, hrs, hfr, hlo, hws, hcw⟩, hcode, hini, hy, hlen, hl, hin, hse⟩ := cw
  have hK : vx_Back l R p e below s args y 3 8 (PreOf R mc ms Pc) (PostOf Qc mc ms free) (vx_Post XC mc ms free) := vx_backW (hh := hh) (bytes := bytes) (maxL := maxL) (ret := ret) hM hp.1 hrc hrs hfr hlo hws hcw (fun a' U hW => word_at hW (Or.inl (by first | rfl | simp [Cond.onTables, Cond.keeps, Cond.steady])) hini)
  obtain ⟨hx, hb, hml, ho, -⟩ := S
  obtain ⟨-, ⟨cellB, hcB, hoB, hclB⟩, hPc⟩ := hp
  intro T hT X
  rcases vx_callVX X hx (C := C) (hh := hh) (bytes := bytes) (maxL := maxL) (ret := ret) ho hl hin hse hcode hy hK (by rw [hT]; exact hcB) hoB hclB hg (hsize.trans hml.symm) (argsL := As) (rest := rest) (fun sig h => hn.trans (hlen sig h)) hstack hW (by rw [hb]; exact hdg)
    (fun vm₁ hW₁ => ⟨hf.1, hf.2, hPc (T.setVm vm₁) hT hW₁⟩) with ⟨v, vm₁, ⟨U', l2, c2, s2⟩, hW₁, X', ⟨g', mk, t, L, e1, e2, hq, h1, hL, h2, h3⟩, st⟩ | ⟨q, vm₁, ⟨U', l2, c2, s2⟩, hW₁, X', ⟨g', mk, t, L, E, ce, e1, e2, hq, hce, hcv, hcl, h1, hL, h2, h3⟩, st⟩
  · dsimp only [Pt.U, Pt.locs, Pt.cells, Pt.slots] at X' e1 e2 h1 h2 h3 st
    subst h1; subst h2; subst h3
    exact Or.inl ⟨v, (T.setVm vm₁).calling g' mk (Value.ref b :: As).toArray, t, U', L, hT, X', hL, e1, e2, hq, st⟩
  · dsimp only [Pt.U, Pt.locs, Pt.cells, Pt.slots] at X' e1 e2 h1 h2 h3 st hcl
    subst h1; subst h2; subst h3
    exact Or.inr ⟨q, (T.setVm vm₁).calling g' mk (Value.ref b :: As).toArray, t, U', L, E, ce, hT, X', hL, e1, e2, hq, hce, hcv, vx_cls hW₁ hcl, st⟩
theorem vx_runSX {hh : List (Nat × Nat × Nat × Nat)} (S : CallFix p m c cc nL s args Ts own) (hM : vx_Met l y ws rm Pc Qc XC mc ms free) (cw : vx_CSW R s args own index y bytes maxL ret hh ws rm mc ms n) (hp : PreS s H Pc As)
    (hg : g.method = m) (hn : As.length = n) (hsize : g.locals.size = nL) (hstack : g.stack = As.reverse ++ rest) (hW : 2 * g.monitorRoom + (rest.map fun v => v.category).sum ≤ 8) (hdg : decode cc g.pc = .ok (.invokestatic index, 3)) (hf : cells + mc ≤ R.cells ∧ slots + ms ≤ R.slots) :
    vx_Run p l e R s m args below meth c H locs cells slots mc ms g rest (Qc As.toArray) XC free := by
  obtain ⟨⟨hrc, hrs, hfr, hlo, hws, hcw⟩, hcode, hini, hy, hlen, hl, hstt⟩ := cw
  have hK : vx_Back l R p e below s args y 3 8 (PreOf R mc ms Pc) (PostOf Qc mc ms free) (vx_Post XC mc ms free) := vx_backW (hh := hh) (bytes := bytes) (maxL := maxL) (ret := ret) hM hp.1 hrc hrs hfr hlo hws hcw (fun a' U hW => word_at hW (Or.inl (by first | rfl | simp [Cond.onTables, Cond.keeps, Cond.steady])) hini)
  obtain ⟨hx, hb, hml, ho, -⟩ := S
  intro T hT X
  rcases vx_callSX X hx (hh := hh) (bytes := bytes) (maxL := maxL) (ret := ret) ho hl hstt hini hcode hy hK hg (hsize.trans hml.symm) (argsL := As) (rest := rest) (fun sig h => hn.trans (hlen sig h)) hstack hW (by rw [hb]; exact hdg)
    (fun vm₁ hW₁ => ⟨hf.1, hf.2, hp.2 (T.setVm vm₁) hT hW₁⟩) with ⟨v, vm₁, ⟨U', l2, c2, s2⟩, hW₁, X', ⟨g', mk, t, L, e1, e2, hq, h1, hL, h2, h3⟩, st⟩ | ⟨q, vm₁, ⟨U', l2, c2, s2⟩, hW₁, X', ⟨g', mk, t, L, E, ce, e1, e2, hq, hce, hcv, hcl, h1, hL, h2, h3⟩, st⟩
  · dsimp only [Pt.U, Pt.locs, Pt.cells, Pt.slots] at X' e1 e2 h1 h2 h3 st
    subst h1; subst h2; subst h3
    exact Or.inl ⟨v, (T.setVm vm₁).calling g' mk As.toArray, t, U', L, hT, X', hL, e1, e2, hq, st⟩
  · dsimp only [Pt.U, Pt.locs, Pt.cells, Pt.slots] at X' e1 e2 h1 h2 h3 st hcl
    subst h1; subst h2; subst h3
    exact Or.inr ⟨q, (T.setVm vm₁).calling g' mk As.toArray, t, U', L, E, ce, hT, X', hL, e1, e2, hq, hce, hcv, vx_cls hW₁ hcl, st⟩
end
end VXH
theorem vx_ofWH {l : Launch} {y : MethodName} {ws ws' : List Cond} {rm : Room} {Pc : Array Value → State → Prop} {Qc : Array Value → State → Outcome → State → Prop} {XC : String → State → State → Prop} {mc ms : Nat} {free : Addr → Prop} {cc : ByteArray} {maxL : Nat} {ret : Option FieldType} {hh : List (Nat × Nat × Nat × Nat)}
    (hy : plainName y.cls = true) (hw : ws = Cond.codeWith y cc maxL ret hh :: ws')
    (body : ∀ p e s m args below meth c s₁, BodyLoose p l y (headSpec ws rm) cc maxL ret e s m args below meth c s₁ → c.maxLocals = maxL → Pc args s →
      W p l e (headSpec ws rm).room s m args below meth c s.heap [] 0 0 (vx_MQ below Qc XC args s mc ms free) (entryFrame m args maxL)) : vx_Met l y ws rm Pc Qc XC mc ms free := by
  refine MetFree.of_bodyS (code := cc) (maxLocals := maxL) (ret := ret) hy ?_ ?_
  · intro args s m h hn
    obtain ⟨m9, meth, c, hn9, h1, h2, h3, h4, -, h5, h6, -⟩ := Cond.codeWith_spec (atoms_spec (ws := ws) h _ (by rw [hw]; exact List.mem_cons_self))
    cases hn.symm.trans hn9
    exact ⟨meth, c, h1, h2, h3, h4, h5, h6⟩
  · intro p e s m args below meth c s₁ B hml hP _
    have hh0 : s₁.heap = s.heap := by rw [B.state]; rfl
    obtain ⟨t, a1, o, b1, b2, b3⟩ := body p e s m args below meth c s₁ B hml hP s₁ hh0 (Stand.of_body B)
    exact ⟨t, o, a1, b1, b2, b3⟩
/-! ===== END ===== -/
end
section
/-! ===== BEGIN printed: names, fields, word lists, decode rows ===== -/
def RX0 : String := "FeatureDesugarer$Code"
def TX0 : u_T := fun k => match k with
  | _ => ("", "", "", false)
def tyX0 : Nat → FieldType := fun k => match k with
  | _ => .int
abbrev wsX00 : List Cond := u_ws RX0 TX0 0
theorem nmX0 : ∀ a, a < 0 → ∀ b, b < 0 → a ≠ b → (TX0 a).2.1 ≠ (TX0 b).2.1 := by decide +kernel
theorem tyX0_ok : ∀ k, k < 0 → parseFieldDescriptor (TX0 k).2.2.1 = some (tyX0 k) := by decide +kernel
def RX1 : String := "FeatureDesugarer$Frames"
def TX1 : u_T := fun k => match k with
  | 0 => ("FeatureDesugarer$Frames", "slots", "[J", true)
  | 1 => ("FeatureDesugarer$Frames", "units", "[I", true)
  | 2 => ("FeatureDesugarer$Frames", "places", "[I", true)
  | 3 => ("FeatureDesugarer$Frames", "tops", "[I", true)
  | 4 => ("FeatureDesugarer$Frames", "taken", "[J", true)
  | 5 => ("FeatureDesugarer$Frames", "frames", "I", false)
  | _ => ("FeatureDesugarer$Frames", "current", "I", false)
def tyX1 : Nat → FieldType := fun k => match k with
  | 0 => .array .long
  | 1 => .array .int
  | 2 => .array .int
  | 3 => .array .int
  | 4 => .array .long
  | 5 => .int
  | _ => .int
abbrev wsX10 : List Cond := u_ws RX1 TX1 7
theorem nmX1 : ∀ a, a < 7 → ∀ b, b < 7 → a ≠ b → (TX1 a).2.1 ≠ (TX1 b).2.1 := by decide +kernel
theorem tyX1_ok : ∀ k, k < 7 → parseFieldDescriptor (TX1 k).2.2.1 = some (tyX1 k) := by decide +kernel
abbrev cX1_init : ByteArray := prog_3_method_1_code
def yX1_init : MethodName := ⟨RX1, "<init>", "()V"⟩
abbrev cX1_clear : ByteArray := prog_3_method_2_code
def yX1_clear : MethodName := ⟨RX1, "clear", "()V"⟩
abbrev cX1_areOpen : ByteArray := prog_3_method_3_code
def yX1_areOpen : MethodName := ⟨RX1, "areOpen", "()Z"⟩
abbrev cX1_open : ByteArray := prog_3_method_4_code
def yX1_open : MethodName := ⟨RX1, "open", "(I)V"⟩
abbrev cX1_close : ByteArray := prog_3_method_5_code
def yX1_close : MethodName := ⟨RX1, "close", "()V"⟩
abbrev cX1_unit : ByteArray := prog_3_method_6_code
def yX1_unit : MethodName := ⟨RX1, "unit", "()I"⟩
abbrev cX1_place : ByteArray := prog_3_method_7_code
def yX1_place : MethodName := ⟨RX1, "place", "()I"⟩
abbrev cX1_goTo : ByteArray := prog_3_method_8_code
def yX1_goTo : MethodName := ⟨RX1, "goTo", "(I)V"⟩
abbrev cX1_local : ByteArray := prog_3_method_9_code
def yX1_local : MethodName := ⟨RX1, "local", "(I)J"⟩
abbrev cX1_setLocal : ByteArray := prog_3_method_10_code
def yX1_setLocal : MethodName := ⟨RX1, "setLocal", "(IJ)V"⟩
abbrev cX1_push : ByteArray := prog_3_method_11_code
def yX1_push : MethodName := ⟨RX1, "push", "(J)V"⟩
abbrev cX1_pop : ByteArray := prog_3_method_12_code
def yX1_pop : MethodName := ⟨RX1, "pop", "()J"⟩
abbrev cX1_take : ByteArray := prog_3_method_13_code
def yX1_take : MethodName := ⟨RX1, "take", "(I)V"⟩
abbrev cX1_takenAt : ByteArray := prog_3_method_14_code
def yX1_takenAt : MethodName := ⟨RX1, "takenAt", "(I)J"⟩
abbrev cX1_setLocalsToTaken : ByteArray := prog_3_method_15_code
def yX1_setLocalsToTaken : MethodName := ⟨RX1, "setLocalsToTaken", "(II)V"⟩
def RX2 : String := "FeatureDesugarer$Holders"
def TX2 : u_T := fun k => match k with
  | 0 => ("FeatureDesugarer$Holders", "types", "[I", true)
  | 1 => ("FeatureDesugarer$Holders", "sizes", "[I", true)
  | 2 => ("FeatureDesugarer$Holders", "values", "[J", true)
  | _ => ("FeatureDesugarer$Holders", "holders", "I", false)
def tyX2 : Nat → FieldType := fun k => match k with
  | 0 => .array .int
  | 1 => .array .int
  | 2 => .array .long
  | _ => .int
abbrev wsX20 : List Cond := u_ws RX2 TX2 4
theorem nmX2 : ∀ a, a < 4 → ∀ b, b < 4 → a ≠ b → (TX2 a).2.1 ≠ (TX2 b).2.1 := by decide +kernel
theorem tyX2_ok : ∀ k, k < 4 → parseFieldDescriptor (TX2 k).2.2.1 = some (tyX2 k) := by decide +kernel
abbrev cX2_init : ByteArray := prog_4_method_1_code
def yX2_init : MethodName := ⟨RX2, "<init>", "()V"⟩
abbrev cX2_clear : ByteArray := prog_4_method_2_code
def yX2_clear : MethodName := ⟨RX2, "clear", "()V"⟩
abbrev cX2_add : ByteArray := prog_4_method_3_code
def yX2_add : MethodName := ⟨RX2, "add", "(II)J"⟩
abbrev cX2_typeOf : ByteArray := prog_4_method_4_code
def yX2_typeOf : MethodName := ⟨RX2, "typeOf", "(I)I"⟩
abbrev cX2_sizeOf : ByteArray := prog_4_method_5_code
def yX2_sizeOf : MethodName := ⟨RX2, "sizeOf", "(I)I"⟩
abbrev cX2_valueAt : ByteArray := prog_4_method_6_code
def yX2_valueAt : MethodName := ⟨RX2, "valueAt", "(II)J"⟩
abbrev cX2_setValue : ByteArray := prog_4_method_7_code
def yX2_setValue : MethodName := ⟨RX2, "setValue", "(IIJ)V"⟩
def RX3 : String := "FeatureDesugarer$Instructions"
def TX3 : u_T := fun k => match k with
  | 0 => ("FeatureDesugarer$Instructions", "words", "[I", false)
  | 1 => ("FeatureDesugarer$Instructions", "firstNumbers", "[I", false)
  | 2 => ("FeatureDesugarer$Instructions", "secondNumbers", "[I", false)
  | 3 => ("FeatureDesugarer$Instructions", "steps", "[I", false)
  | _ => ("FeatureDesugarer$Instructions", "length", "I", false)
def tyX3 : Nat → FieldType := fun k => match k with
  | 0 => .array .int
  | 1 => .array .int
  | 2 => .array .int
  | 3 => .array .int
  | _ => .int
abbrev wsX30 : List Cond := u_ws RX3 TX3 5
theorem nmX3 : ∀ a, a < 5 → ∀ b, b < 5 → a ≠ b → (TX3 a).2.1 ≠ (TX3 b).2.1 := by decide +kernel
theorem tyX3_ok : ∀ k, k < 5 → parseFieldDescriptor (TX3 k).2.2.1 = some (tyX3 k) := by decide +kernel
abbrev cX3_init : ByteArray := prog_5_method_1_code
def yX3_init : MethodName := ⟨RX3, "<init>", "()V"⟩
abbrev cX3_clear : ByteArray := prog_5_method_2_code
def yX3_clear : MethodName := ⟨RX3, "clear", "()V"⟩
abbrev cX3_length : ByteArray := prog_5_method_3_code
def yX3_length : MethodName := ⟨RX3, "length", "()I"⟩
abbrev cX3_add : ByteArray := prog_5_method_4_code
def yX3_add : MethodName := ⟨RX3, "add", "(III)V"⟩
abbrev cX3_grow : ByteArray := prog_5_method_5_code
def yX3_grow : MethodName := ⟨RX3, "grow", "()V"⟩
abbrev cX3_markStep : ByteArray := prog_5_method_6_code
def yX3_markStep : MethodName := ⟨RX3, "markStep", "(I)V"⟩
abbrev cX3_setFirstNumber : ByteArray := prog_5_method_7_code
def yX3_setFirstNumber : MethodName := ⟨RX3, "setFirstNumber", "(II)V"⟩
abbrev cX3_word : ByteArray := prog_5_method_8_code
def yX3_word : MethodName := ⟨RX3, "word", "(I)I"⟩
abbrev cX3_firstNumber : ByteArray := prog_5_method_9_code
def yX3_firstNumber : MethodName := ⟨RX3, "firstNumber", "(I)I"⟩
abbrev cX3_secondNumber : ByteArray := prog_5_method_10_code
def yX3_secondNumber : MethodName := ⟨RX3, "secondNumber", "(I)I"⟩
abbrev cX3_isStep : ByteArray := prog_5_method_11_code
def yX3_isStep : MethodName := ⟨RX3, "isStep", "(I)Z"⟩
def RX4 : String := "FeatureDesugarer$Machine"
def TX4 : u_T := fun k => match k with
  | 0 => ("FeatureDesugarer$Machine", "program", "LFeatureDesugarer$Program;", true)
  | 1 => ("FeatureDesugarer$Machine", "plainCode", "LFeatureDesugarer$PlainCode;", true)
  | 2 => ("FeatureDesugarer$Machine", "frames", "LFeatureDesugarer$Frames;", true)
  | 3 => ("FeatureDesugarer$Machine", "holders", "LFeatureDesugarer$Holders;", true)
  | 4 => ("FeatureDesugarer$Machine", "texts", "LFeatureDesugarer$Texts;", true)
  | 5 => ("FeatureDesugarer$Machine", "code", "LFeatureDesugarer$Code;", false)
  | 6 => ("FeatureDesugarer$Machine", "openFunctions", "I", false)
  | 7 => ("FeatureDesugarer$Machine", "steps", "I", false)
  | 8 => ("FeatureDesugarer$Machine", "fault", "I", false)
  | _ => ("FeatureDesugarer$Machine", "returned", "J", false)
def tyX4 : Nat → FieldType := fun k => match k with
  | 0 => .object "FeatureDesugarer$Program"
  | 1 => .object "FeatureDesugarer$PlainCode"
  | 2 => .object "FeatureDesugarer$Frames"
  | 3 => .object "FeatureDesugarer$Holders"
  | 4 => .object "FeatureDesugarer$Texts"
  | 5 => .object "FeatureDesugarer$Code"
  | 6 => .int
  | 7 => .int
  | 8 => .int
  | _ => .long
abbrev wsX40 : List Cond := u_ws RX4 TX4 10
theorem nmX4 : ∀ a, a < 10 → ∀ b, b < 10 → a ≠ b → (TX4 a).2.1 ≠ (TX4 b).2.1 := by decide +kernel
theorem tyX4_ok : ∀ k, k < 10 → parseFieldDescriptor (TX4 k).2.2.1 = some (tyX4 k) := by decide +kernel
abbrev cX4_init : ByteArray := prog_6_method_1_code
def yX4_init : MethodName := ⟨RX4, "<init>", "(LFeatureDesugarer$Program;LFeatureDesugarer$PlainCode;)V"⟩
abbrev cX4_outputLength : ByteArray := prog_6_method_2_code
def yX4_outputLength : MethodName := ⟨RX4, "outputLength", "()I"⟩
abbrev cX4_outputAt : ByteArray := prog_6_method_3_code
def yX4_outputAt : MethodName := ⟨RX4, "outputAt", "(I)I"⟩
abbrev cX4_stepTotal : ByteArray := prog_6_method_4_code
def yX4_stepTotal : MethodName := ⟨RX4, "stepTotal", "()I"⟩
abbrev cX4_returnedKind : ByteArray := prog_6_method_5_code
def yX4_returnedKind : MethodName := ⟨RX4, "returnedKind", "()I"⟩
abbrev cX4_returnedNumber : ByteArray := prog_6_method_6_code
def yX4_returnedNumber : MethodName := ⟨RX4, "returnedNumber", "()I"⟩
abbrev cX4_perform : ByteArray := prog_6_method_7_code
def yX4_perform : MethodName := ⟨RX4, "perform", "(IIIIZ)I"⟩
abbrev cX4_doNext : ByteArray := prog_6_method_8_code
def yX4_doNext : MethodName := ⟨RX4, "doNext", "()V"⟩
abbrev cX4_doShared : ByteArray := prog_6_method_9_code
def yX4_doShared : MethodName := ⟨RX4, "doShared", "(II)V"⟩
abbrev cX4_doFirst : ByteArray := prog_6_method_10_code
def yX4_doFirst : MethodName := ⟨RX4, "doFirst", "(III)V"⟩
abbrev cX4_doPlain : ByteArray := prog_6_method_11_code
def yX4_doPlain : MethodName := ⟨RX4, "doPlain", "(III)V"⟩
abbrev cX4_faultUnless : ByteArray := prog_6_method_12_code
def yX4_faultUnless : MethodName := ⟨RX4, "faultUnless", "(ZI)V"⟩
abbrev cX4_reckon : ByteArray := prog_6_method_13_code
def yX4_reckon : MethodName := ⟨RX4, "reckon", "(I)V"⟩
abbrev cX4_goIfZero : ByteArray := prog_6_method_14_code
def yX4_goIfZero : MethodName := ⟨RX4, "goIfZero", "(I)V"⟩
abbrev cX4_beginFunction : ByteArray := prog_6_method_15_code
def yX4_beginFunction : MethodName := ⟨RX4, "beginFunction", "(I)Z"⟩
abbrev cX4_callFunction : ByteArray := prog_6_method_16_code
def yX4_callFunction : MethodName := ⟨RX4, "callFunction", "(I)V"⟩
abbrev cX4_giveBack : ByteArray := prog_6_method_17_code
def yX4_giveBack : MethodName := ⟨RX4, "giveBack", "()V"⟩
abbrev cX4_applyTo : ByteArray := prog_6_method_18_code
def yX4_applyTo : MethodName := ⟨RX4, "applyTo", "(I)V"⟩
abbrev cX4_invoke : ByteArray := prog_6_method_19_code
def yX4_invoke : MethodName := ⟨RX4, "invoke", "(I)V"⟩
abbrev cX4_join : ByteArray := prog_6_method_20_code
def yX4_join : MethodName := ⟨RX4, "join", "(ILFeatureDesugarer$Recipes;)V"⟩
abbrev cX4_appendCharacters : ByteArray := prog_6_method_21_code
def yX4_appendCharacters : MethodName := ⟨RX4, "appendCharacters", "(II)V"⟩
def RX5 : String := "FeatureDesugarer$PlainCode"
def TX5 : u_T := fun k => match k with
  | 0 => ("FeatureDesugarer$PlainCode", "program", "LFeatureDesugarer$Program;", true)
  | 1 => ("FeatureDesugarer$PlainCode", "ways", "LFeatureDesugarer$Ways;", true)
  | 2 => ("FeatureDesugarer$PlainCode", "instructions", "LFeatureDesugarer$Instructions;", true)
  | 3 => ("FeatureDesugarer$PlainCode", "starts", "[I", true)
  | 4 => ("FeatureDesugarer$PlainCode", "classFunctions", "[I", true)
  | 5 => ("FeatureDesugarer$PlainCode", "classValues", "[I", true)
  | 6 => ("FeatureDesugarer$PlainCode", "sourceHeights", "[I", true)
  | 7 => ("FeatureDesugarer$PlainCode", "plainHeights", "[I", true)
  | 8 => ("FeatureDesugarer$PlainCode", "groupPlaces", "[I", true)
  | 9 => ("FeatureDesugarer$PlainCode", "classes", "I", false)
  | _ => ("FeatureDesugarer$PlainCode", "isMade", "Z", false)
def tyX5 : Nat → FieldType := fun k => match k with
  | 0 => .object "FeatureDesugarer$Program"
  | 1 => .object "FeatureDesugarer$Ways"
  | 2 => .object "FeatureDesugarer$Instructions"
  | 3 => .array .int
  | 4 => .array .int
  | 5 => .array .int
  | 6 => .array .int
  | 7 => .array .int
  | 8 => .array .int
  | 9 => .int
  | _ => .boolean
abbrev wsX50 : List Cond := u_ws RX5 TX5 11
theorem nmX5 : ∀ a, a < 11 → ∀ b, b < 11 → a ≠ b → (TX5 a).2.1 ≠ (TX5 b).2.1 := by decide +kernel
theorem tyX5_ok : ∀ k, k < 11 → parseFieldDescriptor (TX5 k).2.2.1 = some (tyX5 k) := by decide +kernel
abbrev cX5_init : ByteArray := prog_7_method_1_code
def yX5_init : MethodName := ⟨RX5, "<init>", "(LFeatureDesugarer$Program;LFeatureDesugarer$Ways;)V"⟩
abbrev cX5_forget : ByteArray := prog_7_method_2_code
def yX5_forget : MethodName := ⟨RX5, "forget", "()V"⟩
abbrev cX5_isMade : ByteArray := prog_7_method_3_code
def yX5_isMade : MethodName := ⟨RX5, "isMade", "()Z"⟩
abbrev cX5_classTotal : ByteArray := prog_7_method_4_code
def yX5_classTotal : MethodName := ⟨RX5, "classTotal", "()I"⟩
abbrev cX5_valuesOfClass : ByteArray := prog_7_method_5_code
def yX5_valuesOfClass : MethodName := ⟨RX5, "valuesOfClass", "(I)I"⟩
abbrev cX5_functionOfClass : ByteArray := prog_7_method_6_code
def yX5_functionOfClass : MethodName := ⟨RX5, "functionOfClass", "(I)I"⟩
abbrev cX5_methodOfClass : ByteArray := prog_7_method_7_code
def yX5_methodOfClass : MethodName := ⟨RX5, "methodOfClass", "(I)I"⟩
abbrev cX5_isMethod : ByteArray := prog_7_method_8_code
def yX5_isMethod : MethodName := ⟨RX5, "isMethod", "(I)Z"⟩
abbrev cX5_sourceHeightOf : ByteArray := prog_7_method_9_code
def yX5_sourceHeightOf : MethodName := ⟨RX5, "sourceHeightOf", "(I)I"⟩
abbrev cX5_plainHeightOf : ByteArray := prog_7_method_10_code
def yX5_plainHeightOf : MethodName := ⟨RX5, "plainHeightOf", "(I)I"⟩
abbrev cX5_lengthOf : ByteArray := prog_7_method_11_code
def yX5_lengthOf : MethodName := ⟨RX5, "lengthOf", "(I)I"⟩
abbrev cX5_wordAt : ByteArray := prog_7_method_12_code
def yX5_wordAt : MethodName := ⟨RX5, "wordAt", "(II)I"⟩
abbrev cX5_firstNumberAt : ByteArray := prog_7_method_13_code
def yX5_firstNumberAt : MethodName := ⟨RX5, "firstNumberAt", "(II)I"⟩
abbrev cX5_secondNumberAt : ByteArray := prog_7_method_14_code
def yX5_secondNumberAt : MethodName := ⟨RX5, "secondNumberAt", "(II)I"⟩
abbrev cX5_isStepAt : ByteArray := prog_7_method_15_code
def yX5_isStepAt : MethodName := ⟨RX5, "isStepAt", "(II)Z"⟩
abbrev cX5_make : ByteArray := prog_7_method_16_code
def yX5_make : MethodName := ⟨RX5, "make", "()I"⟩
abbrev cX5_makeFunction : ByteArray := prog_7_method_17_code
def yX5_makeFunction : MethodName := ⟨RX5, "makeFunction", "(I)V"⟩
abbrev cX5_makeGroup : ByteArray := prog_7_method_18_code
def yX5_makeGroup : MethodName := ⟨RX5, "makeGroup", "(II)V"⟩
abbrev cX5_makeNew : ByteArray := prog_7_method_19_code
def yX5_makeNew : MethodName := ⟨RX5, "makeNew", "(II)V"⟩
abbrev cX5_makeJoin : ByteArray := prog_7_method_20_code
def yX5_makeJoin : MethodName := ⟨RX5, "makeJoin", "(ILFeatureDesugarer$Recipes;)V"⟩
abbrev cX5_makeMethod : ByteArray := prog_7_method_21_code
def yX5_makeMethod : MethodName := ⟨RX5, "makeMethod", "(I)V"⟩
abbrev cX5_measure : ByteArray := prog_7_method_22_code
def yX5_measure : MethodName := ⟨RX5, "measure", "(III)V"⟩
abbrev cX5_risesBy : ByteArray := prog_7_method_23_code
def yX5_risesBy : MethodName := ⟨RX5, "risesBy", "(III)I"⟩
abbrev cX5_movePlaces : ByteArray := prog_7_method_24_code
def yX5_movePlaces : MethodName := ⟨RX5, "movePlaces", "(I)V"⟩
def RX6 : String := "FeatureDesugarer$Program"
def TX6 : u_T := fun k => match k with
  | 0 => ("FeatureDesugarer$Program", "recipes", "LFeatureDesugarer$Recipes;", true)
  | 1 => ("FeatureDesugarer$Program", "parameters", "[I", true)
  | 2 => ("FeatureDesugarer$Program", "lengths", "[I", true)
  | 3 => ("FeatureDesugarer$Program", "words", "[I", true)
  | 4 => ("FeatureDesugarer$Program", "firstNumbers", "[I", true)
  | 5 => ("FeatureDesugarer$Program", "secondNumbers", "[I", true)
  | _ => ("FeatureDesugarer$Program", "functions", "I", false)
def tyX6 : Nat → FieldType := fun k => match k with
  | 0 => .object "FeatureDesugarer$Recipes"
  | 1 => .array .int
  | 2 => .array .int
  | 3 => .array .int
  | 4 => .array .int
  | 5 => .array .int
  | _ => .int
abbrev wsX60 : List Cond := u_ws RX6 TX6 7
theorem nmX6 : ∀ a, a < 7 → ∀ b, b < 7 → a ≠ b → (TX6 a).2.1 ≠ (TX6 b).2.1 := by decide +kernel
theorem tyX6_ok : ∀ k, k < 7 → parseFieldDescriptor (TX6 k).2.2.1 = some (tyX6 k) := by decide +kernel
abbrev cX6_init : ByteArray := prog_8_method_1_code
def yX6_init : MethodName := ⟨RX6, "<init>", "()V"⟩
abbrev cX6_recipes : ByteArray := prog_8_method_2_code
def yX6_recipes : MethodName := ⟨RX6, "recipes", "()LFeatureDesugarer$Recipes;"⟩
abbrev cX6_addFunction : ByteArray := prog_8_method_3_code
def yX6_addFunction : MethodName := ⟨RX6, "addFunction", "(I)I"⟩
abbrev cX6_addInstruction : ByteArray := prog_8_method_4_code
def yX6_addInstruction : MethodName := ⟨RX6, "addInstruction", "(IIII)I"⟩
abbrev cX6_hasFunction : ByteArray := prog_8_method_5_code
def yX6_hasFunction : MethodName := ⟨RX6, "hasFunction", "(I)Z"⟩
abbrev cX6_functionTotal : ByteArray := prog_8_method_6_code
def yX6_functionTotal : MethodName := ⟨RX6, "functionTotal", "()I"⟩
abbrev cX6_parametersOf : ByteArray := prog_8_method_7_code
def yX6_parametersOf : MethodName := ⟨RX6, "parametersOf", "(I)I"⟩
abbrev cX6_lengthOf : ByteArray := prog_8_method_8_code
def yX6_lengthOf : MethodName := ⟨RX6, "lengthOf", "(I)I"⟩
abbrev cX6_wordAt : ByteArray := prog_8_method_9_code
def yX6_wordAt : MethodName := ⟨RX6, "wordAt", "(II)I"⟩
abbrev cX6_firstNumberAt : ByteArray := prog_8_method_10_code
def yX6_firstNumberAt : MethodName := ⟨RX6, "firstNumberAt", "(II)I"⟩
abbrev cX6_secondNumberAt : ByteArray := prog_8_method_11_code
def yX6_secondNumberAt : MethodName := ⟨RX6, "secondNumberAt", "(II)I"⟩
abbrev cX6_isStepAt : ByteArray := prog_8_method_12_code
def yX6_isStepAt : MethodName := ⟨RX6, "isStepAt", "(II)Z"⟩
abbrev cX6_hasNumbersInBounds : ByteArray := prog_8_method_13_code
def yX6_hasNumbersInBounds : MethodName := ⟨RX6, "hasNumbersInBounds", "(II)Z"⟩
abbrev cX6_popsOf : ByteArray := prog_8_method_14_code
def yX6_popsOf : MethodName := ⟨RX6, "popsOf", "(III)I"⟩
abbrev cX6_pushesOf : ByteArray := prog_8_method_15_code
def yX6_pushesOf : MethodName := ⟨RX6, "pushesOf", "(I)I"⟩
def RX7 : String := "FeatureDesugarer$Recipes"
def TX7 : u_T := fun k => match k with
  | 0 => ("FeatureDesugarer$Recipes", "lengths", "[I", true)
  | 1 => ("FeatureDesugarer$Recipes", "holes", "[I", true)
  | 2 => ("FeatureDesugarer$Recipes", "firstLetters", "[I", true)
  | 3 => ("FeatureDesugarer$Recipes", "digits", "[I", true)
  | 4 => ("FeatureDesugarer$Recipes", "letters", "[I", true)
  | 5 => ("FeatureDesugarer$Recipes", "recipes", "I", false)
  | _ => ("FeatureDesugarer$Recipes", "letterTotal", "I", false)
def tyX7 : Nat → FieldType := fun k => match k with
  | 0 => .array .int
  | 1 => .array .int
  | 2 => .array .int
  | 3 => .array .int
  | 4 => .array .int
  | 5 => .int
  | _ => .int
abbrev wsX70 : List Cond := u_ws RX7 TX7 7
theorem nmX7 : ∀ a, a < 7 → ∀ b, b < 7 → a ≠ b → (TX7 a).2.1 ≠ (TX7 b).2.1 := by decide +kernel
theorem tyX7_ok : ∀ k, k < 7 → parseFieldDescriptor (TX7 k).2.2.1 = some (tyX7 k) := by decide +kernel
abbrev cX7_init : ByteArray := prog_9_method_1_code
def yX7_init : MethodName := ⟨RX7, "<init>", "()V"⟩
abbrev cX7_isReadable : ByteArray := prog_9_method_2_code
def yX7_isReadable : MethodName := ⟨RX7, "isReadable", "(J)Z"⟩
abbrev cX7_add : ByteArray := prog_9_method_3_code
def yX7_add : MethodName := ⟨RX7, "add", "(J)I"⟩
abbrev cX7_addDigit : ByteArray := prog_9_method_4_code
def yX7_addDigit : MethodName := ⟨RX7, "addDigit", "(II)V"⟩
abbrev cX7_has : ByteArray := prog_9_method_5_code
def yX7_has : MethodName := ⟨RX7, "has", "(I)Z"⟩
abbrev cX7_total : ByteArray := prog_9_method_6_code
def yX7_total : MethodName := ⟨RX7, "total", "()I"⟩
abbrev cX7_lengthOf : ByteArray := prog_9_method_7_code
def yX7_lengthOf : MethodName := ⟨RX7, "lengthOf", "(I)I"⟩
abbrev cX7_holesOf : ByteArray := prog_9_method_8_code
def yX7_holesOf : MethodName := ⟨RX7, "holesOf", "(I)I"⟩
abbrev cX7_isHole : ByteArray := prog_9_method_9_code
def yX7_isHole : MethodName := ⟨RX7, "isHole", "(II)Z"⟩
abbrev cX7_firstLetterOf : ByteArray := prog_9_method_10_code
def yX7_firstLetterOf : MethodName := ⟨RX7, "firstLetterOf", "(I)I"⟩
abbrev cX7_letterTotal : ByteArray := prog_9_method_11_code
def yX7_letterTotal : MethodName := ⟨RX7, "letterTotal", "()I"⟩
abbrev cX7_letterAt : ByteArray := prog_9_method_12_code
def yX7_letterAt : MethodName := ⟨RX7, "letterAt", "(I)I"⟩
def RX8 : String := "FeatureDesugarer$Texts"
def TX8 : u_T := fun k => match k with
  | 0 => ("FeatureDesugarer$Texts", "starts", "[I", true)
  | 1 => ("FeatureDesugarer$Texts", "lengths", "[I", true)
  | 2 => ("FeatureDesugarer$Texts", "kept", "[B", false)
  | 3 => ("FeatureDesugarer$Texts", "texts", "I", false)
  | 4 => ("FeatureDesugarer$Texts", "spelled", "[B", true)
  | 5 => ("FeatureDesugarer$Texts", "spelledLength", "I", false)
  | 6 => ("FeatureDesugarer$Texts", "output", "[B", true)
  | _ => ("FeatureDesugarer$Texts", "outputLength", "I", false)
def tyX8 : Nat → FieldType := fun k => match k with
  | 0 => .array .int
  | 1 => .array .int
  | 2 => .array .byte
  | 3 => .int
  | 4 => .array .byte
  | 5 => .int
  | 6 => .array .byte
  | _ => .int
abbrev wsX80 : List Cond := u_ws RX8 TX8 8
theorem nmX8 : ∀ a, a < 8 → ∀ b, b < 8 → a ≠ b → (TX8 a).2.1 ≠ (TX8 b).2.1 := by decide +kernel
theorem tyX8_ok : ∀ k, k < 8 → parseFieldDescriptor (TX8 k).2.2.1 = some (tyX8 k) := by decide +kernel
abbrev cX8_init : ByteArray := prog_10_method_1_code
def yX8_init : MethodName := ⟨RX8, "<init>", "()V"⟩
abbrev cX8_clear : ByteArray := prog_10_method_2_code
def yX8_clear : MethodName := ⟨RX8, "clear", "()V"⟩
abbrev cX8_outputLength : ByteArray := prog_10_method_3_code
def yX8_outputLength : MethodName := ⟨RX8, "outputLength", "()I"⟩
abbrev cX8_outputAt : ByteArray := prog_10_method_4_code
def yX8_outputAt : MethodName := ⟨RX8, "outputAt", "(I)I"⟩
abbrev cX8_begin : ByteArray := prog_10_method_5_code
def yX8_begin : MethodName := ⟨RX8, "begin", "()J"⟩
abbrev cX8_appendLetter : ByteArray := prog_10_method_6_code
def yX8_appendLetter : MethodName := ⟨RX8, "appendLetter", "(II)Z"⟩
abbrev cX8_appendValue : ByteArray := prog_10_method_7_code
def yX8_appendValue : MethodName := ⟨RX8, "appendValue", "(IJ)Z"⟩
abbrev cX8_sayValue : ByteArray := prog_10_method_8_code
def yX8_sayValue : MethodName := ⟨RX8, "sayValue", "(J)Z"⟩
abbrev cX8_appendSpelled : ByteArray := prog_10_method_9_code
def yX8_appendSpelled : MethodName := ⟨RX8, "appendSpelled", "(I)Z"⟩
abbrev cX8_spell : ByteArray := prog_10_method_10_code
def yX8_spell : MethodName := ⟨RX8, "spell", "(J)V"⟩
abbrev cX8_spellNumber : ByteArray := prog_10_method_11_code
def yX8_spellNumber : MethodName := ⟨RX8, "spellNumber", "(I)V"⟩
def RX9 : String := "FeatureDesugarer$Ways"
def TX9 : u_T := fun k => match k with
  | 0 => ("FeatureDesugarer$Ways", "program", "LFeatureDesugarer$Program;", true)
  | 1 => ("FeatureDesugarer$Ways", "heights", "[I", true)
  | _ => ("FeatureDesugarer$Ways", "gone", "[Z", true)
def tyX9 : Nat → FieldType := fun k => match k with
  | 0 => .object "FeatureDesugarer$Program"
  | 1 => .array .int
  | _ => .array .boolean
abbrev wsX90 : List Cond := u_ws RX9 TX9 3
theorem nmX9 : ∀ a, a < 3 → ∀ b, b < 3 → a ≠ b → (TX9 a).2.1 ≠ (TX9 b).2.1 := by decide +kernel
theorem tyX9_ok : ∀ k, k < 3 → parseFieldDescriptor (TX9 k).2.2.1 = some (tyX9 k) := by decide +kernel
abbrev cX9_init : ByteArray := prog_11_method_1_code
def yX9_init : MethodName := ⟨RX9, "<init>", "(LFeatureDesugarer$Program;)V"⟩
abbrev cX9_wrongPlace : ByteArray := prog_11_method_2_code
def yX9_wrongPlace : MethodName := ⟨RX9, "wrongPlace", "(I)I"⟩
abbrev cX9_isMet : ByteArray := prog_11_method_3_code
def yX9_isMet : MethodName := ⟨RX9, "isMet", "(I)Z"⟩
abbrev cX9_heightAt : ByteArray := prog_11_method_4_code
def yX9_heightAt : MethodName := ⟨RX9, "heightAt", "(I)I"⟩
abbrev cX9_wrongOnWays : ByteArray := prog_11_method_5_code
def yX9_wrongOnWays : MethodName := ⟨RX9, "wrongOnWays", "(II)I"⟩
abbrev cX9_leastWaiting : ByteArray := prog_11_method_6_code
def yX9_leastWaiting : MethodName := ⟨RX9, "leastWaiting", "(I)I"⟩
abbrev cX9_goesOn : ByteArray := prog_11_method_7_code
def yX9_goesOn : MethodName := ⟨RX9, "goesOn", "(III)Z"⟩
abbrev cX9_meets : ByteArray := prog_11_method_8_code
def yX9_meets : MethodName := ⟨RX9, "meets", "(III)Z"⟩
def RX10 : String := "FeatureDesugarer"
def TX10 : u_T := fun k => match k with
  | 0 => ("FeatureDesugarer", "program", "LFeatureDesugarer$Program;", true)
  | 1 => ("FeatureDesugarer", "ways", "LFeatureDesugarer$Ways;", true)
  | 2 => ("FeatureDesugarer", "plainCode", "LFeatureDesugarer$PlainCode;", true)
  | _ => ("FeatureDesugarer", "machine", "LFeatureDesugarer$Machine;", true)
def tyX10 : Nat → FieldType := fun k => match k with
  | 0 => .object "FeatureDesugarer$Program"
  | 1 => .object "FeatureDesugarer$Ways"
  | 2 => .object "FeatureDesugarer$PlainCode"
  | _ => .object "FeatureDesugarer$Machine"
abbrev wsX100 : List Cond := u_ws RX10 TX10 4
theorem nmX10 : ∀ a, a < 4 → ∀ b, b < 4 → a ≠ b → (TX10 a).2.1 ≠ (TX10 b).2.1 := by decide +kernel
theorem tyX10_ok : ∀ k, k < 4 → parseFieldDescriptor (TX10 k).2.2.1 = some (tyX10 k) := by decide +kernel
abbrev cX10_init : ByteArray := prog_1_method_1_code
def yX10_init : MethodName := ⟨RX10, "<init>", "()V"⟩
abbrev cX10_function : ByteArray := prog_1_method_2_code
def yX10_function : MethodName := ⟨RX10, "function", "(I)I"⟩
abbrev cX10_code : ByteArray := prog_1_method_3_code
def yX10_code : MethodName := ⟨RX10, "code", "(IIII)I"⟩
abbrev cX10_recipe : ByteArray := prog_1_method_4_code
def yX10_recipe : MethodName := ⟨RX10, "recipe", "(J)I"⟩
abbrev cX10_check : ByteArray := prog_1_method_5_code
def yX10_check : MethodName := ⟨RX10, "check", "()I"⟩
abbrev cX10_lower : ByteArray := prog_1_method_6_code
def yX10_lower : MethodName := ⟨RX10, "lower", "()I"⟩
abbrev cX10_count : ByteArray := prog_1_method_7_code
def yX10_count : MethodName := ⟨RX10, "count", "(I)I"⟩
abbrev cX10_size : ByteArray := prog_1_method_8_code
def yX10_size : MethodName := ⟨RX10, "size", "(II)I"⟩
abbrev cX10_plain : ByteArray := prog_1_method_9_code
def yX10_plain : MethodName := ⟨RX10, "plain", "(III)I"⟩
abbrev cX10_made : ByteArray := prog_1_method_10_code
def yX10_made : MethodName := ⟨RX10, "made", "(II)I"⟩
abbrev cX10_character : ByteArray := prog_1_method_11_code
def yX10_character : MethodName := ⟨RX10, "character", "(I)I"⟩
abbrev cX10_run : ByteArray := prog_1_method_12_code
def yX10_run : MethodName := ⟨RX10, "run", "(IIIIZ)I"⟩
abbrev cX10_told : ByteArray := prog_1_method_13_code
def yX10_told : MethodName := ⟨RX10, "told", "(I)I"⟩
abbrev cX10_said : ByteArray := prog_1_method_14_code
def yX10_said : MethodName := ⟨RX10, "said", "(I)I"⟩
abbrev cX10_valueOf : ByteArray := prog_1_method_15_code
def yX10_valueOf : MethodName := ⟨RX10, "valueOf", "(II)J"⟩
abbrev cX10_kindOf : ByteArray := prog_1_method_16_code
def yX10_kindOf : MethodName := ⟨RX10, "kindOf", "(J)I"⟩
abbrev cX10_contentOf : ByteArray := prog_1_method_17_code
def yX10_contentOf : MethodName := ⟨RX10, "contentOf", "(J)I"⟩
def RX11 : String := "FeatureDesugarerModel"
def TX11 : u_T := fun k => match k with
  | 0 => ("FeatureDesugarerModel", "code", "I", false)
  | 1 => ("FeatureDesugarerModel", "functions", "I", false)
  | 2 => ("FeatureDesugarerModel", "parameters", "[I", true)
  | 3 => ("FeatureDesugarerModel", "sizes", "[I", true)
  | 4 => ("FeatureDesugarerModel", "word", "[I", true)
  | 5 => ("FeatureDesugarerModel", "numberA", "[I", true)
  | 6 => ("FeatureDesugarerModel", "numberB", "[I", true)
  | 7 => ("FeatureDesugarerModel", "recipes", "I", false)
  | 8 => ("FeatureDesugarerModel", "letters", "[I", true)
  | 9 => ("FeatureDesugarerModel", "letter", "[I", true)
  | 10 => ("FeatureDesugarerModel", "made", "Z", false)
  | 11 => ("FeatureDesugarerModel", "height", "[I", true)
  | 12 => ("FeatureDesugarerModel", "waits", "[Z", true)
  | 13 => ("FeatureDesugarerModel", "wrong", "I", false)
  | 14 => ("FeatureDesugarerModel", "highest", "[I", true)
  | 15 => ("FeatureDesugarerModel", "plainHighest", "[I", true)
  | 16 => ("FeatureDesugarerModel", "plainSize", "[I", true)
  | 17 => ("FeatureDesugarerModel", "plainWord", "[I", true)
  | 18 => ("FeatureDesugarerModel", "plainA", "[I", true)
  | 19 => ("FeatureDesugarerModel", "plainB", "[I", true)
  | 20 => ("FeatureDesugarerModel", "place", "[I", true)
  | 21 => ("FeatureDesugarerModel", "classes", "I", false)
  | 22 => ("FeatureDesugarerModel", "classValues", "[I", true)
  | 23 => ("FeatureDesugarerModel", "classFunction", "[I", true)
  | 24 => ("FeatureDesugarerModel", "table", "I", false)
  | 25 => ("FeatureDesugarerModel", "character", "[I", true)
  | 26 => ("FeatureDesugarerModel", "letterAt", "[I", true)
  | 27 => ("FeatureDesugarerModel", "steps", "I", false)
  | 28 => ("FeatureDesugarerModel", "fault", "I", false)
  | 29 => ("FeatureDesugarerModel", "returnedKind", "I", false)
  | 30 => ("FeatureDesugarerModel", "returned", "I", false)
  | 31 => ("FeatureDesugarerModel", "outputSize", "I", false)
  | 32 => ("FeatureDesugarerModel", "output", "[I", true)
  | 33 => ("FeatureDesugarerModel", "height0", "I", false)
  | 34 => ("FeatureDesugarerModel", "stackKind", "[I", true)
  | 35 => ("FeatureDesugarerModel", "stackValue", "[I", true)
  | 36 => ("FeatureDesugarerModel", "depth", "I", false)
  | 37 => ("FeatureDesugarerModel", "frameFunction", "[I", true)
  | 38 => ("FeatureDesugarerModel", "frameAt", "[I", true)
  | 39 => ("FeatureDesugarerModel", "frameBase", "[I", true)
  | 40 => ("FeatureDesugarerModel", "localKind", "[I", true)
  | 41 => ("FeatureDesugarerModel", "localValue", "[I", true)
  | 42 => ("FeatureDesugarerModel", "argumentKind", "[I", true)
  | 43 => ("FeatureDesugarerModel", "argumentValue", "[I", true)
  | 44 => ("FeatureDesugarerModel", "texts", "I", false)
  | 45 => ("FeatureDesugarerModel", "textSize", "[I", true)
  | 46 => ("FeatureDesugarerModel", "textBytes", "[I", true)
  | 47 => ("FeatureDesugarerModel", "closures", "I", false)
  | 48 => ("FeatureDesugarerModel", "closureFunction", "[I", true)
  | 49 => ("FeatureDesugarerModel", "closureSize", "[I", true)
  | 50 => ("FeatureDesugarerModel", "closureKind", "[I", true)
  | 51 => ("FeatureDesugarerModel", "closureValue", "[I", true)
  | 52 => ("FeatureDesugarerModel", "pieceSize", "I", false)
  | _ => ("FeatureDesugarerModel", "piece", "[I", true)
def tyX11 : Nat → FieldType := fun k => match k with
  | 0 => .int
  | 1 => .int
  | 2 => .array .int
  | 3 => .array .int
  | 4 => .array .int
  | 5 => .array .int
  | 6 => .array .int
  | 7 => .int
  | 8 => .array .int
  | 9 => .array .int
  | 10 => .boolean
  | 11 => .array .int
  | 12 => .array .boolean
  | 13 => .int
  | 14 => .array .int
  | 15 => .array .int
  | 16 => .array .int
  | 17 => .array .int
  | 18 => .array .int
  | 19 => .array .int
  | 20 => .array .int
  | 21 => .int
  | 22 => .array .int
  | 23 => .array .int
  | 24 => .int
  | 25 => .array .int
  | 26 => .array .int
  | 27 => .int
  | 28 => .int
  | 29 => .int
  | 30 => .int
  | 31 => .int
  | 32 => .array .int
  | 33 => .int
  | 34 => .array .int
  | 35 => .array .int
  | 36 => .int
  | 37 => .array .int
  | 38 => .array .int
  | 39 => .array .int
  | 40 => .array .int
  | 41 => .array .int
  | 42 => .array .int
  | 43 => .array .int
  | 44 => .int
  | 45 => .array .int
  | 46 => .array .int
  | 47 => .int
  | 48 => .array .int
  | 49 => .array .int
  | 50 => .array .int
  | 51 => .array .int
  | 52 => .int
  | _ => .array .int
abbrev wsX110 : List Cond := u_ws RX11 TX11 54
theorem nmX11 : ∀ a, a < 54 → ∀ b, b < 54 → a ≠ b → (TX11 a).2.1 ≠ (TX11 b).2.1 := by decide +kernel
theorem tyX11_ok : ∀ k, k < 54 → parseFieldDescriptor (TX11 k).2.2.1 = some (tyX11 k) := by decide +kernel
abbrev cX11_init : ByteArray := prog_13_method_1_code
def yX11_init : MethodName := ⟨RX11, "<init>", "()V"⟩
abbrev cX11_thrown : ByteArray := prog_13_method_2_code
def yX11_thrown : MethodName := ⟨RX11, "thrown", "()I"⟩
abbrev cX11_goes : ByteArray := prog_13_method_3_code
def yX11_goes : MethodName := ⟨RX11, "goes", "(ZZ)Z"⟩
abbrev cX11_function : ByteArray := prog_13_method_4_code
def yX11_function : MethodName := ⟨RX11, "function", "(I)I"⟩
abbrev cX11_isFunction : ByteArray := prog_13_method_5_code
def yX11_isFunction : MethodName := ⟨RX11, "isFunction", "(I)Z"⟩
abbrev cX11_code : ByteArray := prog_13_method_6_code
def yX11_code : MethodName := ⟨RX11, "code", "(IIII)I"⟩
abbrev cX11_recipe : ByteArray := prog_13_method_7_code
def yX11_recipe : MethodName := ⟨RX11, "recipe", "(J)I"⟩
abbrev cX11_holes : ByteArray := prog_13_method_8_code
def yX11_holes : MethodName := ⟨RX11, "holes", "(I)I"⟩
abbrev cX11_isBound : ByteArray := prog_13_method_9_code
def yX11_isBound : MethodName := ⟨RX11, "isBound", "(II)Z"⟩
abbrev cX11_pops : ByteArray := prog_13_method_10_code
def yX11_pops : MethodName := ⟨RX11, "pops", "(I)I"⟩
abbrev cX11_pushes : ByteArray := prog_13_method_11_code
def yX11_pushes : MethodName := ⟨RX11, "pushes", "(I)I"⟩
abbrev cX11_meet : ByteArray := prog_13_method_12_code
def yX11_meet : MethodName := ⟨RX11, "meet", "(III)V"⟩
abbrev cX11_least : ByteArray := prog_13_method_13_code
def yX11_least : MethodName := ⟨RX11, "least", "(I)I"⟩
abbrev cX11_walk : ByteArray := prog_13_method_14_code
def yX11_walk : MethodName := ⟨RX11, "walk", "(I)V"⟩
abbrev cX11_checkOne : ByteArray := prog_13_method_15_code
def yX11_checkOne : MethodName := ⟨RX11, "checkOne", "(I)I"⟩
abbrev cX11_checkAll : ByteArray := prog_13_method_16_code
def yX11_checkAll : MethodName := ⟨RX11, "checkAll", "()I"⟩
abbrev cX11_check : ByteArray := prog_13_method_17_code
def yX11_check : MethodName := ⟨RX11, "check", "()I"⟩
abbrev cX11_put : ByteArray := prog_13_method_18_code
def yX11_put : MethodName := ⟨RX11, "put", "(IIII)V"⟩
abbrev cX11_putFunction : ByteArray := prog_13_method_19_code
def yX11_putFunction : MethodName := ⟨RX11, "putFunction", "(III)V"⟩
abbrev cX11_putJoin : ByteArray := prog_13_method_20_code
def yX11_putJoin : MethodName := ⟨RX11, "putJoin", "(II)V"⟩
abbrev cX11_within : ByteArray := prog_13_method_21_code
def yX11_within : MethodName := ⟨RX11, "within", "(II)I"⟩
abbrev cX11_lowerOne : ByteArray := prog_13_method_22_code
def yX11_lowerOne : MethodName := ⟨RX11, "lowerOne", "(I)V"⟩
abbrev cX11_lower : ByteArray := prog_13_method_23_code
def yX11_lower : MethodName := ⟨RX11, "lower", "()I"⟩
abbrev cX11_count : ByteArray := prog_13_method_24_code
def yX11_count : MethodName := ⟨RX11, "count", "(I)I"⟩
abbrev cX11_size : ByteArray := prog_13_method_25_code
def yX11_size : MethodName := ⟨RX11, "size", "(II)I"⟩
abbrev cX11_plain : ByteArray := prog_13_method_26_code
def yX11_plain : MethodName := ⟨RX11, "plain", "(III)I"⟩
abbrev cX11_made : ByteArray := prog_13_method_27_code
def yX11_made : MethodName := ⟨RX11, "made", "(II)I"⟩
abbrev cX11_character : ByteArray := prog_13_method_28_code
def yX11_character : MethodName := ⟨RX11, "character", "(I)I"⟩
abbrev cX11_push : ByteArray := prog_13_method_29_code
def yX11_push : MethodName := ⟨RX11, "push", "(II)V"⟩
abbrev cX11_begin : ByteArray := prog_13_method_30_code
def yX11_begin : MethodName := ⟨RX11, "begin", "(II)V"⟩
abbrev cX11_take : ByteArray := prog_13_method_31_code
def yX11_take : MethodName := ⟨RX11, "take", "(II)V"⟩
abbrev cX11_letter : ByteArray := prog_13_method_32_code
def yX11_letter : MethodName := ⟨RX11, "letter", "(I)V"⟩
abbrev cX11_write : ByteArray := prog_13_method_33_code
def yX11_write : MethodName := ⟨RX11, "write", "(II)V"⟩
abbrev cX11_say : ByteArray := prog_13_method_34_code
def yX11_say : MethodName := ⟨RX11, "say", "()V"⟩
abbrev cX11_join : ByteArray := prog_13_method_35_code
def yX11_join : MethodName := ⟨RX11, "join", "(I)V"⟩
abbrev cX11_close : ByteArray := prog_13_method_36_code
def yX11_close : MethodName := ⟨RX11, "close", "(II)V"⟩
abbrev cX11_apply : ByteArray := prog_13_method_37_code
def yX11_apply : MethodName := ⟨RX11, "apply", "(I)V"⟩
abbrev cX11_reckon : ByteArray := prog_13_method_38_code
def yX11_reckon : MethodName := ⟨RX11, "reckon", "(I)V"⟩
abbrev cX11_leave : ByteArray := prog_13_method_39_code
def yX11_leave : MethodName := ⟨RX11, "leave", "()V"⟩
abbrev cX11_step : ByteArray := prog_13_method_40_code
def yX11_step : MethodName := ⟨RX11, "step", "()V"⟩
abbrev cX11_run : ByteArray := prog_13_method_41_code
def yX11_run : MethodName := ⟨RX11, "run", "(IIIIZ)I"⟩
abbrev cX11_told : ByteArray := prog_13_method_42_code
def yX11_told : MethodName := ⟨RX11, "told", "(I)I"⟩
abbrev cX11_said : ByteArray := prog_13_method_43_code
def yX11_said : MethodName := ⟨RX11, "said", "(I)I"⟩
def RJx8e188 : String := "java/lang/Cloneable"
def TJx8e188 : u_T := fun k => match k with
  | _ => ("", "", "", false)
def tyJx8e188 : Nat → FieldType := fun k => match k with
  | _ => .int
abbrev wsJx8e1880 : List Cond := u_ws RJx8e188 TJx8e188 0
theorem nmJx8e188 : ∀ a, a < 0 → ∀ b, b < 0 → a ≠ b → (TJx8e188 a).2.1 ≠ (TJx8e188 b).2.1 := by decide +kernel
theorem tyJx8e188_ok : ∀ k, k < 0 → parseFieldDescriptor (TJx8e188 k).2.2.1 = some (tyJx8e188 k) := by decide +kernel
def RJ9 : String := "java/lang/Math"
def TJ9 : u_T := fun k => match k with
  | _ => ("", "", "", false)
def tyJ9 : Nat → FieldType := fun k => match k with
  | _ => .int
abbrev wsJ90 : List Cond := u_ws RJ9 TJ9 0
theorem nmJ9 : ∀ a, a < 0 → ∀ b, b < 0 → a ≠ b → (TJ9 a).2.1 ≠ (TJ9 b).2.1 := by decide +kernel
theorem tyJ9_ok : ∀ k, k < 0 → parseFieldDescriptor (TJ9 k).2.2.1 = some (tyJ9 k) := by decide +kernel
abbrev cJ9_max_7cf53 : ByteArray := prog_18_method_65_code
def yJ9_max_7cf53 : MethodName := ⟨RJ9, "max", "(II)I"⟩
abbrev cJ9_min_7cf53 : ByteArray := prog_18_method_69_code
def yJ9_min_7cf53 : MethodName := ⟨RJ9, "min", "(II)I"⟩
def RJ10 : String := "java/lang/System"
def TJ10 : u_T := fun k => match k with
  | _ => ("", "", "", false)
def tyJ10 : Nat → FieldType := fun k => match k with
  | _ => .int
abbrev wsJ100 : List Cond := u_ws RJ10 TJ10 0
theorem nmJ10 : ∀ a, a < 0 → ∀ b, b < 0 → a ≠ b → (TJ10 a).2.1 ≠ (TJ10 b).2.1 := by decide +kernel
theorem tyJ10_ok : ∀ k, k < 0 → parseFieldDescriptor (TJ10 k).2.2.1 = some (tyJ10 k) := by decide +kernel
def RJ7 : String := "java/util/Arrays"
def TJ7 : u_T := fun k => match k with
  | _ => ("", "", "", false)
def tyJ7 : Nat → FieldType := fun k => match k with
  | _ => .int
abbrev wsJ70 : List Cond := u_ws RJ7 TJ7 0
theorem nmJ7 : ∀ a, a < 0 → ∀ b, b < 0 → a ≠ b → (TJ7 a).2.1 ≠ (TJ7 b).2.1 := by decide +kernel
theorem tyJ7_ok : ∀ k, k < 0 → parseFieldDescriptor (TJ7 k).2.2.1 = some (tyJ7 k) := by decide +kernel
abbrev cJ7_copyOf_9075b : ByteArray := prog_22_method_121_code
def yJ7_copyOf_9075b : MethodName := ⟨RJ7, "copyOf", "([BI)[B"⟩
abbrev cJ7_copyOf_59c91 : ByteArray := prog_22_method_123_code
def yJ7_copyOf_59c91 : MethodName := ⟨RJ7, "copyOf", "([II)[I"⟩
def RL : String := "FeatureDesugarerLaw"
abbrev cL_function : ByteArray := method_3_code
def yL_function : MethodName := ⟨RL, "function", "(LFeatureDesugarer;I[J)I"⟩
abbrev cL_code : ByteArray := method_4_code
def yL_code : MethodName := ⟨RL, "code", "(LFeatureDesugarer;IIII[J)I"⟩
abbrev cL_recipe : ByteArray := method_5_code
def yL_recipe : MethodName := ⟨RL, "recipe", "(LFeatureDesugarer;J[J)I"⟩
abbrev cL_count : ByteArray := method_6_code
def yL_count : MethodName := ⟨RL, "count", "(LFeatureDesugarer;I[J)I"⟩
abbrev cL_size : ByteArray := method_7_code
def yL_size : MethodName := ⟨RL, "size", "(LFeatureDesugarer;II[J)I"⟩
abbrev cL_plain : ByteArray := method_8_code
def yL_plain : MethodName := ⟨RL, "plain", "(LFeatureDesugarer;III[J)I"⟩
abbrev cL_made : ByteArray := method_9_code
def yL_made : MethodName := ⟨RL, "made", "(LFeatureDesugarer;II[J)I"⟩
abbrev cL_character : ByteArray := method_10_code
def yL_character : MethodName := ⟨RL, "character", "(LFeatureDesugarer;I[J)I"⟩
abbrev cL_run : ByteArray := method_11_code
def yL_run : MethodName := ⟨RL, "run", "(LFeatureDesugarer;IIIIZ[J)I"⟩
abbrev cL_told : ByteArray := method_12_code
def yL_told : MethodName := ⟨RL, "told", "(LFeatureDesugarer;I[J)I"⟩
abbrev cL_said : ByteArray := method_13_code
def yL_said : MethodName := ⟨RL, "said", "(LFeatureDesugarer;I[J)I"⟩
abbrev cL_law : ByteArray := code
def yL_law : MethodName := ⟨RL, "law", "([I)Z"⟩
end
section
/-! PURE WORLDS: cells have numbers 0, 1, ..; ad says where each lies. A shape: how many cells, the kind and length of each, the references in objects' fields. A memory: ints by cell and place, longs by cell and place. Kinds: 0 byte[], 1 int[], 2 long[], 3 boolean[], 4 + c an object of class c. -/
def lw_good : List Cond := lw_tbl.filter goodWord
theorem lw_good_in {w : Cond} (h : w ∈ lw_tbl) (hg : goodWord w = true) : w ∈ lw_good := List.mem_filter.mpr ⟨h, hg⟩
theorem lw_good_sub {w : Cond} (h : w ∈ lw_good) : w ∈ lw_tbl := (List.mem_filter.mp h).1
theorem lw_good_ok {w : Cond} (h : w ∈ lw_good) : goodWord w = true := (List.mem_filter.mp h).2
abbrev pz_cl : List vw_C := [(RX1, TX1, 7), (RX2, TX2, 4), (RX3, TX3, 5), (RX4, TX4, 10), (RX5, TX5, 11), (RX6, TX6, 7), (RX7, TX7, 7), (RX8, TX8, 8), (RX9, TX9, 3), (RX10, TX10, 4), (RX11, TX11, 54)]
abbrev pzM : Type := (Nat → Nat → Int32) × (Nat → Nat → Int64)
abbrev pzS : Type := Nat × (Nat → Nat × Nat) × (Nat → Nat → Option Nat)
def pz_t (ad : Nat → Nat) (v : Value) : Value := match v with
  | .ref i => .ref (ad i)
  | w => w
abbrev pz_p (ad : Nat → Nat) (q : Nat × Value) : Nat × Value := (q.1, pz_t ad q.2)
theorem pz_t_cat (ad : Nat → Nat) (v : Value) : (pz_t ad v).category = v.category := by cases v <;> rfl
/-- a value of type t of field k of object i -/
def pz_v (ad : Nat → Nat) (σ : pzS) (M : pzM) (i k t : Nat) : Value := if t = 0 then .int (M.1 i k) else if t = 1 then .long (M.2 i k) else va_rf ((σ.2.2 i k).map ad)
def pz_fs (ad : Nat → Nat) (σ : pzS) (M : pzM) (i : Nat) : Nat → List Nat → List Value
  | _, [] => []
  | k, t :: ts => pz_v ad σ M i k t :: pz_fs ad σ M i (k + 1) ts
theorem pz_fs_get (ad : Nat → Nat) (σ : pzS) (M : pzM) (i : Nat) : ∀ (ts : List Nat) (k0 k : Nat), (pz_fs ad σ M i k0 ts)[k]? = (ts[k]?).map (pz_v ad σ M i (k0 + k))
  | [], k0, k => by simp [pz_fs]
  | t :: ts, k0, 0 => by simp [pz_fs]
  | t :: ts, k0, k + 1 => by
    simp only [pz_fs, List.getElem?_cons_succ]
    rw [pz_fs_get ad σ M i ts (k0 + 1) k, show k0 + 1 + k = k0 + (k + 1) from by omega]
theorem pz_fs_len (ad : Nat → Nat) (σ : pzS) (M : pzM) (i : Nat) : ∀ (ts : List Nat) (k0 : Nat), (pz_fs ad σ M i k0 ts).length = ts.length
  | [], k0 => rfl
  | t :: ts, k0 => by simp [pz_fs, pz_fs_len ad σ M i ts (k0 + 1)]
/-- two tables of fields that agree -/
theorem pz_fs_congr {ad ad' : Nat → Nat} {σ σ' : pzS} {M M' : pzM} {i : Nat} : ∀ (ts : List Nat) (k0 : Nat), (∀ k t, ts[k]? = some t → pz_v ad σ M i (k0 + k) t = pz_v ad' σ' M' i (k0 + k) t) → pz_fs ad σ M i k0 ts = pz_fs ad' σ' M' i k0 ts
  | [], k0, _ => rfl
  | t :: ts, k0, h => by
    simp only [pz_fs]
    rw [show pz_v ad σ M i k0 t = pz_v ad' σ' M' i k0 t from h 0 t rfl, pz_fs_congr (ad := ad) (ad' := ad') (σ := σ) (σ' := σ') (M := M) (M' := M') ts (k0 + 1) (fun k t hk => by rw [show k0 + 1 + k = k0 + (k + 1) from by omega]; exact h (k + 1) t (by simpa using hk))]
theorem pz_fs_set {ad : Nat → Nat} {σ σ' : pzS} {M M' : pzM} {i : Nat} {v : Value} : ∀ (ts : List Nat) (k0 k t : Nat), ts[k]? = some t → pz_v ad σ' M' i (k0 + k) t = v → (∀ j u, j ≠ k → ts[j]? = some u → pz_v ad σ M i (k0 + j) u = pz_v ad σ' M' i (k0 + j) u) → (pz_fs ad σ M i k0 ts).set k v = pz_fs ad σ' M' i k0 ts
  | [], k0, k, t, h, _, _ => by simp at h
  | u :: ts, k0, 0, t, h, hv, hj => by
    simp only [List.getElem?_cons_zero, Option.some.injEq] at h
    subst h
    simp only [pz_fs, List.set_cons_zero]
    rw [show pz_v ad σ' M' i k0 u = v from hv, pz_fs_congr (ad := ad) (ad' := ad) (σ := σ) (σ' := σ') (M := M) (M' := M') ts (k0 + 1) (fun k t hk => by rw [show k0 + 1 + k = k0 + (k + 1) from by omega]; exact hj (k + 1) t (by omega) (by simpa using hk))]
  | u :: ts, k0, k + 1, t, h, hv, hj => by
    simp only [pz_fs, List.set_cons_succ]
    rw [show pz_v ad σ M i k0 u = pz_v ad σ' M' i k0 u from hj 0 u (by omega) rfl,
      pz_fs_set (σ' := σ') (M' := M') ts (k0 + 1) k t (by simpa using h) (by rw [show k0 + 1 + k = k0 + (k + 1) from by omega]; exact hv) (fun j u hjk hu => by rw [show k0 + 1 + j = k0 + (j + 1) from by omega]; exact hj (j + 1) u (by omega) (by simpa using hu))]
def pz_ft (c : Nat) : List Nat := ([[2, 2, 2, 2, 2, 0, 0], [2, 2, 2, 0], [2, 2, 2, 2, 0], [2, 2, 2, 2, 2, 2, 0, 0, 0, 1], [2, 2, 2, 2, 2, 2, 2, 2, 2, 0, 0], [2, 2, 2, 2, 2, 2, 0], [2, 2, 2, 2, 2, 0, 0], [2, 2, 2, 0, 2, 0, 2, 0], [2, 2, 2], [2, 2, 2, 2], [0, 0, 2, 2, 2, 2, 2, 0, 2, 2, 0, 2, 2, 0, 2, 2, 2, 2, 2, 2, 2, 0, 2, 2, 0, 2, 2, 0, 0, 0, 0, 0, 2, 0, 2, 2, 0, 2, 2, 2, 2, 2, 2, 2, 0, 2, 2, 0, 2, 2, 2, 2, 0, 2]] : List (List Nat)).getD c []

/-- what cell i is -/
def pz_e (cy : Nat → ClassId) (ad : Nat → Nat) (σ : pzS) (M : pzM) (i : Nat) : va_E :=
  match (σ.2.1 i).1 with
  | 0 => .inl (cy 0, (σ.2.1 i).2, .inl (M.1 i))
  | 1 => .inl (cy 1, (σ.2.1 i).2, .inl (M.1 i))
  | 2 => .inl (cy 2, (σ.2.1 i).2, .inr (.inl (M.2 i)))
  | 3 => .inl (cy 3, (σ.2.1 i).2, .inl (M.1 i))
  | c + 4 => .inr (c, pz_fs ad σ M i 0 (pz_ft c))
def pz_w (cy : Nat → ClassId) (ad : Nat → Nat) (σ : pzS) (M : pzM) : va_W := (List.range σ.1).map (fun i => (ad i, pz_e cy ad σ M i))
abbrev pz_tys (cy : Nat → ClassId) : List (ClassId × FieldType) := [(cy 0, .byte), (cy 1, .int), (cy 2, .long), (cy 3, .boolean)]
theorem pz_w_get {cy : Nat → ClassId} {ad : Nat → Nat} {σ : pzS} {M : pzM} {i : Nat} (h : i < σ.1) : (pz_w cy ad σ M)[i]? = some (ad i, pz_e cy ad σ M i) := by
  simp [pz_w, List.getElem?_range h]
theorem pz_w_len {cy : Nat → ClassId} {ad : Nat → Nat} {σ : pzS} {M : pzM} : (pz_w cy ad σ M).length = σ.1 := by simp [pz_w]
theorem pz_w_congr {cy : Nat → ClassId} {ad ad' : Nat → Nat} {σ σ' : pzS} {M M' : pzM} (hn : σ.1 = σ'.1) (ha : ∀ i, i < σ.1 → ad i = ad' i) (he : ∀ i, i < σ.1 → pz_e cy ad σ M i = pz_e cy ad' σ' M' i) : pz_w cy ad σ M = pz_w cy ad' σ' M' := by
  unfold pz_w
  rw [← hn]
  refine List.map_congr_left (fun i hi => ?_)
  have h := List.mem_range.mp hi
  rw [ha i h, he i h]
theorem pz_w_set {cy : Nat → ClassId} {ad : Nat → Nat} {σ σ' : pzS} {M M' : pzM} {i : Nat} {e : va_E} (hn : σ.1 = σ'.1) (hi : i < σ.1) (he : pz_e cy ad σ' M' i = e) (ho : ∀ j, j < σ.1 → j ≠ i → pz_e cy ad σ M j = pz_e cy ad σ' M' j) : (pz_w cy ad σ M).set i (ad i, e) = pz_w cy ad σ' M' := by
  apply List.ext_getElem?
  intro j
  by_cases hj : j < σ.1
  · by_cases hji : j = i
    · subst hji
      rw [List.getElem?_set_self (by rw [pz_w_len]; exact hj), pz_w_get (by rw [← hn]; exact hj), he]
    · rw [List.getElem?_set_ne (Ne.symm hji), pz_w_get hj, pz_w_get (by rw [← hn]; exact hj), ho j hj hji]
  · rw [List.getElem?_eq_none (by rw [List.length_set, pz_w_len]; omega), List.getElem?_eq_none (by rw [pz_w_len, ← hn]; omega)]
/-- a store into row i at place k -/
def pz_u {α : Type} (f : Nat → Nat → α) (i k : Nat) (x : α) : Nat → Nat → α := va_up f i (va_up (f i) k x)
theorem pz_u_row {α : Type} (f : Nat → Nat → α) (i k : Nat) (x : α) : pz_u f i k x i = va_up (f i) k x := by simp [pz_u, va_up]
theorem pz_u_off {α : Type} (f : Nat → Nat → α) {i j : Nat} (k : Nat) (x : α) (h : j ≠ i) : pz_u f i k x j = f j := by simp [pz_u, va_up, h]
theorem pz_u_eq {α : Type} (f : Nat → Nat → α) (i k : Nat) (x : α) : pz_u f i k x i k = x := by simp [pz_u, va_up]
theorem pz_u_ne {α : Type} (f : Nat → Nat → α) {i k a b : Nat} (x : α) (h : a ≠ i ∨ b ≠ k) : pz_u f i k x a b = f a b := by
  rcases h with h | h
  · rw [pz_u_off f k x h]
  · by_cases ha : a = i
    · subst ha; rw [pz_u_row]; simp [va_up, h]
    · rw [pz_u_off f k x ha]
theorem pz_updI (f : Nat → Int32) (k : Nat) (x : Int32) : upd f k x = va_up f k x := rfl
theorem pz_updL (f : Nat → Int64) (k : Nat) (x : Int64) : vp_updL f k x = va_up f k x := rfl
/-- cells other than i don't see what is written into i -/
theorem pz_e_off {cy : Nat → ClassId} {ad : Nat → Nat} {σ σ' : pzS} {M M' : pzM} {j : Nat} (hK : σ.2.1 j = σ'.2.1 j) (h1 : M.1 j = M'.1 j) (h2 : M.2 j = M'.2 j) (h3 : σ.2.2 j = σ'.2.2 j) : pz_e cy ad σ M j = pz_e cy ad σ' M' j := by
  unfold pz_e
  rw [← hK, ← h1, ← h2]
  have hf : ∀ c, pz_fs ad σ M j 0 (pz_ft c) = pz_fs ad σ' M' j 0 (pz_ft c) := fun c => pz_fs_congr _ _ (fun k t _ => by unfold pz_v; rw [h1, h2, h3])
  split <;> first | rfl | (rw [hf])
end
section
/-! THE WALK OVER PURE WORLDS -/
def pz_nests : List (String × Nat × MethodName × String) := [("FeatureDesugarer", 11, ⟨"FeatureDesugarer$Program", "<init>", "()V"⟩, "FeatureDesugarer"), ("FeatureDesugarer$Program", 11, ⟨"FeatureDesugarer$Recipes", "<init>", "()V"⟩, "FeatureDesugarer"), ("FeatureDesugarer$PlainCode", 11, ⟨"FeatureDesugarer$Instructions", "<init>", "()V"⟩, "FeatureDesugarer"), ("FeatureDesugarer$Machine", 11, ⟨"FeatureDesugarer$Frames", "<init>", "()V"⟩, "FeatureDesugarer"), ("FeatureDesugarer$Machine", 20, ⟨"FeatureDesugarer$Holders", "<init>", "()V"⟩, "FeatureDesugarer"), ("FeatureDesugarer$Machine", 27, ⟨"FeatureDesugarer$Texts", "<init>", "()V"⟩, "FeatureDesugarer"), ("FeatureDesugarer$Machine", 90, ⟨"FeatureDesugarer", "valueOf", "(II)J"⟩, "FeatureDesugarer"), ("FeatureDesugarer$Machine", 60, ⟨"FeatureDesugarer", "kindOf", "(J)I"⟩, "FeatureDesugarer"), ("FeatureDesugarer$Machine", 67, ⟨"FeatureDesugarer", "contentOf", "(J)I"⟩, "FeatureDesugarer"), ("FeatureDesugarer$Texts", 71, ⟨"FeatureDesugarer", "kindOf", "(J)I"⟩, "FeatureDesugarer"), ("FeatureDesugarer$Texts", 75, ⟨"FeatureDesugarer", "contentOf", "(J)I"⟩, "FeatureDesugarer"), ("FeatureDesugarer$Holders", 28, ⟨"FeatureDesugarer", "valueOf", "(II)J"⟩, "FeatureDesugarer"), ("FeatureDesugarer$Texts", 37, ⟨"FeatureDesugarer", "valueOf", "(II)J"⟩, "FeatureDesugarer")]
def pz_N (U : State) : Prop := ∀ q ∈ pz_nests, va_Nw (.methodLinkNest q.1 q.2.1 q.2.2.1 q.2.2.2) U
theorem pz_N.warm {s U : State} (hW : s.WarmedH U.vm) (h : pz_N s) : pz_N U := fun q hq => va_Nw.warmM hW (h q hq)
theorem pz_N.same {u U : State} (he : u.vm = U.vm) (h : pz_N u) : pz_N U := fun q hq => va_Nw.same rfl he (h q hq)
def pz_C (p : Program) (s : State) (m : MethodId) (args : Array Value) (meth : Method) (c : Code) (cc : ByteArray) (nL : Nat) (own : String) (D : va_G) (cy : Nat → ClassId) (A : Nat → Prop) : Prop :=
  (p.tables.exec = Jvm.exec ∧ c.code = cc ∧ c.maxLocals = nL ∧ s.vm.findClass own = some m.cls ∧ ∀ w ∈ lw_good, w.before args s = true) ∧ va_K D pz_cl (pz_tys cy) s ∧ (∀ q, s.heap.size ≤ q → A q) ∧ meth.locks = false ∧ pz_N s
def pz_W (p : Program) (l : Launch) (e : Env) (R : Room) (s : State) (m : MethodId) (args : Array Value) (below : List Frame) (meth : Method) (c : Code) (nL : Nat) (D : va_G) (cy : Nat → ClassId) (A : Nat → Prop) (n0 : Nat) (ad0 : Nat → Nat) (Q : State → Prop)
    (σ : pzS) (M : pzM) (cells slots pc : Nat) (loc : List (Nat × Value)) (st : List Value) : Prop :=
  ∀ (ad : Nat → Nat) (H : Heap) (locs : List Loc) (ls : Array Slot), (∀ i, i < n0 → ad i = ad0 i) → va_P D pz_cl (pz_w cy ad σ M) H → va_D A (pz_w cy ad σ M) → va_S A s.heap H locs → lv_has ls nL (loc.map (pz_p ad)) →
    W p l e R s m args below meth c H locs cells slots Q (F0 m pc ls (st.map (pz_t ad)))
theorem pz_loc {ls : Array Slot} {nL : Nat} {loc : List (Nat × Value)} {ad : Nat → Nat} (h : lv_has ls nL (loc.map (pz_p ad))) {k i : Nat} {v : Value} (hk : loc[k]? = some (i, v)) : ls[i]? = some (.val (pz_t ad v)) :=
  lv_at h k (by rw [List.getElem?_map, hk]; rfl)
def pz_f1 (i : Nat) (loc : List (Nat × Value)) : List (Nat × Value) := loc.filter (fun q => !(q.1 == i) && !(q.1 + 1 == i && q.2.category == 2))
def pz_f2 (i : Nat) (loc : List (Nat × Value)) : List (Nat × Value) := loc.filter (fun q => !(q.1 == i) && (!(q.1 == i + 1) && !(q.1 + 1 == i && q.2.category == 2)))
theorem pz_f1_map (ad : Nat → Nat) (i : Nat) (loc : List (Nat × Value)) : (loc.map (pz_p ad)).filter (fun q => !(q.1 == i) && !(q.1 + 1 == i && q.2.category == 2)) = (pz_f1 i loc).map (pz_p ad) := by
  induction loc with
  | nil => rfl
  | cons a t ih =>
    have hc := pz_t_cat ad a.2
    unfold pz_f1 at ih ⊢
    simp only [List.map_cons, List.filter_cons, pz_p, hc]
    split <;> simp only [List.map_cons, ih]
theorem pz_f2_map (ad : Nat → Nat) (i : Nat) (loc : List (Nat × Value)) : (loc.map (pz_p ad)).filter (fun q => !(q.1 == i) && (!(q.1 == i + 1) && !(q.1 + 1 == i && q.2.category == 2))) = (pz_f2 i loc).map (pz_p ad) := by
  induction loc with
  | nil => rfl
  | cons a t ih =>
    have hc := pz_t_cat ad a.2
    unfold pz_f2 at ih ⊢
    simp only [List.map_cons, List.filter_cons, pz_p, hc]
    split <;> simp only [List.map_cons, ih]
section PZH
variable {cy : Nat → ClassId} {ad : Nat → Nat} {σ : pzS} {M : pzM} {i ci k : Nat}
theorem pz_at (hi : i < σ.1) (hK : (σ.2.1 i).1 = ci + 4) : (pz_w cy ad σ M)[i]? = some (ad i, .inr (ci, pz_fs ad σ M i 0 (pz_ft ci))) := by
  rw [pz_w_get hi]; unfold pz_e; rw [hK]
theorem pz_ar0 (hi : i < σ.1) (hK : (σ.2.1 i).1 = 0) : (pz_w cy ad σ M)[i]? = some (ad i, .inl (cy 0, (σ.2.1 i).2, .inl (M.1 i))) := by
  rw [pz_w_get hi]; unfold pz_e; rw [hK]
theorem pz_ar1 (hi : i < σ.1) (hK : (σ.2.1 i).1 = 1) : (pz_w cy ad σ M)[i]? = some (ad i, .inl (cy 1, (σ.2.1 i).2, .inl (M.1 i))) := by
  rw [pz_w_get hi]; unfold pz_e; rw [hK]
theorem pz_ar2 (hi : i < σ.1) (hK : (σ.2.1 i).1 = 2) : (pz_w cy ad σ M)[i]? = some (ad i, .inl (cy 2, (σ.2.1 i).2, .inr (.inl (M.2 i)))) := by
  rw [pz_w_get hi]; unfold pz_e; rw [hK]
theorem pz_ar3 (hi : i < σ.1) (hK : (σ.2.1 i).1 = 3) : (pz_w cy ad σ M)[i]? = some (ad i, .inl (cy 3, (σ.2.1 i).2, .inl (M.1 i))) := by
  rw [pz_w_get hi]; unfold pz_e; rw [hK]
theorem pz_setI {x : Int32} (hi : i < σ.1) (hK : (σ.2.1 i).1 = ci + 4) (hft : (pz_ft ci)[k]? = some 0) : (pz_w cy ad σ M).set i (ad i, .inr (ci, (pz_fs ad σ M i 0 (pz_ft ci)).set k (.int x))) = pz_w cy ad σ (pz_u M.1 i k x, M.2) := by
  refine pz_w_set rfl hi ?_ (fun j _ hj => pz_e_off rfl (pz_u_off _ _ _ hj).symm rfl rfl)
  unfold pz_e; rw [hK]
  refine congrArg (fun z => Sum.inr (ci, z)) (pz_fs_set _ 0 k 0 hft ?_ ?_).symm
  · simp [pz_v, pz_u_eq]
  · intro j u hj hu
    unfold pz_v
    rw [Nat.zero_add, show (pz_u M.1 i k x, M.2).1 i j = M.1 i j from pz_u_ne _ _ (Or.inr hj)]
theorem pz_setJ {x : Int64} (hi : i < σ.1) (hK : (σ.2.1 i).1 = ci + 4) (hft : (pz_ft ci)[k]? = some 1) : (pz_w cy ad σ M).set i (ad i, .inr (ci, (pz_fs ad σ M i 0 (pz_ft ci)).set k (.long x))) = pz_w cy ad σ (M.1, pz_u M.2 i k x) := by
  refine pz_w_set rfl hi ?_ (fun j _ hj => pz_e_off rfl rfl (pz_u_off _ _ _ hj).symm rfl)
  unfold pz_e; rw [hK]
  refine congrArg (fun z => Sum.inr (ci, z)) (pz_fs_set _ 0 k 1 hft ?_ ?_).symm
  · simp [pz_v, pz_u_eq]
  · intro j u hj hu
    unfold pz_v
    rw [Nat.zero_add, show (M.1, pz_u M.2 i k x).2 i j = M.2 i j from pz_u_ne _ _ (Or.inr hj)]
theorem pz_setR {b : Nat} (hi : i < σ.1) (hK : (σ.2.1 i).1 = ci + 4) (hft : (pz_ft ci)[k]? = some 2) : (pz_w cy ad σ M).set i (ad i, .inr (ci, (pz_fs ad σ M i 0 (pz_ft ci)).set k (.ref (ad b)))) = pz_w cy ad (σ.1, σ.2.1, pz_u σ.2.2 i k (some b)) M := by
  refine pz_w_set rfl hi ?_ (fun j _ hj => pz_e_off rfl rfl rfl (pz_u_off _ _ _ hj).symm)
  unfold pz_e; rw [hK]
  refine congrArg (fun z => Sum.inr (ci, z)) (pz_fs_set _ 0 k 2 hft ?_ ?_).symm
  · simp [pz_v, pz_u_eq, va_rf]
  · intro j u hj hu
    unfold pz_v
    rw [Nat.zero_add, show ((σ.1, σ.2.1, pz_u σ.2.2 i k (some b)) : pzS).2.2 i j = σ.2.2 i j from pz_u_ne _ _ (Or.inr hj)]
theorem pz_as0 {j : Nat} {y : Int32} (hi : i < σ.1) (hK : (σ.2.1 i).1 = 0) : (pz_w cy ad σ M).set i (ad i, .inl (cy 0, (σ.2.1 i).2, .inl (upd (M.1 i) j (vp_nar .byte y)))) = pz_w cy ad σ (pz_u M.1 i j (vp_nar .byte y), M.2) := by
  refine pz_w_set rfl hi ?_ (fun j _ hj => pz_e_off rfl (pz_u_off _ _ _ hj).symm rfl rfl)
  unfold pz_e; rw [hK]
  show Sum.inl (cy 0, (σ.2.1 i).2, Sum.inl (pz_u M.1 i j _ i)) = _
  rw [pz_u_row]; rfl
theorem pz_as1 {j : Nat} {y : Int32} (hi : i < σ.1) (hK : (σ.2.1 i).1 = 1) : (pz_w cy ad σ M).set i (ad i, .inl (cy 1, (σ.2.1 i).2, .inl (upd (M.1 i) j y))) = pz_w cy ad σ (pz_u M.1 i j y, M.2) := by
  refine pz_w_set rfl hi ?_ (fun j _ hj => pz_e_off rfl (pz_u_off _ _ _ hj).symm rfl rfl)
  unfold pz_e; rw [hK]
  show Sum.inl (cy 1, (σ.2.1 i).2, Sum.inl (pz_u M.1 i j _ i)) = _
  rw [pz_u_row]; rfl
theorem pz_as3 {j : Nat} {y : Int32} (hi : i < σ.1) (hK : (σ.2.1 i).1 = 3) : (pz_w cy ad σ M).set i (ad i, .inl (cy 3, (σ.2.1 i).2, .inl (upd (M.1 i) j (vp_nar .boolean y)))) = pz_w cy ad σ (pz_u M.1 i j (vp_nar .boolean y), M.2) := by
  refine pz_w_set rfl hi ?_ (fun j _ hj => pz_e_off rfl (pz_u_off _ _ _ hj).symm rfl rfl)
  unfold pz_e; rw [hK]
  show Sum.inl (cy 3, (σ.2.1 i).2, Sum.inl (pz_u M.1 i j _ i)) = _
  rw [pz_u_row]; rfl
theorem pz_as2 {j : Nat} {y : Int64} (hi : i < σ.1) (hK : (σ.2.1 i).1 = 2) : (pz_w cy ad σ M).set i (ad i, .inl (cy 2, (σ.2.1 i).2, .inr (.inl (vp_updL (M.2 i) j y)))) = pz_w cy ad σ (M.1, pz_u M.2 i j y) := by
  refine pz_w_set rfl hi ?_ (fun j _ hj => pz_e_off rfl rfl (pz_u_off _ _ _ hj).symm rfl)
  unfold pz_e; rw [hK]
  show Sum.inl (cy 2, (σ.2.1 i).2, Sum.inr (Sum.inl (pz_u M.2 i j _ i))) = _
  rw [pz_u_row]; rfl
end PZH
section PZR
variable {p : Program} {l : Launch} {e : Env} {R : Room} {s : State} {m : MethodId} {args : Array Value} {below : List Frame} {meth : Method} {c : Code} {cc : ByteArray} {nL : Nat} {own : String} {D : va_G} {cy : Nat → ClassId} {A : Nat → Prop} {n0 : Nat} {ad0 : Nat → Nat} {Q : State → Prop} {σ : pzS} {M : pzM} {cells slots pc : Nat} {loc loc' : List (Nat × Value)} {st : List Value}
theorem pz_iconst (C : pz_C p s m args meth c cc nL own D cy A) {n : Int} {v : Int32} (hd : decode cc pc = .ok (.iconst n, 1)) (hv : Int32.ofInt n = v) (k : pz_W p l e R s m args below meth c nL D cy A n0 ad0 Q σ M cells slots (pc + 1) loc (.int v :: st)) : pz_W p l e R s m args below meth c nL D cy A n0 ad0 Q σ M cells slots pc loc st :=
  fun ad H locs ls ha hP hD hS hl => lv_iconst C.1.1 C.1.2.1 hd hv (k ad H locs ls ha hP hD hS hl)
theorem pz_bipush (C : pz_C p s m args meth c cc nL own D cy A) {n : Int} {v : Int32} (hd : decode cc pc = .ok (.bipush n, 2)) (hv : (Int8.ofInt n).toInt32 = v) (k : pz_W p l e R s m args below meth c nL D cy A n0 ad0 Q σ M cells slots (pc + 2) loc (.int v :: st)) : pz_W p l e R s m args below meth c nL D cy A n0 ad0 Q σ M cells slots pc loc st :=
  fun ad H locs ls ha hP hD hS hl => lv_bipush C.1.1 C.1.2.1 hd hv (k ad H locs ls ha hP hD hS hl)
theorem pz_sipush (C : pz_C p s m args meth c cc nL own D cy A) {n : Int} {v : Int32} (hd : decode cc pc = .ok (.sipush n, 3)) (hv : (Int16.ofInt n).toInt32 = v) (k : pz_W p l e R s m args below meth c nL D cy A n0 ad0 Q σ M cells slots (pc + 3) loc (.int v :: st)) : pz_W p l e R s m args below meth c nL D cy A n0 ad0 Q σ M cells slots pc loc st :=
  fun ad H locs ls ha hP hD hS hl => lv_sipush C.1.1 C.1.2.1 hd hv (k ad H locs ls ha hP hD hS hl)
theorem pz_lconst (C : pz_C p s m args meth c cc nL own D cy A) {n : Fin 2} {v : Int64} (hd : decode cc pc = .ok (.lconst n, 1)) (hv : Int64.ofNat (n : Nat) = v) (k : pz_W p l e R s m args below meth c nL D cy A n0 ad0 Q σ M cells slots (pc + 1) loc (.long v :: st)) : pz_W p l e R s m args below meth c nL D cy A n0 ad0 Q σ M cells slots pc loc st :=
  fun ad H locs ls ha hP hD hS hl => lv_lconst C.1.1 C.1.2.1 hd hv (k ad H locs ls ha hP hD hS hl)
theorem pz_iload_n (C : pz_C p s m args meth c cc nL own D cy A) {j : Fin 4} {x : Int32} (q : Nat) (hd : decode cc pc = .ok (.iload_n j, 1)) (hq : loc[q]? = some ((j : Nat), .int x)) (k : pz_W p l e R s m args below meth c nL D cy A n0 ad0 Q σ M cells slots (pc + 1) loc (.int x :: st)) : pz_W p l e R s m args below meth c nL D cy A n0 ad0 Q σ M cells slots pc loc st :=
  fun ad H locs ls ha hP hD hS hl => lv_iload_n C.1.1 C.1.2.1 hd rfl (pz_loc hl hq) (k ad H locs ls ha hP hD hS hl)
theorem pz_iload (C : pz_C p s m args meth c cc nL own D cy A) {j : Nat} {x : Int32} (q : Nat) (hd : decode cc pc = .ok (.iload j, 2)) (hq : loc[q]? = some (j, .int x)) (k : pz_W p l e R s m args below meth c nL D cy A n0 ad0 Q σ M cells slots (pc + 2) loc (.int x :: st)) : pz_W p l e R s m args below meth c nL D cy A n0 ad0 Q σ M cells slots pc loc st :=
  fun ad H locs ls ha hP hD hS hl => lv_iload C.1.1 C.1.2.1 hd (pz_loc hl hq) (k ad H locs ls ha hP hD hS hl)
theorem pz_istore_n (C : pz_C p s m args meth c cc nL own D cy A) {j : Fin 4} {x : Int32} (hd : decode cc pc = .ok (.istore_n j, 1)) (hn : (j : Nat) < nL) (hq : ((j : Nat), Value.int x) :: pz_f1 j loc = loc') (k : pz_W p l e R s m args below meth c nL D cy A n0 ad0 Q σ M cells slots (pc + 1) loc' st) : pz_W p l e R s m args below meth c nL D cy A n0 ad0 Q σ M cells slots pc loc (.int x :: st) :=
  fun ad H locs ls ha hP hD hS hl => lv_istore_n C.1.1 C.1.2.1 hd rfl hl hn (by rw [← hq, pz_f1_map]; rfl) (fun ls1 hl1 => k ad H locs ls1 ha hP hD hS hl1)
theorem pz_istore (C : pz_C p s m args meth c cc nL own D cy A) {j : Nat} {x : Int32} (hd : decode cc pc = .ok (.istore j, 2)) (hn : j < nL) (hq : (j, Value.int x) :: pz_f1 j loc = loc') (k : pz_W p l e R s m args below meth c nL D cy A n0 ad0 Q σ M cells slots (pc + 2) loc' st) : pz_W p l e R s m args below meth c nL D cy A n0 ad0 Q σ M cells slots pc loc (.int x :: st) :=
  fun ad H locs ls ha hP hD hS hl => lv_istore C.1.1 C.1.2.1 hd hl hn (by rw [← hq, pz_f1_map]; rfl) (fun ls1 hl1 => k ad H locs ls1 ha hP hD hS hl1)
theorem pz_lload_n (C : pz_C p s m args meth c cc nL own D cy A) {j : Fin 4} {x : Int64} (q : Nat) (hd : decode cc pc = .ok (.lload_n j, 1)) (hq : loc[q]? = some ((j : Nat), .long x)) (k : pz_W p l e R s m args below meth c nL D cy A n0 ad0 Q σ M cells slots (pc + 1) loc (.long x :: st)) : pz_W p l e R s m args below meth c nL D cy A n0 ad0 Q σ M cells slots pc loc st :=
  fun ad H locs ls ha hP hD hS hl => lv_lload_n C.1.1 C.1.2.1 hd rfl (pz_loc hl hq) (k ad H locs ls ha hP hD hS hl)
theorem pz_lload (C : pz_C p s m args meth c cc nL own D cy A) {j : Nat} {x : Int64} (q : Nat) (hd : decode cc pc = .ok (.lload j, 2)) (hq : loc[q]? = some (j, .long x)) (k : pz_W p l e R s m args below meth c nL D cy A n0 ad0 Q σ M cells slots (pc + 2) loc (.long x :: st)) : pz_W p l e R s m args below meth c nL D cy A n0 ad0 Q σ M cells slots pc loc st :=
  fun ad H locs ls ha hP hD hS hl => lv_lload C.1.1 C.1.2.1 hd (pz_loc hl hq) (k ad H locs ls ha hP hD hS hl)
theorem pz_lstore_n (C : pz_C p s m args meth c cc nL own D cy A) {j : Fin 4} {x : Int64} (hd : decode cc pc = .ok (.lstore_n j, 1)) (hn : (j : Nat) + 1 < nL) (hq : ((j : Nat), Value.long x) :: pz_f2 j loc = loc') (k : pz_W p l e R s m args below meth c nL D cy A n0 ad0 Q σ M cells slots (pc + 1) loc' st) : pz_W p l e R s m args below meth c nL D cy A n0 ad0 Q σ M cells slots pc loc (.long x :: st) :=
  fun ad H locs ls ha hP hD hS hl => lv_lstore_n C.1.1 C.1.2.1 hd rfl hl hn (by rw [← hq, pz_f2_map]; rfl) (fun ls1 hl1 => k ad H locs ls1 ha hP hD hS hl1)
theorem pz_lstore (C : pz_C p s m args meth c cc nL own D cy A) {j : Nat} {x : Int64} (hd : decode cc pc = .ok (.lstore j, 2)) (hn : j + 1 < nL) (hq : (j, Value.long x) :: pz_f2 j loc = loc') (k : pz_W p l e R s m args below meth c nL D cy A n0 ad0 Q σ M cells slots (pc + 2) loc' st) : pz_W p l e R s m args below meth c nL D cy A n0 ad0 Q σ M cells slots pc loc (.long x :: st) :=
  fun ad H locs ls ha hP hD hS hl => lv_lstore C.1.1 C.1.2.1 hd hl hn (by rw [← hq, pz_f2_map]; rfl) (fun ls1 hl1 => k ad H locs ls1 ha hP hD hS hl1)
theorem pz_aload_n (C : pz_C p s m args meth c cc nL own D cy A) {j : Fin 4} {x : Nat} (q : Nat) (hd : decode cc pc = .ok (.aload_n j, 1)) (hq : loc[q]? = some ((j : Nat), .ref x)) (k : pz_W p l e R s m args below meth c nL D cy A n0 ad0 Q σ M cells slots (pc + 1) loc (.ref x :: st)) : pz_W p l e R s m args below meth c nL D cy A n0 ad0 Q σ M cells slots pc loc st :=
  fun ad H locs ls ha hP hD hS hl => lv_aload_n C.1.1 C.1.2.1 hd rfl (pz_loc hl hq) (k ad H locs ls ha hP hD hS hl)
theorem pz_aload (C : pz_C p s m args meth c cc nL own D cy A) {j : Nat} {x : Nat} (q : Nat) (hd : decode cc pc = .ok (.aload j, 2)) (hq : loc[q]? = some (j, .ref x)) (k : pz_W p l e R s m args below meth c nL D cy A n0 ad0 Q σ M cells slots (pc + 2) loc (.ref x :: st)) : pz_W p l e R s m args below meth c nL D cy A n0 ad0 Q σ M cells slots pc loc st :=
  fun ad H locs ls ha hP hD hS hl => lv_aload C.1.1 C.1.2.1 hd (pz_loc hl hq) (k ad H locs ls ha hP hD hS hl)
theorem pz_astore_n (C : pz_C p s m args meth c cc nL own D cy A) {j : Fin 4} {x : Nat} (hd : decode cc pc = .ok (.astore_n j, 1)) (hn : (j : Nat) < nL) (hq : ((j : Nat), Value.ref x) :: pz_f1 j loc = loc') (k : pz_W p l e R s m args below meth c nL D cy A n0 ad0 Q σ M cells slots (pc + 1) loc' st) : pz_W p l e R s m args below meth c nL D cy A n0 ad0 Q σ M cells slots pc loc (.ref x :: st) :=
  fun ad H locs ls ha hP hD hS hl => lv_astore_n C.1.1 C.1.2.1 hd rfl hl hn (by rw [← hq, pz_f1_map]; rfl) (fun ls1 hl1 => k ad H locs ls1 ha hP hD hS hl1)
theorem pz_astore (C : pz_C p s m args meth c cc nL own D cy A) {j : Nat} {x : Nat} (hd : decode cc pc = .ok (.astore j, 2)) (hn : j < nL) (hq : (j, Value.ref x) :: pz_f1 j loc = loc') (k : pz_W p l e R s m args below meth c nL D cy A n0 ad0 Q σ M cells slots (pc + 2) loc' st) : pz_W p l e R s m args below meth c nL D cy A n0 ad0 Q σ M cells slots pc loc (.ref x :: st) :=
  fun ad H locs ls ha hP hD hS hl => lv_astore C.1.1 C.1.2.1 hd hl hn (by rw [← hq, pz_f1_map]; rfl) (fun ls1 hl1 => k ad H locs ls1 ha hP hD hS hl1)
theorem pz_iinc (C : pz_C p s m args meth c cc nL own D cy A) {j : Nat} {n : Int} {x v : Int32} (q : Nat) (hd : decode cc pc = .ok (.iinc j n, 3)) (hk : loc[q]? = some (j, .int x)) (hv : x + Int32.ofInt n = v) (hn : j < nL) (hq : (j, Value.int v) :: pz_f1 j loc = loc') (k : pz_W p l e R s m args below meth c nL D cy A n0 ad0 Q σ M cells slots (pc + 3) loc' st) : pz_W p l e R s m args below meth c nL D cy A n0 ad0 Q σ M cells slots pc loc st :=
  fun ad H locs ls ha hP hD hS hl => lv_iinc C.1.1 C.1.2.1 hd hl (k := q) (by rw [List.getElem?_map, hk]; rfl) hv hn (by rw [← hq, pz_f1_map]; rfl) (fun ls1 hl1 => k ad H locs ls1 ha hP hD hS hl1)
theorem pz_iadd (C : pz_C p s m args meth c cc nL own D cy A) {x y : Int32} (hd : decode cc pc = .ok (.iadd, 1))  (k : pz_W p l e R s m args below meth c nL D cy A n0 ad0 Q σ M cells slots (pc + 1) loc (.int (x + y) :: st)) : pz_W p l e R s m args below meth c nL D cy A n0 ad0 Q σ M cells slots pc loc (.int y :: .int x :: st) :=
  fun ad H locs ls ha hP hD hS hl => lv_iadd C.1.1 C.1.2.1 hd  (k ad H locs ls ha hP hD hS hl)
theorem pz_isub (C : pz_C p s m args meth c cc nL own D cy A) {x y : Int32} (hd : decode cc pc = .ok (.isub, 1))  (k : pz_W p l e R s m args below meth c nL D cy A n0 ad0 Q σ M cells slots (pc + 1) loc (.int (x - y) :: st)) : pz_W p l e R s m args below meth c nL D cy A n0 ad0 Q σ M cells slots pc loc (.int y :: .int x :: st) :=
  fun ad H locs ls ha hP hD hS hl => lv_isub C.1.1 C.1.2.1 hd  (k ad H locs ls ha hP hD hS hl)
theorem pz_imul (C : pz_C p s m args meth c cc nL own D cy A) {x y : Int32} (hd : decode cc pc = .ok (.imul, 1))  (k : pz_W p l e R s m args below meth c nL D cy A n0 ad0 Q σ M cells slots (pc + 1) loc (.int (x * y) :: st)) : pz_W p l e R s m args below meth c nL D cy A n0 ad0 Q σ M cells slots pc loc (.int y :: .int x :: st) :=
  fun ad H locs ls ha hP hD hS hl => lv_imul C.1.1 C.1.2.1 hd  (k ad H locs ls ha hP hD hS hl)
theorem pz_iand (C : pz_C p s m args meth c cc nL own D cy A) {x y : Int32} (hd : decode cc pc = .ok (.iand, 1))  (k : pz_W p l e R s m args below meth c nL D cy A n0 ad0 Q σ M cells slots (pc + 1) loc (.int (x &&& y) :: st)) : pz_W p l e R s m args below meth c nL D cy A n0 ad0 Q σ M cells slots pc loc (.int y :: .int x :: st) :=
  fun ad H locs ls ha hP hD hS hl => lv_iand C.1.1 C.1.2.1 hd  (k ad H locs ls ha hP hD hS hl)
theorem pz_ladd (C : pz_C p s m args meth c cc nL own D cy A) {x y : Int64} (hd : decode cc pc = .ok (.ladd, 1))  (k : pz_W p l e R s m args below meth c nL D cy A n0 ad0 Q σ M cells slots (pc + 1) loc (.long (x + y) :: st)) : pz_W p l e R s m args below meth c nL D cy A n0 ad0 Q σ M cells slots pc loc (.long y :: .long x :: st) :=
  fun ad H locs ls ha hP hD hS hl => lv_ladd C.1.1 C.1.2.1 hd  (k ad H locs ls ha hP hD hS hl)
theorem pz_lsub (C : pz_C p s m args meth c cc nL own D cy A) {x y : Int64} (hd : decode cc pc = .ok (.lsub, 1))  (k : pz_W p l e R s m args below meth c nL D cy A n0 ad0 Q σ M cells slots (pc + 1) loc (.long (x - y) :: st)) : pz_W p l e R s m args below meth c nL D cy A n0 ad0 Q σ M cells slots pc loc (.long y :: .long x :: st) :=
  fun ad H locs ls ha hP hD hS hl => lv_lsub C.1.1 C.1.2.1 hd  (k ad H locs ls ha hP hD hS hl)
theorem pz_lmul (C : pz_C p s m args meth c cc nL own D cy A) {x y : Int64} (hd : decode cc pc = .ok (.lmul, 1))  (k : pz_W p l e R s m args below meth c nL D cy A n0 ad0 Q σ M cells slots (pc + 1) loc (.long (x * y) :: st)) : pz_W p l e R s m args below meth c nL D cy A n0 ad0 Q σ M cells slots pc loc (.long y :: .long x :: st) :=
  fun ad H locs ls ha hP hD hS hl => lv_lmul C.1.1 C.1.2.1 hd  (k ad H locs ls ha hP hD hS hl)
theorem pz_land (C : pz_C p s m args meth c cc nL own D cy A) {x y : Int64} (hd : decode cc pc = .ok (.land, 1))  (k : pz_W p l e R s m args below meth c nL D cy A n0 ad0 Q σ M cells slots (pc + 1) loc (.long (x &&& y) :: st)) : pz_W p l e R s m args below meth c nL D cy A n0 ad0 Q σ M cells slots pc loc (.long y :: .long x :: st) :=
  fun ad H locs ls ha hP hD hS hl => lv_land C.1.1 C.1.2.1 hd  (k ad H locs ls ha hP hD hS hl)
theorem pz_lor (C : pz_C p s m args meth c cc nL own D cy A) {x y : Int64} (hd : decode cc pc = .ok (.lor, 1))  (k : pz_W p l e R s m args below meth c nL D cy A n0 ad0 Q σ M cells slots (pc + 1) loc (.long (x ||| y) :: st)) : pz_W p l e R s m args below meth c nL D cy A n0 ad0 Q σ M cells slots pc loc (.long y :: .long x :: st) :=
  fun ad H locs ls ha hP hD hS hl => lv_lor C.1.1 C.1.2.1 hd  (k ad H locs ls ha hP hD hS hl)
theorem pz_lcmp (C : pz_C p s m args meth c cc nL own D cy A) {x y : Int64} (hd : decode cc pc = .ok (.lcmp, 1))  (k : pz_W p l e R s m args below meth c nL D cy A n0 ad0 Q σ M cells slots (pc + 1) loc (.int (lg_cmp x y) :: st)) : pz_W p l e R s m args below meth c nL D cy A n0 ad0 Q σ M cells slots pc loc (.long y :: .long x :: st) :=
  fun ad H locs ls ha hP hD hS hl => W.lcmp C.1.1 C.1.2.1 hd  (k ad H locs ls ha hP hD hS hl)
theorem pz_i2l (C : pz_C p s m args meth c cc nL own D cy A) {x : Int32} (hd : decode cc pc = .ok (.i2l, 1))  (k : pz_W p l e R s m args below meth c nL D cy A n0 ad0 Q σ M cells slots (pc + 1) loc (.long x.toInt64 :: st)) : pz_W p l e R s m args below meth c nL D cy A n0 ad0 Q σ M cells slots pc loc (.int x :: st) :=
  fun ad H locs ls ha hP hD hS hl => lv_i2l C.1.1 C.1.2.1 hd rfl (k ad H locs ls ha hP hD hS hl)
theorem pz_l2i (C : pz_C p s m args meth c cc nL own D cy A) {x : Int64} (hd : decode cc pc = .ok (.l2i, 1))  (k : pz_W p l e R s m args below meth c nL D cy A n0 ad0 Q σ M cells slots (pc + 1) loc (.int x.toInt32 :: st)) : pz_W p l e R s m args below meth c nL D cy A n0 ad0 Q σ M cells slots pc loc (.long x :: st) :=
  fun ad H locs ls ha hP hD hS hl => lv_l2i C.1.1 C.1.2.1 hd rfl (k ad H locs ls ha hP hD hS hl)
theorem pz_i2b (C : pz_C p s m args meth c cc nL own D cy A) {x : Int32} (hd : decode cc pc = .ok (.i2b, 1))  (k : pz_W p l e R s m args below meth c nL D cy A n0 ad0 Q σ M cells slots (pc + 1) loc (.int x.toInt8.toInt32 :: st)) : pz_W p l e R s m args below meth c nL D cy A n0 ad0 Q σ M cells slots pc loc (.int x :: st) :=
  fun ad H locs ls ha hP hD hS hl => lv_i2b C.1.1 C.1.2.1 hd rfl (k ad H locs ls ha hP hD hS hl)
theorem pz_lshr (C : pz_C p s m args meth c cc nL own D cy A) {x : Int64} {y : Int32} (hd : decode cc pc = .ok (.lshr, 1))  (k : pz_W p l e R s m args below meth c nL D cy A n0 ad0 Q σ M cells slots (pc + 1) loc (.long (x >>> (y.toInt64 &&& 63)) :: st)) : pz_W p l e R s m args below meth c nL D cy A n0 ad0 Q σ M cells slots pc loc (.int y :: .long x :: st) :=
  fun ad H locs ls ha hP hD hS hl => lv_lshr C.1.1 C.1.2.1 hd rfl (k ad H locs ls ha hP hD hS hl)
theorem pz_lshl (C : pz_C p s m args meth c cc nL own D cy A) {x : Int64} {y : Int32} (hd : decode cc pc = .ok (.lshl, 1))  (k : pz_W p l e R s m args below meth c nL D cy A n0 ad0 Q σ M cells slots (pc + 1) loc (.long (x <<< (y.toInt64 &&& 63)) :: st)) : pz_W p l e R s m args below meth c nL D cy A n0 ad0 Q σ M cells slots pc loc (.int y :: .long x :: st) :=
  fun ad H locs ls ha hP hD hS hl => lv_lshl C.1.1 C.1.2.1 hd rfl (k ad H locs ls ha hP hD hS hl)
theorem pz_dup (C : pz_C p s m args meth c cc nL own D cy A) {va : Value} (hd : decode cc pc = .ok (.dup, 1)) (hv : va.category = 1) (k : pz_W p l e R s m args below meth c nL D cy A n0 ad0 Q σ M cells slots (pc + 1) loc (va :: va :: st)) : pz_W p l e R s m args below meth c nL D cy A n0 ad0 Q σ M cells slots pc loc (va :: st) :=
  fun ad H locs ls ha hP hD hS hl => lv_dup C.1.1 C.1.2.1 hd ((pz_t_cat ad va).trans hv) (k ad H locs ls ha hP hD hS hl)
theorem pz_pop (C : pz_C p s m args meth c cc nL own D cy A) {va : Value} (hd : decode cc pc = .ok (.pop, 1)) (hv : va.category = 1) (k : pz_W p l e R s m args below meth c nL D cy A n0 ad0 Q σ M cells slots (pc + 1) loc st) : pz_W p l e R s m args below meth c nL D cy A n0 ad0 Q σ M cells slots pc loc (va :: st) :=
  fun ad H locs ls ha hP hD hS hl => lv_pop C.1.1 C.1.2.1 hd ((pz_t_cat ad va).trans hv) (k ad H locs ls ha hP hD hS hl)
theorem pz_dup2 (C : pz_C p s m args meth c cc nL own D cy A) {va vb : Value} (hd : decode cc pc = .ok (.dup2, 1)) (hv : va.category = 1) (hv2 : vb.category = 1) (k : pz_W p l e R s m args below meth c nL D cy A n0 ad0 Q σ M cells slots (pc + 1) loc (va :: vb :: va :: vb :: st)) : pz_W p l e R s m args below meth c nL D cy A n0 ad0 Q σ M cells slots pc loc (va :: vb :: st) :=
  fun ad H locs ls ha hP hD hS hl => lv_dup2_11 C.1.1 C.1.2.1 hd ((pz_t_cat ad va).trans hv) ((pz_t_cat ad vb).trans hv2) (k ad H locs ls ha hP hD hS hl)
theorem pz_icmp_eq (C : pz_C p s m args meth c cc nL own D cy A) {x y : Int32} {off : Int} {tgt : Nat} (hd : decode cc pc = .ok (.if_icmp .eq off, 3)) (ht : (pc : Int) + off = (tgt : Int)) (kt : x = y → pz_W p l e R s m args below meth c nL D cy A n0 ad0 Q σ M cells slots tgt loc st) (kf : ¬ x = y → pz_W p l e R s m args below meth c nL D cy A n0 ad0 Q σ M cells slots (pc + 3) loc st) : pz_W p l e R s m args below meth c nL D cy A n0 ad0 Q σ M cells slots pc loc (.int y :: .int x :: st) :=
  fun ad H locs ls ha hP hD hS hl => lv_icmp_eq C.1.1 C.1.2.1 hd ht (fun h => kt h ad H locs ls ha hP hD hS hl) (fun h => kf h ad H locs ls ha hP hD hS hl)
theorem pz_icmp_ne (C : pz_C p s m args meth c cc nL own D cy A) {x y : Int32} {off : Int} {tgt : Nat} (hd : decode cc pc = .ok (.if_icmp .ne off, 3)) (ht : (pc : Int) + off = (tgt : Int)) (kt : x ≠ y → pz_W p l e R s m args below meth c nL D cy A n0 ad0 Q σ M cells slots tgt loc st) (kf : x = y → pz_W p l e R s m args below meth c nL D cy A n0 ad0 Q σ M cells slots (pc + 3) loc st) : pz_W p l e R s m args below meth c nL D cy A n0 ad0 Q σ M cells slots pc loc (.int y :: .int x :: st) :=
  fun ad H locs ls ha hP hD hS hl => lv_icmp_ne C.1.1 C.1.2.1 hd ht (fun h => kt h ad H locs ls ha hP hD hS hl) (fun h => kf h ad H locs ls ha hP hD hS hl)
theorem pz_icmp_lt (C : pz_C p s m args meth c cc nL own D cy A) {x y : Int32} {off : Int} {tgt : Nat} (hd : decode cc pc = .ok (.if_icmp .lt off, 3)) (ht : (pc : Int) + off = (tgt : Int)) (kt : x < y → pz_W p l e R s m args below meth c nL D cy A n0 ad0 Q σ M cells slots tgt loc st) (kf : ¬ x < y → pz_W p l e R s m args below meth c nL D cy A n0 ad0 Q σ M cells slots (pc + 3) loc st) : pz_W p l e R s m args below meth c nL D cy A n0 ad0 Q σ M cells slots pc loc (.int y :: .int x :: st) :=
  fun ad H locs ls ha hP hD hS hl => lv_icmp_lt C.1.1 C.1.2.1 hd ht (fun h => kt h ad H locs ls ha hP hD hS hl) (fun h => kf h ad H locs ls ha hP hD hS hl)
theorem pz_icmp_ge (C : pz_C p s m args meth c cc nL own D cy A) {x y : Int32} {off : Int} {tgt : Nat} (hd : decode cc pc = .ok (.if_icmp .ge off, 3)) (ht : (pc : Int) + off = (tgt : Int)) (kt : y ≤ x → pz_W p l e R s m args below meth c nL D cy A n0 ad0 Q σ M cells slots tgt loc st) (kf : ¬ y ≤ x → pz_W p l e R s m args below meth c nL D cy A n0 ad0 Q σ M cells slots (pc + 3) loc st) : pz_W p l e R s m args below meth c nL D cy A n0 ad0 Q σ M cells slots pc loc (.int y :: .int x :: st) :=
  fun ad H locs ls ha hP hD hS hl => lv_icmp_ge C.1.1 C.1.2.1 hd ht (fun h => kt h ad H locs ls ha hP hD hS hl) (fun h => kf h ad H locs ls ha hP hD hS hl)
theorem pz_icmp_gt (C : pz_C p s m args meth c cc nL own D cy A) {x y : Int32} {off : Int} {tgt : Nat} (hd : decode cc pc = .ok (.if_icmp .gt off, 3)) (ht : (pc : Int) + off = (tgt : Int)) (kt : y < x → pz_W p l e R s m args below meth c nL D cy A n0 ad0 Q σ M cells slots tgt loc st) (kf : ¬ y < x → pz_W p l e R s m args below meth c nL D cy A n0 ad0 Q σ M cells slots (pc + 3) loc st) : pz_W p l e R s m args below meth c nL D cy A n0 ad0 Q σ M cells slots pc loc (.int y :: .int x :: st) :=
  fun ad H locs ls ha hP hD hS hl => lv_icmp_gt C.1.1 C.1.2.1 hd ht (fun h => kt h ad H locs ls ha hP hD hS hl) (fun h => kf h ad H locs ls ha hP hD hS hl)
theorem pz_icmp_le (C : pz_C p s m args meth c cc nL own D cy A) {x y : Int32} {off : Int} {tgt : Nat} (hd : decode cc pc = .ok (.if_icmp .le off, 3)) (ht : (pc : Int) + off = (tgt : Int)) (kt : x ≤ y → pz_W p l e R s m args below meth c nL D cy A n0 ad0 Q σ M cells slots tgt loc st) (kf : ¬ x ≤ y → pz_W p l e R s m args below meth c nL D cy A n0 ad0 Q σ M cells slots (pc + 3) loc st) : pz_W p l e R s m args below meth c nL D cy A n0 ad0 Q σ M cells slots pc loc (.int y :: .int x :: st) :=
  fun ad H locs ls ha hP hD hS hl => lv_icmp_le C.1.1 C.1.2.1 hd ht (fun h => kt h ad H locs ls ha hP hD hS hl) (fun h => kf h ad H locs ls ha hP hD hS hl)
theorem pz_if_eq (C : pz_C p s m args meth c cc nL own D cy A) {x : Int32} {off : Int} {tgt : Nat} (hd : decode cc pc = .ok (.ifCond .eq off, 3)) (ht : (pc : Int) + off = (tgt : Int)) (kt : x = 0 → pz_W p l e R s m args below meth c nL D cy A n0 ad0 Q σ M cells slots tgt loc st) (kf : ¬ x = 0 → pz_W p l e R s m args below meth c nL D cy A n0 ad0 Q σ M cells slots (pc + 3) loc st) : pz_W p l e R s m args below meth c nL D cy A n0 ad0 Q σ M cells slots pc loc (.int x :: st) :=
  fun ad H locs ls ha hP hD hS hl => lv_if_eq C.1.1 C.1.2.1 hd ht (fun h => kt h ad H locs ls ha hP hD hS hl) (fun h => kf h ad H locs ls ha hP hD hS hl)
theorem pz_if_ne (C : pz_C p s m args meth c cc nL own D cy A) {x : Int32} {off : Int} {tgt : Nat} (hd : decode cc pc = .ok (.ifCond .ne off, 3)) (ht : (pc : Int) + off = (tgt : Int)) (kt : x ≠ 0 → pz_W p l e R s m args below meth c nL D cy A n0 ad0 Q σ M cells slots tgt loc st) (kf : x = 0 → pz_W p l e R s m args below meth c nL D cy A n0 ad0 Q σ M cells slots (pc + 3) loc st) : pz_W p l e R s m args below meth c nL D cy A n0 ad0 Q σ M cells slots pc loc (.int x :: st) :=
  fun ad H locs ls ha hP hD hS hl => lv_if_ne C.1.1 C.1.2.1 hd ht (fun h => kt h ad H locs ls ha hP hD hS hl) (fun h => kf h ad H locs ls ha hP hD hS hl)
theorem pz_if_lt (C : pz_C p s m args meth c cc nL own D cy A) {x : Int32} {off : Int} {tgt : Nat} (hd : decode cc pc = .ok (.ifCond .lt off, 3)) (ht : (pc : Int) + off = (tgt : Int)) (kt : x < 0 → pz_W p l e R s m args below meth c nL D cy A n0 ad0 Q σ M cells slots tgt loc st) (kf : ¬ x < 0 → pz_W p l e R s m args below meth c nL D cy A n0 ad0 Q σ M cells slots (pc + 3) loc st) : pz_W p l e R s m args below meth c nL D cy A n0 ad0 Q σ M cells slots pc loc (.int x :: st) :=
  fun ad H locs ls ha hP hD hS hl => lv_if_lt C.1.1 C.1.2.1 hd ht (fun h => kt h ad H locs ls ha hP hD hS hl) (fun h => kf h ad H locs ls ha hP hD hS hl)
theorem pz_if_ge (C : pz_C p s m args meth c cc nL own D cy A) {x : Int32} {off : Int} {tgt : Nat} (hd : decode cc pc = .ok (.ifCond .ge off, 3)) (ht : (pc : Int) + off = (tgt : Int)) (kt : 0 ≤ x → pz_W p l e R s m args below meth c nL D cy A n0 ad0 Q σ M cells slots tgt loc st) (kf : ¬ 0 ≤ x → pz_W p l e R s m args below meth c nL D cy A n0 ad0 Q σ M cells slots (pc + 3) loc st) : pz_W p l e R s m args below meth c nL D cy A n0 ad0 Q σ M cells slots pc loc (.int x :: st) :=
  fun ad H locs ls ha hP hD hS hl => lv_if_ge C.1.1 C.1.2.1 hd ht (fun h => kt h ad H locs ls ha hP hD hS hl) (fun h => kf h ad H locs ls ha hP hD hS hl)
theorem pz_if_gt (C : pz_C p s m args meth c cc nL own D cy A) {x : Int32} {off : Int} {tgt : Nat} (hd : decode cc pc = .ok (.ifCond .gt off, 3)) (ht : (pc : Int) + off = (tgt : Int)) (kt : 0 < x → pz_W p l e R s m args below meth c nL D cy A n0 ad0 Q σ M cells slots tgt loc st) (kf : ¬ 0 < x → pz_W p l e R s m args below meth c nL D cy A n0 ad0 Q σ M cells slots (pc + 3) loc st) : pz_W p l e R s m args below meth c nL D cy A n0 ad0 Q σ M cells slots pc loc (.int x :: st) :=
  fun ad H locs ls ha hP hD hS hl => lv_if_gt C.1.1 C.1.2.1 hd ht (fun h => kt h ad H locs ls ha hP hD hS hl) (fun h => kf h ad H locs ls ha hP hD hS hl)
theorem pz_if_le (C : pz_C p s m args meth c cc nL own D cy A) {x : Int32} {off : Int} {tgt : Nat} (hd : decode cc pc = .ok (.ifCond .le off, 3)) (ht : (pc : Int) + off = (tgt : Int)) (kt : x ≤ 0 → pz_W p l e R s m args below meth c nL D cy A n0 ad0 Q σ M cells slots tgt loc st) (kf : ¬ x ≤ 0 → pz_W p l e R s m args below meth c nL D cy A n0 ad0 Q σ M cells slots (pc + 3) loc st) : pz_W p l e R s m args below meth c nL D cy A n0 ad0 Q σ M cells slots pc loc (.int x :: st) :=
  fun ad H locs ls ha hP hD hS hl => lv_if_le C.1.1 C.1.2.1 hd ht (fun h => kt h ad H locs ls ha hP hD hS hl) (fun h => kf h ad H locs ls ha hP hD hS hl)
theorem pz_goto (C : pz_C p s m args meth c cc nL own D cy A) {off : Int} {tgt : Nat} (hd : decode cc pc = .ok (.goto off, 3)) (ht : (pc : Int) + off = (tgt : Int)) (k : pz_W p l e R s m args below meth c nL D cy A n0 ad0 Q σ M cells slots tgt loc st) : pz_W p l e R s m args below meth c nL D cy A n0 ad0 Q σ M cells slots pc loc st :=
  fun ad H locs ls ha hP hD hS hl => lv_goto C.1.1 C.1.2.1 hd ht (k ad H locs ls ha hP hD hS hl)
theorem pz_getI (C : pz_C p s m args meth c cc nL own D cy A) {C1 : String} {T : u_T} {N ci index k i : Nat} (hin : ∀ w ∈ u_ws C1 T N, w ∈ lw_good) (hc : pz_cl[ci]? = some (C1, T, N)) (hk : k < N) (hlink : Cond.fieldLink own index (T k).1 (T k).2.1 (T k).2.2.1 ∈ lw_good) (hi : i < σ.1) (hK : (σ.2.1 i).1 = ci + 4) (hft : (pz_ft ci)[k]? = some 0) (hd : decode cc pc = .ok (.getfield index, 3)) (kk : pz_W p l e R s m args below meth c nL D cy A n0 ad0 Q σ M cells slots (pc + 3) loc (.int (M.1 i k) :: st)) : pz_W p l e R s m args below meth c nL D cy A n0 ad0 Q σ M cells slots pc loc (.ref i :: st) := by
  intro ad H locs ls ha hP hD hS hl
  refine va_get (D := D) (ci := ci) (v := .int (M.1 i k)) (C := C1) (T := T) (N := N) C.1.1 C.1.2.1 C.1.2.2.2.2 hin C.1.2.2.2.1 C.2.1 hP i (fs := pz_fs ad σ M i 0 (pz_ft ci)) (pz_at hi hK) hc k hk (C.1.2.2.2.2 _ hlink) (fun _ h => h) ?_ hd (kk ad H locs ls ha hP hD hS hl)
  rw [pz_fs_get, hft]; simp [pz_v]
theorem pz_getJ (C : pz_C p s m args meth c cc nL own D cy A) {C1 : String} {T : u_T} {N ci index k i : Nat} (hin : ∀ w ∈ u_ws C1 T N, w ∈ lw_good) (hc : pz_cl[ci]? = some (C1, T, N)) (hk : k < N) (hlink : Cond.fieldLink own index (T k).1 (T k).2.1 (T k).2.2.1 ∈ lw_good) (hi : i < σ.1) (hK : (σ.2.1 i).1 = ci + 4) (hft : (pz_ft ci)[k]? = some 1) (hd : decode cc pc = .ok (.getfield index, 3)) (kk : pz_W p l e R s m args below meth c nL D cy A n0 ad0 Q σ M cells slots (pc + 3) loc (.long (M.2 i k) :: st)) : pz_W p l e R s m args below meth c nL D cy A n0 ad0 Q σ M cells slots pc loc (.ref i :: st) := by
  intro ad H locs ls ha hP hD hS hl
  refine va_get (D := D) (ci := ci) (v := .long (M.2 i k)) (C := C1) (T := T) (N := N) C.1.1 C.1.2.1 C.1.2.2.2.2 hin C.1.2.2.2.1 C.2.1 hP i (fs := pz_fs ad σ M i 0 (pz_ft ci)) (pz_at hi hK) hc k hk (C.1.2.2.2.2 _ hlink) (fun _ h => h) ?_ hd (kk ad H locs ls ha hP hD hS hl)
  rw [pz_fs_get, hft]; simp [pz_v]
theorem pz_getR (C : pz_C p s m args meth c cc nL own D cy A) {C1 : String} {T : u_T} {N ci index k i : Nat} (hin : ∀ w ∈ u_ws C1 T N, w ∈ lw_good) (hc : pz_cl[ci]? = some (C1, T, N)) (hk : k < N) (hlink : Cond.fieldLink own index (T k).1 (T k).2.1 (T k).2.2.1 ∈ lw_good) (hi : i < σ.1) (hK : (σ.2.1 i).1 = ci + 4) {j : Nat} (hft : (pz_ft ci)[k]? = some 2) (hj : σ.2.2 i k = some j) (hd : decode cc pc = .ok (.getfield index, 3)) (kk : pz_W p l e R s m args below meth c nL D cy A n0 ad0 Q σ M cells slots (pc + 3) loc (.ref j :: st)) : pz_W p l e R s m args below meth c nL D cy A n0 ad0 Q σ M cells slots pc loc (.ref i :: st) := by
  intro ad H locs ls ha hP hD hS hl
  refine va_get (D := D) (ci := ci) (v := .ref (ad j)) (C := C1) (T := T) (N := N) C.1.1 C.1.2.1 C.1.2.2.2.2 hin C.1.2.2.2.1 C.2.1 hP i (fs := pz_fs ad σ M i 0 (pz_ft ci)) (pz_at hi hK) hc k hk (C.1.2.2.2.2 _ hlink) (fun _ h => h) ?_ hd (kk ad H locs ls ha hP hD hS hl)
  rw [pz_fs_get, hft]; simp [pz_v, hj, va_rf]
theorem pz_putI (C : pz_C p s m args meth c cc nL own D cy A) {x : Int32} {C1 : String} {T : u_T} {N ci index k i : Nat} (hin : ∀ w ∈ u_ws C1 T N, w ∈ lw_good) (hc : pz_cl[ci]? = some (C1, T, N)) (hk : k < N) (hlink : Cond.fieldLink own index (T k).1 (T k).2.1 (T k).2.2.1 ∈ lw_good) (hi : i < σ.1) (hK : (σ.2.1 i).1 = ci + 4) {ty0 : Nat → FieldType} (hty : ∀ k, k < N → parseFieldDescriptor (T k).2.2.1 = some (ty0 k)) (hnm : ∀ a, a < N → ∀ b, b < N → a ≠ b → (T a).2.1 ≠ (T b).2.1) (hft : (pz_ft ci)[k]? = some 0) (hfin : (T k).2.2.2 = false) (hp : parseFieldDescriptor (T k).2.2.1 = some .int) (hd : decode cc pc = .ok (.putfield index, 3)) (kk : pz_W p l e R s m args below meth c nL D cy A n0 ad0 Q σ (pz_u M.1 i k x, M.2) cells slots (pc + 3) loc st) : pz_W p l e R s m args below meth c nL D cy A n0 ad0 Q σ M cells slots pc loc (.int x :: .ref i :: st) := by
  intro ad H locs ls ha hP hD hS hl
  have hl9 : k < (pz_ft ci).length := (List.getElem?_eq_some_iff.mp hft).1
  refine va_put (D := D) (ci := ci) (v := .int x) (C := C1) (T := T) (N := N) C.1.1 C.1.2.1 C.1.2.2.2.2 hin ty0 hty hnm C.1.2.2.2.1 C.2.1 hP hD hS i (fs := pz_fs ad σ M i 0 (pz_ft ci)) (pz_at hi hK) hc k hk (C.1.2.2.2.2 _ hlink) (fun _ h => h) hfin (ty := .int) hp rfl rfl (by rw [pz_fs_len]; exact hl9) hd (fun H1 locs1 hP1 hD1 hS1 => ?_)
  have e1 : (pz_w cy ad σ M).set i (ad i, .inr (ci, (pz_fs ad σ M i 0 (pz_ft ci)).set k (.int x))) = pz_w cy ad (σ) ((pz_u M.1 i k x, M.2)) := pz_setI hi hK hft
  rw [e1] at hP1 hD1
  exact kk ad H1 locs1 ls ha hP1 hD1 hS1 hl
theorem pz_putIZ (C : pz_C p s m args meth c cc nL own D cy A) {x : Int32} {C1 : String} {T : u_T} {N ci index k i : Nat} (hin : ∀ w ∈ u_ws C1 T N, w ∈ lw_good) (hc : pz_cl[ci]? = some (C1, T, N)) (hk : k < N) (hlink : Cond.fieldLink own index (T k).1 (T k).2.1 (T k).2.2.1 ∈ lw_good) (hi : i < σ.1) (hK : (σ.2.1 i).1 = ci + 4) {ty0 : Nat → FieldType} (hty : ∀ k, k < N → parseFieldDescriptor (T k).2.2.1 = some (ty0 k)) (hnm : ∀ a, a < N → ∀ b, b < N → a ≠ b → (T a).2.1 ≠ (T b).2.1) (hft : (pz_ft ci)[k]? = some 0) (hfin : (T k).2.2.2 = false) (hp : parseFieldDescriptor (T k).2.2.1 = some .boolean) (hx : narrow .boolean (.int x) = .int x) (hx2 : fits .boolean (.int x) = true) (hd : decode cc pc = .ok (.putfield index, 3)) (kk : pz_W p l e R s m args below meth c nL D cy A n0 ad0 Q σ (pz_u M.1 i k x, M.2) cells slots (pc + 3) loc st) : pz_W p l e R s m args below meth c nL D cy A n0 ad0 Q σ M cells slots pc loc (.int x :: .ref i :: st) := by
  intro ad H locs ls ha hP hD hS hl
  have hl9 : k < (pz_ft ci).length := (List.getElem?_eq_some_iff.mp hft).1
  refine va_put (D := D) (ci := ci) (v := .int x) (C := C1) (T := T) (N := N) C.1.1 C.1.2.1 C.1.2.2.2.2 hin ty0 hty hnm C.1.2.2.2.1 C.2.1 hP hD hS i (fs := pz_fs ad σ M i 0 (pz_ft ci)) (pz_at hi hK) hc k hk (C.1.2.2.2.2 _ hlink) (fun _ h => h) hfin (ty := .boolean) hp hx hx2 (by rw [pz_fs_len]; exact hl9) hd (fun H1 locs1 hP1 hD1 hS1 => ?_)
  have e1 : (pz_w cy ad σ M).set i (ad i, .inr (ci, (pz_fs ad σ M i 0 (pz_ft ci)).set k (.int x))) = pz_w cy ad (σ) ((pz_u M.1 i k x, M.2)) := pz_setI hi hK hft
  rw [e1] at hP1 hD1
  exact kk ad H1 locs1 ls ha hP1 hD1 hS1 hl
theorem pz_putJ (C : pz_C p s m args meth c cc nL own D cy A) {x : Int64} {C1 : String} {T : u_T} {N ci index k i : Nat} (hin : ∀ w ∈ u_ws C1 T N, w ∈ lw_good) (hc : pz_cl[ci]? = some (C1, T, N)) (hk : k < N) (hlink : Cond.fieldLink own index (T k).1 (T k).2.1 (T k).2.2.1 ∈ lw_good) (hi : i < σ.1) (hK : (σ.2.1 i).1 = ci + 4) {ty0 : Nat → FieldType} (hty : ∀ k, k < N → parseFieldDescriptor (T k).2.2.1 = some (ty0 k)) (hnm : ∀ a, a < N → ∀ b, b < N → a ≠ b → (T a).2.1 ≠ (T b).2.1) (hft : (pz_ft ci)[k]? = some 1) (hfin : (T k).2.2.2 = false) (hp : parseFieldDescriptor (T k).2.2.1 = some .long) (hd : decode cc pc = .ok (.putfield index, 3)) (kk : pz_W p l e R s m args below meth c nL D cy A n0 ad0 Q σ (M.1, pz_u M.2 i k x) cells slots (pc + 3) loc st) : pz_W p l e R s m args below meth c nL D cy A n0 ad0 Q σ M cells slots pc loc (.long x :: .ref i :: st) := by
  intro ad H locs ls ha hP hD hS hl
  have hl9 : k < (pz_ft ci).length := (List.getElem?_eq_some_iff.mp hft).1
  refine va_put (D := D) (ci := ci) (v := .long x) (C := C1) (T := T) (N := N) C.1.1 C.1.2.1 C.1.2.2.2.2 hin ty0 hty hnm C.1.2.2.2.1 C.2.1 hP hD hS i (fs := pz_fs ad σ M i 0 (pz_ft ci)) (pz_at hi hK) hc k hk (C.1.2.2.2.2 _ hlink) (fun _ h => h) hfin (ty := .long) hp rfl rfl (by rw [pz_fs_len]; exact hl9) hd (fun H1 locs1 hP1 hD1 hS1 => ?_)
  have e1 : (pz_w cy ad σ M).set i (ad i, .inr (ci, (pz_fs ad σ M i 0 (pz_ft ci)).set k (.long x))) = pz_w cy ad (σ) ((M.1, pz_u M.2 i k x)) := pz_setJ hi hK hft
  rw [e1] at hP1 hD1
  exact kk ad H1 locs1 ls ha hP1 hD1 hS1 hl
theorem pz_putR (C : pz_C p s m args meth c cc nL own D cy A) {j : Nat} {ty : FieldType} {C1 : String} {T : u_T} {N ci index k i : Nat} (hin : ∀ w ∈ u_ws C1 T N, w ∈ lw_good) (hc : pz_cl[ci]? = some (C1, T, N)) (hk : k < N) (hlink : Cond.fieldLink own index (T k).1 (T k).2.1 (T k).2.2.1 ∈ lw_good) (hi : i < σ.1) (hK : (σ.2.1 i).1 = ci + 4) {ty0 : Nat → FieldType} (hty : ∀ k, k < N → parseFieldDescriptor (T k).2.2.1 = some (ty0 k)) (hnm : ∀ a, a < N → ∀ b, b < N → a ≠ b → (T a).2.1 ≠ (T b).2.1) (hft : (pz_ft ci)[k]? = some 2) (hfin : (T k).2.2.2 = false) (hp : parseFieldDescriptor (T k).2.2.1 = some ty) (hx : ∀ a : Nat, narrow ty (.ref a) = .ref a) (hx2 : ∀ a : Nat, fits ty (.ref a) = true) (hd : decode cc pc = .ok (.putfield index, 3)) (kk : pz_W p l e R s m args below meth c nL D cy A n0 ad0 Q (σ.1, σ.2.1, pz_u σ.2.2 i k (some j)) M cells slots (pc + 3) loc st) : pz_W p l e R s m args below meth c nL D cy A n0 ad0 Q σ M cells slots pc loc (.ref j :: .ref i :: st) := by
  intro ad H locs ls ha hP hD hS hl
  have hl9 : k < (pz_ft ci).length := (List.getElem?_eq_some_iff.mp hft).1
  refine va_put (D := D) (ci := ci) (v := .ref (ad j)) (C := C1) (T := T) (N := N) C.1.1 C.1.2.1 C.1.2.2.2.2 hin ty0 hty hnm C.1.2.2.2.1 C.2.1 hP hD hS i (fs := pz_fs ad σ M i 0 (pz_ft ci)) (pz_at hi hK) hc k hk (C.1.2.2.2.2 _ hlink) (fun _ h => h) hfin (ty := ty) hp (hx _) (hx2 _) (by rw [pz_fs_len]; exact hl9) hd (fun H1 locs1 hP1 hD1 hS1 => ?_)
  have e1 : (pz_w cy ad σ M).set i (ad i, .inr (ci, (pz_fs ad σ M i 0 (pz_ft ci)).set k (.ref (ad j)))) = pz_w cy ad ((σ.1, σ.2.1, pz_u σ.2.2 i k (some j))) (M) := pz_setR hi hK hft
  rw [e1] at hP1 hD1
  exact kk ad H1 locs1 ls ha hP1 hD1 hS1 hl
theorem pz_putRF (C : pz_C p s m args meth c cc nL own D cy A) {j : Nat} {ty : FieldType} {C1 : String} {T : u_T} {N ci index k i : Nat} (hin : ∀ w ∈ u_ws C1 T N, w ∈ lw_good) (hc : pz_cl[ci]? = some (C1, T, N)) (hk : k < N) (hlink : Cond.fieldLink own index (T k).1 (T k).2.1 (T k).2.2.1 ∈ lw_good) (hi : i < σ.1) (hK : (σ.2.1 i).1 = ci + 4) {ty0 : Nat → FieldType} (hty : ∀ k, k < N → parseFieldDescriptor (T k).2.2.1 = some (ty0 k)) (hnm : ∀ a, a < N → ∀ b, b < N → a ≠ b → (T a).2.1 ≠ (T b).2.1) (hft : (pz_ft ci)[k]? = some 2) (hfin : (T k).2.2.2 = true) (hin2 : meth.name = "<init>") (hdecl : (T k).1 = own) (hp : parseFieldDescriptor (T k).2.2.1 = some ty) (hx : ∀ a : Nat, narrow ty (.ref a) = .ref a) (hx2 : ∀ a : Nat, fits ty (.ref a) = true) (hd : decode cc pc = .ok (.putfield index, 3)) (kk : pz_W p l e R s m args below meth c nL D cy A n0 ad0 Q (σ.1, σ.2.1, pz_u σ.2.2 i k (some j)) M cells slots (pc + 3) loc st) : pz_W p l e R s m args below meth c nL D cy A n0 ad0 Q σ M cells slots pc loc (.ref j :: .ref i :: st) := by
  intro ad H locs ls ha hP hD hS hl
  have hl9 : k < (pz_ft ci).length := (List.getElem?_eq_some_iff.mp hft).1
  refine va_putF (D := D) (ci := ci) (v := .ref (ad j)) (C := C1) (T := T) (N := N) C.1.1 C.1.2.1 C.1.2.2.2.2 hin ty0 hty hnm C.1.2.2.2.1 C.2.1 hP hD hS i (fs := pz_fs ad σ M i 0 (pz_ft ci)) (pz_at hi hK) hc k hk (C.1.2.2.2.2 _ hlink) (fun _ h => h) hfin hin2 hdecl (ty := ty) hp (hx _) (hx2 _) (by rw [pz_fs_len]; exact hl9) hd (fun H1 locs1 hP1 hD1 hS1 => ?_)
  have e1 : (pz_w cy ad σ M).set i (ad i, .inr (ci, (pz_fs ad σ M i 0 (pz_ft ci)).set k (.ref (ad j)))) = pz_w cy ad ((σ.1, σ.2.1, pz_u σ.2.2 i k (some j))) (M) := pz_setR hi hK hft
  rw [e1] at hP1 hD1
  exact kk ad H1 locs1 ls ha hP1 hD1 hS1 hl
theorem pz_iald (C : pz_C p s m args meth c cc nL own D cy A) {i : Nat} {x : Int32} (hi : i < σ.1) (hK : (σ.2.1 i).1 = 1) (hin : vp_in x (σ.2.1 i).2) (hd : decode cc pc = .ok (.iaload, 1)) (kk : pz_W p l e R s m args below meth c nL D cy A n0 ad0 Q σ M cells slots (pc + 1) loc (.int (M.1 i x.toNatClampNeg) :: st)) : pz_W p l e R s m args below meth c nL D cy A n0 ad0 Q σ M cells slots pc loc (.int x :: .ref i :: st) := by
  intro ad H locs ls ha hP hD hS hl
  exact va_iald C.1.1 C.1.2.1 C.2.1 hP i 1 (pz_ar1 hi hK) rfl hin hd (kk ad H locs ls ha hP hD hS hl)
theorem pz_bald (C : pz_C p s m args meth c cc nL own D cy A) {i : Nat} {x : Int32} (hi : i < σ.1) (hK : (σ.2.1 i).1 = 0) (hin : vp_in x (σ.2.1 i).2) (hd : decode cc pc = .ok (.baload, 1)) (kk : pz_W p l e R s m args below meth c nL D cy A n0 ad0 Q σ M cells slots (pc + 1) loc (.int (M.1 i x.toNatClampNeg) :: st)) : pz_W p l e R s m args below meth c nL D cy A n0 ad0 Q σ M cells slots pc loc (.int x :: .ref i :: st) := by
  intro ad H locs ls ha hP hD hS hl
  exact va_bald C.1.1 C.1.2.1 C.2.1 hP i 0 (pz_ar0 hi hK) rfl hin hd (kk ad H locs ls ha hP hD hS hl)
theorem pz_zald (C : pz_C p s m args meth c cc nL own D cy A) {i : Nat} {x : Int32} (hi : i < σ.1) (hK : (σ.2.1 i).1 = 3) (hin : vp_in x (σ.2.1 i).2) (hd : decode cc pc = .ok (.baload, 1)) (kk : pz_W p l e R s m args below meth c nL D cy A n0 ad0 Q σ M cells slots (pc + 1) loc (.int (M.1 i x.toNatClampNeg) :: st)) : pz_W p l e R s m args below meth c nL D cy A n0 ad0 Q σ M cells slots pc loc (.int x :: .ref i :: st) := by
  intro ad H locs ls ha hP hD hS hl
  exact va_zald C.1.1 C.1.2.1 C.2.1 hP i 3 (pz_ar3 hi hK) rfl hin hd (kk ad H locs ls ha hP hD hS hl)
theorem pz_lald (C : pz_C p s m args meth c cc nL own D cy A) {i : Nat} {x : Int32} (hi : i < σ.1) (hK : (σ.2.1 i).1 = 2) (hin : vp_in x (σ.2.1 i).2) (hd : decode cc pc = .ok (.laload, 1)) (kk : pz_W p l e R s m args below meth c nL D cy A n0 ad0 Q σ M cells slots (pc + 1) loc (.long (M.2 i x.toNatClampNeg) :: st)) : pz_W p l e R s m args below meth c nL D cy A n0 ad0 Q σ M cells slots pc loc (.int x :: .ref i :: st) := by
  intro ad H locs ls ha hP hD hS hl
  exact va_lald C.1.1 C.1.2.1 C.2.1 hP i 2 (pz_ar2 hi hK) rfl hin hd (kk ad H locs ls ha hP hD hS hl)
theorem pz_iast (C : pz_C p s m args meth c cc nL own D cy A) {i : Nat} {x : Int32} {y : Int32} (hi : i < σ.1) (hK : (σ.2.1 i).1 = 1) (hin : vp_in x (σ.2.1 i).2) (hd : decode cc pc = .ok (.iastore, 1)) (kk : pz_W p l e R s m args below meth c nL D cy A n0 ad0 Q σ (pz_u M.1 i x.toNatClampNeg y, M.2) cells slots (pc + 1) loc st) : pz_W p l e R s m args below meth c nL D cy A n0 ad0 Q σ M cells slots pc loc (.int y :: .int x :: .ref i :: st) := by
  intro ad H locs ls ha hP hD hS hl
  refine va_iast C.1.1 C.1.2.1 C.2.1 hP hD hS i 1 (pz_ar1 hi hK) rfl hin hd (fun H1 locs1 hP1 hD1 hS1 => ?_)
  rw [pz_as1 hi hK] at hP1 hD1
  exact kk ad H1 locs1 ls ha hP1 hD1 hS1 hl
theorem pz_bast (C : pz_C p s m args meth c cc nL own D cy A) {i : Nat} {x : Int32} {y : Int32} (hi : i < σ.1) (hK : (σ.2.1 i).1 = 0) (hin : vp_in x (σ.2.1 i).2) (hd : decode cc pc = .ok (.bastore, 1)) (kk : pz_W p l e R s m args below meth c nL D cy A n0 ad0 Q σ (pz_u M.1 i x.toNatClampNeg (vp_nar .byte y), M.2) cells slots (pc + 1) loc st) : pz_W p l e R s m args below meth c nL D cy A n0 ad0 Q σ M cells slots pc loc (.int y :: .int x :: .ref i :: st) := by
  intro ad H locs ls ha hP hD hS hl
  refine va_bast C.1.1 C.1.2.1 C.2.1 hP hD hS i 0 (pz_ar0 hi hK) rfl hin hd (fun H1 locs1 hP1 hD1 hS1 => ?_)
  rw [pz_as0 hi hK] at hP1 hD1
  exact kk ad H1 locs1 ls ha hP1 hD1 hS1 hl
theorem pz_zast (C : pz_C p s m args meth c cc nL own D cy A) {i : Nat} {x : Int32} {y : Int32} (hi : i < σ.1) (hK : (σ.2.1 i).1 = 3) (hin : vp_in x (σ.2.1 i).2) (hd : decode cc pc = .ok (.bastore, 1)) (kk : pz_W p l e R s m args below meth c nL D cy A n0 ad0 Q σ (pz_u M.1 i x.toNatClampNeg (vp_nar .boolean y), M.2) cells slots (pc + 1) loc st) : pz_W p l e R s m args below meth c nL D cy A n0 ad0 Q σ M cells slots pc loc (.int y :: .int x :: .ref i :: st) := by
  intro ad H locs ls ha hP hD hS hl
  refine va_zast C.1.1 C.1.2.1 C.2.1 hP hD hS i 3 (pz_ar3 hi hK) rfl hin hd (fun H1 locs1 hP1 hD1 hS1 => ?_)
  rw [pz_as3 hi hK] at hP1 hD1
  exact kk ad H1 locs1 ls ha hP1 hD1 hS1 hl
theorem pz_last (C : pz_C p s m args meth c cc nL own D cy A) {i : Nat} {x : Int32} {y : Int64} (hi : i < σ.1) (hK : (σ.2.1 i).1 = 2) (hin : vp_in x (σ.2.1 i).2) (hd : decode cc pc = .ok (.lastore, 1)) (kk : pz_W p l e R s m args below meth c nL D cy A n0 ad0 Q σ (M.1, pz_u M.2 i x.toNatClampNeg y) cells slots (pc + 1) loc st) : pz_W p l e R s m args below meth c nL D cy A n0 ad0 Q σ M cells slots pc loc (.long y :: .int x :: .ref i :: st) := by
  intro ad H locs ls ha hP hD hS hl
  refine va_last C.1.1 C.1.2.1 C.2.1 hP hD hS i 2 (pz_ar2 hi hK) rfl hin hd (fun H1 locs1 hP1 hD1 hS1 => ?_)
  rw [pz_as2 hi hK] at hP1 hD1
  exact kk ad H1 locs1 ls ha hP1 hD1 hS1 hl
theorem pz_alen (C : pz_C p s m args meth c cc nL own D cy A) {i t : Nat} {v : Int32} (hi : i < σ.1) (hK : (σ.2.1 i).1 = t) (ht : t < 4) (hv : Int32.ofNat (σ.2.1 i).2 = v) (hd : decode cc pc = .ok (.arraylength, 1)) (kk : pz_W p l e R s m args below meth c nL D cy A n0 ad0 Q σ M cells slots (pc + 1) loc (.int v :: st)) : pz_W p l e R s m args below meth c nL D cy A n0 ad0 Q σ M cells slots pc loc (.ref i :: st) := by
  intro ad H locs ls ha hP hD hS hl
  have k9 := kk ad H locs ls ha hP hD hS hl
  match t, ht, hK with
  | 0, _, hK => exact va_alen C.1.1 C.1.2.1 C.2.1 hP i 0 (pz_ar0 hi hK) (ty := .byte) rfl hv hd k9
  | 1, _, hK => exact va_alen C.1.1 C.1.2.1 C.2.1 hP i 1 (pz_ar1 hi hK) (ty := .int) rfl hv hd k9
  | 2, _, hK => exact va_alen C.1.1 C.1.2.1 C.2.1 hP i 2 (pz_ar2 hi hK) (ty := .long) rfl hv hd k9
  | 3, _, hK => exact va_alen C.1.1 C.1.2.1 C.2.1 hP i 3 (pz_ar3 hi hK) (ty := .boolean) rfl hv hd k9
end PZR
end
section
/-! CONTRACTS OVER PURE WORLDS: entry, ends, calls -/
def pz_bd (n : Nat) (v : Value) : Prop := match v with
  | .ref i => i < n
  | _ => True
def pz_all (n : Nat) : List Value → Prop
  | [] => True
  | v :: t => pz_bd n v ∧ pz_all n t
def pz_alll (n : Nat) : List (Nat × Value) → Prop
  | [] => True
  | q :: t => pz_bd n q.2 ∧ pz_alll n t
theorem pz_t_ext {ad ad' : Nat → Nat} {n : Nat} (h : ∀ i, i < n → ad' i = ad i) {v : Value} (hv : pz_bd n v) : pz_t ad' v = pz_t ad v := by
  cases v <;> first | rfl | exact congrArg Value.ref (h _ hv)
theorem pz_all_map {ad ad' : Nat → Nat} {n : Nat} (h : ∀ i, i < n → ad' i = ad i) : ∀ {st : List Value}, pz_all n st → st.map (pz_t ad') = st.map (pz_t ad)
  | [], _ => rfl
  | v :: t, hv => by simp only [List.map_cons]; rw [pz_t_ext h hv.1, pz_all_map h hv.2]
theorem pz_alll_map {ad ad' : Nat → Nat} {n : Nat} (h : ∀ i, i < n → ad' i = ad i) : ∀ {loc : List (Nat × Value)}, pz_alll n loc → loc.map (pz_p ad') = loc.map (pz_p ad)
  | [], _ => rfl
  | q :: t, hv => by simp only [List.map_cons, pz_p]; rw [pz_t_ext h hv.1, pz_alll_map h hv.2]
theorem pz_args_map (ad : Nat → Nat) : ∀ (av : List Value) (i : Nat), lv_args i (av.map (pz_t ad)) = (lv_args i av).map (pz_p ad)
  | [], i => rfl
  | v :: t, i => by simp only [List.map_cons, lv_args, pz_t_cat, pz_p]; rw [pz_args_map ad t]
theorem pz_sl_len (ad : Nat → Nat) : ∀ (av : List Value), (lg_sl (av.map (pz_t ad))).length = (lg_sl av).length
  | [] => rfl
  | v :: t => by
    have ih := pz_sl_len ad t
    unfold lg_sl at ih ⊢
    simp only [List.map_cons, List.flatMap_cons, List.length_append, pz_t_cat, ih]
    split <;> rfl
def pz_Q (D : va_G) (cy : Nat → ClassId) (n0 : Nat) (ad0 : Nat → Nat) (post : Option Value → pzS → pzM → Prop) (A : Nat → Prop) : Array Value → State → Outcome → State → Prop := fun _ st oc t =>
  (∃ (r : Option Value) (σ' : pzS) (M' : pzM) (ad' : Nat → Nat), (∀ i, i < n0 → ad' i = ad0 i) ∧ oc = .returned (r.map (pz_t ad')) ∧ post r σ' M' ∧ va_P D pz_cl (pz_w cy ad' σ' M') t.heap ∧ va_K D pz_cl (pz_tys cy) t ∧ va_D A (pz_w cy ad' σ' M')) ∧ va_F A st t
def pz_Pre (D : va_G) (cy : Nat → ClassId) (ad : Nat → Nat) (sz : Nat) (σ : pzS) (M : pzM) (U : State) : Prop :=
  U.heap.size = sz ∧ va_P D pz_cl (pz_w cy ad σ M) U.heap ∧ va_K D pz_cl (pz_tys cy) U ∧ va_D (fun _ => True) (pz_w cy ad σ M) ∧ pz_N U
def pz_Met (l : Launch) (y : MethodName) (cc : ByteArray) (maxL : Nat) (ret : Option FieldType) (fr lo mc ms : Nat) (D : va_G) (cy : Nat → ClassId) (σ : pzS) (M : pzM) (av : List Value) (post : Option Value → pzS → pzM → Prop) : Prop :=
  ∀ (ad : Nat → Nat) (sz : Nat), Met l y (Cond.code y cc maxL ret :: lw_good) ({ frames := fr, cells := mc, slots := ms, locals := lo }) (va_Pc (av.map (pz_t ad)) (pz_Pre D cy ad sz σ M)) (pz_Q D cy σ.1 ad post (va_A (pz_w cy ad σ M) sz)) mc ms (va_A (pz_w cy ad σ M) sz)
theorem pz_blind {D : va_G} {cy : Nat → ClassId} {ad : Nat → Nat} {sz : Nat} {σ : pzS} {M : pzM} {av : List Value} : FrameBlind (va_Pc av (pz_Pre D cy ad sz σ M)) := by
  intro a U g mk q
  obtain ⟨q0, q1, qP, qK, qD, qN⟩ := q
  exact ⟨q0, q1, qP, va_K.moved (u := U) (U := U.calling g mk a) (Vm.Alike.refl U.vm) qK, qD, pz_N.same (u := U) (U := U.calling g mk a) rfl qN⟩
theorem pz_ofW {l : Launch} {y : MethodName} {cc : ByteArray} {maxL : Nat} {ret : Option FieldType} {fr lo mc ms : Nat} {D : va_G} {cy : Nat → ClassId} {σ : pzS} {M : pzM} {av : List Value} {post : Option Value → pzS → pzM → Prop} (hy : plainName y.cls = true) (hlen : (lg_sl av).length ≤ maxL)
    (body : ∀ (p : Program) (e : Env) (s : State) (m : MethodId) (args : Array Value) (below : List Frame) (meth : Method) (c : Code) (ad : Nat → Nat) (A : Nat → Prop), pz_C p s m args meth c cc maxL y.cls D cy A → meth.sig.returnType = ret → meth.name = y.name →
      pz_W p l e ({ frames := fr, cells := mc, slots := ms, locals := lo }) s m args below meth c maxL D cy A σ.1 ad (MQ below (pz_Q D cy σ.1 ad post A) args s mc ms A) σ M 0 0 0 (lv_args 0 av) []) : pz_Met l y cc maxL ret fr lo mc ms D cy σ M av post := by
  intro ad sz
  refine Met.ofW (cc := cc) (maxL := maxL) (ret := ret) hy rfl ?_
  intro p e s m args below meth c s₁ B hml hv
  obtain ⟨rfl, hsz, hP, hK, hD0, hN⟩ := hv
  have hts := atoms_spec (ws := Cond.code y cc maxL ret :: lw_good) B.pre
  have hown : s.vm.findClass y.cls = some m.cls := findClass_of_methodNamed B.named
  subst hsz
  have hD := hD0.self (sz := s.heap.size)
  have hl := lv_entry (av.map (pz_t ad)) (n := maxL) (by rw [pz_sl_len]; exact hlen)
  rw [lg_entry_eq]
  rw [pz_args_map] at hl
  exact body p e s m _ below meth c ad _ ⟨⟨B.exec, B.bytes, hml, hown, fun w hw => hts w (List.mem_cons_of_mem _ hw)⟩, hK, fun q h => Or.inr h, B.notSynchronized, hN⟩ B.returns (name_of_methodNamed B.named B.method).1 ad s.heap [] _ (fun _ _ => rfl) hP hD va_S.rf hl
section PZE
variable {p : Program} {l : Launch} {e : Env} {R : Room} {s : State} {m : MethodId} {args : Array Value} {below : List Frame} {meth : Method} {c : Code} {cc : ByteArray} {nL : Nat} {own : String} {D : va_G} {cy : Nat → ClassId} {A : Nat → Prop} {n0 : Nat} {ad0 : Nat → Nat} {Q : State → Prop} {σ : pzS} {M : pzM} {cells slots pc mc ms : Nat} {loc loc' : List (Nat × Value)} {st : List Value} {post : Option Value → pzS → pzM → Prop}
theorem pz_iret (C : pz_C p s m args meth c cc nL own D cy A) {v : Int32} (hr : meth.sig.returnType = some .int) (hc : cells ≤ mc) (hs : slots ≤ ms) (hd : decode cc pc = .ok (.ireturn, 1)) (hp : post (some (.int v)) σ M) : pz_W p l e R s m args below meth c nL D cy A n0 ad0 (MQ below (pz_Q D cy n0 ad0 post A) args s mc ms A) σ M cells slots pc loc [.int v] :=
  fun ad H locs ls ha hP hD hS hl => W.widen hc hs (W.iret C.1.1 C.1.2.1 hr (fun t ht hW => ⟨⟨some (.int v), σ, M, ad, ha, rfl, hp, by rw [ht]; exact hP, va_K.moved hW.alike C.2.1, hD⟩, hS.F ht⟩) hS.2.2 hd C.2.2.2.1)
theorem pz_zret (C : pz_C p s m args meth c cc nL own D cy A) {v : Int32} (hr : meth.sig.returnType = some .boolean) (hn : narrow .boolean (.int v) = .int v) (hc : cells ≤ mc) (hs : slots ≤ ms) (hd : decode cc pc = .ok (.ireturn, 1)) (hp : post (some (.int v)) σ M) : pz_W p l e R s m args below meth c nL D cy A n0 ad0 (MQ below (pz_Q D cy n0 ad0 post A) args s mc ms A) σ M cells slots pc loc [.int v] :=
  fun ad H locs ls ha hP hD hS hl => W.widen hc hs (W.zret C.1.1 C.1.2.1 hr hn (fun t ht hW => ⟨⟨some (.int v), σ, M, ad, ha, rfl, hp, by rw [ht]; exact hP, va_K.moved hW.alike C.2.1, hD⟩, hS.F ht⟩) hS.2.2 hd C.2.2.2.1)
theorem pz_lret (C : pz_C p s m args meth c cc nL own D cy A) {v : Int64} (hr : meth.sig.returnType = some .long) (hc : cells ≤ mc) (hs : slots ≤ ms) (hd : decode cc pc = .ok (.lreturn, 1)) (hp : post (some (.long v)) σ M) : pz_W p l e R s m args below meth c nL D cy A n0 ad0 (MQ below (pz_Q D cy n0 ad0 post A) args s mc ms A) σ M cells slots pc loc [.long v] :=
  fun ad H locs ls ha hP hD hS hl => W.widen hc hs (W.lret C.1.1 C.1.2.1 hr (fun t ht hW => ⟨⟨some (.long v), σ, M, ad, ha, rfl, hp, by rw [ht]; exact hP, va_K.moved hW.alike C.2.1, hD⟩, hS.F ht⟩) hS.2.2 hd C.2.2.2.1)
theorem pz_vret (C : pz_C p s m args meth c cc nL own D cy A) (hr : meth.sig.returnType = none) (hc : cells ≤ mc) (hs : slots ≤ ms) (hd : decode cc pc = .ok (.return_, 1)) (hp : post none σ M) : pz_W p l e R s m args below meth c nL D cy A n0 ad0 (MQ below (pz_Q D cy n0 ad0 post A) args s mc ms A) σ M cells slots pc loc [] :=
  fun ad H locs ls ha hP hD hS hl => W.widen hc hs (W.vret C.1.1 C.1.2.1 hr (fun t ht hW => ⟨⟨none, σ, M, ad, ha, rfl, hp, by rw [ht]; exact hP, va_K.moved hW.alike C.2.1, hD⟩, hS.F ht⟩) hS.2.2 hd C.2.2.2.1)
theorem pz_aret (C : pz_C p s m args meth c cc nL own D cy A) {v : Nat} {rt : FieldType} (hr : meth.sig.returnType = some rt) (hrt : (∃ n, rt = .object n) ∨ ∃ t, rt = .array t) (hc : cells ≤ mc) (hs : slots ≤ ms) (hd : decode cc pc = .ok (.areturn, 1)) (hp : post (some (.ref v)) σ M) : pz_W p l e R s m args below meth c nL D cy A n0 ad0 (MQ below (pz_Q D cy n0 ad0 post A) args s mc ms A) σ M cells slots pc loc [.ref v] :=
  fun ad H locs ls ha hP hD hS hl => W.widen hc hs (W.aret C.1.1 C.1.2.1 hr hrt (Or.inr ⟨_, rfl⟩) (fun t ht hW => ⟨⟨some (.ref v), σ, M, ad, ha, rfl, hp, by rw [ht]; exact hP, va_K.moved hW.alike C.2.1, hD⟩, hS.F ht⟩) hS.2.2 hd C.2.2.2.1)
/-- which cells the callee may change are ours -/
theorem pz_freeA {H : Heap} {locs : List Loc} {ad : Nat → Nat} (C : pz_C p s m args meth c cc nL own D cy A) (hD : va_D A (pz_w cy ad σ M)) (hS : va_S A s.heap H locs) : ∀ q, va_A (pz_w cy ad σ M) H.size q → A q := by
  intro q h
  rcases h with ⟨k, e9, h⟩ | h
  · exact hD.2 k (q, e9) h
  · exact C.2.2.1 q (Nat.le_trans hS.1 h)
/-- behind a call -/
theorem pz_run {mc ms : Nat} {rest : List Value} {ad : Nat → Nat} {H : Heap} {locs : List Loc} {ls : Array Slot} {st0 : List Value} {a : Array Value} (C : pz_C p s m args meth c cc nL own D cy A)
    (hr : va_Run p l e R s m args below meth c H locs cells slots mc ms (F0 m pc ls st0) (rest.map (pz_t ad)) (pz_Q D cy σ.1 ad post (va_A (pz_w cy ad σ M) H.size) a) (va_A (pz_w cy ad σ M) H.size))
    (hn0 : n0 ≤ σ.1) (h1 : pz_all σ.1 rest) (h2 : pz_alll σ.1 loc) (ha : ∀ i, i < n0 → ad i = ad0 i) (hD : va_D A (pz_w cy ad σ M)) (hS : va_S A s.heap H locs) (hl : lv_has ls nL (loc.map (pz_p ad)))
    (kk : ∀ (r : Option Value) (σ' : pzS) (M' : pzM), post r σ' M' → pz_W p l e R s m args below meth c nL D cy A n0 ad0 Q σ' M' (cells + mc) (slots + ms) (pc + 3) loc (r.toList ++ rest)) : W p l e R s m args below meth c H locs cells slots Q (F0 m pc ls st0) := by
  intro T hT X
  obtain ⟨v, st₀, t, T', L, h0, X', hL, e1, e2, ⟨⟨r, σ', M', ad', hag, hv, hp, hP', hK', hD'⟩, hz, hk⟩, st9⟩ := hr T hT X
  have hv : v = r.map (pz_t ad') := by cases hv; rfl
  subst hv
  rw [h0] at hz hk
  have hfree := pz_freeA C hD hS
  have hS1 : va_S A s.heap T'.heap (locs ++ L) := ⟨Nat.le_trans hS.1 (by rw [e1]; exact hz), fun q g1 g2 => by rw [e1, hk q (Nat.lt_of_lt_of_le g1 hS.1) (fun z => g2 (hfree q z))]; exact hS.2.1 q g1 g2, fun q hq => by
      rcases List.mem_append.mp hq with h | h
      · exact hS.2.2 q h
      · exact hfree _ (hL q h)⟩
  obtain ⟨t2, a1, b1⟩ := kk r σ' M' hp ad' T'.heap (locs ++ L) ls (fun i hi => (hag i (Nat.lt_of_lt_of_le hi hn0)).trans (ha i hi)) (by rw [e1]; exact hP') (hD'.weaken (fun _ q _ h => hfree q.1 h)) hS1 (by rw [pz_alll_map hag h2]; exact hl) T' rfl X'
  refine ⟨t2, st9 t2 ?_, b1⟩
  have hst : (r.map (pz_t ad')).toList ++ rest.map (pz_t ad) = (r.toList ++ rest).map (pz_t ad') := by
    rw [List.map_append, pz_all_map hag h1]
    cases r <;> rfl
  have hst2 : ({ (F0 m pc ls st0) with pc := (F0 m pc ls st0).pc + 3, stack := (r.map (pz_t ad')).toList ++ rest.map (pz_t ad) } : JFrame) = F0 m (pc + 3) ls ((r.toList ++ rest).map (pz_t ad')) := by rw [hst]
  rw [hst2]
  exact a1
def pz_wB (y : MethodName) (bytes : ByteArray) (maxL : Nat) (ret : Option FieldType) (n : Nat) : Prop := Cond.initialized y.cls ∈ lw_good ∧ Cond.code y bytes maxL ret ∈ lw_good ∧ (y.cls ≠ "java/lang/invoke/MethodHandle" ∧ y.cls ≠ "java/lang/invoke/VarHandle" ∧ (parseMethodDescriptor y.desc).map (fun d => d.parameters.length) = some n)
theorem pz_goodIn {y : MethodName} {bytes : ByteArray} {maxL n : Nat} {ret : Option FieldType} (h : pz_wB y bytes maxL ret n) : GoodIn lw_good (Cond.code y bytes maxL ret :: lw_good) := by
  intro w hw
  rcases List.mem_cons.mp hw with rfl | hw
  · exact ⟨h.2.1, good_of_word (lw_good_ok h.2.1)⟩
  · exact ⟨hw, good_of_word (lw_good_ok hw)⟩
theorem pz_catsum {ad : Nat → Nat} : ∀ (rest : List Value), ((rest.map (pz_t ad)).map fun v => v.category).sum = (rest.map fun v => v.category).sum
  | [] => rfl
  | v :: t => by simp only [List.map_cons, List.sum_cons, pz_t_cat, pz_catsum t]
theorem pz_room {m : MethodId} {pc : Nat} {ls : Array Slot} {rest0 rest : List Value} {ad : Nat → Nat} (h : (rest.map fun v => v.category).sum ≤ 8) : 2 * (F0 m pc ls rest0).monitorRoom + ((rest.map (pz_t ad)).map fun v => v.category).sum ≤ 8 := lv_room (by rw [pz_catsum]; exact h)
theorem pz_pre {H : Heap} {ad : Nat → Nat} {av : List Value} (C : pz_C p s m args meth c cc nL own D cy A) (hP : va_P D pz_cl (pz_w cy ad σ M) H) (hD : va_D A (pz_w cy ad σ M)) : PreS s H (va_Pc (av.map (pz_t ad)) (pz_Pre D cy ad H.size σ M)) (av.map (pz_t ad)) :=
  ⟨pz_blind, fun U hU hW => ⟨rfl, by rw [hU], by rw [hU]; exact hP, va_K.moved hW.alike C.2.1, hD.weaken (fun _ _ _ _ => trivial), pz_N.warm hW C.2.2.2.2⟩⟩
theorem pz_callV (C : pz_C p s m args meth c cc nL own D cy A) {y : MethodName} {bytes : ByteArray} {maxL fr lo mc ms n index ci b N : Nat} {ret : Option FieldType} {T : u_T} {As rest : List Value} (hM : pz_Met l y bytes maxL ret fr lo mc ms D cy σ M (.ref b :: As) post)
    (hw : pz_wB y bytes maxL ret n) (hw1 : Cond.methodLink own index y ∈ lw_good) (hw2 : Cond.instanceMethod y ∈ lw_good) (hw3 : Cond.selects y.cls y y ∈ lw_good) (hci : pz_cl[ci]? = some (y.cls, T, N)) (hb : b < σ.1) (hK : (σ.2.1 b).1 = ci + 4)
    (hn : As.length = n) (hst : st = As.reverse ++ .ref b :: rest) (hcat : (rest.map fun v => v.category).sum ≤ 8) (hR : fr + 1 ≤ R.frames ∧ 8 + (maxL + 11) + lo ≤ R.locals) (hf : cells + mc ≤ R.cells ∧ slots + ms ≤ R.slots) (hd : decode cc pc = .ok (.invokevirtual index, 3))
    (hn0 : n0 ≤ σ.1) (h1 : pz_all σ.1 rest) (h2 : pz_alll σ.1 loc)
    (kk : ∀ (r : Option Value) (σ' : pzS) (M' : pzM), post r σ' M' → pz_W p l e R s m args below meth c nL D cy A n0 ad0 Q σ' M' (cells + mc) (slots + ms) (pc + 3) loc (r.toList ++ rest)) : pz_W p l e R s m args below meth c nL D cy A n0 ad0 Q σ M cells slots pc loc st := by
  intro ad H locs ls ha hP hD hS hl
  subst hst
  have hcw : CallW R s args own y.cls index y bytes maxL ret (Cond.code y bytes maxL ret :: lw_good) ({ frames := fr, cells := mc, slots := ms, locals := lo }) mc ms n :=
    ⟨callB_of n C.1.2.2.2.2 (pz_goodIn hw) rfl rfl rfl (C.1.2.2.2.2 _ hw.1) (C.1.2.2.2.2 _ hw1) hw.2.2 hR, C.1.2.2.2.2 _ hw2, C.1.2.2.2.2 _ hw3⟩
  have hpre : PreV s H y.cls (ad b) (va_Pc ((.ref b :: As).map (pz_t ad)) (pz_Pre D cy ad H.size σ M)) (As.map (pz_t ad)) :=
    ⟨pz_blind, va_recv C.2.1 hP hci (pz_at hb hK), (pz_pre (av := .ref b :: As) C hP hD).2⟩
  exact pz_run C (va_runV (As := As.map (pz_t ad)) (rest := rest.map (pz_t ad)) (b := ad b) C.1 (hM ad H.size) hcw hpre rfl (by rw [List.length_map]; exact hn) hl.1 (by simp [pz_t, List.map_reverse]) (pz_room hcat) hd hf) hn0 h1 h2 ha hD hS hl kk
theorem pz_callS (C : pz_C p s m args meth c cc nL own D cy A) {y : MethodName} {bytes : ByteArray} {maxL fr lo mc ms n index : Nat} {ret : Option FieldType} {As rest : List Value} (hM : pz_Met l y bytes maxL ret fr lo mc ms D cy σ M As post)
    (hw : pz_wB y bytes maxL ret n) (hw1 : Cond.methodLink own index y ∈ lw_good) (hw2 : Cond.static y ∈ lw_good) (hn : As.length = n) (hst : st = As.reverse ++ rest) (hcat : (rest.map fun v => v.category).sum ≤ 8) (hR : fr + 1 ≤ R.frames ∧ 8 + (maxL + 11) + lo ≤ R.locals) (hf : cells + mc ≤ R.cells ∧ slots + ms ≤ R.slots) (hd : decode cc pc = .ok (.invokestatic index, 3)) (hn0 : n0 ≤ σ.1) (h1 : pz_all σ.1 rest) (h2 : pz_alll σ.1 loc)
    (kk : ∀ (r : Option Value) (σ' : pzS) (M' : pzM), post r σ' M' → pz_W p l e R s m args below meth c nL D cy A n0 ad0 Q σ' M' (cells + mc) (slots + ms) (pc + 3) loc (r.toList ++ rest)) : pz_W p l e R s m args below meth c nL D cy A n0 ad0 Q σ M cells slots pc loc st := by
  intro ad H locs ls ha hP hD hS hl
  subst hst
  exact pz_run C (va_runS (As := As.map (pz_t ad)) (rest := rest.map (pz_t ad)) C.1 (hM ad H.size) ⟨callB_of n C.1.2.2.2.2 (pz_goodIn hw) rfl rfl rfl (C.1.2.2.2.2 _ hw.1) (C.1.2.2.2.2 _ hw1) hw.2.2 hR, C.1.2.2.2.2 _ hw2⟩ (pz_pre C hP hD) rfl (by rw [List.length_map]; exact hn) hl.1 (by simp [List.map_reverse]) (pz_room hcat) hd hf) hn0 h1 h2 ha hD hS hl kk
theorem pz_callSN (C : pz_C p s m args meth c cc nL own D cy A) {y : MethodName} {bytes : ByteArray} {maxL fr lo mc ms n index : Nat} {ret : Option FieldType} {As rest : List Value} {host : String} (hM : pz_Met l y bytes maxL ret fr lo mc ms D cy σ M As post)
    (hw : pz_wB y bytes maxL ret n) (hw1 : (own, index, y, host) ∈ pz_nests) (hw2 : Cond.static y ∈ lw_good) (hn : As.length = n) (hst : st = As.reverse ++ rest) (hcat : (rest.map fun v => v.category).sum ≤ 8) (hR : fr + 1 ≤ R.frames ∧ 8 + (maxL + 11) + lo ≤ R.locals) (hf : cells + mc ≤ R.cells ∧ slots + ms ≤ R.slots) (hd : decode cc pc = .ok (.invokestatic index, 3)) (hn0 : n0 ≤ σ.1) (h1 : pz_all σ.1 rest) (h2 : pz_alll σ.1 loc)
    (kk : ∀ (r : Option Value) (σ' : pzS) (M' : pzM), post r σ' M' → pz_W p l e R s m args below meth c nL D cy A n0 ad0 Q σ' M' (cells + mc) (slots + ms) (pc + 3) loc (r.toList ++ rest)) : pz_W p l e R s m args below meth c nL D cy A n0 ad0 Q σ M cells slots pc loc st := by
  intro ad H locs ls ha hP hD hS hl
  subst hst
  exact pz_run C (va_runSN (As := As.map (pz_t ad)) (rest := rest.map (pz_t ad)) C.1 (hM ad H.size) ⟨va_cnB n C.1.2.2.2.2 (pz_goodIn hw) rfl rfl rfl (C.2.2.2.2 _ hw1) (C.1.2.2.2.2 _ hw.1) hw.2.2 hR, C.1.2.2.2.2 _ hw2, trivial⟩ (pz_pre C hP hD) rfl (by rw [List.length_map]; exact hn) hl.1 (by simp [List.map_reverse]) (pz_room hcat) hd hf) hn0 h1 h2 ha hD hS hl kk
theorem pz_callI (C : pz_C p s m args meth c cc nL own D cy A) {y : MethodName} {bytes : ByteArray} {maxL fr lo mc ms n index : Nat} {As rest : List Value} {b : Nat} (hM : pz_Met l y bytes maxL none fr lo mc ms D cy σ M (.ref b :: As) post)
    (hw : pz_wB y bytes maxL none n) (hw1 : Cond.methodLink own index y ∈ lw_good) (hw2 : Cond.instanceMethod y ∈ lw_good) (hy : y.name = "<init>") (hn : As.length = n) (hst : st = As.reverse ++ .ref b :: rest) (hcat : (rest.map fun v => v.category).sum ≤ 8) (hR : fr + 1 ≤ R.frames ∧ 8 + (maxL + 11) + lo ≤ R.locals) (hf : cells + mc ≤ R.cells ∧ slots + ms ≤ R.slots) (hd : decode cc pc = .ok (.invokespecial index, 3)) (hn0 : n0 ≤ σ.1) (h1 : pz_all σ.1 rest) (h2 : pz_alll σ.1 loc)
    (kk : ∀ (r : Option Value) (σ' : pzS) (M' : pzM), post r σ' M' → pz_W p l e R s m args below meth c nL D cy A n0 ad0 Q σ' M' (cells + mc) (slots + ms) (pc + 3) loc (r.toList ++ rest)) : pz_W p l e R s m args below meth c nL D cy A n0 ad0 Q σ M cells slots pc loc st := by
  intro ad H locs ls ha hP hD hS hl
  subst hst
  exact pz_run C (va_runI (As := As.map (pz_t ad)) (rest := rest.map (pz_t ad)) (b := ad b) C.1 (hM ad H.size) ⟨callB_of n C.1.2.2.2.2 (pz_goodIn hw) rfl rfl rfl (C.1.2.2.2.2 _ hw.1) (C.1.2.2.2.2 _ hw1) hw.2.2 hR, hy, C.1.2.2.2.2 _ hw2⟩ (pz_pre (av := .ref b :: As) C hP hD) rfl (by rw [List.length_map]; exact hn) hl.1 (by simp [pz_t, List.map_reverse]) (pz_room hcat) hd hf) hn0 h1 h2 ha hD hS hl kk
theorem pz_callIN (C : pz_C p s m args meth c cc nL own D cy A) {y : MethodName} {bytes : ByteArray} {maxL fr lo mc ms n index : Nat} {As rest : List Value} {b : Nat} {host : String} (hM : pz_Met l y bytes maxL none fr lo mc ms D cy σ M (.ref b :: As) post)
    (hw : pz_wB y bytes maxL none n) (hw1 : (own, index, y, host) ∈ pz_nests) (hw2 : Cond.instanceMethod y ∈ lw_good) (hy : y.name = "<init>") (hn : As.length = n) (hst : st = As.reverse ++ .ref b :: rest) (hcat : (rest.map fun v => v.category).sum ≤ 8) (hR : fr + 1 ≤ R.frames ∧ 8 + (maxL + 11) + lo ≤ R.locals) (hf : cells + mc ≤ R.cells ∧ slots + ms ≤ R.slots) (hd : decode cc pc = .ok (.invokespecial index, 3)) (hn0 : n0 ≤ σ.1) (h1 : pz_all σ.1 rest) (h2 : pz_alll σ.1 loc)
    (kk : ∀ (r : Option Value) (σ' : pzS) (M' : pzM), post r σ' M' → pz_W p l e R s m args below meth c nL D cy A n0 ad0 Q σ' M' (cells + mc) (slots + ms) (pc + 3) loc (r.toList ++ rest)) : pz_W p l e R s m args below meth c nL D cy A n0 ad0 Q σ M cells slots pc loc st := by
  intro ad H locs ls ha hP hD hS hl
  subst hst
  exact pz_run C (va_runIN (As := As.map (pz_t ad)) (rest := rest.map (pz_t ad)) (b := ad b) C.1 (hM ad H.size) ⟨va_cnB n C.1.2.2.2.2 (pz_goodIn hw) rfl rfl rfl (C.2.2.2.2 _ hw1) (C.1.2.2.2.2 _ hw.1) hw.2.2 hR, hy, C.1.2.2.2.2 _ hw2⟩ (pz_pre (av := .ref b :: As) C hP hD) rfl (by rw [List.length_map]; exact hn) hl.1 (by simp [pz_t, List.map_reverse]) (pz_room hcat) hd hf) hn0 h1 h2 ha hD hS hl kk
theorem pz_objInit (C : pz_C p s m args meth c cc nL own D cy A) {idx b : Nat} (hw1 : Cond.methodLink own idx objectInit ∈ lw_good) (hw2 : Cond.instanceMethod objectInit ∈ lw_good) (hw3 : Cond.code objectInit ⟨#[0xb1]⟩ 1 none ∈ lw_good) (hd : decode cc pc = .ok (.invokespecial idx, 3)) (hfr : 1 ≤ R.frames) (hlo : (st.map fun v => v.category).sum + 12 ≤ R.locals)
    (k : pz_W p l e R s m args below meth c nL D cy A n0 ad0 Q σ M cells slots (pc + 3) loc st) : pz_W p l e R s m args below meth c nL D cy A n0 ad0 Q σ M cells slots pc loc (.ref b :: st) :=
  fun ad H locs ls ha hP hD hS hl => W.objInit C.1.1 C.1.2.1 C.1.2.2.2.1 (C.1.2.2.2.2 _ hw1) (C.1.2.2.2.2 _ hw2) (C.1.2.2.2.2 _ hw3) rfl (by rw [C.1.2.2.1]; exact hl.1) rfl hd hfr (by show 2 * 0 + ((st.map (pz_t ad)).map fun v => v.category).sum + 12 ≤ _; rw [pz_catsum]; omega) (k ad H locs ls ha hP hD hS hl)
theorem pz_ldc2 (C : pz_C p s m args meth c cc nL own D cy A) {index : Nat} {v : Int64} (hw : Cond.constantLong own index v ∈ lw_good) (hd : decode cc pc = .ok (.ldc2_w index, 3)) (k : pz_W p l e R s m args below meth c nL D cy A n0 ad0 Q σ M cells slots (pc + 3) loc (.long v :: st)) : pz_W p l e R s m args below meth c nL D cy A n0 ad0 Q σ M cells slots pc loc st :=
  fun ad H locs ls ha hP hD hS hl => lv_ldc2 C.1.1 C.1.2.1 C.1.2.2.2.1 (C.1.2.2.2.2 _ hw) hd (k ad H locs ls ha hP hD hS hl)
theorem pz_ldc (C : pz_C p s m args meth c cc nL own D cy A) {index : Nat} {v : Int32} (hw : Cond.constant own index v ∈ lw_good) (hd : decode cc pc = .ok (.ldc index, 2)) (k : pz_W p l e R s m args below meth c nL D cy A n0 ad0 Q σ M cells slots (pc + 2) loc (.int v :: st)) : pz_W p l e R s m args below meth c nL D cy A n0 ad0 Q σ M cells slots pc loc st :=
  fun ad H locs ls ha hP hD hS hl => lv_ldc C.1.1 C.1.2.1 C.1.2.2.2.1 (C.1.2.2.2.2 _ hw) hd (k ad H locs ls ha hP hD hS hl)
/-! new cells -/
def pz_wf (σ : pzS) : Prop := ∀ i k r, σ.2.2 i k = some r → r < σ.1
theorem pz_wf_put {σ : pzS} {i k j : Nat} (h : pz_wf σ) (hj : j < σ.1) : pz_wf (σ.1, σ.2.1, pz_u σ.2.2 i k (some j)) := by
  intro a b r hr
  by_cases hab : a = i ∧ b = k
  · obtain ⟨rfl, rfl⟩ := hab
    have : pz_u σ.2.2 a b (some j) a b = some r := hr
    rw [pz_u_eq] at this
    cases this; exact hj
  · have : pz_u σ.2.2 i k (some j) a b = some r := hr
    rw [pz_u_ne _ _ (by by_cases ha : a = i <;> simp_all)] at this
    exact h a b r this
/-- one cell more: kind q, no references, zeros -/
def pz_new (σ : pzS) (q : Nat × Nat) : pzS := (σ.1 + 1, va_up σ.2.1 σ.1 q, va_up σ.2.2 σ.1 (fun _ => none))
def pz_nM (σ : pzS) (M : pzM) : pzM := (va_up M.1 σ.1 (fun _ => 0), va_up M.2 σ.1 (fun _ => 0))
theorem pz_wf_new {σ : pzS} {q : Nat × Nat} (h : pz_wf σ) : pz_wf (pz_new σ q) := by
  intro a b r hr
  have hr : va_up σ.2.2 σ.1 (fun _ => none) a b = some r := hr
  by_cases ha : a = σ.1
  · subst ha; simp [va_up] at hr
  · simp only [va_up, if_neg ha] at hr
    exact Nat.lt_succ_of_lt (h a b r hr)
theorem pz_w_push {cy : Nat → ClassId} {ad : Nat → Nat} {σ : pzS} {M : pzM} {q : Nat} {kd : Nat × Nat} {e9 : va_E} (hwf : pz_wf σ) (he : pz_e cy (va_up ad σ.1 q) (pz_new σ kd) (pz_nM σ M) σ.1 = e9) : pz_w cy ad σ M ++ [(q, e9)] = pz_w cy (va_up ad σ.1 q) (pz_new σ kd) (pz_nM σ M) := by
  show _ = (List.range (σ.1 + 1)).map _
  rw [List.range_succ, List.map_append]
  refine congr (congrArg _ ?_) ?_
  · refine List.map_congr_left (fun i hi => ?_)
    have hi : i < σ.1 := List.mem_range.mp hi
    have hne : i ≠ σ.1 := by omega
    have e1 : va_up ad σ.1 q i = ad i := by simp [va_up, hne]
    rw [e1]
    refine congrArg (fun z => (ad i, z)) ?_
    unfold pz_e
    have hk : (pz_new σ kd).2.1 i = σ.2.1 i := by simp [pz_new, va_up, hne]
    have h1 : (pz_nM σ M).1 i = M.1 i := by simp [pz_nM, va_up, hne]
    have h2 : (pz_nM σ M).2 i = M.2 i := by simp [pz_nM, va_up, hne]
    have h3 : (pz_new σ kd).2.2 i = σ.2.2 i := by simp [pz_new, va_up, hne]
    rw [hk, h1, h2]
    have hf : ∀ c, pz_fs (va_up ad σ.1 q) (pz_new σ kd) (pz_nM σ M) i 0 (pz_ft c) = pz_fs ad σ M i 0 (pz_ft c) := fun c => pz_fs_congr _ _ (fun k t _ => by
      unfold pz_v
      rw [h1, h2, h3]
      cases hr : σ.2.2 i (0 + k) with
      | none => rfl
      | some r =>
        have hlt := hwf i _ r hr
        have : va_up ad σ.1 q r = ad r := by simp [va_up, Nat.ne_of_lt hlt]
        simp [this])
    split <;> first | rfl | (rw [hf])
  · simp [va_up, he]
theorem pz_up_ad {ad : Nat → Nat} {n q : Nat} : ∀ i, i < n → va_up ad n q i = ad i := fun i h => by simp [va_up, Nat.ne_of_lt h]
theorem pz_newarr (C : pz_C p s m args meth c cc nL own D cy A) {atype : ArrayType} {ty : FieldType} {t N' : Nat} {x : Int32} (hd : decode cc pc = .ok (.newarray atype, 2)) (hty : newarray.typeOf atype = ty) (hw : Cond.arrayClass (newarray.typeOf atype) ∈ lw_good) (ht : (t, ty) = (0, .byte) ∨ (t, ty) = (1, .int) ∨ (t, ty) = (2, .long) ∨ (t, ty) = (3, .boolean)) (hx : ¬ x < 0) (hN : x.toNatClampNeg = N') (hb : N' ≤ 1000000)
    (hwf : pz_wf σ) (hn0 : n0 ≤ σ.1) (h1 : pz_all σ.1 st) (h2 : pz_alll σ.1 loc) (hcells : cells + 1 ≤ R.cells) (hslots : slots + N' ≤ R.slots)
    (kk : pz_W p l e R s m args below meth c nL D cy A n0 ad0 Q (pz_new σ (t, N')) (pz_nM σ M) (cells + 1) (slots + N') (pc + 2) loc (.ref σ.1 :: st)) : pz_W p l e R s m args below meth c nL D cy A n0 ad0 Q σ M cells slots pc loc (.int x :: st) := by
  intro ad H locs ls ha hP hD hS hl
  have hby : N' * componentBytes ty ≤ 536870912 := by rcases ht with h | h | h | h <;> cases h <;> simp [componentBytes] <;> omega
  obtain ⟨a0, ha0, he9⟩ : ∃ a0 : vp_A, (∀ cA : ClassId, vp_cell cA a0 = arrV cA N' (fun _ => defaultValue ty)) ∧ ∀ q, pz_e cy (va_up ad σ.1 q) (pz_new σ (t, N')) (pz_nM σ M) σ.1 = .inl (cy t, a0) := by
    rcases ht with h | h | h | h <;> cases h
    · exact ⟨(N', .inl (fun _ => 0)), fun _ => rfl, fun q => by simp [pz_e, pz_new, pz_nM, va_up]⟩
    · exact ⟨(N', .inl (fun _ => 0)), fun _ => rfl, fun q => by simp [pz_e, pz_new, pz_nM, va_up]⟩
    · exact ⟨(N', .inr (.inl (fun _ => 0))), fun _ => rfl, fun q => by simp [pz_e, pz_new, pz_nM, va_up]⟩
    · exact ⟨(N', .inl (fun _ => 0)), fun _ => rfl, fun q => by simp [pz_e, pz_new, pz_nM, va_up]⟩
  refine va_newa C.1.1 C.1.2.1 (C.1.2.2.2.2 _ hw) hty C.2.1 hP hD hS C.2.2.1 ha0 hx hN hby hcells hslots hd (fun q cA H1 hK1 hP1 hD1 hS1 => ?_)
  have hcA : cA = cy t := by
    have g1 := (hK1.2 4 (cA, ty) rfl).2
    rcases ht with h | h | h | h <;> cases h
    · exact Option.some.inj (g1.symm.trans (C.2.1.2 0 (cy 0, .byte) rfl).2)
    · exact Option.some.inj (g1.symm.trans (C.2.1.2 1 (cy 1, .int) rfl).2)
    · exact Option.some.inj (g1.symm.trans (C.2.1.2 2 (cy 2, .long) rfl).2)
    · exact Option.some.inj (g1.symm.trans (C.2.1.2 3 (cy 3, .boolean) rfl).2)
  subst hcA
  have e1 := pz_w_push (M := M) hwf (he9 q)
  rw [e1] at hP1 hD1
  have k9 := kk (va_up ad σ.1 q) H1 locs ls (fun i hi => (pz_up_ad i (Nat.lt_of_lt_of_le hi hn0)).trans (ha i hi)) hP1 hD1 hS1 (by rw [pz_alll_map (fun i hi => pz_up_ad i hi) h2]; exact hl)
  simp only [List.map_cons] at k9
  rw [pz_all_map (fun i hi => pz_up_ad i hi) h1] at k9
  have e2 : pz_t (va_up ad σ.1 q) (.ref σ.1) = .ref q := by simp [pz_t, va_up]
  rw [e2] at k9
  exact k9
end PZE
end
section
theorem lw_at1 {w : Cond} (i : Nat) (h0 : tables_1_1[i]? = some w) (hg : goodWord w = true) : w ∈ lw_good := lw_good_in (have h := List.mem_of_getElem? h0; List.mem_append_right _ (List.mem_append_left _ h)) hg
theorem lw_at2 {w : Cond} (i : Nat) (h0 : tables_1_2[i]? = some w) (hg : goodWord w = true) : w ∈ lw_good := lw_good_in (have h := List.mem_of_getElem? h0; List.mem_append_right _ (List.mem_append_right _ (List.mem_append_left _ h))) hg
theorem lw_at3 {w : Cond} (i : Nat) (h0 : tables_1_3[i]? = some w) (hg : goodWord w = true) : w ∈ lw_good := lw_good_in (have h := List.mem_of_getElem? h0; List.mem_append_right _ (List.mem_append_right _ (List.mem_append_right _ (List.mem_append_left _ h)))) hg
theorem lw_at4 {w : Cond} (i : Nat) (h0 : tables_1_4[i]? = some w) (hg : goodWord w = true) : w ∈ lw_good := lw_good_in (have h := List.mem_of_getElem? h0; List.mem_append_right _ (List.mem_append_right _ (List.mem_append_right _ (List.mem_append_right _ (List.mem_append_left _ h))))) hg
theorem lw_at5 {w : Cond} (i : Nat) (h0 : tables_1_5[i]? = some w) (hg : goodWord w = true) : w ∈ lw_good := lw_good_in (have h := List.mem_of_getElem? h0; List.mem_append_right _ (List.mem_append_right _ (List.mem_append_right _ (List.mem_append_right _ (List.mem_append_right _ (List.mem_append_left _ h)))))) hg
theorem lw_at6 {w : Cond} (i : Nat) (h0 : tables_1_6[i]? = some w) (hg : goodWord w = true) : w ∈ lw_good := lw_good_in (have h := List.mem_of_getElem? h0; List.mem_append_right _ (List.mem_append_right _ (List.mem_append_right _ (List.mem_append_right _ (List.mem_append_right _ (List.mem_append_right _ (h))))))) hg
theorem lw_atP {w : Cond} (i : Nat) (h0 : (k2_sels lw_privs)[i]? = some w) (hg : goodWord w = true) : w ∈ lw_good := lw_good_in (List.mem_append_left _ (List.mem_of_getElem? h0)) hg
theorem u_ws_in {C : String} {T : u_T} {N : Nat} (h : ∀ k, k < N → u_lay C T k ∈ lw_good) : ∀ w ∈ u_ws C T N, w ∈ lw_good := by
  intro w hw
  obtain ⟨k, hk, rfl⟩ := List.mem_map.mp hw
  exact h k (List.mem_range.mp hk)
theorem gwX1 : ∀ w ∈ u_ws RX1 TX1 7, w ∈ lw_good := u_ws_in (fun k hk => match k, hk with
  | 0, _ => lw_at1 183 rfl rfl
  | 1, _ => lw_at1 185 rfl rfl
  | 2, _ => lw_at1 187 rfl rfl
  | 3, _ => lw_at1 189 rfl rfl
  | 4, _ => lw_at1 191 rfl rfl
  | 5, _ => lw_at1 193 rfl rfl
  | 6, _ => lw_at1 195 rfl rfl
  | n + 7, h => absurd h (by omega))
theorem gwX2 : ∀ w ∈ u_ws RX2 TX2 4, w ∈ lw_good := u_ws_in (fun k hk => match k, hk with
  | 0, _ => lw_at1 209 rfl rfl
  | 1, _ => lw_at1 211 rfl rfl
  | 2, _ => lw_at1 213 rfl rfl
  | 3, _ => lw_at1 215 rfl rfl
  | n + 4, h => absurd h (by omega))
theorem gwX3 : ∀ w ∈ u_ws RX3 TX3 5, w ∈ lw_good := u_ws_in (fun k hk => match k, hk with
  | 0, _ => lw_at1 119 rfl rfl
  | 1, _ => lw_at1 121 rfl rfl
  | 2, _ => lw_at1 123 rfl rfl
  | 3, _ => lw_at1 125 rfl rfl
  | 4, _ => lw_at1 127 rfl rfl
  | n + 5, h => absurd h (by omega))
theorem gwX4 : ∀ w ∈ u_ws RX4 TX4 10, w ∈ lw_good := u_ws_in (fun k hk => match k, hk with
  | 0, _ => lw_at2 20 rfl rfl
  | 1, _ => lw_at2 22 rfl rfl
  | 2, _ => lw_at2 24 rfl rfl
  | 3, _ => lw_at2 26 rfl rfl
  | 4, _ => lw_at2 28 rfl rfl
  | 5, _ => lw_at2 30 rfl rfl
  | 6, _ => lw_at2 32 rfl rfl
  | 7, _ => lw_at2 34 rfl rfl
  | 8, _ => lw_at2 36 rfl rfl
  | 9, _ => lw_at2 38 rfl rfl
  | n + 10, h => absurd h (by omega))
theorem gwX5 : ∀ w ∈ u_ws RX5 TX5 11, w ∈ lw_good := u_ws_in (fun k hk => match k, hk with
  | 0, _ => lw_at1 141 rfl rfl
  | 1, _ => lw_at1 143 rfl rfl
  | 2, _ => lw_at1 145 rfl rfl
  | 3, _ => lw_at1 147 rfl rfl
  | 4, _ => lw_at1 149 rfl rfl
  | 5, _ => lw_at1 151 rfl rfl
  | 6, _ => lw_at1 153 rfl rfl
  | 7, _ => lw_at1 155 rfl rfl
  | 8, _ => lw_at1 157 rfl rfl
  | 9, _ => lw_at1 159 rfl rfl
  | 10, _ => lw_at1 161 rfl rfl
  | n + 11, h => absurd h (by omega))
theorem gwX6 : ∀ w ∈ u_ws RX6 TX6 7, w ∈ lw_good := u_ws_in (fun k hk => match k, hk with
  | 0, _ => lw_at1 70 rfl rfl
  | 1, _ => lw_at1 72 rfl rfl
  | 2, _ => lw_at1 74 rfl rfl
  | 3, _ => lw_at1 76 rfl rfl
  | 4, _ => lw_at1 78 rfl rfl
  | 5, _ => lw_at1 80 rfl rfl
  | 6, _ => lw_at1 82 rfl rfl
  | n + 7, h => absurd h (by omega))
theorem gwX7 : ∀ w ∈ u_ws RX7 TX7 7, w ∈ lw_good := u_ws_in (fun k hk => match k, hk with
  | 0, _ => lw_at1 47 rfl rfl
  | 1, _ => lw_at1 49 rfl rfl
  | 2, _ => lw_at1 51 rfl rfl
  | 3, _ => lw_at1 53 rfl rfl
  | 4, _ => lw_at1 55 rfl rfl
  | 5, _ => lw_at1 57 rfl rfl
  | 6, _ => lw_at1 59 rfl rfl
  | n + 7, h => absurd h (by omega))
theorem gwX8 : ∀ w ∈ u_ws RX8 TX8 8, w ∈ lw_good := u_ws_in (fun k hk => match k, hk with
  | 0, _ => lw_at1 232 rfl rfl
  | 1, _ => lw_at1 234 rfl rfl
  | 2, _ => lw_at1 236 rfl rfl
  | 3, _ => lw_at1 238 rfl rfl
  | 4, _ => lw_at2 0 rfl rfl
  | 5, _ => lw_at2 2 rfl rfl
  | 6, _ => lw_at2 4 rfl rfl
  | 7, _ => lw_at2 6 rfl rfl
  | n + 8, h => absurd h (by omega))
theorem gwX9 : ∀ w ∈ u_ws RX9 TX9 3, w ∈ lw_good := u_ws_in (fun k hk => match k, hk with
  | 0, _ => lw_at1 94 rfl rfl
  | 1, _ => lw_at1 96 rfl rfl
  | 2, _ => lw_at1 98 rfl rfl
  | n + 3, h => absurd h (by omega))
theorem gwX10 : ∀ w ∈ u_ws RX10 TX10 4, w ∈ lw_good := u_ws_in (fun k hk => match k, hk with
  | 0, _ => lw_at2 45 rfl rfl
  | 1, _ => lw_at2 47 rfl rfl
  | 2, _ => lw_at2 49 rfl rfl
  | 3, _ => lw_at2 51 rfl rfl
  | n + 4, h => absurd h (by omega))
theorem gwX11 : ∀ w ∈ u_ws RX11 TX11 54, w ∈ lw_good := u_ws_in (fun k hk => match k, hk with
  | 0, _ => lw_at5 138 rfl rfl
  | 1, _ => lw_at5 140 rfl rfl
  | 2, _ => lw_at5 142 rfl rfl
  | 3, _ => lw_at5 144 rfl rfl
  | 4, _ => lw_at5 146 rfl rfl
  | 5, _ => lw_at5 148 rfl rfl
  | 6, _ => lw_at5 150 rfl rfl
  | 7, _ => lw_at5 152 rfl rfl
  | 8, _ => lw_at5 154 rfl rfl
  | 9, _ => lw_at5 156 rfl rfl
  | 10, _ => lw_at5 158 rfl rfl
  | 11, _ => lw_at5 160 rfl rfl
  | 12, _ => lw_at5 162 rfl rfl
  | 13, _ => lw_at5 164 rfl rfl
  | 14, _ => lw_at5 166 rfl rfl
  | 15, _ => lw_at5 168 rfl rfl
  | 16, _ => lw_at5 170 rfl rfl
  | 17, _ => lw_at5 172 rfl rfl
  | 18, _ => lw_at5 174 rfl rfl
  | 19, _ => lw_at5 176 rfl rfl
  | 20, _ => lw_at5 178 rfl rfl
  | 21, _ => lw_at5 180 rfl rfl
  | 22, _ => lw_at5 182 rfl rfl
  | 23, _ => lw_at5 184 rfl rfl
  | 24, _ => lw_at5 186 rfl rfl
  | 25, _ => lw_at5 188 rfl rfl
  | 26, _ => lw_at5 190 rfl rfl
  | 27, _ => lw_at5 192 rfl rfl
  | 28, _ => lw_at5 194 rfl rfl
  | 29, _ => lw_at5 196 rfl rfl
  | 30, _ => lw_at5 198 rfl rfl
  | 31, _ => lw_at5 200 rfl rfl
  | 32, _ => lw_at5 202 rfl rfl
  | 33, _ => lw_at5 204 rfl rfl
  | 34, _ => lw_at5 206 rfl rfl
  | 35, _ => lw_at5 208 rfl rfl
  | 36, _ => lw_at5 210 rfl rfl
  | 37, _ => lw_at5 212 rfl rfl
  | 38, _ => lw_at5 214 rfl rfl
  | 39, _ => lw_at5 216 rfl rfl
  | 40, _ => lw_at5 218 rfl rfl
  | 41, _ => lw_at5 220 rfl rfl
  | 42, _ => lw_at5 222 rfl rfl
  | 43, _ => lw_at5 224 rfl rfl
  | 44, _ => lw_at5 226 rfl rfl
  | 45, _ => lw_at5 228 rfl rfl
  | 46, _ => lw_at5 230 rfl rfl
  | 47, _ => lw_at5 232 rfl rfl
  | 48, _ => lw_at5 234 rfl rfl
  | 49, _ => lw_at5 236 rfl rfl
  | 50, _ => lw_at5 238 rfl rfl
  | 51, _ => lw_at6 0 rfl rfl
  | 52, _ => lw_at6 2 rfl rfl
  | 53, _ => lw_at6 4 rfl rfl
  | n + 54, h => absurd h (by omega))
theorem ini_L : Cond.initialized RL ∈ lw_good := lw_at1 0 rfl rfl
theorem ini_X10 : Cond.initialized RX10 ∈ lw_good := lw_at1 1 rfl rfl
theorem ini_X6 : Cond.initialized RX6 ∈ lw_good := lw_at1 2 rfl rfl
theorem ini_X7 : Cond.initialized RX7 ∈ lw_good := lw_at1 3 rfl rfl
theorem ini_X9 : Cond.initialized RX9 ∈ lw_good := lw_at1 4 rfl rfl
theorem ini_X5 : Cond.initialized RX5 ∈ lw_good := lw_at1 5 rfl rfl
theorem ini_X3 : Cond.initialized RX3 ∈ lw_good := lw_at1 6 rfl rfl
theorem ini_X4 : Cond.initialized RX4 ∈ lw_good := lw_at1 7 rfl rfl
theorem ini_X1 : Cond.initialized RX1 ∈ lw_good := lw_at1 8 rfl rfl
theorem ini_X2 : Cond.initialized RX2 ∈ lw_good := lw_at1 9 rfl rfl
theorem ini_X8 : Cond.initialized RX8 ∈ lw_good := lw_at1 10 rfl rfl
theorem ini_X11 : Cond.initialized RX11 ∈ lw_good := lw_at1 11 rfl rfl
theorem ini_J7 : Cond.initialized RJ7 ∈ lw_good := lw_at1 17 rfl rfl
theorem ini_J9 : Cond.initialized RJ9 ∈ lw_good := lw_at1 18 rfl rfl
theorem ini_J10 : Cond.initialized RJ10 ∈ lw_good := lw_at1 19 rfl rfl
theorem cl_L_8 : Cond.classLink RL 8 RX10 ∈ lw_good := lw_at1 20 rfl rfl
theorem inst_X10 : Cond.instantiable RX10 4 ∈ lw_good := lw_at1 21 rfl rfl
theorem ml_L_52 : Cond.methodLink RL 52 yX10_init ∈ lw_good := lw_at1 22 rfl rfl
theorem im_yX10_init : Cond.instanceMethod yX10_init ∈ lw_good := lw_at1 23 rfl rfl
theorem ml_X10_3 : Cond.methodLink RX10 3 objectInit ∈ lw_good := lw_at1 25 rfl rfl
theorem im_objectInit : Cond.instanceMethod objectInit ∈ lw_good := lw_at1 26 rfl rfl
theorem cl_X10_9 : Cond.classLink RX10 9 RX6 ∈ lw_good := lw_at1 28 rfl rfl
theorem inst_X6 : Cond.instantiable RX6 7 ∈ lw_good := lw_at1 29 rfl rfl
theorem im_yX6_init : Cond.instanceMethod yX6_init ∈ lw_good := lw_at1 31 rfl rfl
theorem ml_X6_3 : Cond.methodLink RX6 3 objectInit ∈ lw_good := lw_at1 33 rfl rfl
theorem cl_X6_9 : Cond.classLink RX6 9 RX7 ∈ lw_good := lw_at1 34 rfl rfl
theorem inst_X7 : Cond.instantiable RX7 7 ∈ lw_good := lw_at1 35 rfl rfl
theorem im_yX7_init : Cond.instanceMethod yX7_init ∈ lw_good := lw_at1 37 rfl rfl
theorem ml_X7_3 : Cond.methodLink RX7 3 objectInit ∈ lw_good := lw_at1 39 rfl rfl
theorem fl_X7_9 : Cond.fieldLink RX7 9 "FeatureDesugarer$Recipes" "lengths" "[I" ∈ lw_good := lw_at1 40 rfl rfl
theorem fl_X7_15 : Cond.fieldLink RX7 15 "FeatureDesugarer$Recipes" "holes" "[I" ∈ lw_good := lw_at1 41 rfl rfl
theorem fl_X7_18 : Cond.fieldLink RX7 18 "FeatureDesugarer$Recipes" "firstLetters" "[I" ∈ lw_good := lw_at1 42 rfl rfl
theorem fl_X7_21 : Cond.fieldLink RX7 21 "FeatureDesugarer$Recipes" "digits" "[I" ∈ lw_good := lw_at1 43 rfl rfl
theorem fl_X7_24 : Cond.fieldLink RX7 24 "FeatureDesugarer$Recipes" "letters" "[I" ∈ lw_good := lw_at1 44 rfl rfl
theorem fl_X7_29 : Cond.fieldLink RX7 29 "FeatureDesugarer$Recipes" "recipes" "I" ∈ lw_good := lw_at1 45 rfl rfl
theorem fl_X7_33 : Cond.fieldLink RX7 33 "FeatureDesugarer$Recipes" "letterTotal" "I" ∈ lw_good := lw_at1 46 rfl rfl
theorem arr_int : Cond.arrayClass .int ∈ lw_good := lw_at1 62 rfl rfl
theorem fl_X6_12 : Cond.fieldLink RX6 12 "FeatureDesugarer$Program" "recipes" "LFeatureDesugarer$Recipes;" ∈ lw_good := lw_at1 63 rfl rfl
theorem fl_X6_18 : Cond.fieldLink RX6 18 "FeatureDesugarer$Program" "parameters" "[I" ∈ lw_good := lw_at1 64 rfl rfl
theorem fl_X6_22 : Cond.fieldLink RX6 22 "FeatureDesugarer$Program" "lengths" "[I" ∈ lw_good := lw_at1 65 rfl rfl
theorem fl_X6_25 : Cond.fieldLink RX6 25 "FeatureDesugarer$Program" "words" "[I" ∈ lw_good := lw_at1 66 rfl rfl
theorem fl_X6_28 : Cond.fieldLink RX6 28 "FeatureDesugarer$Program" "firstNumbers" "[I" ∈ lw_good := lw_at1 67 rfl rfl
theorem fl_X6_31 : Cond.fieldLink RX6 31 "FeatureDesugarer$Program" "secondNumbers" "[I" ∈ lw_good := lw_at1 68 rfl rfl
theorem fl_X6_34 : Cond.fieldLink RX6 34 "FeatureDesugarer$Program" "functions" "I" ∈ lw_good := lw_at1 69 rfl rfl
theorem cl_X10_16 : Cond.classLink RX10 16 RX9 ∈ lw_good := lw_at1 85 rfl rfl
theorem inst_X9 : Cond.instantiable RX9 3 ∈ lw_good := lw_at1 86 rfl rfl
theorem ml_X10_18 : Cond.methodLink RX10 18 yX9_init ∈ lw_good := lw_at1 87 rfl rfl
theorem im_yX9_init : Cond.instanceMethod yX9_init ∈ lw_good := lw_at1 88 rfl rfl
theorem ml_X9_3 : Cond.methodLink RX9 3 objectInit ∈ lw_good := lw_at1 90 rfl rfl
theorem fl_X9_19 : Cond.fieldLink RX9 19 "FeatureDesugarer$Ways" "program" "LFeatureDesugarer$Program;" ∈ lw_good := lw_at1 91 rfl rfl
theorem fl_X9_9 : Cond.fieldLink RX9 9 "FeatureDesugarer$Ways" "heights" "[I" ∈ lw_good := lw_at1 92 rfl rfl
theorem fl_X9_15 : Cond.fieldLink RX9 15 "FeatureDesugarer$Ways" "gone" "[Z" ∈ lw_good := lw_at1 93 rfl rfl
theorem arr_boolean : Cond.arrayClass .boolean ∈ lw_good := lw_at1 101 rfl rfl
theorem cl_X10_25 : Cond.classLink RX10 25 RX5 ∈ lw_good := lw_at1 102 rfl rfl
theorem inst_X5 : Cond.instantiable RX5 11 ∈ lw_good := lw_at1 103 rfl rfl
theorem ml_X10_27 : Cond.methodLink RX10 27 yX5_init ∈ lw_good := lw_at1 104 rfl rfl
theorem im_yX5_init : Cond.instanceMethod yX5_init ∈ lw_good := lw_at1 105 rfl rfl
theorem ml_X5_3 : Cond.methodLink RX5 3 objectInit ∈ lw_good := lw_at1 107 rfl rfl
theorem cl_X5_9 : Cond.classLink RX5 9 RX3 ∈ lw_good := lw_at1 108 rfl rfl
theorem inst_X3 : Cond.instantiable RX3 5 ∈ lw_good := lw_at1 109 rfl rfl
theorem im_yX3_init : Cond.instanceMethod yX3_init ∈ lw_good := lw_at1 111 rfl rfl
theorem ml_X3_1 : Cond.methodLink RX3 1 objectInit ∈ lw_good := lw_at1 113 rfl rfl
theorem fl_X3_7 : Cond.fieldLink RX3 7 "FeatureDesugarer$Instructions" "words" "[I" ∈ lw_good := lw_at1 114 rfl rfl
theorem fl_X3_13 : Cond.fieldLink RX3 13 "FeatureDesugarer$Instructions" "firstNumbers" "[I" ∈ lw_good := lw_at1 115 rfl rfl
theorem fl_X3_16 : Cond.fieldLink RX3 16 "FeatureDesugarer$Instructions" "secondNumbers" "[I" ∈ lw_good := lw_at1 116 rfl rfl
theorem fl_X3_19 : Cond.fieldLink RX3 19 "FeatureDesugarer$Instructions" "steps" "[I" ∈ lw_good := lw_at1 117 rfl rfl
theorem fl_X3_22 : Cond.fieldLink RX3 22 "FeatureDesugarer$Instructions" "length" "I" ∈ lw_good := lw_at1 118 rfl rfl
theorem fl_X5_37 : Cond.fieldLink RX5 37 "FeatureDesugarer$PlainCode" "program" "LFeatureDesugarer$Program;" ∈ lw_good := lw_at1 130 rfl rfl
theorem fl_X5_41 : Cond.fieldLink RX5 41 "FeatureDesugarer$PlainCode" "ways" "LFeatureDesugarer$Ways;" ∈ lw_good := lw_at1 131 rfl rfl
theorem fl_X5_12 : Cond.fieldLink RX5 12 "FeatureDesugarer$PlainCode" "instructions" "LFeatureDesugarer$Instructions;" ∈ lw_good := lw_at1 132 rfl rfl
theorem fl_X5_18 : Cond.fieldLink RX5 18 "FeatureDesugarer$PlainCode" "starts" "[I" ∈ lw_good := lw_at1 133 rfl rfl
theorem fl_X5_22 : Cond.fieldLink RX5 22 "FeatureDesugarer$PlainCode" "classFunctions" "[I" ∈ lw_good := lw_at1 134 rfl rfl
theorem fl_X5_25 : Cond.fieldLink RX5 25 "FeatureDesugarer$PlainCode" "classValues" "[I" ∈ lw_good := lw_at1 135 rfl rfl
theorem fl_X5_28 : Cond.fieldLink RX5 28 "FeatureDesugarer$PlainCode" "sourceHeights" "[I" ∈ lw_good := lw_at1 136 rfl rfl
theorem fl_X5_31 : Cond.fieldLink RX5 31 "FeatureDesugarer$PlainCode" "plainHeights" "[I" ∈ lw_good := lw_at1 137 rfl rfl
theorem fl_X5_34 : Cond.fieldLink RX5 34 "FeatureDesugarer$PlainCode" "groupPlaces" "[I" ∈ lw_good := lw_at1 138 rfl rfl
theorem fl_X5_49 : Cond.fieldLink RX5 49 "FeatureDesugarer$PlainCode" "classes" "I" ∈ lw_good := lw_at1 139 rfl rfl
theorem fl_X5_45 : Cond.fieldLink RX5 45 "FeatureDesugarer$PlainCode" "isMade" "Z" ∈ lw_good := lw_at1 140 rfl rfl
theorem cl_X10_34 : Cond.classLink RX10 34 RX4 ∈ lw_good := lw_at1 164 rfl rfl
theorem inst_X4 : Cond.instantiable RX4 10 ∈ lw_good := lw_at1 165 rfl rfl
theorem ml_X10_36 : Cond.methodLink RX10 36 yX4_init ∈ lw_good := lw_at1 166 rfl rfl
theorem im_yX4_init : Cond.instanceMethod yX4_init ∈ lw_good := lw_at1 167 rfl rfl
theorem ml_X4_3 : Cond.methodLink RX4 3 objectInit ∈ lw_good := lw_at1 169 rfl rfl
theorem cl_X4_9 : Cond.classLink RX4 9 RX1 ∈ lw_good := lw_at1 170 rfl rfl
theorem inst_X1 : Cond.instantiable RX1 7 ∈ lw_good := lw_at1 171 rfl rfl
theorem im_yX1_init : Cond.instanceMethod yX1_init ∈ lw_good := lw_at1 173 rfl rfl
theorem ml_X1_3 : Cond.methodLink RX1 3 objectInit ∈ lw_good := lw_at1 175 rfl rfl
theorem fl_X1_11 : Cond.fieldLink RX1 11 "FeatureDesugarer$Frames" "slots" "[J" ∈ lw_good := lw_at1 176 rfl rfl
theorem fl_X1_15 : Cond.fieldLink RX1 15 "FeatureDesugarer$Frames" "units" "[I" ∈ lw_good := lw_at1 177 rfl rfl
theorem fl_X1_19 : Cond.fieldLink RX1 19 "FeatureDesugarer$Frames" "places" "[I" ∈ lw_good := lw_at1 178 rfl rfl
theorem fl_X1_22 : Cond.fieldLink RX1 22 "FeatureDesugarer$Frames" "tops" "[I" ∈ lw_good := lw_at1 179 rfl rfl
theorem fl_X1_25 : Cond.fieldLink RX1 25 "FeatureDesugarer$Frames" "taken" "[J" ∈ lw_good := lw_at1 180 rfl rfl
theorem fl_X1_28 : Cond.fieldLink RX1 28 "FeatureDesugarer$Frames" "frames" "I" ∈ lw_good := lw_at1 181 rfl rfl
theorem fl_X1_32 : Cond.fieldLink RX1 32 "FeatureDesugarer$Frames" "current" "I" ∈ lw_good := lw_at1 182 rfl rfl
theorem arr_long : Cond.arrayClass .long ∈ lw_good := lw_at1 198 rfl rfl
theorem cl_X4_18 : Cond.classLink RX4 18 RX2 ∈ lw_good := lw_at1 199 rfl rfl
theorem inst_X2 : Cond.instantiable RX2 4 ∈ lw_good := lw_at1 200 rfl rfl
theorem im_yX2_init : Cond.instanceMethod yX2_init ∈ lw_good := lw_at1 202 rfl rfl
theorem ml_X2_3 : Cond.methodLink RX2 3 objectInit ∈ lw_good := lw_at1 204 rfl rfl
theorem fl_X2_9 : Cond.fieldLink RX2 9 "FeatureDesugarer$Holders" "types" "[I" ∈ lw_good := lw_at1 205 rfl rfl
theorem fl_X2_15 : Cond.fieldLink RX2 15 "FeatureDesugarer$Holders" "sizes" "[I" ∈ lw_good := lw_at1 206 rfl rfl
theorem fl_X2_18 : Cond.fieldLink RX2 18 "FeatureDesugarer$Holders" "values" "[J" ∈ lw_good := lw_at1 207 rfl rfl
theorem fl_X2_22 : Cond.fieldLink RX2 22 "FeatureDesugarer$Holders" "holders" "I" ∈ lw_good := lw_at1 208 rfl rfl
theorem cl_X4_25 : Cond.classLink RX4 25 RX8 ∈ lw_good := lw_at1 218 rfl rfl
theorem inst_X8 : Cond.instantiable RX8 8 ∈ lw_good := lw_at1 219 rfl rfl
theorem im_yX8_init : Cond.instanceMethod yX8_init ∈ lw_good := lw_at1 221 rfl rfl
theorem ml_X8_3 : Cond.methodLink RX8 3 objectInit ∈ lw_good := lw_at1 223 rfl rfl
theorem fl_X8_9 : Cond.fieldLink RX8 9 "FeatureDesugarer$Texts" "starts" "[I" ∈ lw_good := lw_at1 224 rfl rfl
theorem fl_X8_15 : Cond.fieldLink RX8 15 "FeatureDesugarer$Texts" "lengths" "[I" ∈ lw_good := lw_at1 225 rfl rfl
theorem fl_X8_18 : Cond.fieldLink RX8 18 "FeatureDesugarer$Texts" "kept" "[B" ∈ lw_good := lw_at1 226 rfl rfl
theorem fl_X8_28 : Cond.fieldLink RX8 28 "FeatureDesugarer$Texts" "texts" "I" ∈ lw_good := lw_at1 227 rfl rfl
theorem fl_X8_22 : Cond.fieldLink RX8 22 "FeatureDesugarer$Texts" "spelled" "[B" ∈ lw_good := lw_at1 228 rfl rfl
theorem fl_X8_41 : Cond.fieldLink RX8 41 "FeatureDesugarer$Texts" "spelledLength" "I" ∈ lw_good := lw_at1 229 rfl rfl
theorem fl_X8_25 : Cond.fieldLink RX8 25 "FeatureDesugarer$Texts" "output" "[B" ∈ lw_good := lw_at1 230 rfl rfl
theorem fl_X8_32 : Cond.fieldLink RX8 32 "FeatureDesugarer$Texts" "outputLength" "I" ∈ lw_good := lw_at1 231 rfl rfl
theorem arr_byte : Cond.arrayClass .byte ∈ lw_good := lw_at2 9 rfl rfl
theorem fl_X4_36 : Cond.fieldLink RX4 36 "FeatureDesugarer$Machine" "program" "LFeatureDesugarer$Program;" ∈ lw_good := lw_at2 10 rfl rfl
theorem fl_X4_40 : Cond.fieldLink RX4 40 "FeatureDesugarer$Machine" "plainCode" "LFeatureDesugarer$PlainCode;" ∈ lw_good := lw_at2 11 rfl rfl
theorem fl_X4_12 : Cond.fieldLink RX4 12 "FeatureDesugarer$Machine" "frames" "LFeatureDesugarer$Frames;" ∈ lw_good := lw_at2 12 rfl rfl
theorem fl_X4_21 : Cond.fieldLink RX4 21 "FeatureDesugarer$Machine" "holders" "LFeatureDesugarer$Holders;" ∈ lw_good := lw_at2 13 rfl rfl
theorem fl_X4_28 : Cond.fieldLink RX4 28 "FeatureDesugarer$Machine" "texts" "LFeatureDesugarer$Texts;" ∈ lw_good := lw_at2 14 rfl rfl
theorem fl_X4_44 : Cond.fieldLink RX4 44 "FeatureDesugarer$Machine" "code" "LFeatureDesugarer$Code;" ∈ lw_good := lw_at2 15 rfl rfl
theorem fl_X4_75 : Cond.fieldLink RX4 75 "FeatureDesugarer$Machine" "openFunctions" "I" ∈ lw_good := lw_at2 16 rfl rfl
theorem fl_X4_56 : Cond.fieldLink RX4 56 "FeatureDesugarer$Machine" "steps" "I" ∈ lw_good := lw_at2 17 rfl rfl
theorem fl_X4_78 : Cond.fieldLink RX4 78 "FeatureDesugarer$Machine" "fault" "I" ∈ lw_good := lw_at2 18 rfl rfl
theorem fl_X4_32 : Cond.fieldLink RX4 32 "FeatureDesugarer$Machine" "returned" "J" ∈ lw_good := lw_at2 19 rfl rfl
theorem fl_X10_12 : Cond.fieldLink RX10 12 "FeatureDesugarer" "program" "LFeatureDesugarer$Program;" ∈ lw_good := lw_at2 41 rfl rfl
theorem fl_X10_21 : Cond.fieldLink RX10 21 "FeatureDesugarer" "ways" "LFeatureDesugarer$Ways;" ∈ lw_good := lw_at2 42 rfl rfl
theorem fl_X10_30 : Cond.fieldLink RX10 30 "FeatureDesugarer" "plainCode" "LFeatureDesugarer$PlainCode;" ∈ lw_good := lw_at2 43 rfl rfl
theorem fl_X10_39 : Cond.fieldLink RX10 39 "FeatureDesugarer" "machine" "LFeatureDesugarer$Machine;" ∈ lw_good := lw_at2 44 rfl rfl
theorem ml_L_76 : Cond.methodLink RL 76 yX10_check ∈ lw_good := lw_at2 54 rfl rfl
theorem im_yX10_check : Cond.instanceMethod yX10_check ∈ lw_good := lw_at2 55 rfl rfl
theorem se_yX10_check : Cond.selects yX10_check.cls yX10_check yX10_check ∈ lw_good := lw_at2 56 rfl rfl
theorem ml_X10_46 : Cond.methodLink RX10 46 yX6_functionTotal ∈ lw_good := lw_at2 58 rfl rfl
theorem im_yX6_functionTotal : Cond.instanceMethod yX6_functionTotal ∈ lw_good := lw_at2 59 rfl rfl
theorem se_yX6_functionTotal : Cond.selects yX6_functionTotal.cls yX6_functionTotal yX6_functionTotal ∈ lw_good := lw_at2 60 rfl rfl
theorem ml_X10_88 : Cond.methodLink RX10 88 yX9_wrongPlace ∈ lw_good := lw_at2 62 rfl rfl
theorem im_yX9_wrongPlace : Cond.instanceMethod yX9_wrongPlace ∈ lw_good := lw_at2 63 rfl rfl
theorem se_yX9_wrongPlace : Cond.selects yX9_wrongPlace.cls yX9_wrongPlace yX9_wrongPlace ∈ lw_good := lw_at2 64 rfl rfl
theorem ml_X9_23 : Cond.methodLink RX9 23 yX6_lengthOf ∈ lw_good := lw_at2 66 rfl rfl
theorem im_yX6_lengthOf : Cond.instanceMethod yX6_lengthOf ∈ lw_good := lw_at2 67 rfl rfl
theorem se_yX6_lengthOf : Cond.selects yX6_lengthOf.cls yX6_lengthOf yX6_lengthOf ∈ lw_good := lw_at2 68 rfl rfl
theorem ml_X9_29 : Cond.methodLink RX9 29 yX6_hasNumbersInBounds ∈ lw_good := lw_at2 70 rfl rfl
theorem im_yX6_hasNumbersInBounds : Cond.instanceMethod yX6_hasNumbersInBounds ∈ lw_good := lw_at2 71 rfl rfl
theorem se_yX6_hasNumbersInBounds : Cond.selects yX6_hasNumbersInBounds.cls yX6_hasNumbersInBounds yX6_hasNumbersInBounds ∈ lw_good := lw_at2 72 rfl rfl
theorem ml_X6_38 : Cond.methodLink RX6 38 yX6_firstNumberAt ∈ lw_good := lw_at2 74 rfl rfl
theorem im_yX6_firstNumberAt : Cond.instanceMethod yX6_firstNumberAt ∈ lw_good := lw_at2 75 rfl rfl
theorem se_yX6_firstNumberAt : Cond.selects yX6_firstNumberAt.cls yX6_firstNumberAt yX6_firstNumberAt ∈ lw_good := lw_at2 76 rfl rfl
theorem ml_X6_42 : Cond.methodLink RX6 42 yX6_secondNumberAt ∈ lw_good := lw_at2 78 rfl rfl
theorem im_yX6_secondNumberAt : Cond.instanceMethod yX6_secondNumberAt ∈ lw_good := lw_at2 79 rfl rfl
theorem se_yX6_secondNumberAt : Cond.selects yX6_secondNumberAt.cls yX6_secondNumberAt yX6_secondNumberAt ∈ lw_good := lw_at2 80 rfl rfl
theorem ml_X6_45 : Cond.methodLink RX6 45 yX6_wordAt ∈ lw_good := lw_at2 82 rfl rfl
theorem im_yX6_wordAt : Cond.instanceMethod yX6_wordAt ∈ lw_good := lw_at2 83 rfl rfl
theorem se_yX6_wordAt : Cond.selects yX6_wordAt.cls yX6_wordAt yX6_wordAt ∈ lw_good := lw_at2 84 rfl rfl
theorem ml_X6_48 : Cond.methodLink RX6 48 yX6_hasFunction ∈ lw_good := lw_at2 86 rfl rfl
theorem im_yX6_hasFunction : Cond.instanceMethod yX6_hasFunction ∈ lw_good := lw_at2 87 rfl rfl
theorem se_yX6_hasFunction : Cond.selects yX6_hasFunction.cls yX6_hasFunction yX6_hasFunction ∈ lw_good := lw_at2 88 rfl rfl
theorem ml_X6_52 : Cond.methodLink RX6 52 yX7_has ∈ lw_good := lw_at2 90 rfl rfl
theorem im_yX7_has : Cond.instanceMethod yX7_has ∈ lw_good := lw_at2 91 rfl rfl
theorem se_yX7_has : Cond.selects yX7_has.cls yX7_has yX7_has ∈ lw_good := lw_at2 92 rfl rfl
theorem ml_X9_33 : Cond.methodLink RX9 33 yX9_wrongOnWays ∈ lw_good := lw_at2 94 rfl rfl
theorem im_yX9_wrongOnWays : Cond.instanceMethod yX9_wrongOnWays ∈ lw_good := lw_at2 96 rfl rfl
theorem ml_X9_37 : Cond.methodLink RX9 37 yX9_leastWaiting ∈ lw_good := lw_at2 98 rfl rfl
theorem im_yX9_leastWaiting : Cond.instanceMethod yX9_leastWaiting ∈ lw_good := lw_at2 100 rfl rfl
theorem ml_X9_40 : Cond.methodLink RX9 40 yX9_goesOn ∈ lw_good := lw_at2 102 rfl rfl
theorem im_yX9_goesOn : Cond.instanceMethod yX9_goesOn ∈ lw_good := lw_at2 104 rfl rfl
theorem ml_X9_44 : Cond.methodLink RX9 44 yX6_wordAt ∈ lw_good := lw_at2 106 rfl rfl
theorem ml_X9_47 : Cond.methodLink RX9 47 yX6_firstNumberAt ∈ lw_good := lw_at2 107 rfl rfl
theorem ml_X9_50 : Cond.methodLink RX9 50 yX6_secondNumberAt ∈ lw_good := lw_at2 108 rfl rfl
theorem ml_X9_53 : Cond.methodLink RX9 53 yX6_popsOf ∈ lw_good := lw_at2 109 rfl rfl
theorem im_yX6_popsOf : Cond.instanceMethod yX6_popsOf ∈ lw_good := lw_at2 110 rfl rfl
theorem se_yX6_popsOf : Cond.selects yX6_popsOf.cls yX6_popsOf yX6_popsOf ∈ lw_good := lw_at2 111 rfl rfl
theorem ml_X6_55 : Cond.methodLink RX6 55 yX7_holesOf ∈ lw_good := lw_at2 113 rfl rfl
theorem im_yX7_holesOf : Cond.instanceMethod yX7_holesOf ∈ lw_good := lw_at2 114 rfl rfl
theorem se_yX7_holesOf : Cond.selects yX7_holesOf.cls yX7_holesOf yX7_holesOf ∈ lw_good := lw_at2 115 rfl rfl
theorem ml_X9_57 : Cond.methodLink RX9 57 yX6_pushesOf ∈ lw_good := lw_at2 117 rfl rfl
theorem im_yX6_pushesOf : Cond.instanceMethod yX6_pushesOf ∈ lw_good := lw_at2 118 rfl rfl
theorem se_yX6_pushesOf : Cond.selects yX6_pushesOf.cls yX6_pushesOf yX6_pushesOf ∈ lw_good := lw_at2 119 rfl rfl
theorem ml_X9_60 : Cond.methodLink RX9 60 yX9_meets ∈ lw_good := lw_at2 121 rfl rfl
theorem im_yX9_meets : Cond.instanceMethod yX9_meets ∈ lw_good := lw_at2 123 rfl rfl
theorem ml_L_80 : Cond.methodLink RL 80 yX10_lower ∈ lw_good := lw_at2 125 rfl rfl
theorem im_yX10_lower : Cond.instanceMethod yX10_lower ∈ lw_good := lw_at2 126 rfl rfl
theorem se_yX10_lower : Cond.selects yX10_lower.cls yX10_lower yX10_lower ∈ lw_good := lw_at2 127 rfl rfl
theorem ml_X10_91 : Cond.methodLink RX10 91 yX10_check ∈ lw_good := lw_at2 129 rfl rfl
theorem ml_X10_94 : Cond.methodLink RX10 94 yX5_make ∈ lw_good := lw_at2 130 rfl rfl
theorem im_yX5_make : Cond.instanceMethod yX5_make ∈ lw_good := lw_at2 131 rfl rfl
theorem se_yX5_make : Cond.selects yX5_make.cls yX5_make yX5_make ∈ lw_good := lw_at2 132 rfl rfl
theorem ml_X5_73 : Cond.methodLink RX5 73 yX3_clear ∈ lw_good := lw_at2 134 rfl rfl
theorem im_yX3_clear : Cond.instanceMethod yX3_clear ∈ lw_good := lw_at2 135 rfl rfl
theorem se_yX3_clear : Cond.selects yX3_clear.cls yX3_clear yX3_clear ∈ lw_good := lw_at2 136 rfl rfl
theorem ml_X5_53 : Cond.methodLink RX5 53 yX6_functionTotal ∈ lw_good := lw_at2 138 rfl rfl
theorem ml_X5_76 : Cond.methodLink RX5 76 yX5_makeFunction ∈ lw_good := lw_at2 139 rfl rfl
theorem im_yX5_makeFunction : Cond.instanceMethod yX5_makeFunction ∈ lw_good := lw_at2 141 rfl rfl
theorem ml_X5_80 : Cond.methodLink RX5 80 yX3_length ∈ lw_good := lw_at2 143 rfl rfl
theorem im_yX3_length : Cond.instanceMethod yX3_length ∈ lw_good := lw_at2 144 rfl rfl
theorem se_yX3_length : Cond.selects yX3_length.cls yX3_length yX3_length ∈ lw_good := lw_at2 145 rfl rfl
theorem ml_X5_86 : Cond.methodLink RX5 86 yX9_wrongPlace ∈ lw_good := lw_at2 147 rfl rfl
theorem ml_X5_91 : Cond.methodLink RX5 91 yX6_lengthOf ∈ lw_good := lw_at2 148 rfl rfl
theorem ml_X5_94 : Cond.methodLink RX5 94 yX5_makeGroup ∈ lw_good := lw_at2 149 rfl rfl
theorem im_yX5_makeGroup : Cond.instanceMethod yX5_makeGroup ∈ lw_good := lw_at2 151 rfl rfl
theorem ml_X5_111 : Cond.methodLink RX5 111 yX6_wordAt ∈ lw_good := lw_at2 153 rfl rfl
theorem ml_X5_115 : Cond.methodLink RX5 115 yX6_firstNumberAt ∈ lw_good := lw_at2 154 rfl rfl
theorem ml_X5_118 : Cond.methodLink RX5 118 yX6_secondNumberAt ∈ lw_good := lw_at2 155 rfl rfl
theorem ml_X5_121 : Cond.methodLink RX5 121 yX5_makeNew ∈ lw_good := lw_at2 156 rfl rfl
theorem im_yX5_makeNew : Cond.instanceMethod yX5_makeNew ∈ lw_good := lw_at2 158 rfl rfl
theorem ml_X5_124 : Cond.methodLink RX5 124 yX3_add ∈ lw_good := lw_at2 160 rfl rfl
theorem im_yX3_add : Cond.instanceMethod yX3_add ∈ lw_good := lw_at2 161 rfl rfl
theorem se_yX3_add : Cond.selects yX3_add.cls yX3_add yX3_add ∈ lw_good := lw_at2 162 rfl rfl
theorem ml_X3_26 : Cond.methodLink RX3 26 yX3_grow ∈ lw_good := lw_at2 164 rfl rfl
theorem im_yX3_grow : Cond.instanceMethod yX3_grow ∈ lw_good := lw_at2 166 rfl rfl
theorem ml_X3_29 : Cond.methodLink RX3 29 yJ7_copyOf_59c91 ∈ lw_good := lw_at2 168 rfl rfl
theorem sm_yJ7_copyOf_59c91 : Cond.static yJ7_copyOf_59c91 ∈ lw_good := lw_at2 169 rfl rfl
theorem ml_J7_316 : Cond.methodLink RJ7 316 ⟨"[I", "clone", "()Ljava/lang/Object;"⟩ ∈ lw_good := lw_at2 171 rfl rfl
theorem cl_J7_317 : Cond.classLink RJ7 317 "[I" ∈ lw_good := lw_at2 177 rfl rfl
theorem ml_J7_304 : Cond.methodLink RJ7 304 yJ9_min_7cf53 ∈ lw_good := lw_at2 178 rfl rfl
theorem sm_yJ9_min_7cf53 : Cond.static yJ9_min_7cf53 ∈ lw_good := lw_at2 179 rfl rfl
theorem ml_J7_150 : Cond.methodLink RJ7 150 ⟨"java/lang/System", "arraycopy", "(Ljava/lang/Object;ILjava/lang/Object;II)V"⟩ ∈ lw_good := lw_at2 181 rfl rfl
theorem ml_X5_127 : Cond.methodLink RX5 127 yX6_recipes ∈ lw_good := lw_at2 184 rfl rfl
theorem im_yX6_recipes : Cond.instanceMethod yX6_recipes ∈ lw_good := lw_at2 185 rfl rfl
theorem se_yX6_recipes : Cond.selects yX6_recipes.cls yX6_recipes yX6_recipes ∈ lw_good := lw_at2 186 rfl rfl
theorem ml_X5_131 : Cond.methodLink RX5 131 yX5_makeJoin ∈ lw_good := lw_at2 188 rfl rfl
theorem im_yX5_makeJoin : Cond.instanceMethod yX5_makeJoin ∈ lw_good := lw_at2 190 rfl rfl
theorem ml_X5_135 : Cond.methodLink RX5 135 yX7_holesOf ∈ lw_good := lw_at2 192 rfl rfl
theorem ml_X5_140 : Cond.methodLink RX5 140 yX7_firstLetterOf ∈ lw_good := lw_at2 193 rfl rfl
theorem im_yX7_firstLetterOf : Cond.instanceMethod yX7_firstLetterOf ∈ lw_good := lw_at2 194 rfl rfl
theorem se_yX7_firstLetterOf : Cond.selects yX7_firstLetterOf.cls yX7_firstLetterOf yX7_firstLetterOf ∈ lw_good := lw_at2 195 rfl rfl
theorem ml_X5_143 : Cond.methodLink RX5 143 yX7_lengthOf ∈ lw_good := lw_at2 197 rfl rfl
theorem im_yX7_lengthOf : Cond.instanceMethod yX7_lengthOf ∈ lw_good := lw_at2 198 rfl rfl
theorem se_yX7_lengthOf : Cond.selects yX7_lengthOf.cls yX7_lengthOf yX7_lengthOf ∈ lw_good := lw_at2 199 rfl rfl
theorem ml_X5_144 : Cond.methodLink RX5 144 yX7_isHole ∈ lw_good := lw_at2 201 rfl rfl
theorem im_yX7_isHole : Cond.instanceMethod yX7_isHole ∈ lw_good := lw_at2 202 rfl rfl
theorem se_yX7_isHole : Cond.selects yX7_isHole.cls yX7_isHole yX7_isHole ∈ lw_good := lw_at2 203 rfl rfl
theorem ml_X5_98 : Cond.methodLink RX5 98 yX3_markStep ∈ lw_good := lw_at2 205 rfl rfl
theorem im_yX3_markStep : Cond.instanceMethod yX3_markStep ∈ lw_good := lw_at2 206 rfl rfl
theorem se_yX3_markStep : Cond.selects yX3_markStep.cls yX3_markStep yX3_markStep ∈ lw_good := lw_at2 207 rfl rfl
theorem ml_X5_101 : Cond.methodLink RX5 101 yX9_isMet ∈ lw_good := lw_at2 209 rfl rfl
theorem im_yX9_isMet : Cond.instanceMethod yX9_isMet ∈ lw_good := lw_at2 210 rfl rfl
theorem se_yX9_isMet : Cond.selects yX9_isMet.cls yX9_isMet yX9_isMet ∈ lw_good := lw_at2 211 rfl rfl
theorem ml_X5_104 : Cond.methodLink RX5 104 yX5_measure ∈ lw_good := lw_at2 213 rfl rfl
theorem im_yX5_measure : Cond.instanceMethod yX5_measure ∈ lw_good := lw_at2 215 rfl rfl
theorem ml_X5_154 : Cond.methodLink RX5 154 yX9_heightAt ∈ lw_good := lw_at2 217 rfl rfl
theorem im_yX9_heightAt : Cond.instanceMethod yX9_heightAt ∈ lw_good := lw_at2 218 rfl rfl
theorem se_yX9_heightAt : Cond.selects yX9_heightAt.cls yX9_heightAt yX9_heightAt ∈ lw_good := lw_at2 219 rfl rfl
theorem ml_X5_157 : Cond.methodLink RX5 157 yX5_risesBy ∈ lw_good := lw_at2 221 rfl rfl
theorem im_yX5_risesBy : Cond.instanceMethod yX5_risesBy ∈ lw_good := lw_at2 223 rfl rfl
theorem ml_X5_166 : Cond.methodLink RX5 166 yX6_pushesOf ∈ lw_good := lw_at2 225 rfl rfl
theorem ml_X5_169 : Cond.methodLink RX5 169 yX6_popsOf ∈ lw_good := lw_at2 226 rfl rfl
theorem ml_X5_161 : Cond.methodLink RX5 161 yJ9_max_7cf53 ∈ lw_good := lw_at2 227 rfl rfl
theorem sm_yJ9_max_7cf53 : Cond.static yJ9_max_7cf53 ∈ lw_good := lw_at2 228 rfl rfl
theorem ml_X5_59 : Cond.methodLink RX5 59 yX3_word ∈ lw_good := lw_at2 230 rfl rfl
theorem im_yX3_word : Cond.instanceMethod yX3_word ∈ lw_good := lw_at2 231 rfl rfl
theorem se_yX3_word : Cond.selects yX3_word.cls yX3_word yX3_word ∈ lw_good := lw_at2 232 rfl rfl
theorem ml_X5_63 : Cond.methodLink RX5 63 yX3_firstNumber ∈ lw_good := lw_at2 234 rfl rfl
theorem im_yX3_firstNumber : Cond.instanceMethod yX3_firstNumber ∈ lw_good := lw_at2 235 rfl rfl
theorem se_yX3_firstNumber : Cond.selects yX3_firstNumber.cls yX3_firstNumber yX3_firstNumber ∈ lw_good := lw_at2 236 rfl rfl
theorem ml_X5_66 : Cond.methodLink RX5 66 yX3_secondNumber ∈ lw_good := lw_at2 238 rfl rfl
theorem im_yX3_secondNumber : Cond.instanceMethod yX3_secondNumber ∈ lw_good := lw_at2 239 rfl rfl
theorem se_yX3_secondNumber : Cond.selects yX3_secondNumber.cls yX3_secondNumber yX3_secondNumber ∈ lw_good := lw_at3 0 rfl rfl
theorem ml_X5_108 : Cond.methodLink RX5 108 yX5_movePlaces ∈ lw_good := lw_at3 2 rfl rfl
theorem im_yX5_movePlaces : Cond.instanceMethod yX5_movePlaces ∈ lw_good := lw_at3 4 rfl rfl
theorem ml_X5_172 : Cond.methodLink RX5 172 yX3_setFirstNumber ∈ lw_good := lw_at3 6 rfl rfl
theorem im_yX3_setFirstNumber : Cond.instanceMethod yX3_setFirstNumber ∈ lw_good := lw_at3 7 rfl rfl
theorem se_yX3_setFirstNumber : Cond.selects yX3_setFirstNumber.cls yX3_setFirstNumber yX3_setFirstNumber ∈ lw_good := lw_at3 8 rfl rfl
theorem ml_X5_83 : Cond.methodLink RX5 83 yX5_makeMethod ∈ lw_good := lw_at3 10 rfl rfl
theorem im_yX5_makeMethod : Cond.instanceMethod yX5_makeMethod ∈ lw_good := lw_at3 12 rfl rfl
theorem ml_X5_148 : Cond.methodLink RX5 148 yX5_methodOfClass ∈ lw_good := lw_at3 14 rfl rfl
theorem im_yX5_methodOfClass : Cond.instanceMethod yX5_methodOfClass ∈ lw_good := lw_at3 15 rfl rfl
theorem se_yX5_methodOfClass : Cond.selects yX5_methodOfClass.cls yX5_methodOfClass yX5_methodOfClass ∈ lw_good := lw_at3 16 rfl rfl
theorem ml_X5_151 : Cond.methodLink RX5 151 yX6_parametersOf ∈ lw_good := lw_at3 18 rfl rfl
theorem im_yX6_parametersOf : Cond.instanceMethod yX6_parametersOf ∈ lw_good := lw_at3 19 rfl rfl
theorem se_yX6_parametersOf : Cond.selects yX6_parametersOf.cls yX6_parametersOf yX6_parametersOf ∈ lw_good := lw_at3 20 rfl rfl
theorem ml_L_56 : Cond.methodLink RL 56 yL_function ∈ lw_good := lw_at3 22 rfl rfl
theorem sm_yL_function : Cond.static yL_function ∈ lw_good := lw_at3 23 rfl rfl
theorem cl_L_13 : Cond.classLink RL 13 "java/lang/IllegalArgumentException" ∈ lw_good := lw_at3 25 rfl rfl
theorem cl_L_15 : Cond.classLink RL 15 "java/lang/IllegalStateException" ∈ lw_good := lw_at3 26 rfl rfl
theorem ml_L_7 : Cond.methodLink RL 7 yX10_function ∈ lw_good := lw_at3 27 rfl rfl
theorem im_yX10_function : Cond.instanceMethod yX10_function ∈ lw_good := lw_at3 28 rfl rfl
theorem se_yX10_function : Cond.selects yX10_function.cls yX10_function yX10_function ∈ lw_good := lw_at3 29 rfl rfl
theorem cl_X10_43 : Cond.classLink RX10 43 "java/lang/IllegalArgumentException" ∈ lw_good := lw_at3 31 rfl rfl
theorem ml_X10_45 : Cond.methodLink RX10 45 ⟨"java/lang/IllegalArgumentException", "<init>", "()V"⟩ ∈ lw_good := lw_at3 71 rfl rfl
theorem cl_X10_50 : Cond.classLink RX10 50 "java/lang/IllegalStateException" ∈ lw_good := lw_at3 93 rfl rfl
theorem ml_X10_52 : Cond.methodLink RX10 52 ⟨"java/lang/IllegalStateException", "<init>", "()V"⟩ ∈ lw_good := lw_at3 102 rfl rfl
theorem ml_X10_53 : Cond.methodLink RX10 53 yX5_forget ∈ lw_good := lw_at3 108 rfl rfl
theorem im_yX5_forget : Cond.instanceMethod yX5_forget ∈ lw_good := lw_at3 109 rfl rfl
theorem se_yX5_forget : Cond.selects yX5_forget.cls yX5_forget yX5_forget ∈ lw_good := lw_at3 110 rfl rfl
theorem ml_X10_56 : Cond.methodLink RX10 56 yX6_addFunction ∈ lw_good := lw_at3 112 rfl rfl
theorem im_yX6_addFunction : Cond.instanceMethod yX6_addFunction ∈ lw_good := lw_at3 113 rfl rfl
theorem se_yX6_addFunction : Cond.selects yX6_addFunction.cls yX6_addFunction yX6_addFunction ∈ lw_good := lw_at3 114 rfl rfl
theorem ml_L_66 : Cond.methodLink RL 66 yL_code ∈ lw_good := lw_at3 116 rfl rfl
theorem sm_yL_code : Cond.static yL_code ∈ lw_good := lw_at3 117 rfl rfl
theorem ml_L_17 : Cond.methodLink RL 17 yX10_code ∈ lw_good := lw_at3 119 rfl rfl
theorem im_yX10_code : Cond.instanceMethod yX10_code ∈ lw_good := lw_at3 120 rfl rfl
theorem se_yX10_code : Cond.selects yX10_code.cls yX10_code yX10_code ∈ lw_good := lw_at3 121 rfl rfl
theorem ml_X10_60 : Cond.methodLink RX10 60 yX6_hasFunction ∈ lw_good := lw_at3 123 rfl rfl
theorem ml_X10_64 : Cond.methodLink RX10 64 yX6_lengthOf ∈ lw_good := lw_at3 124 rfl rfl
theorem ml_X10_67 : Cond.methodLink RX10 67 yX6_addInstruction ∈ lw_good := lw_at3 125 rfl rfl
theorem im_yX6_addInstruction : Cond.instanceMethod yX6_addInstruction ∈ lw_good := lw_at3 126 rfl rfl
theorem se_yX6_addInstruction : Cond.selects yX6_addInstruction.cls yX6_addInstruction yX6_addInstruction ∈ lw_good := lw_at3 127 rfl rfl
theorem ml_L_72 : Cond.methodLink RL 72 yL_recipe ∈ lw_good := lw_at3 129 rfl rfl
theorem sm_yL_recipe : Cond.static yL_recipe ∈ lw_good := lw_at3 130 rfl rfl
theorem ml_L_21 : Cond.methodLink RL 21 yX10_recipe ∈ lw_good := lw_at3 132 rfl rfl
theorem im_yX10_recipe : Cond.instanceMethod yX10_recipe ∈ lw_good := lw_at3 133 rfl rfl
theorem se_yX10_recipe : Cond.selects yX10_recipe.cls yX10_recipe yX10_recipe ∈ lw_good := lw_at3 134 rfl rfl
theorem ml_X10_71 : Cond.methodLink RX10 71 yX7_isReadable ∈ lw_good := lw_at3 136 rfl rfl
theorem sm_yX7_isReadable : Cond.static yX7_isReadable ∈ lw_good := lw_at3 137 rfl rfl
theorem kl_X7_27 : Cond.constantLong RX7 27 (31) ∈ lw_good := lw_at3 139 rfl rfl
theorem ml_X10_77 : Cond.methodLink RX10 77 yX6_recipes ∈ lw_good := lw_at3 140 rfl rfl
theorem ml_X10_81 : Cond.methodLink RX10 81 yX7_total ∈ lw_good := lw_at3 141 rfl rfl
theorem im_yX7_total : Cond.instanceMethod yX7_total ∈ lw_good := lw_at3 142 rfl rfl
theorem se_yX7_total : Cond.selects yX7_total.cls yX7_total yX7_total ∈ lw_good := lw_at3 143 rfl rfl
theorem ml_X10_84 : Cond.methodLink RX10 84 yX7_add ∈ lw_good := lw_at3 145 rfl rfl
theorem im_yX7_add : Cond.instanceMethod yX7_add ∈ lw_good := lw_at3 146 rfl rfl
theorem se_yX7_add : Cond.selects yX7_add.cls yX7_add yX7_add ∈ lw_good := lw_at3 147 rfl rfl
theorem ml_X7_36 : Cond.methodLink RX7 36 yX7_addDigit ∈ lw_good := lw_at3 149 rfl rfl
theorem im_yX7_addDigit : Cond.instanceMethod yX7_addDigit ∈ lw_good := lw_at3 151 rfl rfl
theorem ml_L_84 : Cond.methodLink RL 84 yL_count ∈ lw_good := lw_at3 153 rfl rfl
theorem sm_yL_count : Cond.static yL_count ∈ lw_good := lw_at3 154 rfl rfl
theorem ml_L_25 : Cond.methodLink RL 25 yX10_count ∈ lw_good := lw_at3 156 rfl rfl
theorem im_yX10_count : Cond.instanceMethod yX10_count ∈ lw_good := lw_at3 157 rfl rfl
theorem se_yX10_count : Cond.selects yX10_count.cls yX10_count yX10_count ∈ lw_good := lw_at3 158 rfl rfl
theorem ml_X10_97 : Cond.methodLink RX10 97 yX5_isMade ∈ lw_good := lw_at3 160 rfl rfl
theorem im_yX5_isMade : Cond.instanceMethod yX5_isMade ∈ lw_good := lw_at3 161 rfl rfl
theorem se_yX5_isMade : Cond.selects yX5_isMade.cls yX5_isMade yX5_isMade ∈ lw_good := lw_at3 162 rfl rfl
theorem ml_X10_101 : Cond.methodLink RX10 101 yX5_classTotal ∈ lw_good := lw_at3 164 rfl rfl
theorem im_yX5_classTotal : Cond.instanceMethod yX5_classTotal ∈ lw_good := lw_at3 165 rfl rfl
theorem se_yX5_classTotal : Cond.selects yX5_classTotal.cls yX5_classTotal yX5_classTotal ∈ lw_good := lw_at3 166 rfl rfl
theorem ml_X10_104 : Cond.methodLink RX10 104 yX7_letterTotal ∈ lw_good := lw_at3 168 rfl rfl
theorem im_yX7_letterTotal : Cond.instanceMethod yX7_letterTotal ∈ lw_good := lw_at3 169 rfl rfl
theorem se_yX7_letterTotal : Cond.selects yX7_letterTotal.cls yX7_letterTotal yX7_letterTotal ∈ lw_good := lw_at3 170 rfl rfl
theorem ml_L_87 : Cond.methodLink RL 87 yL_size ∈ lw_good := lw_at3 172 rfl rfl
theorem sm_yL_size : Cond.static yL_size ∈ lw_good := lw_at3 173 rfl rfl
theorem ml_L_28 : Cond.methodLink RL 28 yX10_size ∈ lw_good := lw_at3 175 rfl rfl
theorem im_yX10_size : Cond.instanceMethod yX10_size ∈ lw_good := lw_at3 176 rfl rfl
theorem se_yX10_size : Cond.selects yX10_size.cls yX10_size yX10_size ∈ lw_good := lw_at3 177 rfl rfl
theorem ml_X10_107 : Cond.methodLink RX10 107 yX5_lengthOf ∈ lw_good := lw_at3 179 rfl rfl
theorem im_yX5_lengthOf : Cond.instanceMethod yX5_lengthOf ∈ lw_good := lw_at3 180 rfl rfl
theorem se_yX5_lengthOf : Cond.selects yX5_lengthOf.cls yX5_lengthOf yX5_lengthOf ∈ lw_good := lw_at3 181 rfl rfl
theorem ml_X10_108 : Cond.methodLink RX10 108 yX5_sourceHeightOf ∈ lw_good := lw_at3 183 rfl rfl
theorem im_yX5_sourceHeightOf : Cond.instanceMethod yX5_sourceHeightOf ∈ lw_good := lw_at3 184 rfl rfl
theorem se_yX5_sourceHeightOf : Cond.selects yX5_sourceHeightOf.cls yX5_sourceHeightOf yX5_sourceHeightOf ∈ lw_good := lw_at3 185 rfl rfl
theorem ml_X10_111 : Cond.methodLink RX10 111 yX5_plainHeightOf ∈ lw_good := lw_at3 187 rfl rfl
theorem im_yX5_plainHeightOf : Cond.instanceMethod yX5_plainHeightOf ∈ lw_good := lw_at3 188 rfl rfl
theorem se_yX5_plainHeightOf : Cond.selects yX5_plainHeightOf.cls yX5_plainHeightOf yX5_plainHeightOf ∈ lw_good := lw_at3 189 rfl rfl
theorem ml_L_91 : Cond.methodLink RL 91 yL_plain ∈ lw_good := lw_at3 191 rfl rfl
theorem sm_yL_plain : Cond.static yL_plain ∈ lw_good := lw_at3 192 rfl rfl
theorem ml_L_32 : Cond.methodLink RL 32 yX10_plain ∈ lw_good := lw_at3 194 rfl rfl
theorem im_yX10_plain : Cond.instanceMethod yX10_plain ∈ lw_good := lw_at3 195 rfl rfl
theorem se_yX10_plain : Cond.selects yX10_plain.cls yX10_plain yX10_plain ∈ lw_good := lw_at3 196 rfl rfl
theorem ml_X10_114 : Cond.methodLink RX10 114 yX5_wordAt ∈ lw_good := lw_at3 198 rfl rfl
theorem im_yX5_wordAt : Cond.instanceMethod yX5_wordAt ∈ lw_good := lw_at3 199 rfl rfl
theorem se_yX5_wordAt : Cond.selects yX5_wordAt.cls yX5_wordAt yX5_wordAt ∈ lw_good := lw_at3 200 rfl rfl
theorem ml_X10_118 : Cond.methodLink RX10 118 yX5_firstNumberAt ∈ lw_good := lw_at3 202 rfl rfl
theorem im_yX5_firstNumberAt : Cond.instanceMethod yX5_firstNumberAt ∈ lw_good := lw_at3 203 rfl rfl
theorem se_yX5_firstNumberAt : Cond.selects yX5_firstNumberAt.cls yX5_firstNumberAt yX5_firstNumberAt ∈ lw_good := lw_at3 204 rfl rfl
theorem ml_X10_121 : Cond.methodLink RX10 121 yX5_secondNumberAt ∈ lw_good := lw_at3 206 rfl rfl
theorem im_yX5_secondNumberAt : Cond.instanceMethod yX5_secondNumberAt ∈ lw_good := lw_at3 207 rfl rfl
theorem se_yX5_secondNumberAt : Cond.selects yX5_secondNumberAt.cls yX5_secondNumberAt yX5_secondNumberAt ∈ lw_good := lw_at3 208 rfl rfl
theorem ml_L_95 : Cond.methodLink RL 95 yL_made ∈ lw_good := lw_at3 210 rfl rfl
theorem sm_yL_made : Cond.static yL_made ∈ lw_good := lw_at3 211 rfl rfl
theorem ml_L_36 : Cond.methodLink RL 36 yX10_made ∈ lw_good := lw_at3 213 rfl rfl
theorem im_yX10_made : Cond.instanceMethod yX10_made ∈ lw_good := lw_at3 214 rfl rfl
theorem se_yX10_made : Cond.selects yX10_made.cls yX10_made yX10_made ∈ lw_good := lw_at3 215 rfl rfl
theorem ml_X10_124 : Cond.methodLink RX10 124 yX5_valuesOfClass ∈ lw_good := lw_at3 217 rfl rfl
theorem im_yX5_valuesOfClass : Cond.instanceMethod yX5_valuesOfClass ∈ lw_good := lw_at3 218 rfl rfl
theorem se_yX5_valuesOfClass : Cond.selects yX5_valuesOfClass.cls yX5_valuesOfClass yX5_valuesOfClass ∈ lw_good := lw_at3 219 rfl rfl
theorem ml_X10_127 : Cond.methodLink RX10 127 yX5_functionOfClass ∈ lw_good := lw_at3 221 rfl rfl
theorem im_yX5_functionOfClass : Cond.instanceMethod yX5_functionOfClass ∈ lw_good := lw_at3 222 rfl rfl
theorem se_yX5_functionOfClass : Cond.selects yX5_functionOfClass.cls yX5_functionOfClass yX5_functionOfClass ∈ lw_good := lw_at3 223 rfl rfl
theorem ml_X10_130 : Cond.methodLink RX10 130 yX5_methodOfClass ∈ lw_good := lw_at3 225 rfl rfl
theorem ml_L_98 : Cond.methodLink RL 98 yL_character ∈ lw_good := lw_at3 226 rfl rfl
theorem sm_yL_character : Cond.static yL_character ∈ lw_good := lw_at3 227 rfl rfl
theorem ml_L_39 : Cond.methodLink RL 39 yX10_character ∈ lw_good := lw_at3 229 rfl rfl
theorem im_yX10_character : Cond.instanceMethod yX10_character ∈ lw_good := lw_at3 230 rfl rfl
theorem se_yX10_character : Cond.selects yX10_character.cls yX10_character yX10_character ∈ lw_good := lw_at3 231 rfl rfl
theorem ml_X10_133 : Cond.methodLink RX10 133 yX7_letterAt ∈ lw_good := lw_at3 233 rfl rfl
theorem im_yX7_letterAt : Cond.instanceMethod yX7_letterAt ∈ lw_good := lw_at3 234 rfl rfl
theorem se_yX7_letterAt : Cond.selects yX7_letterAt.cls yX7_letterAt yX7_letterAt ∈ lw_good := lw_at3 235 rfl rfl
theorem ml_L_101 : Cond.methodLink RL 101 yL_run ∈ lw_good := lw_at3 237 rfl rfl
theorem sm_yL_run : Cond.static yL_run ∈ lw_good := lw_at3 238 rfl rfl
theorem ml_L_42 : Cond.methodLink RL 42 yX10_run ∈ lw_good := lw_at4 0 rfl rfl
theorem im_yX10_run : Cond.instanceMethod yX10_run ∈ lw_good := lw_at4 1 rfl rfl
theorem se_yX10_run : Cond.selects yX10_run.cls yX10_run yX10_run ∈ lw_good := lw_at4 2 rfl rfl
theorem ml_X10_136 : Cond.methodLink RX10 136 yX4_perform ∈ lw_good := lw_at4 4 rfl rfl
theorem im_yX4_perform : Cond.instanceMethod yX4_perform ∈ lw_good := lw_at4 5 rfl rfl
theorem se_yX4_perform : Cond.selects yX4_perform.cls yX4_perform yX4_perform ∈ lw_good := lw_at4 6 rfl rfl
theorem ml_X4_70 : Cond.methodLink RX4 70 yX1_clear ∈ lw_good := lw_at4 8 rfl rfl
theorem im_yX1_clear : Cond.instanceMethod yX1_clear ∈ lw_good := lw_at4 9 rfl rfl
theorem se_yX1_clear : Cond.selects yX1_clear.cls yX1_clear yX1_clear ∈ lw_good := lw_at4 10 rfl rfl
theorem ml_X4_73 : Cond.methodLink RX4 73 yX2_clear ∈ lw_good := lw_at4 12 rfl rfl
theorem im_yX2_clear : Cond.instanceMethod yX2_clear ∈ lw_good := lw_at4 13 rfl rfl
theorem se_yX2_clear : Cond.selects yX2_clear.cls yX2_clear yX2_clear ∈ lw_good := lw_at4 14 rfl rfl
theorem ml_X4_74 : Cond.methodLink RX4 74 yX8_clear ∈ lw_good := lw_at4 16 rfl rfl
theorem im_yX8_clear : Cond.instanceMethod yX8_clear ∈ lw_good := lw_at4 17 rfl rfl
theorem se_yX8_clear : Cond.selects yX8_clear.cls yX8_clear yX8_clear ∈ lw_good := lw_at4 18 rfl rfl
theorem ml_X4_81 : Cond.methodLink RX4 81 yX4_beginFunction ∈ lw_good := lw_at4 20 rfl rfl
theorem im_yX4_beginFunction : Cond.instanceMethod yX4_beginFunction ∈ lw_good := lw_at4 22 rfl rfl
theorem ml_X4_220 : Cond.methodLink RX4 220 yX1_open ∈ lw_good := lw_at4 24 rfl rfl
theorem im_yX1_open : Cond.instanceMethod yX1_open ∈ lw_good := lw_at4 25 rfl rfl
theorem se_yX1_open : Cond.selects yX1_open.cls yX1_open yX1_open ∈ lw_good := lw_at4 26 rfl rfl
theorem kl_X1_35 : Cond.constantLong RX1 35 (4294967296) ∈ lw_good := lw_at4 28 rfl rfl
theorem ml_X4_85 : Cond.methodLink RX4 85 yX6_parametersOf ∈ lw_good := lw_at4 29 rfl rfl
theorem sm_yX10_valueOf : Cond.static yX10_valueOf ∈ lw_good := lw_at4 31 rfl rfl
theorem kl_X10_155 : Cond.constantLong RX10 155 (4294967295) ∈ lw_good := lw_at4 33 rfl rfl
theorem ml_X4_94 : Cond.methodLink RX4 94 yX1_setLocal ∈ lw_good := lw_at4 34 rfl rfl
theorem im_yX1_setLocal : Cond.instanceMethod yX1_setLocal ∈ lw_good := lw_at4 35 rfl rfl
theorem se_yX1_setLocal : Cond.selects yX1_setLocal.cls yX1_setLocal yX1_setLocal ∈ lw_good := lw_at4 36 rfl rfl
theorem ki_X4_98 : Cond.constant RX4 98 (1000000) ∈ lw_good := lw_at4 38 rfl rfl
theorem ml_X4_99 : Cond.methodLink RX4 99 yX1_areOpen ∈ lw_good := lw_at4 39 rfl rfl
theorem im_yX1_areOpen : Cond.instanceMethod yX1_areOpen ∈ lw_good := lw_at4 40 rfl rfl
theorem se_yX1_areOpen : Cond.selects yX1_areOpen.cls yX1_areOpen yX1_areOpen ∈ lw_good := lw_at4 41 rfl rfl
theorem ml_X4_103 : Cond.methodLink RX4 103 yX4_doNext ∈ lw_good := lw_at4 43 rfl rfl
theorem im_yX4_doNext : Cond.instanceMethod yX4_doNext ∈ lw_good := lw_at4 45 rfl rfl
theorem ml_X4_106 : Cond.methodLink RX4 106 yX1_unit ∈ lw_good := lw_at4 47 rfl rfl
theorem im_yX1_unit : Cond.instanceMethod yX1_unit ∈ lw_good := lw_at4 48 rfl rfl
theorem se_yX1_unit : Cond.selects yX1_unit.cls yX1_unit yX1_unit ∈ lw_good := lw_at4 49 rfl rfl
theorem ml_X4_109 : Cond.methodLink RX4 109 yX1_place ∈ lw_good := lw_at4 51 rfl rfl
theorem im_yX1_place : Cond.instanceMethod yX1_place ∈ lw_good := lw_at4 52 rfl rfl
theorem se_yX1_place : Cond.selects yX1_place.cls yX1_place yX1_place ∈ lw_good := lw_at4 53 rfl rfl
theorem ml_X4_112 : Cond.methodLink RX4 112 ⟨"FeatureDesugarer$Code", "isStepAt", "(II)Z"⟩ ∈ lw_good := lw_at4 56 rfl rfl
theorem im_yX5_isStepAt : Cond.instanceMethod yX5_isStepAt ∈ lw_good := lw_at4 62 rfl rfl
theorem ml_X5_69 : Cond.methodLink RX5 69 yX3_isStep ∈ lw_good := lw_at4 65 rfl rfl
theorem im_yX3_isStep : Cond.instanceMethod yX3_isStep ∈ lw_good := lw_at4 66 rfl rfl
theorem se_yX3_isStep : Cond.selects yX3_isStep.cls yX3_isStep yX3_isStep ∈ lw_good := lw_at4 67 rfl rfl
theorem im_yX6_isStepAt : Cond.instanceMethod yX6_isStepAt ∈ lw_good := lw_at4 72 rfl rfl
theorem ml_X4_118 : Cond.methodLink RX4 118 yX1_goTo ∈ lw_good := lw_at4 75 rfl rfl
theorem im_yX1_goTo : Cond.instanceMethod yX1_goTo ∈ lw_good := lw_at4 76 rfl rfl
theorem se_yX1_goTo : Cond.selects yX1_goTo.cls yX1_goTo yX1_goTo ∈ lw_good := lw_at4 77 rfl rfl
theorem ml_X4_122 : Cond.methodLink RX4 122 ⟨"FeatureDesugarer$Code", "wordAt", "(II)I"⟩ ∈ lw_good := lw_at4 80 rfl rfl
theorem ml_X4_126 : Cond.methodLink RX4 126 ⟨"FeatureDesugarer$Code", "firstNumberAt", "(II)I"⟩ ∈ lw_good := lw_at4 90 rfl rfl
theorem ml_X4_129 : Cond.methodLink RX4 129 ⟨"FeatureDesugarer$Code", "secondNumberAt", "(II)I"⟩ ∈ lw_good := lw_at4 100 rfl rfl
theorem ml_X4_132 : Cond.methodLink RX4 132 yX4_doShared ∈ lw_good := lw_at4 109 rfl rfl
theorem im_yX4_doShared : Cond.instanceMethod yX4_doShared ∈ lw_good := lw_at4 111 rfl rfl
theorem ml_X4_143 : Cond.methodLink RX4 143 yX1_push ∈ lw_good := lw_at4 113 rfl rfl
theorem im_yX1_push : Cond.instanceMethod yX1_push ∈ lw_good := lw_at4 114 rfl rfl
theorem se_yX1_push : Cond.selects yX1_push.cls yX1_push yX1_push ∈ lw_good := lw_at4 115 rfl rfl
theorem ml_X4_147 : Cond.methodLink RX4 147 yX1_local ∈ lw_good := lw_at4 117 rfl rfl
theorem im_yX1_local : Cond.instanceMethod yX1_local ∈ lw_good := lw_at4 118 rfl rfl
theorem se_yX1_local : Cond.selects yX1_local.cls yX1_local yX1_local ∈ lw_good := lw_at4 119 rfl rfl
theorem ml_X4_151 : Cond.methodLink RX4 151 yX1_pop ∈ lw_good := lw_at4 121 rfl rfl
theorem im_yX1_pop : Cond.instanceMethod yX1_pop ∈ lw_good := lw_at4 122 rfl rfl
theorem se_yX1_pop : Cond.selects yX1_pop.cls yX1_pop yX1_pop ∈ lw_good := lw_at4 123 rfl rfl
theorem ml_X4_155 : Cond.methodLink RX4 155 yX4_goIfZero ∈ lw_good := lw_at4 125 rfl rfl
theorem im_yX4_goIfZero : Cond.instanceMethod yX4_goIfZero ∈ lw_good := lw_at4 127 rfl rfl
theorem sm_yX10_kindOf : Cond.static yX10_kindOf ∈ lw_good := lw_at4 130 rfl rfl
theorem sm_yX10_contentOf : Cond.static yX10_contentOf ∈ lw_good := lw_at4 133 rfl rfl
theorem ml_X4_158 : Cond.methodLink RX4 158 yX4_callFunction ∈ lw_good := lw_at4 135 rfl rfl
theorem im_yX4_callFunction : Cond.instanceMethod yX4_callFunction ∈ lw_good := lw_at4 137 rfl rfl
theorem ml_X4_175 : Cond.methodLink RX4 175 yX1_take ∈ lw_good := lw_at4 139 rfl rfl
theorem im_yX1_take : Cond.instanceMethod yX1_take ∈ lw_good := lw_at4 140 rfl rfl
theorem se_yX1_take : Cond.selects yX1_take.cls yX1_take yX1_take ∈ lw_good := lw_at4 141 rfl rfl
theorem ml_X1_43 : Cond.methodLink RX1 43 yX1_pop ∈ lw_good := lw_at4 143 rfl rfl
theorem ml_X4_223 : Cond.methodLink RX4 223 yX1_setLocalsToTaken ∈ lw_good := lw_at4 144 rfl rfl
theorem im_yX1_setLocalsToTaken : Cond.instanceMethod yX1_setLocalsToTaken ∈ lw_good := lw_at4 145 rfl rfl
theorem se_yX1_setLocalsToTaken : Cond.selects yX1_setLocalsToTaken.cls yX1_setLocalsToTaken yX1_setLocalsToTaken ∈ lw_good := lw_at4 146 rfl rfl
theorem ml_X1_47 : Cond.methodLink RX1 47 yX1_setLocal ∈ lw_good := lw_at4 148 rfl rfl
theorem ml_X4_161 : Cond.methodLink RX4 161 yX4_giveBack ∈ lw_good := lw_at4 149 rfl rfl
theorem im_yX4_giveBack : Cond.instanceMethod yX4_giveBack ∈ lw_good := lw_at4 151 rfl rfl
theorem ml_X4_226 : Cond.methodLink RX4 226 yX5_isMethod ∈ lw_good := lw_at4 153 rfl rfl
theorem im_yX5_isMethod : Cond.instanceMethod yX5_isMethod ∈ lw_good := lw_at4 154 rfl rfl
theorem se_yX5_isMethod : Cond.selects yX5_isMethod.cls yX5_isMethod yX5_isMethod ∈ lw_good := lw_at4 155 rfl rfl
theorem ml_X4_229 : Cond.methodLink RX4 229 yX1_close ∈ lw_good := lw_at4 157 rfl rfl
theorem im_yX1_close : Cond.instanceMethod yX1_close ∈ lw_good := lw_at4 158 rfl rfl
theorem se_yX1_close : Cond.selects yX1_close.cls yX1_close yX1_close ∈ lw_good := lw_at4 159 rfl rfl
theorem ml_X1_37 : Cond.methodLink RX1 37 yJ9_max_7cf53 ∈ lw_good := lw_at4 161 rfl rfl
theorem ml_X4_164 : Cond.methodLink RX4 164 yX8_sayValue ∈ lw_good := lw_at4 162 rfl rfl
theorem im_yX8_sayValue : Cond.instanceMethod yX8_sayValue ∈ lw_good := lw_at4 163 rfl rfl
theorem se_yX8_sayValue : Cond.selects yX8_sayValue.cls yX8_sayValue yX8_sayValue ∈ lw_good := lw_at4 164 rfl rfl
theorem ml_X8_48 : Cond.methodLink RX8 48 yX8_spell ∈ lw_good := lw_at4 166 rfl rfl
theorem im_yX8_spell : Cond.instanceMethod yX8_spell ∈ lw_good := lw_at4 168 rfl rfl
theorem ml_X8_78 : Cond.methodLink RX8 78 yX8_spellNumber ∈ lw_good := lw_at4 172 rfl rfl
theorem im_yX8_spellNumber : Cond.instanceMethod yX8_spellNumber ∈ lw_good := lw_at4 174 rfl rfl
theorem kl_X8_82 : Cond.constantLong RX8 82 (10) ∈ lw_good := lw_at4 176 rfl rfl
theorem kl_X8_84 : Cond.constantLong RX8 84 (48) ∈ lw_good := lw_at4 177 rfl rfl
theorem ml_X8_52 : Cond.methodLink RX8 52 ⟨"java/lang/System", "arraycopy", "(Ljava/lang/Object;ILjava/lang/Object;II)V"⟩ ∈ lw_good := lw_at4 178 rfl rfl
theorem ml_X4_168 : Cond.methodLink RX4 168 yX4_faultUnless ∈ lw_good := lw_at4 179 rfl rfl
theorem im_yX4_faultUnless : Cond.instanceMethod yX4_faultUnless ∈ lw_good := lw_at4 181 rfl rfl
theorem ml_X4_172 : Cond.methodLink RX4 172 yX4_reckon ∈ lw_good := lw_at4 183 rfl rfl
theorem im_yX4_reckon : Cond.instanceMethod yX4_reckon ∈ lw_good := lw_at4 185 rfl rfl
theorem ml_X4_181 : Cond.methodLink RX4 181 yX1_takenAt ∈ lw_good := lw_at4 187 rfl rfl
theorem im_yX1_takenAt : Cond.instanceMethod yX1_takenAt ∈ lw_good := lw_at4 188 rfl rfl
theorem se_yX1_takenAt : Cond.selects yX1_takenAt.cls yX1_takenAt yX1_takenAt ∈ lw_good := lw_at4 189 rfl rfl
theorem ml_X4_136 : Cond.methodLink RX4 136 yX4_doFirst ∈ lw_good := lw_at4 191 rfl rfl
theorem im_yX4_doFirst : Cond.instanceMethod yX4_doFirst ∈ lw_good := lw_at4 193 rfl rfl
theorem ml_X4_178 : Cond.methodLink RX4 178 yX2_add ∈ lw_good := lw_at4 195 rfl rfl
theorem im_yX2_add : Cond.instanceMethod yX2_add ∈ lw_good := lw_at4 196 rfl rfl
theorem se_yX2_add : Cond.selects yX2_add.cls yX2_add yX2_add ∈ lw_good := lw_at4 197 rfl rfl
theorem kl_X2_26 : Cond.constantLong RX2 26 (4294967296) ∈ lw_good := lw_at4 199 rfl rfl
theorem ml_X4_184 : Cond.methodLink RX4 184 yX2_setValue ∈ lw_good := lw_at4 201 rfl rfl
theorem im_yX2_setValue : Cond.instanceMethod yX2_setValue ∈ lw_good := lw_at4 202 rfl rfl
theorem se_yX2_setValue : Cond.selects yX2_setValue.cls yX2_setValue yX2_setValue ∈ lw_good := lw_at4 203 rfl rfl
theorem ml_X4_188 : Cond.methodLink RX4 188 yX4_applyTo ∈ lw_good := lw_at4 205 rfl rfl
theorem im_yX4_applyTo : Cond.instanceMethod yX4_applyTo ∈ lw_good := lw_at4 207 rfl rfl
theorem ml_X4_232 : Cond.methodLink RX4 232 yX2_typeOf ∈ lw_good := lw_at4 209 rfl rfl
theorem im_yX2_typeOf : Cond.instanceMethod yX2_typeOf ∈ lw_good := lw_at4 210 rfl rfl
theorem se_yX2_typeOf : Cond.selects yX2_typeOf.cls yX2_typeOf yX2_typeOf ∈ lw_good := lw_at4 211 rfl rfl
theorem ml_X4_235 : Cond.methodLink RX4 235 yX2_sizeOf ∈ lw_good := lw_at4 213 rfl rfl
theorem im_yX2_sizeOf : Cond.instanceMethod yX2_sizeOf ∈ lw_good := lw_at4 214 rfl rfl
theorem se_yX2_sizeOf : Cond.selects yX2_sizeOf.cls yX2_sizeOf yX2_sizeOf ∈ lw_good := lw_at4 215 rfl rfl
theorem ml_X4_207 : Cond.methodLink RX4 207 yX2_valueAt ∈ lw_good := lw_at4 217 rfl rfl
theorem im_yX2_valueAt : Cond.instanceMethod yX2_valueAt ∈ lw_good := lw_at4 218 rfl rfl
theorem se_yX2_valueAt : Cond.selects yX2_valueAt.cls yX2_valueAt yX2_valueAt ∈ lw_good := lw_at4 219 rfl rfl
theorem ml_X4_191 : Cond.methodLink RX4 191 yX6_recipes ∈ lw_good := lw_at4 221 rfl rfl
theorem ml_X4_195 : Cond.methodLink RX4 195 yX4_join ∈ lw_good := lw_at4 222 rfl rfl
theorem im_yX4_join : Cond.instanceMethod yX4_join ∈ lw_good := lw_at4 224 rfl rfl
theorem ml_X4_244 : Cond.methodLink RX4 244 yX7_holesOf ∈ lw_good := lw_at4 226 rfl rfl
theorem ml_X4_210 : Cond.methodLink RX4 210 yX8_begin ∈ lw_good := lw_at4 227 rfl rfl
theorem im_yX8_begin : Cond.instanceMethod yX8_begin ∈ lw_good := lw_at4 228 rfl rfl
theorem se_yX8_begin : Cond.selects yX8_begin.cls yX8_begin yX8_begin ∈ lw_good := lw_at4 229 rfl rfl
theorem kl_X8_35 : Cond.constantLong RX8 35 (4294967296) ∈ lw_good := lw_at4 231 rfl rfl
theorem ml_X4_249 : Cond.methodLink RX4 249 yX7_firstLetterOf ∈ lw_good := lw_at4 233 rfl rfl
theorem ml_X4_252 : Cond.methodLink RX4 252 yX7_lengthOf ∈ lw_good := lw_at4 234 rfl rfl
theorem ml_X4_255 : Cond.methodLink RX4 255 yX7_isHole ∈ lw_good := lw_at4 235 rfl rfl
theorem ml_X4_216 : Cond.methodLink RX4 216 yX8_appendValue ∈ lw_good := lw_at4 236 rfl rfl
theorem im_yX8_appendValue : Cond.instanceMethod yX8_appendValue ∈ lw_good := lw_at4 237 rfl rfl
theorem se_yX8_appendValue : Cond.selects yX8_appendValue.cls yX8_appendValue yX8_appendValue ∈ lw_good := lw_at4 238 rfl rfl
theorem ml_X8_44 : Cond.methodLink RX8 44 yX8_appendSpelled ∈ lw_good := lw_at5 0 rfl rfl
theorem im_yX8_appendSpelled : Cond.instanceMethod yX8_appendSpelled ∈ lw_good := lw_at5 2 rfl rfl
theorem ki_X8_58 : Cond.constant RX8 58 (80000) ∈ lw_good := lw_at5 4 rfl rfl
theorem ml_X8_59 : Cond.methodLink RX8 59 yJ9_min_7cf53 ∈ lw_good := lw_at5 5 rfl rfl
theorem ml_X8_65 : Cond.methodLink RX8 65 yJ7_copyOf_9075b ∈ lw_good := lw_at5 6 rfl rfl
theorem sm_yJ7_copyOf_9075b : Cond.static yJ7_copyOf_9075b ∈ lw_good := lw_at5 7 rfl rfl
theorem ml_J7_310 : Cond.methodLink RJ7 310 ⟨"[B", "clone", "()Ljava/lang/Object;"⟩ ∈ lw_good := lw_at5 9 rfl rfl
theorem cl_J7_311 : Cond.classLink RJ7 311 "[B" ∈ lw_good := lw_at5 13 rfl rfl
theorem ml_X4_258 : Cond.methodLink RX4 258 yX7_letterAt ∈ lw_good := lw_at5 14 rfl rfl
theorem ml_X4_261 : Cond.methodLink RX4 261 yX8_appendLetter ∈ lw_good := lw_at5 15 rfl rfl
theorem im_yX8_appendLetter : Cond.instanceMethod yX8_appendLetter ∈ lw_good := lw_at5 16 rfl rfl
theorem se_yX8_appendLetter : Cond.selects yX8_appendLetter.cls yX8_appendLetter yX8_appendLetter ∈ lw_good := lw_at5 17 rfl rfl
theorem ml_X4_140 : Cond.methodLink RX4 140 yX4_doPlain ∈ lw_good := lw_at5 19 rfl rfl
theorem im_yX4_doPlain : Cond.instanceMethod yX4_doPlain ∈ lw_good := lw_at5 21 rfl rfl
theorem ml_X4_199 : Cond.methodLink RX4 199 yX5_valuesOfClass ∈ lw_good := lw_at5 23 rfl rfl
theorem ml_X4_204 : Cond.methodLink RX4 204 yX4_invoke ∈ lw_good := lw_at5 24 rfl rfl
theorem im_yX4_invoke : Cond.instanceMethod yX4_invoke ∈ lw_good := lw_at5 26 rfl rfl
theorem ml_X4_238 : Cond.methodLink RX4 238 yX5_functionOfClass ∈ lw_good := lw_at5 28 rfl rfl
theorem ml_X4_241 : Cond.methodLink RX4 241 yX5_methodOfClass ∈ lw_good := lw_at5 29 rfl rfl
theorem ml_X4_213 : Cond.methodLink RX4 213 yX4_appendCharacters ∈ lw_good := lw_at5 30 rfl rfl
theorem im_yX4_appendCharacters : Cond.instanceMethod yX4_appendCharacters ∈ lw_good := lw_at5 32 rfl rfl
theorem ml_L_105 : Cond.methodLink RL 105 yL_told ∈ lw_good := lw_at5 34 rfl rfl
theorem sm_yL_told : Cond.static yL_told ∈ lw_good := lw_at5 35 rfl rfl
theorem ml_L_46 : Cond.methodLink RL 46 yX10_told ∈ lw_good := lw_at5 37 rfl rfl
theorem im_yX10_told : Cond.instanceMethod yX10_told ∈ lw_good := lw_at5 38 rfl rfl
theorem se_yX10_told : Cond.selects yX10_told.cls yX10_told yX10_told ∈ lw_good := lw_at5 39 rfl rfl
theorem ml_X10_140 : Cond.methodLink RX10 140 yX4_outputLength ∈ lw_good := lw_at5 41 rfl rfl
theorem im_yX4_outputLength : Cond.instanceMethod yX4_outputLength ∈ lw_good := lw_at5 42 rfl rfl
theorem se_yX4_outputLength : Cond.selects yX4_outputLength.cls yX4_outputLength yX4_outputLength ∈ lw_good := lw_at5 43 rfl rfl
theorem ml_X4_48 : Cond.methodLink RX4 48 yX8_outputLength ∈ lw_good := lw_at5 45 rfl rfl
theorem im_yX8_outputLength : Cond.instanceMethod yX8_outputLength ∈ lw_good := lw_at5 46 rfl rfl
theorem se_yX8_outputLength : Cond.selects yX8_outputLength.cls yX8_outputLength yX8_outputLength ∈ lw_good := lw_at5 47 rfl rfl
theorem ml_X10_143 : Cond.methodLink RX10 143 yX4_stepTotal ∈ lw_good := lw_at5 49 rfl rfl
theorem im_yX4_stepTotal : Cond.instanceMethod yX4_stepTotal ∈ lw_good := lw_at5 50 rfl rfl
theorem se_yX4_stepTotal : Cond.selects yX4_stepTotal.cls yX4_stepTotal yX4_stepTotal ∈ lw_good := lw_at5 51 rfl rfl
theorem ml_X10_146 : Cond.methodLink RX10 146 yX4_returnedNumber ∈ lw_good := lw_at5 53 rfl rfl
theorem im_yX4_returnedNumber : Cond.instanceMethod yX4_returnedNumber ∈ lw_good := lw_at5 54 rfl rfl
theorem se_yX4_returnedNumber : Cond.selects yX4_returnedNumber.cls yX4_returnedNumber yX4_returnedNumber ∈ lw_good := lw_at5 55 rfl rfl
theorem ml_X4_64 : Cond.methodLink RX4 64 yX4_returnedKind ∈ lw_good := lw_at5 57 rfl rfl
theorem im_yX4_returnedKind : Cond.instanceMethod yX4_returnedKind ∈ lw_good := lw_at5 58 rfl rfl
theorem se_yX4_returnedKind : Cond.selects yX4_returnedKind.cls yX4_returnedKind yX4_returnedKind ∈ lw_good := lw_at5 59 rfl rfl
theorem ml_X10_149 : Cond.methodLink RX10 149 yX4_returnedKind ∈ lw_good := lw_at5 61 rfl rfl
theorem ml_L_108 : Cond.methodLink RL 108 yL_said ∈ lw_good := lw_at5 62 rfl rfl
theorem sm_yL_said : Cond.static yL_said ∈ lw_good := lw_at5 63 rfl rfl
theorem ml_L_49 : Cond.methodLink RL 49 yX10_said ∈ lw_good := lw_at5 65 rfl rfl
theorem im_yX10_said : Cond.instanceMethod yX10_said ∈ lw_good := lw_at5 66 rfl rfl
theorem se_yX10_said : Cond.selects yX10_said.cls yX10_said yX10_said ∈ lw_good := lw_at5 67 rfl rfl
theorem ml_X10_152 : Cond.methodLink RX10 152 yX4_outputAt ∈ lw_good := lw_at5 69 rfl rfl
theorem im_yX4_outputAt : Cond.instanceMethod yX4_outputAt ∈ lw_good := lw_at5 70 rfl rfl
theorem se_yX4_outputAt : Cond.selects yX4_outputAt.cls yX4_outputAt yX4_outputAt ∈ lw_good := lw_at5 71 rfl rfl
theorem ml_X4_52 : Cond.methodLink RX4 52 yX8_outputAt ∈ lw_good := lw_at5 73 rfl rfl
theorem im_yX8_outputAt : Cond.instanceMethod yX8_outputAt ∈ lw_good := lw_at5 74 rfl rfl
theorem se_yX8_outputAt : Cond.selects yX8_outputAt.cls yX8_outputAt yX8_outputAt ∈ lw_good := lw_at5 75 rfl rfl
theorem cl_L_53 : Cond.classLink RL 53 RX11 ∈ lw_good := lw_at5 77 rfl rfl
theorem inst_X11 : Cond.instantiable RX11 54 ∈ lw_good := lw_at5 78 rfl rfl
theorem ml_L_55 : Cond.methodLink RL 55 yX11_init ∈ lw_good := lw_at5 79 rfl rfl
theorem im_yX11_init : Cond.instanceMethod yX11_init ∈ lw_good := lw_at5 80 rfl rfl
theorem ml_X11_1 : Cond.methodLink RX11 1 objectInit ∈ lw_good := lw_at5 82 rfl rfl
theorem ki_X11_104 : Cond.constant RX11 104 (80200) ∈ lw_good := lw_at5 83 rfl rfl
theorem fl_X11_123 : Cond.fieldLink RX11 123 "FeatureDesugarerModel" "code" "I" ∈ lw_good := lw_at5 84 rfl rfl
theorem fl_X11_127 : Cond.fieldLink RX11 127 "FeatureDesugarerModel" "functions" "I" ∈ lw_good := lw_at5 85 rfl rfl
theorem fl_X11_7 : Cond.fieldLink RX11 7 "FeatureDesugarerModel" "parameters" "[I" ∈ lw_good := lw_at5 86 rfl rfl
theorem fl_X11_13 : Cond.fieldLink RX11 13 "FeatureDesugarerModel" "sizes" "[I" ∈ lw_good := lw_at5 87 rfl rfl
theorem fl_X11_16 : Cond.fieldLink RX11 16 "FeatureDesugarerModel" "word" "[I" ∈ lw_good := lw_at5 88 rfl rfl
theorem fl_X11_19 : Cond.fieldLink RX11 19 "FeatureDesugarerModel" "numberA" "[I" ∈ lw_good := lw_at5 89 rfl rfl
theorem fl_X11_22 : Cond.fieldLink RX11 22 "FeatureDesugarerModel" "numberB" "[I" ∈ lw_good := lw_at5 90 rfl rfl
theorem fl_X11_146 : Cond.fieldLink RX11 146 "FeatureDesugarerModel" "recipes" "I" ∈ lw_good := lw_at5 91 rfl rfl
theorem fl_X11_25 : Cond.fieldLink RX11 25 "FeatureDesugarerModel" "letters" "[I" ∈ lw_good := lw_at5 92 rfl rfl
theorem fl_X11_28 : Cond.fieldLink RX11 28 "FeatureDesugarerModel" "letter" "[I" ∈ lw_good := lw_at5 93 rfl rfl
theorem fl_X11_134 : Cond.fieldLink RX11 134 "FeatureDesugarerModel" "made" "Z" ∈ lw_good := lw_at5 94 rfl rfl
theorem fl_X11_31 : Cond.fieldLink RX11 31 "FeatureDesugarerModel" "height" "[I" ∈ lw_good := lw_at5 95 rfl rfl
theorem fl_X11_34 : Cond.fieldLink RX11 34 "FeatureDesugarerModel" "waits" "[Z" ∈ lw_good := lw_at5 96 rfl rfl
theorem fl_X11_153 : Cond.fieldLink RX11 153 "FeatureDesugarerModel" "wrong" "I" ∈ lw_good := lw_at5 97 rfl rfl
theorem fl_X11_38 : Cond.fieldLink RX11 38 "FeatureDesugarerModel" "highest" "[I" ∈ lw_good := lw_at5 98 rfl rfl
theorem fl_X11_41 : Cond.fieldLink RX11 41 "FeatureDesugarerModel" "plainHighest" "[I" ∈ lw_good := lw_at5 99 rfl rfl
theorem fl_X11_44 : Cond.fieldLink RX11 44 "FeatureDesugarerModel" "plainSize" "[I" ∈ lw_good := lw_at5 100 rfl rfl
theorem fl_X11_47 : Cond.fieldLink RX11 47 "FeatureDesugarerModel" "plainWord" "[I" ∈ lw_good := lw_at5 101 rfl rfl
theorem fl_X11_50 : Cond.fieldLink RX11 50 "FeatureDesugarerModel" "plainA" "[I" ∈ lw_good := lw_at5 102 rfl rfl
theorem fl_X11_53 : Cond.fieldLink RX11 53 "FeatureDesugarerModel" "plainB" "[I" ∈ lw_good := lw_at5 103 rfl rfl
theorem fl_X11_56 : Cond.fieldLink RX11 56 "FeatureDesugarerModel" "place" "[I" ∈ lw_good := lw_at5 104 rfl rfl
theorem fl_X11_184 : Cond.fieldLink RX11 184 "FeatureDesugarerModel" "classes" "I" ∈ lw_good := lw_at5 105 rfl rfl
theorem fl_X11_59 : Cond.fieldLink RX11 59 "FeatureDesugarerModel" "classValues" "[I" ∈ lw_good := lw_at5 106 rfl rfl
theorem fl_X11_62 : Cond.fieldLink RX11 62 "FeatureDesugarerModel" "classFunction" "[I" ∈ lw_good := lw_at5 107 rfl rfl
theorem fl_X11_202 : Cond.fieldLink RX11 202 "FeatureDesugarerModel" "table" "I" ∈ lw_good := lw_at5 108 rfl rfl
theorem fl_X11_65 : Cond.fieldLink RX11 65 "FeatureDesugarerModel" "character" "[I" ∈ lw_good := lw_at5 109 rfl rfl
theorem fl_X11_68 : Cond.fieldLink RX11 68 "FeatureDesugarerModel" "letterAt" "[I" ∈ lw_good := lw_at5 110 rfl rfl
theorem fl_X11_271 : Cond.fieldLink RX11 271 "FeatureDesugarerModel" "steps" "I" ∈ lw_good := lw_at5 111 rfl rfl
theorem fl_X11_214 : Cond.fieldLink RX11 214 "FeatureDesugarerModel" "fault" "I" ∈ lw_good := lw_at5 112 rfl rfl
theorem fl_X11_247 : Cond.fieldLink RX11 247 "FeatureDesugarerModel" "returnedKind" "I" ∈ lw_good := lw_at5 113 rfl rfl
theorem fl_X11_250 : Cond.fieldLink RX11 250 "FeatureDesugarerModel" "returned" "I" ∈ lw_good := lw_at5 114 rfl rfl
theorem fl_X11_229 : Cond.fieldLink RX11 229 "FeatureDesugarerModel" "outputSize" "I" ∈ lw_good := lw_at5 115 rfl rfl
theorem fl_X11_71 : Cond.fieldLink RX11 71 "FeatureDesugarerModel" "output" "[I" ∈ lw_good := lw_at5 116 rfl rfl
theorem fl_X11_208 : Cond.fieldLink RX11 208 "FeatureDesugarerModel" "height0" "I" ∈ lw_good := lw_at5 117 rfl rfl
theorem fl_X11_74 : Cond.fieldLink RX11 74 "FeatureDesugarerModel" "stackKind" "[I" ∈ lw_good := lw_at5 118 rfl rfl
theorem fl_X11_77 : Cond.fieldLink RX11 77 "FeatureDesugarerModel" "stackValue" "[I" ∈ lw_good := lw_at5 119 rfl rfl
theorem fl_X11_211 : Cond.fieldLink RX11 211 "FeatureDesugarerModel" "depth" "I" ∈ lw_good := lw_at5 120 rfl rfl
theorem fl_X11_80 : Cond.fieldLink RX11 80 "FeatureDesugarerModel" "frameFunction" "[I" ∈ lw_good := lw_at5 121 rfl rfl
theorem fl_X11_83 : Cond.fieldLink RX11 83 "FeatureDesugarerModel" "frameAt" "[I" ∈ lw_good := lw_at5 122 rfl rfl
theorem fl_X11_86 : Cond.fieldLink RX11 86 "FeatureDesugarerModel" "frameBase" "[I" ∈ lw_good := lw_at5 123 rfl rfl
theorem fl_X11_89 : Cond.fieldLink RX11 89 "FeatureDesugarerModel" "localKind" "[I" ∈ lw_good := lw_at5 124 rfl rfl
theorem fl_X11_92 : Cond.fieldLink RX11 92 "FeatureDesugarerModel" "localValue" "[I" ∈ lw_good := lw_at5 125 rfl rfl
theorem fl_X11_95 : Cond.fieldLink RX11 95 "FeatureDesugarerModel" "argumentKind" "[I" ∈ lw_good := lw_at5 126 rfl rfl
theorem fl_X11_98 : Cond.fieldLink RX11 98 "FeatureDesugarerModel" "argumentValue" "[I" ∈ lw_good := lw_at5 127 rfl rfl
theorem fl_X11_232 : Cond.fieldLink RX11 232 "FeatureDesugarerModel" "texts" "I" ∈ lw_good := lw_at5 128 rfl rfl
theorem fl_X11_101 : Cond.fieldLink RX11 101 "FeatureDesugarerModel" "textSize" "[I" ∈ lw_good := lw_at5 129 rfl rfl
theorem fl_X11_105 : Cond.fieldLink RX11 105 "FeatureDesugarerModel" "textBytes" "[I" ∈ lw_good := lw_at5 130 rfl rfl
theorem fl_X11_238 : Cond.fieldLink RX11 238 "FeatureDesugarerModel" "closures" "I" ∈ lw_good := lw_at5 131 rfl rfl
theorem fl_X11_108 : Cond.fieldLink RX11 108 "FeatureDesugarerModel" "closureFunction" "[I" ∈ lw_good := lw_at5 132 rfl rfl
theorem fl_X11_111 : Cond.fieldLink RX11 111 "FeatureDesugarerModel" "closureSize" "[I" ∈ lw_good := lw_at5 133 rfl rfl
theorem fl_X11_114 : Cond.fieldLink RX11 114 "FeatureDesugarerModel" "closureKind" "[I" ∈ lw_good := lw_at5 134 rfl rfl
theorem fl_X11_117 : Cond.fieldLink RX11 117 "FeatureDesugarerModel" "closureValue" "[I" ∈ lw_good := lw_at5 135 rfl rfl
theorem fl_X11_217 : Cond.fieldLink RX11 217 "FeatureDesugarerModel" "pieceSize" "I" ∈ lw_good := lw_at5 136 rfl rfl
theorem fl_X11_120 : Cond.fieldLink RX11 120 "FeatureDesugarerModel" "piece" "[I" ∈ lw_good := lw_at5 137 rfl rfl
theorem ml_L_62 : Cond.methodLink RL 62 yX11_thrown ∈ lw_good := lw_at6 7 rfl rfl
theorem im_yX11_thrown : Cond.instanceMethod yX11_thrown ∈ lw_good := lw_at6 8 rfl rfl
theorem se_yX11_thrown : Cond.selects yX11_thrown.cls yX11_thrown yX11_thrown ∈ lw_good := lw_at6 9 rfl rfl
theorem ml_L_61 : Cond.methodLink RL 61 yX11_function ∈ lw_good := lw_at6 11 rfl rfl
theorem im_yX11_function : Cond.instanceMethod yX11_function ∈ lw_good := lw_at6 12 rfl rfl
theorem se_yX11_function : Cond.selects yX11_function.cls yX11_function yX11_function ∈ lw_good := lw_at6 13 rfl rfl
theorem ml_X11_130 : Cond.methodLink RX11 130 yX11_goes ∈ lw_good := lw_at6 15 rfl rfl
theorem im_yX11_goes : Cond.instanceMethod yX11_goes ∈ lw_good := lw_at6 17 rfl rfl
theorem ml_L_69 : Cond.methodLink RL 69 yX11_code ∈ lw_good := lw_at6 19 rfl rfl
theorem im_yX11_code : Cond.instanceMethod yX11_code ∈ lw_good := lw_at6 20 rfl rfl
theorem se_yX11_code : Cond.selects yX11_code.cls yX11_code yX11_code ∈ lw_good := lw_at6 21 rfl rfl
theorem ml_X11_138 : Cond.methodLink RX11 138 yX11_isFunction ∈ lw_good := lw_at6 23 rfl rfl
theorem im_yX11_isFunction : Cond.instanceMethod yX11_isFunction ∈ lw_good := lw_at6 25 rfl rfl
theorem ml_L_75 : Cond.methodLink RL 75 yX11_recipe ∈ lw_good := lw_at6 27 rfl rfl
theorem im_yX11_recipe : Cond.instanceMethod yX11_recipe ∈ lw_good := lw_at6 28 rfl rfl
theorem se_yX11_recipe : Cond.selects yX11_recipe.cls yX11_recipe yX11_recipe ∈ lw_good := lw_at6 29 rfl rfl
theorem kl_X11_142 : Cond.constantLong RX11 142 (31) ∈ lw_good := lw_at6 31 rfl rfl
theorem kl_X11_144 : Cond.constantLong RX11 144 (27) ∈ lw_good := lw_at6 32 rfl rfl
theorem ml_L_79 : Cond.methodLink RL 79 yX11_check ∈ lw_good := lw_at6 33 rfl rfl
theorem im_yX11_check : Cond.instanceMethod yX11_check ∈ lw_good := lw_at6 34 rfl rfl
theorem se_yX11_check : Cond.selects yX11_check.cls yX11_check yX11_check ∈ lw_good := lw_at6 35 rfl rfl
theorem ml_X11_180 : Cond.methodLink RX11 180 yX11_checkAll ∈ lw_good := lw_at6 37 rfl rfl
theorem im_yX11_checkAll : Cond.instanceMethod yX11_checkAll ∈ lw_good := lw_at6 39 rfl rfl
theorem ml_X11_177 : Cond.methodLink RX11 177 yX11_checkOne ∈ lw_good := lw_at6 41 rfl rfl
theorem im_yX11_checkOne : Cond.instanceMethod yX11_checkOne ∈ lw_good := lw_at6 43 rfl rfl
theorem ml_X11_169 : Cond.methodLink RX11 169 yX11_isBound ∈ lw_good := lw_at6 45 rfl rfl
theorem im_yX11_isBound : Cond.instanceMethod yX11_isBound ∈ lw_good := lw_at6 47 rfl rfl
theorem ml_X11_173 : Cond.methodLink RX11 173 yX11_walk ∈ lw_good := lw_at6 49 rfl rfl
theorem im_yX11_walk : Cond.instanceMethod yX11_walk ∈ lw_good := lw_at6 51 rfl rfl
theorem ml_X11_156 : Cond.methodLink RX11 156 yX11_least ∈ lw_good := lw_at6 53 rfl rfl
theorem im_yX11_least : Cond.instanceMethod yX11_least ∈ lw_good := lw_at6 55 rfl rfl
theorem ml_X11_159 : Cond.methodLink RX11 159 yX11_pops ∈ lw_good := lw_at6 57 rfl rfl
theorem im_yX11_pops : Cond.instanceMethod yX11_pops ∈ lw_good := lw_at6 59 rfl rfl
theorem ml_X11_149 : Cond.methodLink RX11 149 yX11_holes ∈ lw_good := lw_at6 61 rfl rfl
theorem im_yX11_holes : Cond.instanceMethod yX11_holes ∈ lw_good := lw_at6 63 rfl rfl
theorem ml_X11_162 : Cond.methodLink RX11 162 yX11_pushes ∈ lw_good := lw_at6 65 rfl rfl
theorem im_yX11_pushes : Cond.instanceMethod yX11_pushes ∈ lw_good := lw_at6 67 rfl rfl
theorem ml_X11_165 : Cond.methodLink RX11 165 yX11_meet ∈ lw_good := lw_at6 69 rfl rfl
theorem im_yX11_meet : Cond.instanceMethod yX11_meet ∈ lw_good := lw_at6 71 rfl rfl
theorem ml_L_83 : Cond.methodLink RL 83 yX11_lower ∈ lw_good := lw_at6 73 rfl rfl
theorem im_yX11_lower : Cond.instanceMethod yX11_lower ∈ lw_good := lw_at6 74 rfl rfl
theorem se_yX11_lower : Cond.selects yX11_lower.cls yX11_lower yX11_lower ∈ lw_good := lw_at6 75 rfl rfl
theorem ml_X11_205 : Cond.methodLink RX11 205 yX11_lowerOne ∈ lw_good := lw_at6 77 rfl rfl
theorem im_yX11_lowerOne : Cond.instanceMethod yX11_lowerOne ∈ lw_good := lw_at6 79 rfl rfl
theorem ml_X11_191 : Cond.methodLink RX11 191 yX11_within ∈ lw_good := lw_at6 81 rfl rfl
theorem im_yX11_within : Cond.instanceMethod yX11_within ∈ lw_good := lw_at6 83 rfl rfl
theorem ml_X11_195 : Cond.methodLink RX11 195 yX11_putFunction ∈ lw_good := lw_at6 85 rfl rfl
theorem im_yX11_putFunction : Cond.instanceMethod yX11_putFunction ∈ lw_good := lw_at6 87 rfl rfl
theorem ml_X11_187 : Cond.methodLink RX11 187 yX11_put ∈ lw_good := lw_at6 89 rfl rfl
theorem im_yX11_put : Cond.instanceMethod yX11_put ∈ lw_good := lw_at6 91 rfl rfl
theorem ml_X11_198 : Cond.methodLink RX11 198 yX11_putJoin ∈ lw_good := lw_at6 93 rfl rfl
theorem im_yX11_putJoin : Cond.instanceMethod yX11_putJoin ∈ lw_good := lw_at6 95 rfl rfl
theorem ml_L_86 : Cond.methodLink RL 86 yX11_count ∈ lw_good := lw_at6 97 rfl rfl
theorem im_yX11_count : Cond.instanceMethod yX11_count ∈ lw_good := lw_at6 98 rfl rfl
theorem se_yX11_count : Cond.selects yX11_count.cls yX11_count yX11_count ∈ lw_good := lw_at6 99 rfl rfl
theorem ml_L_90 : Cond.methodLink RL 90 yX11_size ∈ lw_good := lw_at6 101 rfl rfl
theorem im_yX11_size : Cond.instanceMethod yX11_size ∈ lw_good := lw_at6 102 rfl rfl
theorem se_yX11_size : Cond.selects yX11_size.cls yX11_size yX11_size ∈ lw_good := lw_at6 103 rfl rfl
theorem ml_L_94 : Cond.methodLink RL 94 yX11_plain ∈ lw_good := lw_at6 105 rfl rfl
theorem im_yX11_plain : Cond.instanceMethod yX11_plain ∈ lw_good := lw_at6 106 rfl rfl
theorem se_yX11_plain : Cond.selects yX11_plain.cls yX11_plain yX11_plain ∈ lw_good := lw_at6 107 rfl rfl
theorem ml_L_97 : Cond.methodLink RL 97 yX11_made ∈ lw_good := lw_at6 109 rfl rfl
theorem im_yX11_made : Cond.instanceMethod yX11_made ∈ lw_good := lw_at6 110 rfl rfl
theorem se_yX11_made : Cond.selects yX11_made.cls yX11_made yX11_made ∈ lw_good := lw_at6 111 rfl rfl
theorem ml_L_100 : Cond.methodLink RL 100 yX11_character ∈ lw_good := lw_at6 113 rfl rfl
theorem im_yX11_character : Cond.instanceMethod yX11_character ∈ lw_good := lw_at6 114 rfl rfl
theorem se_yX11_character : Cond.selects yX11_character.cls yX11_character yX11_character ∈ lw_good := lw_at6 115 rfl rfl
theorem ml_L_104 : Cond.methodLink RL 104 yX11_run ∈ lw_good := lw_at6 117 rfl rfl
theorem im_yX11_run : Cond.instanceMethod yX11_run ∈ lw_good := lw_at6 118 rfl rfl
theorem se_yX11_run : Cond.selects yX11_run.cls yX11_run yX11_run ∈ lw_good := lw_at6 119 rfl rfl
theorem ml_X11_244 : Cond.methodLink RX11 244 yX11_begin ∈ lw_good := lw_at6 121 rfl rfl
theorem im_yX11_begin : Cond.instanceMethod yX11_begin ∈ lw_good := lw_at6 123 rfl rfl
theorem ml_X11_274 : Cond.methodLink RX11 274 yX11_step ∈ lw_good := lw_at6 125 rfl rfl
theorem im_yX11_step : Cond.instanceMethod yX11_step ∈ lw_good := lw_at6 127 rfl rfl
theorem ml_X11_235 : Cond.methodLink RX11 235 yX11_push ∈ lw_good := lw_at6 129 rfl rfl
theorem im_yX11_push : Cond.instanceMethod yX11_push ∈ lw_good := lw_at6 131 rfl rfl
theorem ml_X11_253 : Cond.methodLink RX11 253 yX11_reckon ∈ lw_good := lw_at6 133 rfl rfl
theorem im_yX11_reckon : Cond.instanceMethod yX11_reckon ∈ lw_good := lw_at6 135 rfl rfl
theorem ml_X11_241 : Cond.methodLink RX11 241 yX11_take ∈ lw_good := lw_at6 137 rfl rfl
theorem im_yX11_take : Cond.instanceMethod yX11_take ∈ lw_good := lw_at6 139 rfl rfl
theorem ml_X11_256 : Cond.methodLink RX11 256 yX11_leave ∈ lw_good := lw_at6 141 rfl rfl
theorem im_yX11_leave : Cond.instanceMethod yX11_leave ∈ lw_good := lw_at6 143 rfl rfl
theorem ml_X11_259 : Cond.methodLink RX11 259 yX11_say ∈ lw_good := lw_at6 145 rfl rfl
theorem im_yX11_say : Cond.instanceMethod yX11_say ∈ lw_good := lw_at6 147 rfl rfl
theorem ml_X11_226 : Cond.methodLink RX11 226 yX11_write ∈ lw_good := lw_at6 149 rfl rfl
theorem im_yX11_write : Cond.instanceMethod yX11_write ∈ lw_good := lw_at6 151 rfl rfl
theorem ml_X11_220 : Cond.methodLink RX11 220 yX11_letter ∈ lw_good := lw_at6 153 rfl rfl
theorem im_yX11_letter : Cond.instanceMethod yX11_letter ∈ lw_good := lw_at6 155 rfl rfl
theorem kl_X11_222 : Cond.constantLong RX11 222 (9) ∈ lw_good := lw_at6 157 rfl rfl
theorem kl_X11_224 : Cond.constantLong RX11 224 (10) ∈ lw_good := lw_at6 158 rfl rfl
theorem ml_X11_262 : Cond.methodLink RX11 262 yX11_close ∈ lw_good := lw_at6 159 rfl rfl
theorem im_yX11_close : Cond.instanceMethod yX11_close ∈ lw_good := lw_at6 161 rfl rfl
theorem ml_X11_265 : Cond.methodLink RX11 265 yX11_apply ∈ lw_good := lw_at6 163 rfl rfl
theorem im_yX11_apply : Cond.instanceMethod yX11_apply ∈ lw_good := lw_at6 165 rfl rfl
theorem ml_X11_268 : Cond.methodLink RX11 268 yX11_join ∈ lw_good := lw_at6 167 rfl rfl
theorem im_yX11_join : Cond.instanceMethod yX11_join ∈ lw_good := lw_at6 169 rfl rfl
theorem ml_L_107 : Cond.methodLink RL 107 yX11_told ∈ lw_good := lw_at6 171 rfl rfl
theorem im_yX11_told : Cond.instanceMethod yX11_told ∈ lw_good := lw_at6 172 rfl rfl
theorem se_yX11_told : Cond.selects yX11_told.cls yX11_told yX11_told ∈ lw_good := lw_at6 173 rfl rfl
theorem ml_L_110 : Cond.methodLink RL 110 yX11_said ∈ lw_good := lw_at6 175 rfl rfl
theorem im_yX11_said : Cond.instanceMethod yX11_said ∈ lw_good := lw_at6 176 rfl rfl
theorem se_yX11_said : Cond.selects yX11_said.cls yX11_said yX11_said ∈ lw_good := lw_at6 177 rfl rfl
theorem kl_L_70 : Cond.constantLong RL 70 (4294967295) ∈ lw_good := lw_at6 179 rfl rfl
theorem se_yX9_wrongOnWays : Cond.selects yX9_wrongOnWays.cls yX9_wrongOnWays yX9_wrongOnWays ∈ lw_good := lw_atP 0 rfl rfl
theorem se_yX9_leastWaiting : Cond.selects yX9_leastWaiting.cls yX9_leastWaiting yX9_leastWaiting ∈ lw_good := lw_atP 1 rfl rfl
theorem se_yX9_goesOn : Cond.selects yX9_goesOn.cls yX9_goesOn yX9_goesOn ∈ lw_good := lw_atP 2 rfl rfl
theorem se_yX9_meets : Cond.selects yX9_meets.cls yX9_meets yX9_meets ∈ lw_good := lw_atP 3 rfl rfl
theorem se_yX5_makeFunction : Cond.selects yX5_makeFunction.cls yX5_makeFunction yX5_makeFunction ∈ lw_good := lw_atP 4 rfl rfl
theorem se_yX5_makeGroup : Cond.selects yX5_makeGroup.cls yX5_makeGroup yX5_makeGroup ∈ lw_good := lw_atP 5 rfl rfl
theorem se_yX5_makeNew : Cond.selects yX5_makeNew.cls yX5_makeNew yX5_makeNew ∈ lw_good := lw_atP 6 rfl rfl
theorem se_yX3_grow : Cond.selects yX3_grow.cls yX3_grow yX3_grow ∈ lw_good := lw_atP 7 rfl rfl
theorem se_yX5_makeJoin : Cond.selects yX5_makeJoin.cls yX5_makeJoin yX5_makeJoin ∈ lw_good := lw_atP 8 rfl rfl
theorem se_yX5_measure : Cond.selects yX5_measure.cls yX5_measure yX5_measure ∈ lw_good := lw_atP 9 rfl rfl
theorem se_yX5_risesBy : Cond.selects yX5_risesBy.cls yX5_risesBy yX5_risesBy ∈ lw_good := lw_atP 10 rfl rfl
theorem se_yX5_movePlaces : Cond.selects yX5_movePlaces.cls yX5_movePlaces yX5_movePlaces ∈ lw_good := lw_atP 11 rfl rfl
theorem se_yX5_makeMethod : Cond.selects yX5_makeMethod.cls yX5_makeMethod yX5_makeMethod ∈ lw_good := lw_atP 12 rfl rfl
theorem se_yX7_addDigit : Cond.selects yX7_addDigit.cls yX7_addDigit yX7_addDigit ∈ lw_good := lw_atP 14 rfl rfl
theorem se_yX4_beginFunction : Cond.selects yX4_beginFunction.cls yX4_beginFunction yX4_beginFunction ∈ lw_good := lw_atP 15 rfl rfl
theorem se_yX4_doNext : Cond.selects yX4_doNext.cls yX4_doNext yX4_doNext ∈ lw_good := lw_atP 16 rfl rfl
theorem se_yX4_doShared : Cond.selects yX4_doShared.cls yX4_doShared yX4_doShared ∈ lw_good := lw_atP 17 rfl rfl
theorem se_yX4_goIfZero : Cond.selects yX4_goIfZero.cls yX4_goIfZero yX4_goIfZero ∈ lw_good := lw_atP 18 rfl rfl
theorem se_yX4_callFunction : Cond.selects yX4_callFunction.cls yX4_callFunction yX4_callFunction ∈ lw_good := lw_atP 19 rfl rfl
theorem se_yX4_giveBack : Cond.selects yX4_giveBack.cls yX4_giveBack yX4_giveBack ∈ lw_good := lw_atP 20 rfl rfl
theorem se_yX8_spell : Cond.selects yX8_spell.cls yX8_spell yX8_spell ∈ lw_good := lw_atP 21 rfl rfl
theorem se_yX8_spellNumber : Cond.selects yX8_spellNumber.cls yX8_spellNumber yX8_spellNumber ∈ lw_good := lw_atP 22 rfl rfl
theorem se_yX4_faultUnless : Cond.selects yX4_faultUnless.cls yX4_faultUnless yX4_faultUnless ∈ lw_good := lw_atP 23 rfl rfl
theorem se_yX4_reckon : Cond.selects yX4_reckon.cls yX4_reckon yX4_reckon ∈ lw_good := lw_atP 24 rfl rfl
theorem se_yX4_doFirst : Cond.selects yX4_doFirst.cls yX4_doFirst yX4_doFirst ∈ lw_good := lw_atP 25 rfl rfl
theorem se_yX4_applyTo : Cond.selects yX4_applyTo.cls yX4_applyTo yX4_applyTo ∈ lw_good := lw_atP 26 rfl rfl
theorem se_yX4_join : Cond.selects yX4_join.cls yX4_join yX4_join ∈ lw_good := lw_atP 27 rfl rfl
theorem se_yX8_appendSpelled : Cond.selects yX8_appendSpelled.cls yX8_appendSpelled yX8_appendSpelled ∈ lw_good := lw_atP 28 rfl rfl
theorem se_yX4_doPlain : Cond.selects yX4_doPlain.cls yX4_doPlain yX4_doPlain ∈ lw_good := lw_atP 29 rfl rfl
theorem se_yX4_invoke : Cond.selects yX4_invoke.cls yX4_invoke yX4_invoke ∈ lw_good := lw_atP 30 rfl rfl
theorem se_yX4_appendCharacters : Cond.selects yX4_appendCharacters.cls yX4_appendCharacters yX4_appendCharacters ∈ lw_good := lw_atP 31 rfl rfl
theorem se_yX11_goes : Cond.selects yX11_goes.cls yX11_goes yX11_goes ∈ lw_good := lw_atP 32 rfl rfl
theorem se_yX11_isFunction : Cond.selects yX11_isFunction.cls yX11_isFunction yX11_isFunction ∈ lw_good := lw_atP 33 rfl rfl
theorem se_yX11_checkAll : Cond.selects yX11_checkAll.cls yX11_checkAll yX11_checkAll ∈ lw_good := lw_atP 34 rfl rfl
theorem se_yX11_checkOne : Cond.selects yX11_checkOne.cls yX11_checkOne yX11_checkOne ∈ lw_good := lw_atP 35 rfl rfl
theorem se_yX11_isBound : Cond.selects yX11_isBound.cls yX11_isBound yX11_isBound ∈ lw_good := lw_atP 36 rfl rfl
theorem se_yX11_walk : Cond.selects yX11_walk.cls yX11_walk yX11_walk ∈ lw_good := lw_atP 37 rfl rfl
theorem se_yX11_least : Cond.selects yX11_least.cls yX11_least yX11_least ∈ lw_good := lw_atP 38 rfl rfl
theorem se_yX11_pops : Cond.selects yX11_pops.cls yX11_pops yX11_pops ∈ lw_good := lw_atP 39 rfl rfl
theorem se_yX11_holes : Cond.selects yX11_holes.cls yX11_holes yX11_holes ∈ lw_good := lw_atP 40 rfl rfl
theorem se_yX11_pushes : Cond.selects yX11_pushes.cls yX11_pushes yX11_pushes ∈ lw_good := lw_atP 41 rfl rfl
theorem se_yX11_meet : Cond.selects yX11_meet.cls yX11_meet yX11_meet ∈ lw_good := lw_atP 42 rfl rfl
theorem se_yX11_lowerOne : Cond.selects yX11_lowerOne.cls yX11_lowerOne yX11_lowerOne ∈ lw_good := lw_atP 43 rfl rfl
theorem se_yX11_within : Cond.selects yX11_within.cls yX11_within yX11_within ∈ lw_good := lw_atP 44 rfl rfl
theorem se_yX11_putFunction : Cond.selects yX11_putFunction.cls yX11_putFunction yX11_putFunction ∈ lw_good := lw_atP 45 rfl rfl
theorem se_yX11_put : Cond.selects yX11_put.cls yX11_put yX11_put ∈ lw_good := lw_atP 46 rfl rfl
theorem se_yX11_putJoin : Cond.selects yX11_putJoin.cls yX11_putJoin yX11_putJoin ∈ lw_good := lw_atP 47 rfl rfl
theorem se_yX11_begin : Cond.selects yX11_begin.cls yX11_begin yX11_begin ∈ lw_good := lw_atP 48 rfl rfl
theorem se_yX11_step : Cond.selects yX11_step.cls yX11_step yX11_step ∈ lw_good := lw_atP 49 rfl rfl
theorem se_yX11_push : Cond.selects yX11_push.cls yX11_push yX11_push ∈ lw_good := lw_atP 50 rfl rfl
theorem se_yX11_reckon : Cond.selects yX11_reckon.cls yX11_reckon yX11_reckon ∈ lw_good := lw_atP 51 rfl rfl
theorem se_yX11_take : Cond.selects yX11_take.cls yX11_take yX11_take ∈ lw_good := lw_atP 52 rfl rfl
theorem se_yX11_leave : Cond.selects yX11_leave.cls yX11_leave yX11_leave ∈ lw_good := lw_atP 53 rfl rfl
theorem se_yX11_say : Cond.selects yX11_say.cls yX11_say yX11_say ∈ lw_good := lw_atP 54 rfl rfl
theorem se_yX11_write : Cond.selects yX11_write.cls yX11_write yX11_write ∈ lw_good := lw_atP 55 rfl rfl
theorem se_yX11_letter : Cond.selects yX11_letter.cls yX11_letter yX11_letter ∈ lw_good := lw_atP 56 rfl rfl
theorem se_yX11_close : Cond.selects yX11_close.cls yX11_close yX11_close ∈ lw_good := lw_atP 57 rfl rfl
theorem se_yX11_apply : Cond.selects yX11_apply.cls yX11_apply yX11_apply ∈ lw_good := lw_atP 58 rfl rfl
theorem se_yX11_join : Cond.selects yX11_join.cls yX11_join yX11_join ∈ lw_good := lw_atP 59 rfl rfl
theorem wB_yJ7_copyOf_59c91 : pz_wB yJ7_copyOf_59c91 cJ7_copyOf_59c91 3 (some (.array .int)) 2 := ⟨ini_J7, lw_at2 170 rfl rfl, by decide +kernel⟩
theorem wB_yJ7_copyOf_9075b : pz_wB yJ7_copyOf_9075b cJ7_copyOf_9075b 3 (some (.array .byte)) 2 := ⟨ini_J7, lw_at5 8 rfl rfl, by decide +kernel⟩
theorem wB_yJ9_max_7cf53 : pz_wB yJ9_max_7cf53 cJ9_max_7cf53 2 (some .int) 2 := ⟨ini_J9, lw_at2 229 rfl rfl, by decide +kernel⟩
theorem wB_yJ9_min_7cf53 : pz_wB yJ9_min_7cf53 cJ9_min_7cf53 2 (some .int) 2 := ⟨ini_J9, lw_at2 180 rfl rfl, by decide +kernel⟩
theorem wB_yX10_character : pz_wB yX10_character cX10_character 2 (some .int) 1 := ⟨ini_X10, lw_at3 232 rfl rfl, by decide +kernel⟩
theorem wB_yX10_check : pz_wB yX10_check cX10_check 3 (some .int) 0 := ⟨ini_X10, lw_at2 57 rfl rfl, by decide +kernel⟩
theorem wB_yX10_code : pz_wB yX10_code cX10_code 5 (some .int) 4 := ⟨ini_X10, lw_at3 122 rfl rfl, by decide +kernel⟩
theorem wB_yX10_contentOf : pz_wB yX10_contentOf cX10_contentOf 2 (some .int) 1 := ⟨ini_X10, lw_at4 134 rfl rfl, by decide +kernel⟩
theorem wB_yX10_count : pz_wB yX10_count cX10_count 2 (some .int) 1 := ⟨ini_X10, lw_at3 159 rfl rfl, by decide +kernel⟩
theorem wB_yX10_function : pz_wB yX10_function cX10_function 2 (some .int) 1 := ⟨ini_X10, lw_at3 30 rfl rfl, by decide +kernel⟩
theorem wB_yX10_init : pz_wB yX10_init cX10_init 1 none 0 := ⟨ini_X10, lw_at1 24 rfl rfl, by decide +kernel⟩
theorem wB_yX10_kindOf : pz_wB yX10_kindOf cX10_kindOf 2 (some .int) 1 := ⟨ini_X10, lw_at4 131 rfl rfl, by decide +kernel⟩
theorem wB_yX10_lower : pz_wB yX10_lower cX10_lower 1 (some .int) 0 := ⟨ini_X10, lw_at2 128 rfl rfl, by decide +kernel⟩
theorem wB_yX10_made : pz_wB yX10_made cX10_made 3 (some .int) 2 := ⟨ini_X10, lw_at3 216 rfl rfl, by decide +kernel⟩
theorem wB_yX10_plain : pz_wB yX10_plain cX10_plain 4 (some .int) 3 := ⟨ini_X10, lw_at3 197 rfl rfl, by decide +kernel⟩
theorem wB_yX10_recipe : pz_wB yX10_recipe cX10_recipe 3 (some .int) 1 := ⟨ini_X10, lw_at3 135 rfl rfl, by decide +kernel⟩
theorem wB_yX10_run : pz_wB yX10_run cX10_run 6 (some .int) 5 := ⟨ini_X10, lw_at4 3 rfl rfl, by decide +kernel⟩
theorem wB_yX10_said : pz_wB yX10_said cX10_said 2 (some .int) 1 := ⟨ini_X10, lw_at5 68 rfl rfl, by decide +kernel⟩
theorem wB_yX10_size : pz_wB yX10_size cX10_size 3 (some .int) 2 := ⟨ini_X10, lw_at3 178 rfl rfl, by decide +kernel⟩
theorem wB_yX10_told : pz_wB yX10_told cX10_told 2 (some .int) 1 := ⟨ini_X10, lw_at5 40 rfl rfl, by decide +kernel⟩
theorem wB_yX10_valueOf : pz_wB yX10_valueOf cX10_valueOf 2 (some .long) 2 := ⟨ini_X10, lw_at4 32 rfl rfl, by decide +kernel⟩
theorem wB_yX11_apply : pz_wB yX11_apply cX11_apply 6 none 1 := ⟨ini_X11, lw_at6 166 rfl rfl, by decide +kernel⟩
theorem wB_yX11_begin : pz_wB yX11_begin cX11_begin 4 none 2 := ⟨ini_X11, lw_at6 124 rfl rfl, by decide +kernel⟩
theorem wB_yX11_character : pz_wB yX11_character cX11_character 2 (some .int) 1 := ⟨ini_X11, lw_at6 116 rfl rfl, by decide +kernel⟩
theorem wB_yX11_check : pz_wB yX11_check cX11_check 1 (some .int) 0 := ⟨ini_X11, lw_at6 36 rfl rfl, by decide +kernel⟩
theorem wB_yX11_checkAll : pz_wB yX11_checkAll cX11_checkAll 3 (some .int) 0 := ⟨ini_X11, lw_at6 40 rfl rfl, by decide +kernel⟩
theorem wB_yX11_checkOne : pz_wB yX11_checkOne cX11_checkOne 3 (some .int) 1 := ⟨ini_X11, lw_at6 44 rfl rfl, by decide +kernel⟩
theorem wB_yX11_close : pz_wB yX11_close cX11_close 4 none 2 := ⟨ini_X11, lw_at6 162 rfl rfl, by decide +kernel⟩
theorem wB_yX11_code : pz_wB yX11_code cX11_code 7 (some .int) 4 := ⟨ini_X11, lw_at6 22 rfl rfl, by decide +kernel⟩
theorem wB_yX11_count : pz_wB yX11_count cX11_count 2 (some .int) 1 := ⟨ini_X11, lw_at6 100 rfl rfl, by decide +kernel⟩
theorem wB_yX11_function : pz_wB yX11_function cX11_function 2 (some .int) 1 := ⟨ini_X11, lw_at6 14 rfl rfl, by decide +kernel⟩
theorem wB_yX11_goes : pz_wB yX11_goes cX11_goes 3 (some .boolean) 2 := ⟨ini_X11, lw_at6 18 rfl rfl, by decide +kernel⟩
theorem wB_yX11_holes : pz_wB yX11_holes cX11_holes 4 (some .int) 1 := ⟨ini_X11, lw_at6 64 rfl rfl, by decide +kernel⟩
theorem wB_yX11_init : pz_wB yX11_init cX11_init 1 none 0 := ⟨ini_X11, lw_at5 81 rfl rfl, by decide +kernel⟩
theorem wB_yX11_isBound : pz_wB yX11_isBound cX11_isBound 6 (some .boolean) 2 := ⟨ini_X11, lw_at6 48 rfl rfl, by decide +kernel⟩
theorem wB_yX11_isFunction : pz_wB yX11_isFunction cX11_isFunction 2 (some .boolean) 1 := ⟨ini_X11, lw_at6 26 rfl rfl, by decide +kernel⟩
theorem wB_yX11_join : pz_wB yX11_join cX11_join 6 none 1 := ⟨ini_X11, lw_at6 170 rfl rfl, by decide +kernel⟩
theorem wB_yX11_least : pz_wB yX11_least cX11_least 3 (some .int) 1 := ⟨ini_X11, lw_at6 56 rfl rfl, by decide +kernel⟩
theorem wB_yX11_leave : pz_wB yX11_leave cX11_leave 3 none 0 := ⟨ini_X11, lw_at6 144 rfl rfl, by decide +kernel⟩
theorem wB_yX11_letter : pz_wB yX11_letter cX11_letter 2 none 1 := ⟨ini_X11, lw_at6 156 rfl rfl, by decide +kernel⟩
theorem wB_yX11_lower : pz_wB yX11_lower cX11_lower 3 (some .int) 0 := ⟨ini_X11, lw_at6 76 rfl rfl, by decide +kernel⟩
theorem wB_yX11_lowerOne : pz_wB yX11_lowerOne cX11_lowerOne 7 none 1 := ⟨ini_X11, lw_at6 80 rfl rfl, by decide +kernel⟩
theorem wB_yX11_made : pz_wB yX11_made cX11_made 3 (some .int) 2 := ⟨ini_X11, lw_at6 112 rfl rfl, by decide +kernel⟩
theorem wB_yX11_meet : pz_wB yX11_meet cX11_meet 4 none 3 := ⟨ini_X11, lw_at6 72 rfl rfl, by decide +kernel⟩
theorem wB_yX11_plain : pz_wB yX11_plain cX11_plain 6 (some .int) 3 := ⟨ini_X11, lw_at6 108 rfl rfl, by decide +kernel⟩
theorem wB_yX11_pops : pz_wB yX11_pops cX11_pops 3 (some .int) 1 := ⟨ini_X11, lw_at6 60 rfl rfl, by decide +kernel⟩
theorem wB_yX11_push : pz_wB yX11_push cX11_push 3 none 2 := ⟨ini_X11, lw_at6 132 rfl rfl, by decide +kernel⟩
theorem wB_yX11_pushes : pz_wB yX11_pushes cX11_pushes 3 (some .int) 1 := ⟨ini_X11, lw_at6 68 rfl rfl, by decide +kernel⟩
theorem wB_yX11_put : pz_wB yX11_put cX11_put 6 none 4 := ⟨ini_X11, lw_at6 92 rfl rfl, by decide +kernel⟩
theorem wB_yX11_putFunction : pz_wB yX11_putFunction cX11_putFunction 5 none 3 := ⟨ini_X11, lw_at6 88 rfl rfl, by decide +kernel⟩
theorem wB_yX11_putJoin : pz_wB yX11_putJoin cX11_putJoin 7 none 2 := ⟨ini_X11, lw_at6 96 rfl rfl, by decide +kernel⟩
theorem wB_yX11_recipe : pz_wB yX11_recipe cX11_recipe 6 (some .int) 1 := ⟨ini_X11, lw_at6 30 rfl rfl, by decide +kernel⟩
theorem wB_yX11_reckon : pz_wB yX11_reckon cX11_reckon 4 none 1 := ⟨ini_X11, lw_at6 136 rfl rfl, by decide +kernel⟩
theorem wB_yX11_run : pz_wB yX11_run cX11_run 7 (some .int) 5 := ⟨ini_X11, lw_at6 120 rfl rfl, by decide +kernel⟩
theorem wB_yX11_said : pz_wB yX11_said cX11_said 2 (some .int) 1 := ⟨ini_X11, lw_at6 178 rfl rfl, by decide +kernel⟩
theorem wB_yX11_say : pz_wB yX11_say cX11_say 2 none 0 := ⟨ini_X11, lw_at6 148 rfl rfl, by decide +kernel⟩
theorem wB_yX11_size : pz_wB yX11_size cX11_size 3 (some .int) 2 := ⟨ini_X11, lw_at6 104 rfl rfl, by decide +kernel⟩
theorem wB_yX11_step : pz_wB yX11_step cX11_step 3 none 0 := ⟨ini_X11, lw_at6 128 rfl rfl, by decide +kernel⟩
theorem wB_yX11_take : pz_wB yX11_take cX11_take 4 none 2 := ⟨ini_X11, lw_at6 140 rfl rfl, by decide +kernel⟩
theorem wB_yX11_thrown : pz_wB yX11_thrown cX11_thrown 1 (some .int) 0 := ⟨ini_X11, lw_at6 10 rfl rfl, by decide +kernel⟩
theorem wB_yX11_told : pz_wB yX11_told cX11_told 2 (some .int) 1 := ⟨ini_X11, lw_at6 174 rfl rfl, by decide +kernel⟩
theorem wB_yX11_walk : pz_wB yX11_walk cX11_walk 8 none 1 := ⟨ini_X11, lw_at6 52 rfl rfl, by decide +kernel⟩
theorem wB_yX11_within : pz_wB yX11_within cX11_within 5 (some .int) 2 := ⟨ini_X11, lw_at6 84 rfl rfl, by decide +kernel⟩
theorem wB_yX11_write : pz_wB yX11_write cX11_write 7 none 2 := ⟨ini_X11, lw_at6 152 rfl rfl, by decide +kernel⟩
theorem wB_yX1_areOpen : pz_wB yX1_areOpen cX1_areOpen 1 (some .boolean) 0 := ⟨ini_X1, lw_at4 42 rfl rfl, by decide +kernel⟩
theorem wB_yX1_clear : pz_wB yX1_clear cX1_clear 1 none 0 := ⟨ini_X1, lw_at4 11 rfl rfl, by decide +kernel⟩
theorem wB_yX1_close : pz_wB yX1_close cX1_close 1 none 0 := ⟨ini_X1, lw_at4 160 rfl rfl, by decide +kernel⟩
theorem wB_yX1_goTo : pz_wB yX1_goTo cX1_goTo 2 none 1 := ⟨ini_X1, lw_at4 78 rfl rfl, by decide +kernel⟩
theorem wB_yX1_init : pz_wB yX1_init cX1_init 1 none 0 := ⟨ini_X1, lw_at1 174 rfl rfl, by decide +kernel⟩
theorem wB_yX1_local : pz_wB yX1_local cX1_local 2 (some .long) 1 := ⟨ini_X1, lw_at4 120 rfl rfl, by decide +kernel⟩
theorem wB_yX1_open : pz_wB yX1_open cX1_open 4 none 1 := ⟨ini_X1, lw_at4 27 rfl rfl, by decide +kernel⟩
theorem wB_yX1_place : pz_wB yX1_place cX1_place 1 (some .int) 0 := ⟨ini_X1, lw_at4 54 rfl rfl, by decide +kernel⟩
theorem wB_yX1_pop : pz_wB yX1_pop cX1_pop 1 (some .long) 0 := ⟨ini_X1, lw_at4 124 rfl rfl, by decide +kernel⟩
theorem wB_yX1_push : pz_wB yX1_push cX1_push 3 none 1 := ⟨ini_X1, lw_at4 116 rfl rfl, by decide +kernel⟩
theorem wB_yX1_setLocal : pz_wB yX1_setLocal cX1_setLocal 4 none 2 := ⟨ini_X1, lw_at4 37 rfl rfl, by decide +kernel⟩
theorem wB_yX1_setLocalsToTaken : pz_wB yX1_setLocalsToTaken cX1_setLocalsToTaken 4 none 2 := ⟨ini_X1, lw_at4 147 rfl rfl, by decide +kernel⟩
theorem wB_yX1_take : pz_wB yX1_take cX1_take 3 none 1 := ⟨ini_X1, lw_at4 142 rfl rfl, by decide +kernel⟩
theorem wB_yX1_takenAt : pz_wB yX1_takenAt cX1_takenAt 2 (some .long) 1 := ⟨ini_X1, lw_at4 190 rfl rfl, by decide +kernel⟩
theorem wB_yX1_unit : pz_wB yX1_unit cX1_unit 1 (some .int) 0 := ⟨ini_X1, lw_at4 50 rfl rfl, by decide +kernel⟩
theorem wB_yX2_add : pz_wB yX2_add cX2_add 5 (some .long) 2 := ⟨ini_X2, lw_at4 198 rfl rfl, by decide +kernel⟩
theorem wB_yX2_clear : pz_wB yX2_clear cX2_clear 1 none 0 := ⟨ini_X2, lw_at4 15 rfl rfl, by decide +kernel⟩
theorem wB_yX2_init : pz_wB yX2_init cX2_init 1 none 0 := ⟨ini_X2, lw_at1 203 rfl rfl, by decide +kernel⟩
theorem wB_yX2_setValue : pz_wB yX2_setValue cX2_setValue 5 none 3 := ⟨ini_X2, lw_at4 204 rfl rfl, by decide +kernel⟩
theorem wB_yX2_sizeOf : pz_wB yX2_sizeOf cX2_sizeOf 2 (some .int) 1 := ⟨ini_X2, lw_at4 216 rfl rfl, by decide +kernel⟩
theorem wB_yX2_typeOf : pz_wB yX2_typeOf cX2_typeOf 2 (some .int) 1 := ⟨ini_X2, lw_at4 212 rfl rfl, by decide +kernel⟩
theorem wB_yX2_valueAt : pz_wB yX2_valueAt cX2_valueAt 3 (some .long) 2 := ⟨ini_X2, lw_at4 220 rfl rfl, by decide +kernel⟩
theorem wB_yX3_add : pz_wB yX3_add cX3_add 4 none 3 := ⟨ini_X3, lw_at2 163 rfl rfl, by decide +kernel⟩
theorem wB_yX3_clear : pz_wB yX3_clear cX3_clear 1 none 0 := ⟨ini_X3, lw_at2 137 rfl rfl, by decide +kernel⟩
theorem wB_yX3_firstNumber : pz_wB yX3_firstNumber cX3_firstNumber 2 (some .int) 1 := ⟨ini_X3, lw_at2 237 rfl rfl, by decide +kernel⟩
theorem wB_yX3_grow : pz_wB yX3_grow cX3_grow 2 none 0 := ⟨ini_X3, lw_at2 167 rfl rfl, by decide +kernel⟩
theorem wB_yX3_init : pz_wB yX3_init cX3_init 1 none 0 := ⟨ini_X3, lw_at1 112 rfl rfl, by decide +kernel⟩
theorem wB_yX3_isStep : pz_wB yX3_isStep cX3_isStep 2 (some .boolean) 1 := ⟨ini_X3, lw_at4 68 rfl rfl, by decide +kernel⟩
theorem wB_yX3_length : pz_wB yX3_length cX3_length 1 (some .int) 0 := ⟨ini_X3, lw_at2 146 rfl rfl, by decide +kernel⟩
theorem wB_yX3_markStep : pz_wB yX3_markStep cX3_markStep 2 none 1 := ⟨ini_X3, lw_at2 208 rfl rfl, by decide +kernel⟩
theorem wB_yX3_secondNumber : pz_wB yX3_secondNumber cX3_secondNumber 2 (some .int) 1 := ⟨ini_X3, lw_at3 1 rfl rfl, by decide +kernel⟩
theorem wB_yX3_setFirstNumber : pz_wB yX3_setFirstNumber cX3_setFirstNumber 3 none 2 := ⟨ini_X3, lw_at3 9 rfl rfl, by decide +kernel⟩
theorem wB_yX3_word : pz_wB yX3_word cX3_word 2 (some .int) 1 := ⟨ini_X3, lw_at2 233 rfl rfl, by decide +kernel⟩
theorem wB_yX4_appendCharacters : pz_wB yX4_appendCharacters cX4_appendCharacters 8 none 2 := ⟨ini_X4, lw_at5 33 rfl rfl, by decide +kernel⟩
theorem wB_yX4_applyTo : pz_wB yX4_applyTo cX4_applyTo 8 none 1 := ⟨ini_X4, lw_at4 208 rfl rfl, by decide +kernel⟩
theorem wB_yX4_beginFunction : pz_wB yX4_beginFunction cX4_beginFunction 2 (some .boolean) 1 := ⟨ini_X4, lw_at4 23 rfl rfl, by decide +kernel⟩
theorem wB_yX4_callFunction : pz_wB yX4_callFunction cX4_callFunction 3 none 1 := ⟨ini_X4, lw_at4 138 rfl rfl, by decide +kernel⟩
theorem wB_yX4_doFirst : pz_wB yX4_doFirst cX4_doFirst 7 none 3 := ⟨ini_X4, lw_at4 194 rfl rfl, by decide +kernel⟩
theorem wB_yX4_doNext : pz_wB yX4_doNext cX4_doNext 6 none 0 := ⟨ini_X4, lw_at4 46 rfl rfl, by decide +kernel⟩
theorem wB_yX4_doPlain : pz_wB yX4_doPlain cX4_doPlain 5 none 3 := ⟨ini_X4, lw_at5 22 rfl rfl, by decide +kernel⟩
theorem wB_yX4_doShared : pz_wB yX4_doShared cX4_doShared 5 none 2 := ⟨ini_X4, lw_at4 112 rfl rfl, by decide +kernel⟩
theorem wB_yX4_faultUnless : pz_wB yX4_faultUnless cX4_faultUnless 3 none 2 := ⟨ini_X4, lw_at4 182 rfl rfl, by decide +kernel⟩
theorem wB_yX4_giveBack : pz_wB yX4_giveBack cX4_giveBack 3 none 0 := ⟨ini_X4, lw_at4 152 rfl rfl, by decide +kernel⟩
theorem wB_yX4_goIfZero : pz_wB yX4_goIfZero cX4_goIfZero 4 none 1 := ⟨ini_X4, lw_at4 128 rfl rfl, by decide +kernel⟩
theorem wB_yX4_init : pz_wB yX4_init cX4_init 3 none 2 := ⟨ini_X4, lw_at1 168 rfl rfl, by decide +kernel⟩
theorem wB_yX4_invoke : pz_wB yX4_invoke cX4_invoke 6 none 1 := ⟨ini_X4, lw_at5 27 rfl rfl, by decide +kernel⟩
theorem wB_yX4_join : pz_wB yX4_join cX4_join 9 none 2 := ⟨ini_X4, lw_at4 225 rfl rfl, by decide +kernel⟩
theorem wB_yX4_outputAt : pz_wB yX4_outputAt cX4_outputAt 2 (some .int) 1 := ⟨ini_X4, lw_at5 72 rfl rfl, by decide +kernel⟩
theorem wB_yX4_outputLength : pz_wB yX4_outputLength cX4_outputLength 1 (some .int) 0 := ⟨ini_X4, lw_at5 44 rfl rfl, by decide +kernel⟩
theorem wB_yX4_perform : pz_wB yX4_perform cX4_perform 8 (some .int) 5 := ⟨ini_X4, lw_at4 7 rfl rfl, by decide +kernel⟩
theorem wB_yX4_reckon : pz_wB yX4_reckon cX4_reckon 9 none 1 := ⟨ini_X4, lw_at4 186 rfl rfl, by decide +kernel⟩
theorem wB_yX4_returnedKind : pz_wB yX4_returnedKind cX4_returnedKind 1 (some .int) 0 := ⟨ini_X4, lw_at5 60 rfl rfl, by decide +kernel⟩
theorem wB_yX4_returnedNumber : pz_wB yX4_returnedNumber cX4_returnedNumber 1 (some .int) 0 := ⟨ini_X4, lw_at5 56 rfl rfl, by decide +kernel⟩
theorem wB_yX4_stepTotal : pz_wB yX4_stepTotal cX4_stepTotal 1 (some .int) 0 := ⟨ini_X4, lw_at5 52 rfl rfl, by decide +kernel⟩
theorem wB_yX5_classTotal : pz_wB yX5_classTotal cX5_classTotal 1 (some .int) 0 := ⟨ini_X5, lw_at3 167 rfl rfl, by decide +kernel⟩
theorem wB_yX5_firstNumberAt : pz_wB yX5_firstNumberAt cX5_firstNumberAt 3 (some .int) 2 := ⟨ini_X5, lw_at3 205 rfl rfl, by decide +kernel⟩
theorem wB_yX5_forget : pz_wB yX5_forget cX5_forget 1 none 0 := ⟨ini_X5, lw_at3 111 rfl rfl, by decide +kernel⟩
theorem wB_yX5_functionOfClass : pz_wB yX5_functionOfClass cX5_functionOfClass 2 (some .int) 1 := ⟨ini_X5, lw_at3 224 rfl rfl, by decide +kernel⟩
theorem wB_yX5_init : pz_wB yX5_init cX5_init 3 none 2 := ⟨ini_X5, lw_at1 106 rfl rfl, by decide +kernel⟩
theorem wB_yX5_isMade : pz_wB yX5_isMade cX5_isMade 1 (some .boolean) 0 := ⟨ini_X5, lw_at3 163 rfl rfl, by decide +kernel⟩
theorem wB_yX5_isMethod : pz_wB yX5_isMethod cX5_isMethod 2 (some .boolean) 1 := ⟨ini_X5, lw_at4 156 rfl rfl, by decide +kernel⟩
theorem wB_yX5_isStepAt : pz_wB yX5_isStepAt cX5_isStepAt 3 (some .boolean) 2 := ⟨ini_X5, lw_at4 64 rfl rfl, by decide +kernel⟩
theorem wB_yX5_lengthOf : pz_wB yX5_lengthOf cX5_lengthOf 2 (some .int) 1 := ⟨ini_X5, lw_at3 182 rfl rfl, by decide +kernel⟩
theorem wB_yX5_make : pz_wB yX5_make cX5_make 3 (some .int) 0 := ⟨ini_X5, lw_at2 133 rfl rfl, by decide +kernel⟩
theorem wB_yX5_makeFunction : pz_wB yX5_makeFunction cX5_makeFunction 5 none 1 := ⟨ini_X5, lw_at2 142 rfl rfl, by decide +kernel⟩
theorem wB_yX5_makeGroup : pz_wB yX5_makeGroup cX5_makeGroup 5 none 2 := ⟨ini_X5, lw_at2 152 rfl rfl, by decide +kernel⟩
theorem wB_yX5_makeJoin : pz_wB yX5_makeJoin cX5_makeJoin 7 none 2 := ⟨ini_X5, lw_at2 191 rfl rfl, by decide +kernel⟩
theorem wB_yX5_makeMethod : pz_wB yX5_makeMethod cX5_makeMethod 6 none 1 := ⟨ini_X5, lw_at3 13 rfl rfl, by decide +kernel⟩
theorem wB_yX5_makeNew : pz_wB yX5_makeNew cX5_makeNew 4 none 2 := ⟨ini_X5, lw_at2 159 rfl rfl, by decide +kernel⟩
theorem wB_yX5_measure : pz_wB yX5_measure cX5_measure 10 none 3 := ⟨ini_X5, lw_at2 216 rfl rfl, by decide +kernel⟩
theorem wB_yX5_methodOfClass : pz_wB yX5_methodOfClass cX5_methodOfClass 2 (some .int) 1 := ⟨ini_X5, lw_at3 17 rfl rfl, by decide +kernel⟩
theorem wB_yX5_movePlaces : pz_wB yX5_movePlaces cX5_movePlaces 4 none 1 := ⟨ini_X5, lw_at3 5 rfl rfl, by decide +kernel⟩
theorem wB_yX5_plainHeightOf : pz_wB yX5_plainHeightOf cX5_plainHeightOf 2 (some .int) 1 := ⟨ini_X5, lw_at3 190 rfl rfl, by decide +kernel⟩
theorem wB_yX5_risesBy : pz_wB yX5_risesBy cX5_risesBy 4 (some .int) 3 := ⟨ini_X5, lw_at2 224 rfl rfl, by decide +kernel⟩
theorem wB_yX5_secondNumberAt : pz_wB yX5_secondNumberAt cX5_secondNumberAt 3 (some .int) 2 := ⟨ini_X5, lw_at3 209 rfl rfl, by decide +kernel⟩
theorem wB_yX5_sourceHeightOf : pz_wB yX5_sourceHeightOf cX5_sourceHeightOf 2 (some .int) 1 := ⟨ini_X5, lw_at3 186 rfl rfl, by decide +kernel⟩
theorem wB_yX5_valuesOfClass : pz_wB yX5_valuesOfClass cX5_valuesOfClass 2 (some .int) 1 := ⟨ini_X5, lw_at3 220 rfl rfl, by decide +kernel⟩
theorem wB_yX5_wordAt : pz_wB yX5_wordAt cX5_wordAt 3 (some .int) 2 := ⟨ini_X5, lw_at3 201 rfl rfl, by decide +kernel⟩
theorem wB_yX6_addFunction : pz_wB yX6_addFunction cX6_addFunction 2 (some .int) 1 := ⟨ini_X6, lw_at3 115 rfl rfl, by decide +kernel⟩
theorem wB_yX6_addInstruction : pz_wB yX6_addInstruction cX6_addInstruction 7 (some .int) 4 := ⟨ini_X6, lw_at3 128 rfl rfl, by decide +kernel⟩
theorem wB_yX6_firstNumberAt : pz_wB yX6_firstNumberAt cX6_firstNumberAt 3 (some .int) 2 := ⟨ini_X6, lw_at2 77 rfl rfl, by decide +kernel⟩
theorem wB_yX6_functionTotal : pz_wB yX6_functionTotal cX6_functionTotal 1 (some .int) 0 := ⟨ini_X6, lw_at2 61 rfl rfl, by decide +kernel⟩
theorem wB_yX6_hasFunction : pz_wB yX6_hasFunction cX6_hasFunction 2 (some .boolean) 1 := ⟨ini_X6, lw_at2 89 rfl rfl, by decide +kernel⟩
theorem wB_yX6_hasNumbersInBounds : pz_wB yX6_hasNumbersInBounds cX6_hasNumbersInBounds 5 (some .boolean) 2 := ⟨ini_X6, lw_at2 73 rfl rfl, by decide +kernel⟩
theorem wB_yX6_init : pz_wB yX6_init cX6_init 1 none 0 := ⟨ini_X6, lw_at1 32 rfl rfl, by decide +kernel⟩
theorem wB_yX6_isStepAt : pz_wB yX6_isStepAt cX6_isStepAt 3 (some .boolean) 2 := ⟨ini_X6, lw_at4 74 rfl rfl, by decide +kernel⟩
theorem wB_yX6_lengthOf : pz_wB yX6_lengthOf cX6_lengthOf 2 (some .int) 1 := ⟨ini_X6, lw_at2 69 rfl rfl, by decide +kernel⟩
theorem wB_yX6_parametersOf : pz_wB yX6_parametersOf cX6_parametersOf 2 (some .int) 1 := ⟨ini_X6, lw_at3 21 rfl rfl, by decide +kernel⟩
theorem wB_yX6_popsOf : pz_wB yX6_popsOf cX6_popsOf 4 (some .int) 3 := ⟨ini_X6, lw_at2 112 rfl rfl, by decide +kernel⟩
theorem wB_yX6_pushesOf : pz_wB yX6_pushesOf cX6_pushesOf 2 (some .int) 1 := ⟨ini_X6, lw_at2 120 rfl rfl, by decide +kernel⟩
theorem wB_yX6_recipes : pz_wB yX6_recipes cX6_recipes 1 (some (.object "FeatureDesugarer$Recipes")) 0 := ⟨ini_X6, lw_at2 187 rfl rfl, by decide +kernel⟩
theorem wB_yX6_secondNumberAt : pz_wB yX6_secondNumberAt cX6_secondNumberAt 3 (some .int) 2 := ⟨ini_X6, lw_at2 81 rfl rfl, by decide +kernel⟩
theorem wB_yX6_wordAt : pz_wB yX6_wordAt cX6_wordAt 3 (some .int) 2 := ⟨ini_X6, lw_at2 85 rfl rfl, by decide +kernel⟩
theorem wB_yX7_add : pz_wB yX7_add cX7_add 7 (some .int) 1 := ⟨ini_X7, lw_at3 148 rfl rfl, by decide +kernel⟩
theorem wB_yX7_addDigit : pz_wB yX7_addDigit cX7_addDigit 3 none 2 := ⟨ini_X7, lw_at3 152 rfl rfl, by decide +kernel⟩
theorem wB_yX7_firstLetterOf : pz_wB yX7_firstLetterOf cX7_firstLetterOf 2 (some .int) 1 := ⟨ini_X7, lw_at2 196 rfl rfl, by decide +kernel⟩
theorem wB_yX7_has : pz_wB yX7_has cX7_has 2 (some .boolean) 1 := ⟨ini_X7, lw_at2 93 rfl rfl, by decide +kernel⟩
theorem wB_yX7_holesOf : pz_wB yX7_holesOf cX7_holesOf 2 (some .int) 1 := ⟨ini_X7, lw_at2 116 rfl rfl, by decide +kernel⟩
theorem wB_yX7_init : pz_wB yX7_init cX7_init 1 none 0 := ⟨ini_X7, lw_at1 38 rfl rfl, by decide +kernel⟩
theorem wB_yX7_isHole : pz_wB yX7_isHole cX7_isHole 3 (some .boolean) 2 := ⟨ini_X7, lw_at2 204 rfl rfl, by decide +kernel⟩
theorem wB_yX7_isReadable : pz_wB yX7_isReadable cX7_isReadable 6 (some .boolean) 1 := ⟨ini_X7, lw_at3 138 rfl rfl, by decide +kernel⟩
theorem wB_yX7_lengthOf : pz_wB yX7_lengthOf cX7_lengthOf 2 (some .int) 1 := ⟨ini_X7, lw_at2 200 rfl rfl, by decide +kernel⟩
theorem wB_yX7_letterAt : pz_wB yX7_letterAt cX7_letterAt 2 (some .int) 1 := ⟨ini_X7, lw_at3 236 rfl rfl, by decide +kernel⟩
theorem wB_yX7_letterTotal : pz_wB yX7_letterTotal cX7_letterTotal 1 (some .int) 0 := ⟨ini_X7, lw_at3 171 rfl rfl, by decide +kernel⟩
theorem wB_yX7_total : pz_wB yX7_total cX7_total 1 (some .int) 0 := ⟨ini_X7, lw_at3 144 rfl rfl, by decide +kernel⟩
theorem wB_yX8_appendLetter : pz_wB yX8_appendLetter cX8_appendLetter 3 (some .boolean) 2 := ⟨ini_X8, lw_at5 18 rfl rfl, by decide +kernel⟩
theorem wB_yX8_appendSpelled : pz_wB yX8_appendSpelled cX8_appendSpelled 3 (some .boolean) 1 := ⟨ini_X8, lw_at5 3 rfl rfl, by decide +kernel⟩
theorem wB_yX8_appendValue : pz_wB yX8_appendValue cX8_appendValue 4 (some .boolean) 2 := ⟨ini_X8, lw_at4 239 rfl rfl, by decide +kernel⟩
theorem wB_yX8_begin : pz_wB yX8_begin cX8_begin 1 (some .long) 0 := ⟨ini_X8, lw_at4 230 rfl rfl, by decide +kernel⟩
theorem wB_yX8_clear : pz_wB yX8_clear cX8_clear 1 none 0 := ⟨ini_X8, lw_at4 19 rfl rfl, by decide +kernel⟩
theorem wB_yX8_init : pz_wB yX8_init cX8_init 1 none 0 := ⟨ini_X8, lw_at1 222 rfl rfl, by decide +kernel⟩
theorem wB_yX8_outputAt : pz_wB yX8_outputAt cX8_outputAt 2 (some .int) 1 := ⟨ini_X8, lw_at5 76 rfl rfl, by decide +kernel⟩
theorem wB_yX8_outputLength : pz_wB yX8_outputLength cX8_outputLength 1 (some .int) 0 := ⟨ini_X8, lw_at5 48 rfl rfl, by decide +kernel⟩
theorem wB_yX8_sayValue : pz_wB yX8_sayValue cX8_sayValue 3 (some .boolean) 1 := ⟨ini_X8, lw_at4 165 rfl rfl, by decide +kernel⟩
theorem wB_yX8_spell : pz_wB yX8_spell cX8_spell 5 none 1 := ⟨ini_X8, lw_at4 169 rfl rfl, by decide +kernel⟩
theorem wB_yX8_spellNumber : pz_wB yX8_spellNumber cX8_spellNumber 7 none 1 := ⟨ini_X8, lw_at4 175 rfl rfl, by decide +kernel⟩
theorem wB_yX9_goesOn : pz_wB yX9_goesOn cX9_goesOn 9 (some .boolean) 3 := ⟨ini_X9, lw_at2 105 rfl rfl, by decide +kernel⟩
theorem wB_yX9_heightAt : pz_wB yX9_heightAt cX9_heightAt 2 (some .int) 1 := ⟨ini_X9, lw_at2 220 rfl rfl, by decide +kernel⟩
theorem wB_yX9_init : pz_wB yX9_init cX9_init 2 none 1 := ⟨ini_X9, lw_at1 89 rfl rfl, by decide +kernel⟩
theorem wB_yX9_isMet : pz_wB yX9_isMet cX9_isMet 2 (some .boolean) 1 := ⟨ini_X9, lw_at2 212 rfl rfl, by decide +kernel⟩
theorem wB_yX9_leastWaiting : pz_wB yX9_leastWaiting cX9_leastWaiting 3 (some .int) 1 := ⟨ini_X9, lw_at2 101 rfl rfl, by decide +kernel⟩
theorem wB_yX9_meets : pz_wB yX9_meets cX9_meets 4 (some .boolean) 3 := ⟨ini_X9, lw_at2 124 rfl rfl, by decide +kernel⟩
theorem wB_yX9_wrongOnWays : pz_wB yX9_wrongOnWays cX9_wrongOnWays 5 (some .int) 2 := ⟨ini_X9, lw_at2 97 rfl rfl, by decide +kernel⟩
theorem wB_yX9_wrongPlace : pz_wB yX9_wrongPlace cX9_wrongPlace 4 (some .int) 1 := ⟨ini_X9, lw_at2 65 rfl rfl, by decide +kernel⟩
end
section
theorem dX1_init_0 : decode cX1_init 0 = .ok (.aload_n 0, 1) := by decide +kernel
theorem dX1_init_1 : decode cX1_init 1 = .ok (.invokespecial 3, 3) := by decide +kernel
theorem dX1_init_4 : decode cX1_init 4 = .ok (.aload_n 0, 1) := by decide +kernel
theorem dX1_init_5 : decode cX1_init 5 = .ok (.sipush 1980, 3) := by decide +kernel
theorem dX1_init_8 : decode cX1_init 8 = .ok (.newarray .long, 2) := by decide +kernel
theorem dX1_init_10 : decode cX1_init 10 = .ok (.putfield 11, 3) := by decide +kernel
theorem dX1_init_13 : decode cX1_init 13 = .ok (.aload_n 0, 1) := by decide +kernel
theorem dX1_init_14 : decode cX1_init 14 = .ok (.bipush 60, 2) := by decide +kernel
theorem dX1_init_16 : decode cX1_init 16 = .ok (.newarray .int, 2) := by decide +kernel
theorem dX1_init_18 : decode cX1_init 18 = .ok (.putfield 15, 3) := by decide +kernel
theorem dX1_init_21 : decode cX1_init 21 = .ok (.aload_n 0, 1) := by decide +kernel
theorem dX1_init_22 : decode cX1_init 22 = .ok (.bipush 60, 2) := by decide +kernel
theorem dX1_init_24 : decode cX1_init 24 = .ok (.newarray .int, 2) := by decide +kernel
theorem dX1_init_26 : decode cX1_init 26 = .ok (.putfield 19, 3) := by decide +kernel
theorem dX1_init_29 : decode cX1_init 29 = .ok (.aload_n 0, 1) := by decide +kernel
theorem dX1_init_30 : decode cX1_init 30 = .ok (.bipush 60, 2) := by decide +kernel
theorem dX1_init_32 : decode cX1_init 32 = .ok (.newarray .int, 2) := by decide +kernel
theorem dX1_init_34 : decode cX1_init 34 = .ok (.putfield 22, 3) := by decide +kernel
theorem dX1_init_37 : decode cX1_init 37 = .ok (.aload_n 0, 1) := by decide +kernel
theorem dX1_init_38 : decode cX1_init 38 = .ok (.bipush 12, 2) := by decide +kernel
theorem dX1_init_40 : decode cX1_init 40 = .ok (.newarray .long, 2) := by decide +kernel
theorem dX1_init_42 : decode cX1_init 42 = .ok (.putfield 25, 3) := by decide +kernel
theorem dX1_init_45 : decode cX1_init 45 = .ok (.return_, 1) := by decide +kernel
theorem dX1_clear_0 : decode cX1_clear 0 = .ok (.aload_n 0, 1) := by decide +kernel
theorem dX1_clear_1 : decode cX1_clear 1 = .ok (.iconst 0, 1) := by decide +kernel
theorem dX1_clear_2 : decode cX1_clear 2 = .ok (.putfield 28, 3) := by decide +kernel
theorem dX1_clear_5 : decode cX1_clear 5 = .ok (.aload_n 0, 1) := by decide +kernel
theorem dX1_clear_6 : decode cX1_clear 6 = .ok (.iconst 0, 1) := by decide +kernel
theorem dX1_clear_7 : decode cX1_clear 7 = .ok (.putfield 32, 3) := by decide +kernel
theorem dX1_clear_10 : decode cX1_clear 10 = .ok (.return_, 1) := by decide +kernel
theorem dX1_areOpen_0 : decode cX1_areOpen 0 = .ok (.aload_n 0, 1) := by decide +kernel
theorem dX1_areOpen_1 : decode cX1_areOpen 1 = .ok (.getfield 28, 3) := by decide +kernel
theorem dX1_areOpen_4 : decode cX1_areOpen 4 = .ok (.ifCond .le 7, 3) := by decide +kernel
theorem dX1_areOpen_7 : decode cX1_areOpen 7 = .ok (.iconst 1, 1) := by decide +kernel
theorem dX1_areOpen_8 : decode cX1_areOpen 8 = .ok (.goto 4, 3) := by decide +kernel
theorem dX1_areOpen_11 : decode cX1_areOpen 11 = .ok (.iconst 0, 1) := by decide +kernel
theorem dX1_areOpen_12 : decode cX1_areOpen 12 = .ok (.ireturn, 1) := by decide +kernel
theorem dX1_open_0 : decode cX1_open 0 = .ok (.aload_n 0, 1) := by decide +kernel
theorem dX1_open_1 : decode cX1_open 1 = .ok (.getfield 28, 3) := by decide +kernel
theorem dX1_open_4 : decode cX1_open 4 = .ok (.bipush 60, 2) := by decide +kernel
theorem dX1_open_6 : decode cX1_open 6 = .ok (.if_icmp .ge 87, 3) := by decide +kernel
theorem dX1_open_9 : decode cX1_open 9 = .ok (.aload_n 0, 1) := by decide +kernel
theorem dX1_open_10 : decode cX1_open 10 = .ok (.aload_n 0, 1) := by decide +kernel
theorem dX1_open_11 : decode cX1_open 11 = .ok (.getfield 28, 3) := by decide +kernel
theorem dX1_open_14 : decode cX1_open 14 = .ok (.putfield 32, 3) := by decide +kernel
theorem dX1_open_17 : decode cX1_open 17 = .ok (.aload_n 0, 1) := by decide +kernel
theorem dX1_open_18 : decode cX1_open 18 = .ok (.dup, 1) := by decide +kernel
theorem dX1_open_19 : decode cX1_open 19 = .ok (.getfield 28, 3) := by decide +kernel
theorem dX1_open_22 : decode cX1_open 22 = .ok (.iconst 1, 1) := by decide +kernel
theorem dX1_open_23 : decode cX1_open 23 = .ok (.iadd, 1) := by decide +kernel
theorem dX1_open_24 : decode cX1_open 24 = .ok (.putfield 28, 3) := by decide +kernel
theorem dX1_open_27 : decode cX1_open 27 = .ok (.aload_n 0, 1) := by decide +kernel
theorem dX1_open_28 : decode cX1_open 28 = .ok (.getfield 15, 3) := by decide +kernel
theorem dX1_open_31 : decode cX1_open 31 = .ok (.aload_n 0, 1) := by decide +kernel
theorem dX1_open_32 : decode cX1_open 32 = .ok (.getfield 32, 3) := by decide +kernel
theorem dX1_open_35 : decode cX1_open 35 = .ok (.iload_n 1, 1) := by decide +kernel
theorem dX1_open_36 : decode cX1_open 36 = .ok (.iastore, 1) := by decide +kernel
theorem dX1_open_37 : decode cX1_open 37 = .ok (.aload_n 0, 1) := by decide +kernel
theorem dX1_open_38 : decode cX1_open 38 = .ok (.getfield 19, 3) := by decide +kernel
theorem dX1_open_41 : decode cX1_open 41 = .ok (.aload_n 0, 1) := by decide +kernel
theorem dX1_open_42 : decode cX1_open 42 = .ok (.getfield 32, 3) := by decide +kernel
theorem dX1_open_45 : decode cX1_open 45 = .ok (.iconst 0, 1) := by decide +kernel
theorem dX1_open_46 : decode cX1_open 46 = .ok (.iastore, 1) := by decide +kernel
theorem dX1_open_47 : decode cX1_open 47 = .ok (.aload_n 0, 1) := by decide +kernel
theorem dX1_open_48 : decode cX1_open 48 = .ok (.getfield 32, 3) := by decide +kernel
theorem dX1_open_51 : decode cX1_open 51 = .ok (.bipush 33, 2) := by decide +kernel
theorem dX1_open_53 : decode cX1_open 53 = .ok (.imul, 1) := by decide +kernel
theorem dX1_open_54 : decode cX1_open 54 = .ok (.istore_n 2, 1) := by decide +kernel
theorem dX1_open_55 : decode cX1_open 55 = .ok (.iconst 0, 1) := by decide +kernel
theorem dX1_open_56 : decode cX1_open 56 = .ok (.istore_n 3, 1) := by decide +kernel
theorem dX1_open_57 : decode cX1_open 57 = .ok (.iload_n 3, 1) := by decide +kernel
theorem dX1_open_58 : decode cX1_open 58 = .ok (.bipush 20, 2) := by decide +kernel
theorem dX1_open_60 : decode cX1_open 60 = .ok (.if_icmp .ge 20, 3) := by decide +kernel
theorem dX1_open_63 : decode cX1_open 63 = .ok (.aload_n 0, 1) := by decide +kernel
theorem dX1_open_64 : decode cX1_open 64 = .ok (.getfield 11, 3) := by decide +kernel
theorem dX1_open_67 : decode cX1_open 67 = .ok (.iload_n 2, 1) := by decide +kernel
theorem dX1_open_68 : decode cX1_open 68 = .ok (.iload_n 3, 1) := by decide +kernel
theorem dX1_open_69 : decode cX1_open 69 = .ok (.iadd, 1) := by decide +kernel
theorem dX1_open_70 : decode cX1_open 70 = .ok (.ldc2_w 35, 3) := by decide +kernel
theorem dX1_open_73 : decode cX1_open 73 = .ok (.lastore, 1) := by decide +kernel
theorem dX1_open_74 : decode cX1_open 74 = .ok (.iinc 3 1, 3) := by decide +kernel
theorem dX1_open_77 : decode cX1_open 77 = .ok (.goto (-20), 3) := by decide +kernel
theorem dX1_open_80 : decode cX1_open 80 = .ok (.aload_n 0, 1) := by decide +kernel
theorem dX1_open_81 : decode cX1_open 81 = .ok (.getfield 22, 3) := by decide +kernel
theorem dX1_open_84 : decode cX1_open 84 = .ok (.aload_n 0, 1) := by decide +kernel
theorem dX1_open_85 : decode cX1_open 85 = .ok (.getfield 32, 3) := by decide +kernel
theorem dX1_open_88 : decode cX1_open 88 = .ok (.iload_n 2, 1) := by decide +kernel
theorem dX1_open_89 : decode cX1_open 89 = .ok (.bipush 20, 2) := by decide +kernel
theorem dX1_open_91 : decode cX1_open 91 = .ok (.iadd, 1) := by decide +kernel
theorem dX1_open_92 : decode cX1_open 92 = .ok (.iastore, 1) := by decide +kernel
theorem dX1_open_93 : decode cX1_open 93 = .ok (.return_, 1) := by decide +kernel
theorem dX1_close_0 : decode cX1_close 0 = .ok (.aload_n 0, 1) := by decide +kernel
theorem dX1_close_1 : decode cX1_close 1 = .ok (.dup, 1) := by decide +kernel
theorem dX1_close_2 : decode cX1_close 2 = .ok (.getfield 28, 3) := by decide +kernel
theorem dX1_close_5 : decode cX1_close 5 = .ok (.iconst 1, 1) := by decide +kernel
theorem dX1_close_6 : decode cX1_close 6 = .ok (.isub, 1) := by decide +kernel
theorem dX1_close_7 : decode cX1_close 7 = .ok (.putfield 28, 3) := by decide +kernel
theorem dX1_close_10 : decode cX1_close 10 = .ok (.aload_n 0, 1) := by decide +kernel
theorem dX1_close_11 : decode cX1_close 11 = .ok (.aload_n 0, 1) := by decide +kernel
theorem dX1_close_12 : decode cX1_close 12 = .ok (.getfield 28, 3) := by decide +kernel
theorem dX1_close_15 : decode cX1_close 15 = .ok (.iconst 1, 1) := by decide +kernel
theorem dX1_close_16 : decode cX1_close 16 = .ok (.isub, 1) := by decide +kernel
theorem dX1_close_17 : decode cX1_close 17 = .ok (.iconst 0, 1) := by decide +kernel
theorem dX1_close_18 : decode cX1_close 18 = .ok (.invokestatic 37, 3) := by decide +kernel
theorem dX1_close_21 : decode cX1_close 21 = .ok (.putfield 32, 3) := by decide +kernel
theorem dX1_close_24 : decode cX1_close 24 = .ok (.return_, 1) := by decide +kernel
theorem dX1_unit_0 : decode cX1_unit 0 = .ok (.aload_n 0, 1) := by decide +kernel
theorem dX1_unit_1 : decode cX1_unit 1 = .ok (.getfield 15, 3) := by decide +kernel
theorem dX1_unit_4 : decode cX1_unit 4 = .ok (.aload_n 0, 1) := by decide +kernel
theorem dX1_unit_5 : decode cX1_unit 5 = .ok (.getfield 32, 3) := by decide +kernel
theorem dX1_unit_8 : decode cX1_unit 8 = .ok (.iaload, 1) := by decide +kernel
theorem dX1_unit_9 : decode cX1_unit 9 = .ok (.ireturn, 1) := by decide +kernel
theorem dX1_place_0 : decode cX1_place 0 = .ok (.aload_n 0, 1) := by decide +kernel
theorem dX1_place_1 : decode cX1_place 1 = .ok (.getfield 19, 3) := by decide +kernel
theorem dX1_place_4 : decode cX1_place 4 = .ok (.aload_n 0, 1) := by decide +kernel
theorem dX1_place_5 : decode cX1_place 5 = .ok (.getfield 32, 3) := by decide +kernel
theorem dX1_place_8 : decode cX1_place 8 = .ok (.iaload, 1) := by decide +kernel
theorem dX1_place_9 : decode cX1_place 9 = .ok (.ireturn, 1) := by decide +kernel
theorem dX1_goTo_0 : decode cX1_goTo 0 = .ok (.aload_n 0, 1) := by decide +kernel
theorem dX1_goTo_1 : decode cX1_goTo 1 = .ok (.getfield 19, 3) := by decide +kernel
theorem dX1_goTo_4 : decode cX1_goTo 4 = .ok (.aload_n 0, 1) := by decide +kernel
theorem dX1_goTo_5 : decode cX1_goTo 5 = .ok (.getfield 32, 3) := by decide +kernel
theorem dX1_goTo_8 : decode cX1_goTo 8 = .ok (.iload_n 1, 1) := by decide +kernel
theorem dX1_goTo_9 : decode cX1_goTo 9 = .ok (.iastore, 1) := by decide +kernel
theorem dX1_goTo_10 : decode cX1_goTo 10 = .ok (.return_, 1) := by decide +kernel
theorem dX1_local_0 : decode cX1_local 0 = .ok (.aload_n 0, 1) := by decide +kernel
theorem dX1_local_1 : decode cX1_local 1 = .ok (.getfield 11, 3) := by decide +kernel
theorem dX1_local_4 : decode cX1_local 4 = .ok (.aload_n 0, 1) := by decide +kernel
theorem dX1_local_5 : decode cX1_local 5 = .ok (.getfield 32, 3) := by decide +kernel
theorem dX1_local_8 : decode cX1_local 8 = .ok (.bipush 33, 2) := by decide +kernel
theorem dX1_local_10 : decode cX1_local 10 = .ok (.imul, 1) := by decide +kernel
theorem dX1_local_11 : decode cX1_local 11 = .ok (.iload_n 1, 1) := by decide +kernel
theorem dX1_local_12 : decode cX1_local 12 = .ok (.iadd, 1) := by decide +kernel
theorem dX1_local_13 : decode cX1_local 13 = .ok (.laload, 1) := by decide +kernel
theorem dX1_local_14 : decode cX1_local 14 = .ok (.lreturn, 1) := by decide +kernel
theorem dX1_setLocal_0 : decode cX1_setLocal 0 = .ok (.aload_n 0, 1) := by decide +kernel
theorem dX1_setLocal_1 : decode cX1_setLocal 1 = .ok (.getfield 11, 3) := by decide +kernel
theorem dX1_setLocal_4 : decode cX1_setLocal 4 = .ok (.aload_n 0, 1) := by decide +kernel
theorem dX1_setLocal_5 : decode cX1_setLocal 5 = .ok (.getfield 32, 3) := by decide +kernel
theorem dX1_setLocal_8 : decode cX1_setLocal 8 = .ok (.bipush 33, 2) := by decide +kernel
theorem dX1_setLocal_10 : decode cX1_setLocal 10 = .ok (.imul, 1) := by decide +kernel
theorem dX1_setLocal_11 : decode cX1_setLocal 11 = .ok (.iload_n 1, 1) := by decide +kernel
theorem dX1_setLocal_12 : decode cX1_setLocal 12 = .ok (.iadd, 1) := by decide +kernel
theorem dX1_setLocal_13 : decode cX1_setLocal 13 = .ok (.lload_n 2, 1) := by decide +kernel
theorem dX1_setLocal_14 : decode cX1_setLocal 14 = .ok (.lastore, 1) := by decide +kernel
theorem dX1_setLocal_15 : decode cX1_setLocal 15 = .ok (.return_, 1) := by decide +kernel
theorem dX1_push_0 : decode cX1_push 0 = .ok (.aload_n 0, 1) := by decide +kernel
theorem dX1_push_1 : decode cX1_push 1 = .ok (.getfield 22, 3) := by decide +kernel
theorem dX1_push_4 : decode cX1_push 4 = .ok (.aload_n 0, 1) := by decide +kernel
theorem dX1_push_5 : decode cX1_push 5 = .ok (.getfield 32, 3) := by decide +kernel
theorem dX1_push_8 : decode cX1_push 8 = .ok (.iaload, 1) := by decide +kernel
theorem dX1_push_9 : decode cX1_push 9 = .ok (.aload_n 0, 1) := by decide +kernel
theorem dX1_push_10 : decode cX1_push 10 = .ok (.getfield 32, 3) := by decide +kernel
theorem dX1_push_13 : decode cX1_push 13 = .ok (.iconst 1, 1) := by decide +kernel
theorem dX1_push_14 : decode cX1_push 14 = .ok (.iadd, 1) := by decide +kernel
theorem dX1_push_15 : decode cX1_push 15 = .ok (.bipush 33, 2) := by decide +kernel
theorem dX1_push_17 : decode cX1_push 17 = .ok (.imul, 1) := by decide +kernel
theorem dX1_push_18 : decode cX1_push 18 = .ok (.if_icmp .ge 31, 3) := by decide +kernel
theorem dX1_push_21 : decode cX1_push 21 = .ok (.aload_n 0, 1) := by decide +kernel
theorem dX1_push_22 : decode cX1_push 22 = .ok (.getfield 11, 3) := by decide +kernel
theorem dX1_push_25 : decode cX1_push 25 = .ok (.aload_n 0, 1) := by decide +kernel
theorem dX1_push_26 : decode cX1_push 26 = .ok (.getfield 22, 3) := by decide +kernel
theorem dX1_push_29 : decode cX1_push 29 = .ok (.aload_n 0, 1) := by decide +kernel
theorem dX1_push_30 : decode cX1_push 30 = .ok (.getfield 32, 3) := by decide +kernel
theorem dX1_push_33 : decode cX1_push 33 = .ok (.iaload, 1) := by decide +kernel
theorem dX1_push_34 : decode cX1_push 34 = .ok (.lload_n 1, 1) := by decide +kernel
theorem dX1_push_35 : decode cX1_push 35 = .ok (.lastore, 1) := by decide +kernel
theorem dX1_push_36 : decode cX1_push 36 = .ok (.aload_n 0, 1) := by decide +kernel
theorem dX1_push_37 : decode cX1_push 37 = .ok (.getfield 22, 3) := by decide +kernel
theorem dX1_push_40 : decode cX1_push 40 = .ok (.aload_n 0, 1) := by decide +kernel
theorem dX1_push_41 : decode cX1_push 41 = .ok (.getfield 32, 3) := by decide +kernel
theorem dX1_push_44 : decode cX1_push 44 = .ok (.dup2, 1) := by decide +kernel
theorem dX1_push_45 : decode cX1_push 45 = .ok (.iaload, 1) := by decide +kernel
theorem dX1_push_46 : decode cX1_push 46 = .ok (.iconst 1, 1) := by decide +kernel
theorem dX1_push_47 : decode cX1_push 47 = .ok (.iadd, 1) := by decide +kernel
theorem dX1_push_48 : decode cX1_push 48 = .ok (.iastore, 1) := by decide +kernel
theorem dX1_push_49 : decode cX1_push 49 = .ok (.return_, 1) := by decide +kernel
theorem dX1_pop_0 : decode cX1_pop 0 = .ok (.aload_n 0, 1) := by decide +kernel
theorem dX1_pop_1 : decode cX1_pop 1 = .ok (.getfield 22, 3) := by decide +kernel
theorem dX1_pop_4 : decode cX1_pop 4 = .ok (.aload_n 0, 1) := by decide +kernel
theorem dX1_pop_5 : decode cX1_pop 5 = .ok (.getfield 32, 3) := by decide +kernel
theorem dX1_pop_8 : decode cX1_pop 8 = .ok (.iaload, 1) := by decide +kernel
theorem dX1_pop_9 : decode cX1_pop 9 = .ok (.aload_n 0, 1) := by decide +kernel
theorem dX1_pop_10 : decode cX1_pop 10 = .ok (.getfield 32, 3) := by decide +kernel
theorem dX1_pop_13 : decode cX1_pop 13 = .ok (.bipush 33, 2) := by decide +kernel
theorem dX1_pop_15 : decode cX1_pop 15 = .ok (.imul, 1) := by decide +kernel
theorem dX1_pop_16 : decode cX1_pop 16 = .ok (.bipush 20, 2) := by decide +kernel
theorem dX1_pop_18 : decode cX1_pop 18 = .ok (.iadd, 1) := by decide +kernel
theorem dX1_pop_19 : decode cX1_pop 19 = .ok (.if_icmp .ne 7, 3) := by decide +kernel
theorem dX1_pop_22 : decode cX1_pop 22 = .ok (.ldc2_w 35, 3) := by decide +kernel
theorem dX1_pop_25 : decode cX1_pop 25 = .ok (.lreturn, 1) := by decide +kernel
theorem dX1_pop_26 : decode cX1_pop 26 = .ok (.aload_n 0, 1) := by decide +kernel
theorem dX1_pop_27 : decode cX1_pop 27 = .ok (.getfield 22, 3) := by decide +kernel
theorem dX1_pop_30 : decode cX1_pop 30 = .ok (.aload_n 0, 1) := by decide +kernel
theorem dX1_pop_31 : decode cX1_pop 31 = .ok (.getfield 32, 3) := by decide +kernel
theorem dX1_pop_34 : decode cX1_pop 34 = .ok (.dup2, 1) := by decide +kernel
theorem dX1_pop_35 : decode cX1_pop 35 = .ok (.iaload, 1) := by decide +kernel
theorem dX1_pop_36 : decode cX1_pop 36 = .ok (.iconst 1, 1) := by decide +kernel
theorem dX1_pop_37 : decode cX1_pop 37 = .ok (.isub, 1) := by decide +kernel
theorem dX1_pop_38 : decode cX1_pop 38 = .ok (.iastore, 1) := by decide +kernel
theorem dX1_pop_39 : decode cX1_pop 39 = .ok (.aload_n 0, 1) := by decide +kernel
theorem dX1_pop_40 : decode cX1_pop 40 = .ok (.getfield 11, 3) := by decide +kernel
theorem dX1_pop_43 : decode cX1_pop 43 = .ok (.aload_n 0, 1) := by decide +kernel
theorem dX1_pop_44 : decode cX1_pop 44 = .ok (.getfield 22, 3) := by decide +kernel
theorem dX1_pop_47 : decode cX1_pop 47 = .ok (.aload_n 0, 1) := by decide +kernel
theorem dX1_pop_48 : decode cX1_pop 48 = .ok (.getfield 32, 3) := by decide +kernel
theorem dX1_pop_51 : decode cX1_pop 51 = .ok (.iaload, 1) := by decide +kernel
theorem dX1_pop_52 : decode cX1_pop 52 = .ok (.laload, 1) := by decide +kernel
theorem dX1_pop_53 : decode cX1_pop 53 = .ok (.lreturn, 1) := by decide +kernel
theorem dX1_take_0 : decode cX1_take 0 = .ok (.iload_n 1, 1) := by decide +kernel
theorem dX1_take_1 : decode cX1_take 1 = .ok (.iconst 1, 1) := by decide +kernel
theorem dX1_take_2 : decode cX1_take 2 = .ok (.isub, 1) := by decide +kernel
theorem dX1_take_3 : decode cX1_take 3 = .ok (.istore_n 2, 1) := by decide +kernel
theorem dX1_take_4 : decode cX1_take 4 = .ok (.iload_n 2, 1) := by decide +kernel
theorem dX1_take_5 : decode cX1_take 5 = .ok (.ifCond .lt 19, 3) := by decide +kernel
theorem dX1_take_8 : decode cX1_take 8 = .ok (.aload_n 0, 1) := by decide +kernel
theorem dX1_take_9 : decode cX1_take 9 = .ok (.getfield 25, 3) := by decide +kernel
theorem dX1_take_12 : decode cX1_take 12 = .ok (.iload_n 2, 1) := by decide +kernel
theorem dX1_take_13 : decode cX1_take 13 = .ok (.aload_n 0, 1) := by decide +kernel
theorem dX1_take_14 : decode cX1_take 14 = .ok (.invokevirtual 43, 3) := by decide +kernel
theorem dX1_take_17 : decode cX1_take 17 = .ok (.lastore, 1) := by decide +kernel
theorem dX1_take_18 : decode cX1_take 18 = .ok (.iinc 2 (-1), 3) := by decide +kernel
theorem dX1_take_21 : decode cX1_take 21 = .ok (.goto (-17), 3) := by decide +kernel
theorem dX1_take_24 : decode cX1_take 24 = .ok (.return_, 1) := by decide +kernel
theorem dX1_takenAt_0 : decode cX1_takenAt 0 = .ok (.aload_n 0, 1) := by decide +kernel
theorem dX1_takenAt_1 : decode cX1_takenAt 1 = .ok (.getfield 25, 3) := by decide +kernel
theorem dX1_takenAt_4 : decode cX1_takenAt 4 = .ok (.iload_n 1, 1) := by decide +kernel
theorem dX1_takenAt_5 : decode cX1_takenAt 5 = .ok (.laload, 1) := by decide +kernel
theorem dX1_takenAt_6 : decode cX1_takenAt 6 = .ok (.lreturn, 1) := by decide +kernel
theorem dX1_setLocalsToTaken_0 : decode cX1_setLocalsToTaken 0 = .ok (.iconst 0, 1) := by decide +kernel
theorem dX1_setLocalsToTaken_1 : decode cX1_setLocalsToTaken 1 = .ok (.istore_n 3, 1) := by decide +kernel
theorem dX1_setLocalsToTaken_2 : decode cX1_setLocalsToTaken 2 = .ok (.iload_n 3, 1) := by decide +kernel
theorem dX1_setLocalsToTaken_3 : decode cX1_setLocalsToTaken 3 = .ok (.iload_n 2, 1) := by decide +kernel
theorem dX1_setLocalsToTaken_4 : decode cX1_setLocalsToTaken 4 = .ok (.if_icmp .ge 22, 3) := by decide +kernel
theorem dX1_setLocalsToTaken_7 : decode cX1_setLocalsToTaken 7 = .ok (.aload_n 0, 1) := by decide +kernel
theorem dX1_setLocalsToTaken_8 : decode cX1_setLocalsToTaken 8 = .ok (.iload_n 1, 1) := by decide +kernel
theorem dX1_setLocalsToTaken_9 : decode cX1_setLocalsToTaken 9 = .ok (.iload_n 3, 1) := by decide +kernel
theorem dX1_setLocalsToTaken_10 : decode cX1_setLocalsToTaken 10 = .ok (.iadd, 1) := by decide +kernel
theorem dX1_setLocalsToTaken_11 : decode cX1_setLocalsToTaken 11 = .ok (.aload_n 0, 1) := by decide +kernel
theorem dX1_setLocalsToTaken_12 : decode cX1_setLocalsToTaken 12 = .ok (.getfield 25, 3) := by decide +kernel
theorem dX1_setLocalsToTaken_15 : decode cX1_setLocalsToTaken 15 = .ok (.iload_n 3, 1) := by decide +kernel
theorem dX1_setLocalsToTaken_16 : decode cX1_setLocalsToTaken 16 = .ok (.laload, 1) := by decide +kernel
theorem dX1_setLocalsToTaken_17 : decode cX1_setLocalsToTaken 17 = .ok (.invokevirtual 47, 3) := by decide +kernel
theorem dX1_setLocalsToTaken_20 : decode cX1_setLocalsToTaken 20 = .ok (.iinc 3 1, 3) := by decide +kernel
theorem dX1_setLocalsToTaken_23 : decode cX1_setLocalsToTaken 23 = .ok (.goto (-21), 3) := by decide +kernel
theorem dX1_setLocalsToTaken_26 : decode cX1_setLocalsToTaken 26 = .ok (.return_, 1) := by decide +kernel
theorem dX2_init_0 : decode cX2_init 0 = .ok (.aload_n 0, 1) := by decide +kernel
theorem dX2_init_1 : decode cX2_init 1 = .ok (.invokespecial 3, 3) := by decide +kernel
theorem dX2_init_4 : decode cX2_init 4 = .ok (.aload_n 0, 1) := by decide +kernel
theorem dX2_init_5 : decode cX2_init 5 = .ok (.sipush 400, 3) := by decide +kernel
theorem dX2_init_8 : decode cX2_init 8 = .ok (.newarray .int, 2) := by decide +kernel
theorem dX2_init_10 : decode cX2_init 10 = .ok (.putfield 9, 3) := by decide +kernel
theorem dX2_init_13 : decode cX2_init 13 = .ok (.aload_n 0, 1) := by decide +kernel
theorem dX2_init_14 : decode cX2_init 14 = .ok (.sipush 400, 3) := by decide +kernel
theorem dX2_init_17 : decode cX2_init 17 = .ok (.newarray .int, 2) := by decide +kernel
theorem dX2_init_19 : decode cX2_init 19 = .ok (.putfield 15, 3) := by decide +kernel
theorem dX2_init_22 : decode cX2_init 22 = .ok (.aload_n 0, 1) := by decide +kernel
theorem dX2_init_23 : decode cX2_init 23 = .ok (.sipush 1200, 3) := by decide +kernel
theorem dX2_init_26 : decode cX2_init 26 = .ok (.newarray .long, 2) := by decide +kernel
theorem dX2_init_28 : decode cX2_init 28 = .ok (.putfield 18, 3) := by decide +kernel
theorem dX2_init_31 : decode cX2_init 31 = .ok (.return_, 1) := by decide +kernel
theorem dX2_clear_0 : decode cX2_clear 0 = .ok (.aload_n 0, 1) := by decide +kernel
theorem dX2_clear_1 : decode cX2_clear 1 = .ok (.iconst 0, 1) := by decide +kernel
theorem dX2_clear_2 : decode cX2_clear 2 = .ok (.putfield 22, 3) := by decide +kernel
theorem dX2_clear_5 : decode cX2_clear 5 = .ok (.return_, 1) := by decide +kernel
theorem dX2_add_0 : decode cX2_add 0 = .ok (.aload_n 0, 1) := by decide +kernel
theorem dX2_add_1 : decode cX2_add 1 = .ok (.getfield 22, 3) := by decide +kernel
theorem dX2_add_4 : decode cX2_add 4 = .ok (.sipush 400, 3) := by decide +kernel
theorem dX2_add_7 : decode cX2_add 7 = .ok (.if_icmp .ne 7, 3) := by decide +kernel
theorem dX2_add_10 : decode cX2_add 10 = .ok (.ldc2_w 26, 3) := by decide +kernel
theorem dX2_add_13 : decode cX2_add 13 = .ok (.lreturn, 1) := by decide +kernel
theorem dX2_add_14 : decode cX2_add 14 = .ok (.aload_n 0, 1) := by decide +kernel
theorem dX2_add_15 : decode cX2_add 15 = .ok (.getfield 22, 3) := by decide +kernel
theorem dX2_add_18 : decode cX2_add 18 = .ok (.istore_n 3, 1) := by decide +kernel
theorem dX2_add_19 : decode cX2_add 19 = .ok (.aload_n 0, 1) := by decide +kernel
theorem dX2_add_20 : decode cX2_add 20 = .ok (.dup, 1) := by decide +kernel
theorem dX2_add_21 : decode cX2_add 21 = .ok (.getfield 22, 3) := by decide +kernel
theorem dX2_add_24 : decode cX2_add 24 = .ok (.iconst 1, 1) := by decide +kernel
theorem dX2_add_25 : decode cX2_add 25 = .ok (.iadd, 1) := by decide +kernel
theorem dX2_add_26 : decode cX2_add 26 = .ok (.putfield 22, 3) := by decide +kernel
theorem dX2_add_29 : decode cX2_add 29 = .ok (.aload_n 0, 1) := by decide +kernel
theorem dX2_add_30 : decode cX2_add 30 = .ok (.getfield 9, 3) := by decide +kernel
theorem dX2_add_33 : decode cX2_add 33 = .ok (.iload_n 3, 1) := by decide +kernel
theorem dX2_add_34 : decode cX2_add 34 = .ok (.iload_n 1, 1) := by decide +kernel
theorem dX2_add_35 : decode cX2_add 35 = .ok (.iastore, 1) := by decide +kernel
theorem dX2_add_36 : decode cX2_add 36 = .ok (.aload_n 0, 1) := by decide +kernel
theorem dX2_add_37 : decode cX2_add 37 = .ok (.getfield 15, 3) := by decide +kernel
theorem dX2_add_40 : decode cX2_add 40 = .ok (.iload_n 3, 1) := by decide +kernel
theorem dX2_add_41 : decode cX2_add 41 = .ok (.iload_n 2, 1) := by decide +kernel
theorem dX2_add_42 : decode cX2_add 42 = .ok (.iastore, 1) := by decide +kernel
theorem dX2_add_43 : decode cX2_add 43 = .ok (.iconst 0, 1) := by decide +kernel
theorem dX2_add_44 : decode cX2_add 44 = .ok (.istore 4, 2) := by decide +kernel
theorem dX2_add_46 : decode cX2_add 46 = .ok (.iload 4, 2) := by decide +kernel
theorem dX2_add_48 : decode cX2_add 48 = .ok (.iload_n 2, 1) := by decide +kernel
theorem dX2_add_49 : decode cX2_add 49 = .ok (.if_icmp .ge 23, 3) := by decide +kernel
theorem dX2_add_52 : decode cX2_add 52 = .ok (.aload_n 0, 1) := by decide +kernel
theorem dX2_add_53 : decode cX2_add 53 = .ok (.getfield 18, 3) := by decide +kernel
theorem dX2_add_56 : decode cX2_add 56 = .ok (.iload_n 3, 1) := by decide +kernel
theorem dX2_add_57 : decode cX2_add 57 = .ok (.iconst 3, 1) := by decide +kernel
theorem dX2_add_58 : decode cX2_add 58 = .ok (.imul, 1) := by decide +kernel
theorem dX2_add_59 : decode cX2_add 59 = .ok (.iload 4, 2) := by decide +kernel
theorem dX2_add_61 : decode cX2_add 61 = .ok (.iadd, 1) := by decide +kernel
theorem dX2_add_62 : decode cX2_add 62 = .ok (.ldc2_w 26, 3) := by decide +kernel
theorem dX2_add_65 : decode cX2_add 65 = .ok (.lastore, 1) := by decide +kernel
theorem dX2_add_66 : decode cX2_add 66 = .ok (.iinc 4 1, 3) := by decide +kernel
theorem dX2_add_69 : decode cX2_add 69 = .ok (.goto (-23), 3) := by decide +kernel
theorem dX2_add_72 : decode cX2_add 72 = .ok (.iconst 3, 1) := by decide +kernel
theorem dX2_add_73 : decode cX2_add 73 = .ok (.iload_n 3, 1) := by decide +kernel
theorem dX2_add_74 : decode cX2_add 74 = .ok (.invokestatic 28, 3) := by decide +kernel
theorem dX2_add_77 : decode cX2_add 77 = .ok (.lreturn, 1) := by decide +kernel
theorem dX2_typeOf_0 : decode cX2_typeOf 0 = .ok (.aload_n 0, 1) := by decide +kernel
theorem dX2_typeOf_1 : decode cX2_typeOf 1 = .ok (.getfield 9, 3) := by decide +kernel
theorem dX2_typeOf_4 : decode cX2_typeOf 4 = .ok (.iload_n 1, 1) := by decide +kernel
theorem dX2_typeOf_5 : decode cX2_typeOf 5 = .ok (.iaload, 1) := by decide +kernel
theorem dX2_typeOf_6 : decode cX2_typeOf 6 = .ok (.ireturn, 1) := by decide +kernel
theorem dX2_sizeOf_0 : decode cX2_sizeOf 0 = .ok (.aload_n 0, 1) := by decide +kernel
theorem dX2_sizeOf_1 : decode cX2_sizeOf 1 = .ok (.getfield 15, 3) := by decide +kernel
theorem dX2_sizeOf_4 : decode cX2_sizeOf 4 = .ok (.iload_n 1, 1) := by decide +kernel
theorem dX2_sizeOf_5 : decode cX2_sizeOf 5 = .ok (.iaload, 1) := by decide +kernel
theorem dX2_sizeOf_6 : decode cX2_sizeOf 6 = .ok (.ireturn, 1) := by decide +kernel
theorem dX2_valueAt_0 : decode cX2_valueAt 0 = .ok (.aload_n 0, 1) := by decide +kernel
theorem dX2_valueAt_1 : decode cX2_valueAt 1 = .ok (.getfield 18, 3) := by decide +kernel
theorem dX2_valueAt_4 : decode cX2_valueAt 4 = .ok (.iload_n 1, 1) := by decide +kernel
theorem dX2_valueAt_5 : decode cX2_valueAt 5 = .ok (.iconst 3, 1) := by decide +kernel
theorem dX2_valueAt_6 : decode cX2_valueAt 6 = .ok (.imul, 1) := by decide +kernel
theorem dX2_valueAt_7 : decode cX2_valueAt 7 = .ok (.iload_n 2, 1) := by decide +kernel
theorem dX2_valueAt_8 : decode cX2_valueAt 8 = .ok (.iadd, 1) := by decide +kernel
theorem dX2_valueAt_9 : decode cX2_valueAt 9 = .ok (.laload, 1) := by decide +kernel
theorem dX2_valueAt_10 : decode cX2_valueAt 10 = .ok (.lreturn, 1) := by decide +kernel
theorem dX2_setValue_0 : decode cX2_setValue 0 = .ok (.aload_n 0, 1) := by decide +kernel
theorem dX2_setValue_1 : decode cX2_setValue 1 = .ok (.getfield 18, 3) := by decide +kernel
theorem dX2_setValue_4 : decode cX2_setValue 4 = .ok (.iload_n 1, 1) := by decide +kernel
theorem dX2_setValue_5 : decode cX2_setValue 5 = .ok (.iconst 3, 1) := by decide +kernel
theorem dX2_setValue_6 : decode cX2_setValue 6 = .ok (.imul, 1) := by decide +kernel
theorem dX2_setValue_7 : decode cX2_setValue 7 = .ok (.iload_n 2, 1) := by decide +kernel
theorem dX2_setValue_8 : decode cX2_setValue 8 = .ok (.iadd, 1) := by decide +kernel
theorem dX2_setValue_9 : decode cX2_setValue 9 = .ok (.lload_n 3, 1) := by decide +kernel
theorem dX2_setValue_10 : decode cX2_setValue 10 = .ok (.lastore, 1) := by decide +kernel
theorem dX2_setValue_11 : decode cX2_setValue 11 = .ok (.return_, 1) := by decide +kernel
theorem dX3_init_0 : decode cX3_init 0 = .ok (.aload_n 0, 1) := by decide +kernel
theorem dX3_init_1 : decode cX3_init 1 = .ok (.invokespecial 1, 3) := by decide +kernel
theorem dX3_init_4 : decode cX3_init 4 = .ok (.aload_n 0, 1) := by decide +kernel
theorem dX3_init_5 : decode cX3_init 5 = .ok (.bipush 64, 2) := by decide +kernel
theorem dX3_init_7 : decode cX3_init 7 = .ok (.newarray .int, 2) := by decide +kernel
theorem dX3_init_9 : decode cX3_init 9 = .ok (.putfield 7, 3) := by decide +kernel
theorem dX3_init_12 : decode cX3_init 12 = .ok (.aload_n 0, 1) := by decide +kernel
theorem dX3_init_13 : decode cX3_init 13 = .ok (.bipush 64, 2) := by decide +kernel
theorem dX3_init_15 : decode cX3_init 15 = .ok (.newarray .int, 2) := by decide +kernel
theorem dX3_init_17 : decode cX3_init 17 = .ok (.putfield 13, 3) := by decide +kernel
theorem dX3_init_20 : decode cX3_init 20 = .ok (.aload_n 0, 1) := by decide +kernel
theorem dX3_init_21 : decode cX3_init 21 = .ok (.bipush 64, 2) := by decide +kernel
theorem dX3_init_23 : decode cX3_init 23 = .ok (.newarray .int, 2) := by decide +kernel
theorem dX3_init_25 : decode cX3_init 25 = .ok (.putfield 16, 3) := by decide +kernel
theorem dX3_init_28 : decode cX3_init 28 = .ok (.aload_n 0, 1) := by decide +kernel
theorem dX3_init_29 : decode cX3_init 29 = .ok (.bipush 64, 2) := by decide +kernel
theorem dX3_init_31 : decode cX3_init 31 = .ok (.newarray .int, 2) := by decide +kernel
theorem dX3_init_33 : decode cX3_init 33 = .ok (.putfield 19, 3) := by decide +kernel
theorem dX3_init_36 : decode cX3_init 36 = .ok (.return_, 1) := by decide +kernel
theorem dX3_clear_0 : decode cX3_clear 0 = .ok (.aload_n 0, 1) := by decide +kernel
theorem dX3_clear_1 : decode cX3_clear 1 = .ok (.iconst 0, 1) := by decide +kernel
theorem dX3_clear_2 : decode cX3_clear 2 = .ok (.putfield 22, 3) := by decide +kernel
theorem dX3_clear_5 : decode cX3_clear 5 = .ok (.return_, 1) := by decide +kernel
theorem dX3_length_0 : decode cX3_length 0 = .ok (.aload_n 0, 1) := by decide +kernel
theorem dX3_length_1 : decode cX3_length 1 = .ok (.getfield 22, 3) := by decide +kernel
theorem dX3_length_4 : decode cX3_length 4 = .ok (.ireturn, 1) := by decide +kernel
theorem dX3_add_0 : decode cX3_add 0 = .ok (.aload_n 0, 1) := by decide +kernel
theorem dX3_add_1 : decode cX3_add 1 = .ok (.getfield 22, 3) := by decide +kernel
theorem dX3_add_4 : decode cX3_add 4 = .ok (.aload_n 0, 1) := by decide +kernel
theorem dX3_add_5 : decode cX3_add 5 = .ok (.getfield 7, 3) := by decide +kernel
theorem dX3_add_8 : decode cX3_add 8 = .ok (.arraylength, 1) := by decide +kernel
theorem dX3_add_9 : decode cX3_add 9 = .ok (.if_icmp .ne 7, 3) := by decide +kernel
theorem dX3_add_12 : decode cX3_add 12 = .ok (.aload_n 0, 1) := by decide +kernel
theorem dX3_add_13 : decode cX3_add 13 = .ok (.invokevirtual 26, 3) := by decide +kernel
theorem dX3_add_16 : decode cX3_add 16 = .ok (.aload_n 0, 1) := by decide +kernel
theorem dX3_add_17 : decode cX3_add 17 = .ok (.getfield 7, 3) := by decide +kernel
theorem dX3_add_20 : decode cX3_add 20 = .ok (.aload_n 0, 1) := by decide +kernel
theorem dX3_add_21 : decode cX3_add 21 = .ok (.getfield 22, 3) := by decide +kernel
theorem dX3_add_24 : decode cX3_add 24 = .ok (.iload_n 1, 1) := by decide +kernel
theorem dX3_add_25 : decode cX3_add 25 = .ok (.iastore, 1) := by decide +kernel
theorem dX3_add_26 : decode cX3_add 26 = .ok (.aload_n 0, 1) := by decide +kernel
theorem dX3_add_27 : decode cX3_add 27 = .ok (.getfield 13, 3) := by decide +kernel
theorem dX3_add_30 : decode cX3_add 30 = .ok (.aload_n 0, 1) := by decide +kernel
theorem dX3_add_31 : decode cX3_add 31 = .ok (.getfield 22, 3) := by decide +kernel
theorem dX3_add_34 : decode cX3_add 34 = .ok (.iload_n 2, 1) := by decide +kernel
theorem dX3_add_35 : decode cX3_add 35 = .ok (.iastore, 1) := by decide +kernel
theorem dX3_add_36 : decode cX3_add 36 = .ok (.aload_n 0, 1) := by decide +kernel
theorem dX3_add_37 : decode cX3_add 37 = .ok (.getfield 16, 3) := by decide +kernel
theorem dX3_add_40 : decode cX3_add 40 = .ok (.aload_n 0, 1) := by decide +kernel
theorem dX3_add_41 : decode cX3_add 41 = .ok (.getfield 22, 3) := by decide +kernel
theorem dX3_add_44 : decode cX3_add 44 = .ok (.iload_n 3, 1) := by decide +kernel
theorem dX3_add_45 : decode cX3_add 45 = .ok (.iastore, 1) := by decide +kernel
theorem dX3_add_46 : decode cX3_add 46 = .ok (.aload_n 0, 1) := by decide +kernel
theorem dX3_add_47 : decode cX3_add 47 = .ok (.getfield 19, 3) := by decide +kernel
theorem dX3_add_50 : decode cX3_add 50 = .ok (.aload_n 0, 1) := by decide +kernel
theorem dX3_add_51 : decode cX3_add 51 = .ok (.getfield 22, 3) := by decide +kernel
theorem dX3_add_54 : decode cX3_add 54 = .ok (.iconst 0, 1) := by decide +kernel
theorem dX3_add_55 : decode cX3_add 55 = .ok (.iastore, 1) := by decide +kernel
theorem dX3_add_56 : decode cX3_add 56 = .ok (.aload_n 0, 1) := by decide +kernel
theorem dX3_add_57 : decode cX3_add 57 = .ok (.dup, 1) := by decide +kernel
theorem dX3_add_58 : decode cX3_add 58 = .ok (.getfield 22, 3) := by decide +kernel
theorem dX3_add_61 : decode cX3_add 61 = .ok (.iconst 1, 1) := by decide +kernel
theorem dX3_add_62 : decode cX3_add 62 = .ok (.iadd, 1) := by decide +kernel
theorem dX3_add_63 : decode cX3_add 63 = .ok (.putfield 22, 3) := by decide +kernel
theorem dX3_add_66 : decode cX3_add 66 = .ok (.return_, 1) := by decide +kernel
theorem dX3_grow_0 : decode cX3_grow 0 = .ok (.iconst 2, 1) := by decide +kernel
theorem dX3_grow_1 : decode cX3_grow 1 = .ok (.aload_n 0, 1) := by decide +kernel
theorem dX3_grow_2 : decode cX3_grow 2 = .ok (.getfield 22, 3) := by decide +kernel
theorem dX3_grow_5 : decode cX3_grow 5 = .ok (.imul, 1) := by decide +kernel
theorem dX3_grow_6 : decode cX3_grow 6 = .ok (.istore_n 1, 1) := by decide +kernel
theorem dX3_grow_7 : decode cX3_grow 7 = .ok (.aload_n 0, 1) := by decide +kernel
theorem dX3_grow_8 : decode cX3_grow 8 = .ok (.aload_n 0, 1) := by decide +kernel
theorem dX3_grow_9 : decode cX3_grow 9 = .ok (.getfield 7, 3) := by decide +kernel
theorem dX3_grow_12 : decode cX3_grow 12 = .ok (.iload_n 1, 1) := by decide +kernel
theorem dX3_grow_13 : decode cX3_grow 13 = .ok (.invokestatic 29, 3) := by decide +kernel
theorem dX3_grow_16 : decode cX3_grow 16 = .ok (.putfield 7, 3) := by decide +kernel
theorem dX3_grow_19 : decode cX3_grow 19 = .ok (.aload_n 0, 1) := by decide +kernel
theorem dX3_grow_20 : decode cX3_grow 20 = .ok (.aload_n 0, 1) := by decide +kernel
theorem dX3_grow_21 : decode cX3_grow 21 = .ok (.getfield 13, 3) := by decide +kernel
theorem dX3_grow_24 : decode cX3_grow 24 = .ok (.iload_n 1, 1) := by decide +kernel
theorem dX3_grow_25 : decode cX3_grow 25 = .ok (.invokestatic 29, 3) := by decide +kernel
theorem dX3_grow_28 : decode cX3_grow 28 = .ok (.putfield 13, 3) := by decide +kernel
theorem dX3_grow_31 : decode cX3_grow 31 = .ok (.aload_n 0, 1) := by decide +kernel
theorem dX3_grow_32 : decode cX3_grow 32 = .ok (.aload_n 0, 1) := by decide +kernel
theorem dX3_grow_33 : decode cX3_grow 33 = .ok (.getfield 16, 3) := by decide +kernel
theorem dX3_grow_36 : decode cX3_grow 36 = .ok (.iload_n 1, 1) := by decide +kernel
theorem dX3_grow_37 : decode cX3_grow 37 = .ok (.invokestatic 29, 3) := by decide +kernel
theorem dX3_grow_40 : decode cX3_grow 40 = .ok (.putfield 16, 3) := by decide +kernel
theorem dX3_grow_43 : decode cX3_grow 43 = .ok (.aload_n 0, 1) := by decide +kernel
theorem dX3_grow_44 : decode cX3_grow 44 = .ok (.aload_n 0, 1) := by decide +kernel
theorem dX3_grow_45 : decode cX3_grow 45 = .ok (.getfield 19, 3) := by decide +kernel
theorem dX3_grow_48 : decode cX3_grow 48 = .ok (.iload_n 1, 1) := by decide +kernel
theorem dX3_grow_49 : decode cX3_grow 49 = .ok (.invokestatic 29, 3) := by decide +kernel
theorem dX3_grow_52 : decode cX3_grow 52 = .ok (.putfield 19, 3) := by decide +kernel
theorem dX3_grow_55 : decode cX3_grow 55 = .ok (.return_, 1) := by decide +kernel
theorem dX3_markStep_0 : decode cX3_markStep 0 = .ok (.aload_n 0, 1) := by decide +kernel
theorem dX3_markStep_1 : decode cX3_markStep 1 = .ok (.getfield 19, 3) := by decide +kernel
theorem dX3_markStep_4 : decode cX3_markStep 4 = .ok (.iload_n 1, 1) := by decide +kernel
theorem dX3_markStep_5 : decode cX3_markStep 5 = .ok (.iconst 1, 1) := by decide +kernel
theorem dX3_markStep_6 : decode cX3_markStep 6 = .ok (.iastore, 1) := by decide +kernel
theorem dX3_markStep_7 : decode cX3_markStep 7 = .ok (.return_, 1) := by decide +kernel
theorem dX3_setFirstNumber_0 : decode cX3_setFirstNumber 0 = .ok (.aload_n 0, 1) := by decide +kernel
theorem dX3_setFirstNumber_1 : decode cX3_setFirstNumber 1 = .ok (.getfield 13, 3) := by decide +kernel
theorem dX3_setFirstNumber_4 : decode cX3_setFirstNumber 4 = .ok (.iload_n 1, 1) := by decide +kernel
theorem dX3_setFirstNumber_5 : decode cX3_setFirstNumber 5 = .ok (.iload_n 2, 1) := by decide +kernel
theorem dX3_setFirstNumber_6 : decode cX3_setFirstNumber 6 = .ok (.iastore, 1) := by decide +kernel
theorem dX3_setFirstNumber_7 : decode cX3_setFirstNumber 7 = .ok (.return_, 1) := by decide +kernel
theorem dX3_word_0 : decode cX3_word 0 = .ok (.aload_n 0, 1) := by decide +kernel
theorem dX3_word_1 : decode cX3_word 1 = .ok (.getfield 7, 3) := by decide +kernel
theorem dX3_word_4 : decode cX3_word 4 = .ok (.iload_n 1, 1) := by decide +kernel
theorem dX3_word_5 : decode cX3_word 5 = .ok (.iaload, 1) := by decide +kernel
theorem dX3_word_6 : decode cX3_word 6 = .ok (.ireturn, 1) := by decide +kernel
theorem dX3_firstNumber_0 : decode cX3_firstNumber 0 = .ok (.aload_n 0, 1) := by decide +kernel
theorem dX3_firstNumber_1 : decode cX3_firstNumber 1 = .ok (.getfield 13, 3) := by decide +kernel
theorem dX3_firstNumber_4 : decode cX3_firstNumber 4 = .ok (.iload_n 1, 1) := by decide +kernel
theorem dX3_firstNumber_5 : decode cX3_firstNumber 5 = .ok (.iaload, 1) := by decide +kernel
theorem dX3_firstNumber_6 : decode cX3_firstNumber 6 = .ok (.ireturn, 1) := by decide +kernel
theorem dX3_secondNumber_0 : decode cX3_secondNumber 0 = .ok (.aload_n 0, 1) := by decide +kernel
theorem dX3_secondNumber_1 : decode cX3_secondNumber 1 = .ok (.getfield 16, 3) := by decide +kernel
theorem dX3_secondNumber_4 : decode cX3_secondNumber 4 = .ok (.iload_n 1, 1) := by decide +kernel
theorem dX3_secondNumber_5 : decode cX3_secondNumber 5 = .ok (.iaload, 1) := by decide +kernel
theorem dX3_secondNumber_6 : decode cX3_secondNumber 6 = .ok (.ireturn, 1) := by decide +kernel
theorem dX3_isStep_0 : decode cX3_isStep 0 = .ok (.aload_n 0, 1) := by decide +kernel
theorem dX3_isStep_1 : decode cX3_isStep 1 = .ok (.getfield 19, 3) := by decide +kernel
theorem dX3_isStep_4 : decode cX3_isStep 4 = .ok (.iload_n 1, 1) := by decide +kernel
theorem dX3_isStep_5 : decode cX3_isStep 5 = .ok (.iaload, 1) := by decide +kernel
theorem dX3_isStep_6 : decode cX3_isStep 6 = .ok (.iconst 1, 1) := by decide +kernel
theorem dX3_isStep_7 : decode cX3_isStep 7 = .ok (.if_icmp .ne 7, 3) := by decide +kernel
theorem dX3_isStep_10 : decode cX3_isStep 10 = .ok (.iconst 1, 1) := by decide +kernel
theorem dX3_isStep_11 : decode cX3_isStep 11 = .ok (.goto 4, 3) := by decide +kernel
theorem dX3_isStep_14 : decode cX3_isStep 14 = .ok (.iconst 0, 1) := by decide +kernel
theorem dX3_isStep_15 : decode cX3_isStep 15 = .ok (.ireturn, 1) := by decide +kernel
theorem dX6_init_0 : decode cX6_init 0 = .ok (.aload_n 0, 1) := by decide +kernel
theorem dX6_init_1 : decode cX6_init 1 = .ok (.invokespecial 3, 3) := by decide +kernel
theorem dX6_init_4 : decode cX6_init 4 = .ok (.aload_n 0, 1) := by decide +kernel
theorem dX6_init_5 : decode cX6_init 5 = .ok (.new 9, 3) := by decide +kernel
theorem dX6_init_8 : decode cX6_init 8 = .ok (.dup, 1) := by decide +kernel
theorem dX6_init_9 : decode cX6_init 9 = .ok (.invokespecial 11, 3) := by decide +kernel
theorem dX6_init_12 : decode cX6_init 12 = .ok (.putfield 12, 3) := by decide +kernel
theorem dX6_init_15 : decode cX6_init 15 = .ok (.aload_n 0, 1) := by decide +kernel
theorem dX6_init_16 : decode cX6_init 16 = .ok (.bipush 12, 2) := by decide +kernel
theorem dX6_init_18 : decode cX6_init 18 = .ok (.newarray .int, 2) := by decide +kernel
theorem dX6_init_20 : decode cX6_init 20 = .ok (.putfield 18, 3) := by decide +kernel
theorem dX6_init_23 : decode cX6_init 23 = .ok (.aload_n 0, 1) := by decide +kernel
theorem dX6_init_24 : decode cX6_init 24 = .ok (.bipush 12, 2) := by decide +kernel
theorem dX6_init_26 : decode cX6_init 26 = .ok (.newarray .int, 2) := by decide +kernel
theorem dX6_init_28 : decode cX6_init 28 = .ok (.putfield 22, 3) := by decide +kernel
theorem dX6_init_31 : decode cX6_init 31 = .ok (.aload_n 0, 1) := by decide +kernel
theorem dX6_init_32 : decode cX6_init 32 = .ok (.sipush 480, 3) := by decide +kernel
theorem dX6_init_35 : decode cX6_init 35 = .ok (.newarray .int, 2) := by decide +kernel
theorem dX6_init_37 : decode cX6_init 37 = .ok (.putfield 25, 3) := by decide +kernel
theorem dX6_init_40 : decode cX6_init 40 = .ok (.aload_n 0, 1) := by decide +kernel
theorem dX6_init_41 : decode cX6_init 41 = .ok (.sipush 480, 3) := by decide +kernel
theorem dX6_init_44 : decode cX6_init 44 = .ok (.newarray .int, 2) := by decide +kernel
theorem dX6_init_46 : decode cX6_init 46 = .ok (.putfield 28, 3) := by decide +kernel
theorem dX6_init_49 : decode cX6_init 49 = .ok (.aload_n 0, 1) := by decide +kernel
theorem dX6_init_50 : decode cX6_init 50 = .ok (.sipush 480, 3) := by decide +kernel
theorem dX6_init_53 : decode cX6_init 53 = .ok (.newarray .int, 2) := by decide +kernel
theorem dX6_init_55 : decode cX6_init 55 = .ok (.putfield 31, 3) := by decide +kernel
theorem dX6_init_58 : decode cX6_init 58 = .ok (.return_, 1) := by decide +kernel
theorem dX6_recipes_0 : decode cX6_recipes 0 = .ok (.aload_n 0, 1) := by decide +kernel
theorem dX6_recipes_1 : decode cX6_recipes 1 = .ok (.getfield 12, 3) := by decide +kernel
theorem dX6_recipes_4 : decode cX6_recipes 4 = .ok (.areturn, 1) := by decide +kernel
theorem dX6_addFunction_0 : decode cX6_addFunction 0 = .ok (.aload_n 0, 1) := by decide +kernel
theorem dX6_addFunction_1 : decode cX6_addFunction 1 = .ok (.getfield 18, 3) := by decide +kernel
theorem dX6_addFunction_4 : decode cX6_addFunction 4 = .ok (.aload_n 0, 1) := by decide +kernel
theorem dX6_addFunction_5 : decode cX6_addFunction 5 = .ok (.getfield 34, 3) := by decide +kernel
theorem dX6_addFunction_8 : decode cX6_addFunction 8 = .ok (.iload_n 1, 1) := by decide +kernel
theorem dX6_addFunction_9 : decode cX6_addFunction 9 = .ok (.iastore, 1) := by decide +kernel
theorem dX6_addFunction_10 : decode cX6_addFunction 10 = .ok (.aload_n 0, 1) := by decide +kernel
theorem dX6_addFunction_11 : decode cX6_addFunction 11 = .ok (.dup, 1) := by decide +kernel
theorem dX6_addFunction_12 : decode cX6_addFunction 12 = .ok (.getfield 34, 3) := by decide +kernel
theorem dX6_addFunction_15 : decode cX6_addFunction 15 = .ok (.iconst 1, 1) := by decide +kernel
theorem dX6_addFunction_16 : decode cX6_addFunction 16 = .ok (.iadd, 1) := by decide +kernel
theorem dX6_addFunction_17 : decode cX6_addFunction 17 = .ok (.putfield 34, 3) := by decide +kernel
theorem dX6_addFunction_20 : decode cX6_addFunction 20 = .ok (.aload_n 0, 1) := by decide +kernel
theorem dX6_addFunction_21 : decode cX6_addFunction 21 = .ok (.getfield 34, 3) := by decide +kernel
theorem dX6_addFunction_24 : decode cX6_addFunction 24 = .ok (.iconst 1, 1) := by decide +kernel
theorem dX6_addFunction_25 : decode cX6_addFunction 25 = .ok (.isub, 1) := by decide +kernel
theorem dX6_addFunction_26 : decode cX6_addFunction 26 = .ok (.ireturn, 1) := by decide +kernel
theorem dX6_addInstruction_0 : decode cX6_addInstruction 0 = .ok (.aload_n 0, 1) := by decide +kernel
theorem dX6_addInstruction_1 : decode cX6_addInstruction 1 = .ok (.getfield 22, 3) := by decide +kernel
theorem dX6_addInstruction_4 : decode cX6_addInstruction 4 = .ok (.iload_n 1, 1) := by decide +kernel
theorem dX6_addInstruction_5 : decode cX6_addInstruction 5 = .ok (.iaload, 1) := by decide +kernel
theorem dX6_addInstruction_6 : decode cX6_addInstruction 6 = .ok (.istore 5, 2) := by decide +kernel
theorem dX6_addInstruction_8 : decode cX6_addInstruction 8 = .ok (.iload_n 1, 1) := by decide +kernel
theorem dX6_addInstruction_9 : decode cX6_addInstruction 9 = .ok (.bipush 40, 2) := by decide +kernel
theorem dX6_addInstruction_11 : decode cX6_addInstruction 11 = .ok (.imul, 1) := by decide +kernel
theorem dX6_addInstruction_12 : decode cX6_addInstruction 12 = .ok (.iload 5, 2) := by decide +kernel
theorem dX6_addInstruction_14 : decode cX6_addInstruction 14 = .ok (.iadd, 1) := by decide +kernel
theorem dX6_addInstruction_15 : decode cX6_addInstruction 15 = .ok (.istore 6, 2) := by decide +kernel
theorem dX6_addInstruction_17 : decode cX6_addInstruction 17 = .ok (.aload_n 0, 1) := by decide +kernel
theorem dX6_addInstruction_18 : decode cX6_addInstruction 18 = .ok (.getfield 25, 3) := by decide +kernel
theorem dX6_addInstruction_21 : decode cX6_addInstruction 21 = .ok (.iload 6, 2) := by decide +kernel
theorem dX6_addInstruction_23 : decode cX6_addInstruction 23 = .ok (.iload_n 2, 1) := by decide +kernel
theorem dX6_addInstruction_24 : decode cX6_addInstruction 24 = .ok (.iastore, 1) := by decide +kernel
theorem dX6_addInstruction_25 : decode cX6_addInstruction 25 = .ok (.aload_n 0, 1) := by decide +kernel
theorem dX6_addInstruction_26 : decode cX6_addInstruction 26 = .ok (.getfield 28, 3) := by decide +kernel
theorem dX6_addInstruction_29 : decode cX6_addInstruction 29 = .ok (.iload 6, 2) := by decide +kernel
theorem dX6_addInstruction_31 : decode cX6_addInstruction 31 = .ok (.iload_n 3, 1) := by decide +kernel
theorem dX6_addInstruction_32 : decode cX6_addInstruction 32 = .ok (.iastore, 1) := by decide +kernel
theorem dX6_addInstruction_33 : decode cX6_addInstruction 33 = .ok (.aload_n 0, 1) := by decide +kernel
theorem dX6_addInstruction_34 : decode cX6_addInstruction 34 = .ok (.getfield 31, 3) := by decide +kernel
theorem dX6_addInstruction_37 : decode cX6_addInstruction 37 = .ok (.iload 6, 2) := by decide +kernel
theorem dX6_addInstruction_39 : decode cX6_addInstruction 39 = .ok (.iload 4, 2) := by decide +kernel
theorem dX6_addInstruction_41 : decode cX6_addInstruction 41 = .ok (.iastore, 1) := by decide +kernel
theorem dX6_addInstruction_42 : decode cX6_addInstruction 42 = .ok (.aload_n 0, 1) := by decide +kernel
theorem dX6_addInstruction_43 : decode cX6_addInstruction 43 = .ok (.getfield 22, 3) := by decide +kernel
theorem dX6_addInstruction_46 : decode cX6_addInstruction 46 = .ok (.iload_n 1, 1) := by decide +kernel
theorem dX6_addInstruction_47 : decode cX6_addInstruction 47 = .ok (.dup2, 1) := by decide +kernel
theorem dX6_addInstruction_48 : decode cX6_addInstruction 48 = .ok (.iaload, 1) := by decide +kernel
theorem dX6_addInstruction_49 : decode cX6_addInstruction 49 = .ok (.iconst 1, 1) := by decide +kernel
theorem dX6_addInstruction_50 : decode cX6_addInstruction 50 = .ok (.iadd, 1) := by decide +kernel
theorem dX6_addInstruction_51 : decode cX6_addInstruction 51 = .ok (.iastore, 1) := by decide +kernel
theorem dX6_addInstruction_52 : decode cX6_addInstruction 52 = .ok (.iload 5, 2) := by decide +kernel
theorem dX6_addInstruction_54 : decode cX6_addInstruction 54 = .ok (.ireturn, 1) := by decide +kernel
theorem dX6_hasFunction_0 : decode cX6_hasFunction 0 = .ok (.iload_n 1, 1) := by decide +kernel
theorem dX6_hasFunction_1 : decode cX6_hasFunction 1 = .ok (.ifCond .lt 15, 3) := by decide +kernel
theorem dX6_hasFunction_4 : decode cX6_hasFunction 4 = .ok (.iload_n 1, 1) := by decide +kernel
theorem dX6_hasFunction_5 : decode cX6_hasFunction 5 = .ok (.aload_n 0, 1) := by decide +kernel
theorem dX6_hasFunction_6 : decode cX6_hasFunction 6 = .ok (.getfield 34, 3) := by decide +kernel
theorem dX6_hasFunction_9 : decode cX6_hasFunction 9 = .ok (.if_icmp .ge 7, 3) := by decide +kernel
theorem dX6_hasFunction_12 : decode cX6_hasFunction 12 = .ok (.iconst 1, 1) := by decide +kernel
theorem dX6_hasFunction_13 : decode cX6_hasFunction 13 = .ok (.goto 4, 3) := by decide +kernel
theorem dX6_hasFunction_16 : decode cX6_hasFunction 16 = .ok (.iconst 0, 1) := by decide +kernel
theorem dX6_hasFunction_17 : decode cX6_hasFunction 17 = .ok (.ireturn, 1) := by decide +kernel
theorem dX6_functionTotal_0 : decode cX6_functionTotal 0 = .ok (.aload_n 0, 1) := by decide +kernel
theorem dX6_functionTotal_1 : decode cX6_functionTotal 1 = .ok (.getfield 34, 3) := by decide +kernel
theorem dX6_functionTotal_4 : decode cX6_functionTotal 4 = .ok (.ireturn, 1) := by decide +kernel
theorem dX6_parametersOf_0 : decode cX6_parametersOf 0 = .ok (.aload_n 0, 1) := by decide +kernel
theorem dX6_parametersOf_1 : decode cX6_parametersOf 1 = .ok (.getfield 18, 3) := by decide +kernel
theorem dX6_parametersOf_4 : decode cX6_parametersOf 4 = .ok (.iload_n 1, 1) := by decide +kernel
theorem dX6_parametersOf_5 : decode cX6_parametersOf 5 = .ok (.iaload, 1) := by decide +kernel
theorem dX6_parametersOf_6 : decode cX6_parametersOf 6 = .ok (.ireturn, 1) := by decide +kernel
theorem dX6_lengthOf_0 : decode cX6_lengthOf 0 = .ok (.aload_n 0, 1) := by decide +kernel
theorem dX6_lengthOf_1 : decode cX6_lengthOf 1 = .ok (.getfield 22, 3) := by decide +kernel
theorem dX6_lengthOf_4 : decode cX6_lengthOf 4 = .ok (.iload_n 1, 1) := by decide +kernel
theorem dX6_lengthOf_5 : decode cX6_lengthOf 5 = .ok (.iaload, 1) := by decide +kernel
theorem dX6_lengthOf_6 : decode cX6_lengthOf 6 = .ok (.ireturn, 1) := by decide +kernel
theorem dX6_wordAt_0 : decode cX6_wordAt 0 = .ok (.aload_n 0, 1) := by decide +kernel
theorem dX6_wordAt_1 : decode cX6_wordAt 1 = .ok (.getfield 25, 3) := by decide +kernel
theorem dX6_wordAt_4 : decode cX6_wordAt 4 = .ok (.iload_n 1, 1) := by decide +kernel
theorem dX6_wordAt_5 : decode cX6_wordAt 5 = .ok (.bipush 40, 2) := by decide +kernel
theorem dX6_wordAt_7 : decode cX6_wordAt 7 = .ok (.imul, 1) := by decide +kernel
theorem dX6_wordAt_8 : decode cX6_wordAt 8 = .ok (.iload_n 2, 1) := by decide +kernel
theorem dX6_wordAt_9 : decode cX6_wordAt 9 = .ok (.iadd, 1) := by decide +kernel
theorem dX6_wordAt_10 : decode cX6_wordAt 10 = .ok (.iaload, 1) := by decide +kernel
theorem dX6_wordAt_11 : decode cX6_wordAt 11 = .ok (.ireturn, 1) := by decide +kernel
theorem dX6_firstNumberAt_0 : decode cX6_firstNumberAt 0 = .ok (.aload_n 0, 1) := by decide +kernel
theorem dX6_firstNumberAt_1 : decode cX6_firstNumberAt 1 = .ok (.getfield 28, 3) := by decide +kernel
theorem dX6_firstNumberAt_4 : decode cX6_firstNumberAt 4 = .ok (.iload_n 1, 1) := by decide +kernel
theorem dX6_firstNumberAt_5 : decode cX6_firstNumberAt 5 = .ok (.bipush 40, 2) := by decide +kernel
theorem dX6_firstNumberAt_7 : decode cX6_firstNumberAt 7 = .ok (.imul, 1) := by decide +kernel
theorem dX6_firstNumberAt_8 : decode cX6_firstNumberAt 8 = .ok (.iload_n 2, 1) := by decide +kernel
theorem dX6_firstNumberAt_9 : decode cX6_firstNumberAt 9 = .ok (.iadd, 1) := by decide +kernel
theorem dX6_firstNumberAt_10 : decode cX6_firstNumberAt 10 = .ok (.iaload, 1) := by decide +kernel
theorem dX6_firstNumberAt_11 : decode cX6_firstNumberAt 11 = .ok (.ireturn, 1) := by decide +kernel
theorem dX6_secondNumberAt_0 : decode cX6_secondNumberAt 0 = .ok (.aload_n 0, 1) := by decide +kernel
theorem dX6_secondNumberAt_1 : decode cX6_secondNumberAt 1 = .ok (.getfield 31, 3) := by decide +kernel
theorem dX6_secondNumberAt_4 : decode cX6_secondNumberAt 4 = .ok (.iload_n 1, 1) := by decide +kernel
theorem dX6_secondNumberAt_5 : decode cX6_secondNumberAt 5 = .ok (.bipush 40, 2) := by decide +kernel
theorem dX6_secondNumberAt_7 : decode cX6_secondNumberAt 7 = .ok (.imul, 1) := by decide +kernel
theorem dX6_secondNumberAt_8 : decode cX6_secondNumberAt 8 = .ok (.iload_n 2, 1) := by decide +kernel
theorem dX6_secondNumberAt_9 : decode cX6_secondNumberAt 9 = .ok (.iadd, 1) := by decide +kernel
theorem dX6_secondNumberAt_10 : decode cX6_secondNumberAt 10 = .ok (.iaload, 1) := by decide +kernel
theorem dX6_secondNumberAt_11 : decode cX6_secondNumberAt 11 = .ok (.ireturn, 1) := by decide +kernel
theorem dX6_isStepAt_0 : decode cX6_isStepAt 0 = .ok (.iconst 1, 1) := by decide +kernel
theorem dX6_isStepAt_1 : decode cX6_isStepAt 1 = .ok (.ireturn, 1) := by decide +kernel
theorem dX6_hasNumbersInBounds_0 : decode cX6_hasNumbersInBounds 0 = .ok (.aload_n 0, 1) := by decide +kernel
theorem dX6_hasNumbersInBounds_1 : decode cX6_hasNumbersInBounds 1 = .ok (.iload_n 1, 1) := by decide +kernel
theorem dX6_hasNumbersInBounds_2 : decode cX6_hasNumbersInBounds 2 = .ok (.iload_n 2, 1) := by decide +kernel
theorem dX6_hasNumbersInBounds_3 : decode cX6_hasNumbersInBounds 3 = .ok (.invokevirtual 38, 3) := by decide +kernel
theorem dX6_hasNumbersInBounds_6 : decode cX6_hasNumbersInBounds 6 = .ok (.istore_n 3, 1) := by decide +kernel
theorem dX6_hasNumbersInBounds_7 : decode cX6_hasNumbersInBounds 7 = .ok (.aload_n 0, 1) := by decide +kernel
theorem dX6_hasNumbersInBounds_8 : decode cX6_hasNumbersInBounds 8 = .ok (.iload_n 1, 1) := by decide +kernel
theorem dX6_hasNumbersInBounds_9 : decode cX6_hasNumbersInBounds 9 = .ok (.iload_n 2, 1) := by decide +kernel
theorem dX6_hasNumbersInBounds_10 : decode cX6_hasNumbersInBounds 10 = .ok (.invokevirtual 42, 3) := by decide +kernel
theorem dX6_hasNumbersInBounds_13 : decode cX6_hasNumbersInBounds 13 = .ok (.istore 4, 2) := by decide +kernel
theorem dX6_hasNumbersInBounds_15 : decode cX6_hasNumbersInBounds 15 = .ok (.aload_n 0, 1) := by decide +kernel
theorem dX6_hasNumbersInBounds_16 : decode cX6_hasNumbersInBounds 16 = .ok (.iload_n 1, 1) := by decide +kernel
theorem dX6_hasNumbersInBounds_17 : decode cX6_hasNumbersInBounds 17 = .ok (.iload_n 2, 1) := by decide +kernel
theorem dX6_hasNumbersInBounds_18 : decode cX6_hasNumbersInBounds 18 = .ok (.invokevirtual 45, 3) := by decide +kernel
theorem dX6_hasNumbersInBounds_21 : decode cX6_hasNumbersInBounds 21 = .ok (.tableswitch 171 1 15 #[75, 75, 171, 171, 171, 171, 171, 91, 91, 111, 171, 171, 117, 147, 162], 75) := by decide +kernel
theorem dX6_hasNumbersInBounds_96 : decode cX6_hasNumbersInBounds 96 = .ok (.iload_n 3, 1) := by decide +kernel
theorem dX6_hasNumbersInBounds_97 : decode cX6_hasNumbersInBounds 97 = .ok (.ifCond .lt 13, 3) := by decide +kernel
theorem dX6_hasNumbersInBounds_100 : decode cX6_hasNumbersInBounds 100 = .ok (.iload_n 3, 1) := by decide +kernel
theorem dX6_hasNumbersInBounds_101 : decode cX6_hasNumbersInBounds 101 = .ok (.bipush 8, 2) := by decide +kernel
theorem dX6_hasNumbersInBounds_103 : decode cX6_hasNumbersInBounds 103 = .ok (.if_icmp .ge 7, 3) := by decide +kernel
theorem dX6_hasNumbersInBounds_106 : decode cX6_hasNumbersInBounds 106 = .ok (.iconst 1, 1) := by decide +kernel
theorem dX6_hasNumbersInBounds_107 : decode cX6_hasNumbersInBounds 107 = .ok (.goto 4, 3) := by decide +kernel
theorem dX6_hasNumbersInBounds_110 : decode cX6_hasNumbersInBounds 110 = .ok (.iconst 0, 1) := by decide +kernel
theorem dX6_hasNumbersInBounds_111 : decode cX6_hasNumbersInBounds 111 = .ok (.ireturn, 1) := by decide +kernel
theorem dX6_hasNumbersInBounds_112 : decode cX6_hasNumbersInBounds 112 = .ok (.iload_n 3, 1) := by decide +kernel
theorem dX6_hasNumbersInBounds_113 : decode cX6_hasNumbersInBounds 113 = .ok (.ifCond .lt 17, 3) := by decide +kernel
theorem dX6_hasNumbersInBounds_116 : decode cX6_hasNumbersInBounds 116 = .ok (.iload_n 3, 1) := by decide +kernel
theorem dX6_hasNumbersInBounds_117 : decode cX6_hasNumbersInBounds 117 = .ok (.aload_n 0, 1) := by decide +kernel
theorem dX6_hasNumbersInBounds_118 : decode cX6_hasNumbersInBounds 118 = .ok (.getfield 22, 3) := by decide +kernel
theorem dX6_hasNumbersInBounds_121 : decode cX6_hasNumbersInBounds 121 = .ok (.iload_n 1, 1) := by decide +kernel
theorem dX6_hasNumbersInBounds_122 : decode cX6_hasNumbersInBounds 122 = .ok (.iaload, 1) := by decide +kernel
theorem dX6_hasNumbersInBounds_123 : decode cX6_hasNumbersInBounds 123 = .ok (.if_icmp .ge 7, 3) := by decide +kernel
theorem dX6_hasNumbersInBounds_126 : decode cX6_hasNumbersInBounds 126 = .ok (.iconst 1, 1) := by decide +kernel
theorem dX6_hasNumbersInBounds_127 : decode cX6_hasNumbersInBounds 127 = .ok (.goto 4, 3) := by decide +kernel
theorem dX6_hasNumbersInBounds_130 : decode cX6_hasNumbersInBounds 130 = .ok (.iconst 0, 1) := by decide +kernel
theorem dX6_hasNumbersInBounds_131 : decode cX6_hasNumbersInBounds 131 = .ok (.ireturn, 1) := by decide +kernel
theorem dX6_hasNumbersInBounds_132 : decode cX6_hasNumbersInBounds 132 = .ok (.aload_n 0, 1) := by decide +kernel
theorem dX6_hasNumbersInBounds_133 : decode cX6_hasNumbersInBounds 133 = .ok (.iload_n 3, 1) := by decide +kernel
theorem dX6_hasNumbersInBounds_134 : decode cX6_hasNumbersInBounds 134 = .ok (.invokevirtual 48, 3) := by decide +kernel
theorem dX6_hasNumbersInBounds_137 : decode cX6_hasNumbersInBounds 137 = .ok (.ireturn, 1) := by decide +kernel
theorem dX6_hasNumbersInBounds_138 : decode cX6_hasNumbersInBounds 138 = .ok (.aload_n 0, 1) := by decide +kernel
theorem dX6_hasNumbersInBounds_139 : decode cX6_hasNumbersInBounds 139 = .ok (.iload_n 3, 1) := by decide +kernel
theorem dX6_hasNumbersInBounds_140 : decode cX6_hasNumbersInBounds 140 = .ok (.invokevirtual 48, 3) := by decide +kernel
theorem dX6_hasNumbersInBounds_143 : decode cX6_hasNumbersInBounds 143 = .ok (.ifCond .eq 23, 3) := by decide +kernel
theorem dX6_hasNumbersInBounds_146 : decode cX6_hasNumbersInBounds 146 = .ok (.iload 4, 2) := by decide +kernel
theorem dX6_hasNumbersInBounds_148 : decode cX6_hasNumbersInBounds 148 = .ok (.ifCond .lt 18, 3) := by decide +kernel
theorem dX6_hasNumbersInBounds_151 : decode cX6_hasNumbersInBounds 151 = .ok (.iload 4, 2) := by decide +kernel
theorem dX6_hasNumbersInBounds_153 : decode cX6_hasNumbersInBounds 153 = .ok (.aload_n 0, 1) := by decide +kernel
theorem dX6_hasNumbersInBounds_154 : decode cX6_hasNumbersInBounds 154 = .ok (.getfield 18, 3) := by decide +kernel
theorem dX6_hasNumbersInBounds_157 : decode cX6_hasNumbersInBounds 157 = .ok (.iload_n 3, 1) := by decide +kernel
theorem dX6_hasNumbersInBounds_158 : decode cX6_hasNumbersInBounds 158 = .ok (.iaload, 1) := by decide +kernel
theorem dX6_hasNumbersInBounds_159 : decode cX6_hasNumbersInBounds 159 = .ok (.if_icmp .gt 7, 3) := by decide +kernel
theorem dX6_hasNumbersInBounds_162 : decode cX6_hasNumbersInBounds 162 = .ok (.iconst 1, 1) := by decide +kernel
theorem dX6_hasNumbersInBounds_163 : decode cX6_hasNumbersInBounds 163 = .ok (.goto 4, 3) := by decide +kernel
theorem dX6_hasNumbersInBounds_166 : decode cX6_hasNumbersInBounds 166 = .ok (.iconst 0, 1) := by decide +kernel
theorem dX6_hasNumbersInBounds_167 : decode cX6_hasNumbersInBounds 167 = .ok (.ireturn, 1) := by decide +kernel
theorem dX6_hasNumbersInBounds_168 : decode cX6_hasNumbersInBounds 168 = .ok (.iload_n 3, 1) := by decide +kernel
theorem dX6_hasNumbersInBounds_169 : decode cX6_hasNumbersInBounds 169 = .ok (.ifCond .lt 12, 3) := by decide +kernel
theorem dX6_hasNumbersInBounds_172 : decode cX6_hasNumbersInBounds 172 = .ok (.iload_n 3, 1) := by decide +kernel
theorem dX6_hasNumbersInBounds_173 : decode cX6_hasNumbersInBounds 173 = .ok (.iconst 3, 1) := by decide +kernel
theorem dX6_hasNumbersInBounds_174 : decode cX6_hasNumbersInBounds 174 = .ok (.if_icmp .gt 7, 3) := by decide +kernel
theorem dX6_hasNumbersInBounds_177 : decode cX6_hasNumbersInBounds 177 = .ok (.iconst 1, 1) := by decide +kernel
theorem dX6_hasNumbersInBounds_178 : decode cX6_hasNumbersInBounds 178 = .ok (.goto 4, 3) := by decide +kernel
theorem dX6_hasNumbersInBounds_181 : decode cX6_hasNumbersInBounds 181 = .ok (.iconst 0, 1) := by decide +kernel
theorem dX6_hasNumbersInBounds_182 : decode cX6_hasNumbersInBounds 182 = .ok (.ireturn, 1) := by decide +kernel
theorem dX6_hasNumbersInBounds_183 : decode cX6_hasNumbersInBounds 183 = .ok (.aload_n 0, 1) := by decide +kernel
theorem dX6_hasNumbersInBounds_184 : decode cX6_hasNumbersInBounds 184 = .ok (.getfield 12, 3) := by decide +kernel
theorem dX6_hasNumbersInBounds_187 : decode cX6_hasNumbersInBounds 187 = .ok (.iload_n 3, 1) := by decide +kernel
theorem dX6_hasNumbersInBounds_188 : decode cX6_hasNumbersInBounds 188 = .ok (.invokevirtual 52, 3) := by decide +kernel
theorem dX6_hasNumbersInBounds_191 : decode cX6_hasNumbersInBounds 191 = .ok (.ireturn, 1) := by decide +kernel
theorem dX6_hasNumbersInBounds_192 : decode cX6_hasNumbersInBounds 192 = .ok (.iconst 1, 1) := by decide +kernel
theorem dX6_hasNumbersInBounds_193 : decode cX6_hasNumbersInBounds 193 = .ok (.ireturn, 1) := by decide +kernel
theorem dX6_popsOf_0 : decode cX6_popsOf 0 = .ok (.iload_n 1, 1) := by decide +kernel
theorem dX6_popsOf_1 : decode cX6_popsOf 1 = .ok (.tableswitch 141 2 26 #[117, 115, 115, 115, 117, 117, 141, 117, 119, 117, 117, 126, 128, 132, 141, 141, 141, 141, 141, 115, 128, 141, 141, 117, 115], 115) := by decide +kernel
theorem dX6_popsOf_116 : decode cX6_popsOf 116 = .ok (.iconst 2, 1) := by decide +kernel
theorem dX6_popsOf_117 : decode cX6_popsOf 117 = .ok (.ireturn, 1) := by decide +kernel
theorem dX6_popsOf_118 : decode cX6_popsOf 118 = .ok (.iconst 1, 1) := by decide +kernel
theorem dX6_popsOf_119 : decode cX6_popsOf 119 = .ok (.ireturn, 1) := by decide +kernel
theorem dX6_popsOf_120 : decode cX6_popsOf 120 = .ok (.aload_n 0, 1) := by decide +kernel
theorem dX6_popsOf_121 : decode cX6_popsOf 121 = .ok (.getfield 18, 3) := by decide +kernel
theorem dX6_popsOf_124 : decode cX6_popsOf 124 = .ok (.iload_n 2, 1) := by decide +kernel
theorem dX6_popsOf_125 : decode cX6_popsOf 125 = .ok (.iaload, 1) := by decide +kernel
theorem dX6_popsOf_126 : decode cX6_popsOf 126 = .ok (.ireturn, 1) := by decide +kernel
theorem dX6_popsOf_127 : decode cX6_popsOf 127 = .ok (.iload_n 3, 1) := by decide +kernel
theorem dX6_popsOf_128 : decode cX6_popsOf 128 = .ok (.ireturn, 1) := by decide +kernel
theorem dX6_popsOf_129 : decode cX6_popsOf 129 = .ok (.iload_n 2, 1) := by decide +kernel
theorem dX6_popsOf_130 : decode cX6_popsOf 130 = .ok (.iconst 1, 1) := by decide +kernel
theorem dX6_popsOf_131 : decode cX6_popsOf 131 = .ok (.iadd, 1) := by decide +kernel
theorem dX6_popsOf_132 : decode cX6_popsOf 132 = .ok (.ireturn, 1) := by decide +kernel
theorem dX6_popsOf_133 : decode cX6_popsOf 133 = .ok (.aload_n 0, 1) := by decide +kernel
theorem dX6_popsOf_134 : decode cX6_popsOf 134 = .ok (.getfield 12, 3) := by decide +kernel
theorem dX6_popsOf_137 : decode cX6_popsOf 137 = .ok (.iload_n 2, 1) := by decide +kernel
theorem dX6_popsOf_138 : decode cX6_popsOf 138 = .ok (.invokevirtual 55, 3) := by decide +kernel
theorem dX6_popsOf_141 : decode cX6_popsOf 141 = .ok (.ireturn, 1) := by decide +kernel
theorem dX6_popsOf_142 : decode cX6_popsOf 142 = .ok (.iconst 0, 1) := by decide +kernel
theorem dX6_popsOf_143 : decode cX6_popsOf 143 = .ok (.ireturn, 1) := by decide +kernel
theorem dX6_pushesOf_0 : decode cX6_pushesOf 0 = .ok (.iload_n 1, 1) := by decide +kernel
theorem dX6_pushesOf_1 : decode cX6_pushesOf 1 = .ok (.tableswitch 63 2 12 #[59, 63, 63, 63, 61, 59, 59, 59, 63, 59, 59], 59) := by decide +kernel
theorem dX6_pushesOf_60 : decode cX6_pushesOf 60 = .ok (.iconst 0, 1) := by decide +kernel
theorem dX6_pushesOf_61 : decode cX6_pushesOf 61 = .ok (.ireturn, 1) := by decide +kernel
theorem dX6_pushesOf_62 : decode cX6_pushesOf 62 = .ok (.iconst 2, 1) := by decide +kernel
theorem dX6_pushesOf_63 : decode cX6_pushesOf 63 = .ok (.ireturn, 1) := by decide +kernel
theorem dX6_pushesOf_64 : decode cX6_pushesOf 64 = .ok (.iconst 1, 1) := by decide +kernel
theorem dX6_pushesOf_65 : decode cX6_pushesOf 65 = .ok (.ireturn, 1) := by decide +kernel
theorem dX7_init_0 : decode cX7_init 0 = .ok (.aload_n 0, 1) := by decide +kernel
theorem dX7_init_1 : decode cX7_init 1 = .ok (.invokespecial 3, 3) := by decide +kernel
theorem dX7_init_4 : decode cX7_init 4 = .ok (.aload_n 0, 1) := by decide +kernel
theorem dX7_init_5 : decode cX7_init 5 = .ok (.bipush 8, 2) := by decide +kernel
theorem dX7_init_7 : decode cX7_init 7 = .ok (.newarray .int, 2) := by decide +kernel
theorem dX7_init_9 : decode cX7_init 9 = .ok (.putfield 9, 3) := by decide +kernel
theorem dX7_init_12 : decode cX7_init 12 = .ok (.aload_n 0, 1) := by decide +kernel
theorem dX7_init_13 : decode cX7_init 13 = .ok (.bipush 8, 2) := by decide +kernel
theorem dX7_init_15 : decode cX7_init 15 = .ok (.newarray .int, 2) := by decide +kernel
theorem dX7_init_17 : decode cX7_init 17 = .ok (.putfield 15, 3) := by decide +kernel
theorem dX7_init_20 : decode cX7_init 20 = .ok (.aload_n 0, 1) := by decide +kernel
theorem dX7_init_21 : decode cX7_init 21 = .ok (.bipush 8, 2) := by decide +kernel
theorem dX7_init_23 : decode cX7_init 23 = .ok (.newarray .int, 2) := by decide +kernel
theorem dX7_init_25 : decode cX7_init 25 = .ok (.putfield 18, 3) := by decide +kernel
theorem dX7_init_28 : decode cX7_init 28 = .ok (.aload_n 0, 1) := by decide +kernel
theorem dX7_init_29 : decode cX7_init 29 = .ok (.bipush 96, 2) := by decide +kernel
theorem dX7_init_31 : decode cX7_init 31 = .ok (.newarray .int, 2) := by decide +kernel
theorem dX7_init_33 : decode cX7_init 33 = .ok (.putfield 21, 3) := by decide +kernel
theorem dX7_init_36 : decode cX7_init 36 = .ok (.aload_n 0, 1) := by decide +kernel
theorem dX7_init_37 : decode cX7_init 37 = .ok (.bipush 96, 2) := by decide +kernel
theorem dX7_init_39 : decode cX7_init 39 = .ok (.newarray .int, 2) := by decide +kernel
theorem dX7_init_41 : decode cX7_init 41 = .ok (.putfield 24, 3) := by decide +kernel
theorem dX7_init_44 : decode cX7_init 44 = .ok (.return_, 1) := by decide +kernel
theorem dX7_isReadable_0 : decode cX7_isReadable 0 = .ok (.lload_n 0, 1) := by decide +kernel
theorem dX7_isReadable_1 : decode cX7_isReadable 1 = .ok (.lconst 0, 1) := by decide +kernel
theorem dX7_isReadable_2 : decode cX7_isReadable 2 = .ok (.lcmp, 1) := by decide +kernel
theorem dX7_isReadable_3 : decode cX7_isReadable 3 = .ok (.ifCond .le 12, 3) := by decide +kernel
theorem dX7_isReadable_6 : decode cX7_isReadable 6 = .ok (.lload_n 0, 1) := by decide +kernel
theorem dX7_isReadable_7 : decode cX7_isReadable 7 = .ok (.bipush 60, 2) := by decide +kernel
theorem dX7_isReadable_9 : decode cX7_isReadable 9 = .ok (.lshr, 1) := by decide +kernel
theorem dX7_isReadable_10 : decode cX7_isReadable 10 = .ok (.lconst 0, 1) := by decide +kernel
theorem dX7_isReadable_11 : decode cX7_isReadable 11 = .ok (.lcmp, 1) := by decide +kernel
theorem dX7_isReadable_12 : decode cX7_isReadable 12 = .ok (.ifCond .eq 5, 3) := by decide +kernel
theorem dX7_isReadable_15 : decode cX7_isReadable 15 = .ok (.iconst 0, 1) := by decide +kernel
theorem dX7_isReadable_16 : decode cX7_isReadable 16 = .ok (.ireturn, 1) := by decide +kernel
theorem dX7_isReadable_17 : decode cX7_isReadable 17 = .ok (.lload_n 0, 1) := by decide +kernel
theorem dX7_isReadable_18 : decode cX7_isReadable 18 = .ok (.lstore_n 2, 1) := by decide +kernel
theorem dX7_isReadable_19 : decode cX7_isReadable 19 = .ok (.iconst 0, 1) := by decide +kernel
theorem dX7_isReadable_20 : decode cX7_isReadable 20 = .ok (.istore 4, 2) := by decide +kernel
theorem dX7_isReadable_22 : decode cX7_isReadable 22 = .ok (.iload 4, 2) := by decide +kernel
theorem dX7_isReadable_24 : decode cX7_isReadable 24 = .ok (.bipush 12, 2) := by decide +kernel
theorem dX7_isReadable_26 : decode cX7_isReadable 26 = .ok (.if_icmp .ge 41, 3) := by decide +kernel
theorem dX7_isReadable_29 : decode cX7_isReadable 29 = .ok (.lload_n 2, 1) := by decide +kernel
theorem dX7_isReadable_30 : decode cX7_isReadable 30 = .ok (.lconst 0, 1) := by decide +kernel
theorem dX7_isReadable_31 : decode cX7_isReadable 31 = .ok (.lcmp, 1) := by decide +kernel
theorem dX7_isReadable_32 : decode cX7_isReadable 32 = .ok (.ifCond .eq 35, 3) := by decide +kernel
theorem dX7_isReadable_35 : decode cX7_isReadable 35 = .ok (.lload_n 2, 1) := by decide +kernel
theorem dX7_isReadable_36 : decode cX7_isReadable 36 = .ok (.ldc2_w 27, 3) := by decide +kernel
theorem dX7_isReadable_39 : decode cX7_isReadable 39 = .ok (.land, 1) := by decide +kernel
theorem dX7_isReadable_40 : decode cX7_isReadable 40 = .ok (.l2i, 1) := by decide +kernel
theorem dX7_isReadable_41 : decode cX7_isReadable 41 = .ok (.istore 5, 2) := by decide +kernel
theorem dX7_isReadable_43 : decode cX7_isReadable 43 = .ok (.iload 5, 2) := by decide +kernel
theorem dX7_isReadable_45 : decode cX7_isReadable 45 = .ok (.ifCond .eq 10, 3) := by decide +kernel
theorem dX7_isReadable_48 : decode cX7_isReadable 48 = .ok (.iload 5, 2) := by decide +kernel
theorem dX7_isReadable_50 : decode cX7_isReadable 50 = .ok (.bipush 27, 2) := by decide +kernel
theorem dX7_isReadable_52 : decode cX7_isReadable 52 = .ok (.if_icmp .le 5, 3) := by decide +kernel
theorem dX7_isReadable_55 : decode cX7_isReadable 55 = .ok (.iconst 0, 1) := by decide +kernel
theorem dX7_isReadable_56 : decode cX7_isReadable 56 = .ok (.ireturn, 1) := by decide +kernel
theorem dX7_isReadable_57 : decode cX7_isReadable 57 = .ok (.lload_n 2, 1) := by decide +kernel
theorem dX7_isReadable_58 : decode cX7_isReadable 58 = .ok (.iconst 5, 1) := by decide +kernel
theorem dX7_isReadable_59 : decode cX7_isReadable 59 = .ok (.lshr, 1) := by decide +kernel
theorem dX7_isReadable_60 : decode cX7_isReadable 60 = .ok (.lstore_n 2, 1) := by decide +kernel
theorem dX7_isReadable_61 : decode cX7_isReadable 61 = .ok (.iinc 4 1, 3) := by decide +kernel
theorem dX7_isReadable_64 : decode cX7_isReadable 64 = .ok (.goto (-42), 3) := by decide +kernel
theorem dX7_isReadable_67 : decode cX7_isReadable 67 = .ok (.iconst 1, 1) := by decide +kernel
theorem dX7_isReadable_68 : decode cX7_isReadable 68 = .ok (.ireturn, 1) := by decide +kernel
theorem dX7_add_0 : decode cX7_add 0 = .ok (.aload_n 0, 1) := by decide +kernel
theorem dX7_add_1 : decode cX7_add 1 = .ok (.getfield 29, 3) := by decide +kernel
theorem dX7_add_4 : decode cX7_add 4 = .ok (.istore_n 3, 1) := by decide +kernel
theorem dX7_add_5 : decode cX7_add 5 = .ok (.aload_n 0, 1) := by decide +kernel
theorem dX7_add_6 : decode cX7_add 6 = .ok (.getfield 18, 3) := by decide +kernel
theorem dX7_add_9 : decode cX7_add 9 = .ok (.iload_n 3, 1) := by decide +kernel
theorem dX7_add_10 : decode cX7_add 10 = .ok (.aload_n 0, 1) := by decide +kernel
theorem dX7_add_11 : decode cX7_add 11 = .ok (.getfield 33, 3) := by decide +kernel
theorem dX7_add_14 : decode cX7_add 14 = .ok (.iastore, 1) := by decide +kernel
theorem dX7_add_15 : decode cX7_add 15 = .ok (.lload_n 1, 1) := by decide +kernel
theorem dX7_add_16 : decode cX7_add 16 = .ok (.lstore 4, 2) := by decide +kernel
theorem dX7_add_18 : decode cX7_add 18 = .ok (.iconst 0, 1) := by decide +kernel
theorem dX7_add_19 : decode cX7_add 19 = .ok (.istore 6, 2) := by decide +kernel
theorem dX7_add_21 : decode cX7_add 21 = .ok (.iload 6, 2) := by decide +kernel
theorem dX7_add_23 : decode cX7_add 23 = .ok (.bipush 12, 2) := by decide +kernel
theorem dX7_add_25 : decode cX7_add 25 = .ok (.if_icmp .ge 34, 3) := by decide +kernel
theorem dX7_add_28 : decode cX7_add 28 = .ok (.lload 4, 2) := by decide +kernel
theorem dX7_add_30 : decode cX7_add 30 = .ok (.lconst 0, 1) := by decide +kernel
theorem dX7_add_31 : decode cX7_add 31 = .ok (.lcmp, 1) := by decide +kernel
theorem dX7_add_32 : decode cX7_add 32 = .ok (.ifCond .eq 27, 3) := by decide +kernel
theorem dX7_add_35 : decode cX7_add 35 = .ok (.aload_n 0, 1) := by decide +kernel
theorem dX7_add_36 : decode cX7_add 36 = .ok (.iload_n 3, 1) := by decide +kernel
theorem dX7_add_37 : decode cX7_add 37 = .ok (.lload 4, 2) := by decide +kernel
theorem dX7_add_39 : decode cX7_add 39 = .ok (.ldc2_w 27, 3) := by decide +kernel
theorem dX7_add_42 : decode cX7_add 42 = .ok (.land, 1) := by decide +kernel
theorem dX7_add_43 : decode cX7_add 43 = .ok (.l2i, 1) := by decide +kernel
theorem dX7_add_44 : decode cX7_add 44 = .ok (.invokevirtual 36, 3) := by decide +kernel
theorem dX7_add_47 : decode cX7_add 47 = .ok (.lload 4, 2) := by decide +kernel
theorem dX7_add_49 : decode cX7_add 49 = .ok (.iconst 5, 1) := by decide +kernel
theorem dX7_add_50 : decode cX7_add 50 = .ok (.lshr, 1) := by decide +kernel
theorem dX7_add_51 : decode cX7_add 51 = .ok (.lstore 4, 2) := by decide +kernel
theorem dX7_add_53 : decode cX7_add 53 = .ok (.iinc 6 1, 3) := by decide +kernel
theorem dX7_add_56 : decode cX7_add 56 = .ok (.goto (-35), 3) := by decide +kernel
theorem dX7_add_59 : decode cX7_add 59 = .ok (.aload_n 0, 1) := by decide +kernel
theorem dX7_add_60 : decode cX7_add 60 = .ok (.dup, 1) := by decide +kernel
theorem dX7_add_61 : decode cX7_add 61 = .ok (.getfield 29, 3) := by decide +kernel
theorem dX7_add_64 : decode cX7_add 64 = .ok (.iconst 1, 1) := by decide +kernel
theorem dX7_add_65 : decode cX7_add 65 = .ok (.iadd, 1) := by decide +kernel
theorem dX7_add_66 : decode cX7_add 66 = .ok (.putfield 29, 3) := by decide +kernel
theorem dX7_add_69 : decode cX7_add 69 = .ok (.iload_n 3, 1) := by decide +kernel
theorem dX7_add_70 : decode cX7_add 70 = .ok (.ireturn, 1) := by decide +kernel
theorem dX7_addDigit_0 : decode cX7_addDigit 0 = .ok (.aload_n 0, 1) := by decide +kernel
theorem dX7_addDigit_1 : decode cX7_addDigit 1 = .ok (.getfield 21, 3) := by decide +kernel
theorem dX7_addDigit_4 : decode cX7_addDigit 4 = .ok (.iload_n 1, 1) := by decide +kernel
theorem dX7_addDigit_5 : decode cX7_addDigit 5 = .ok (.bipush 12, 2) := by decide +kernel
theorem dX7_addDigit_7 : decode cX7_addDigit 7 = .ok (.imul, 1) := by decide +kernel
theorem dX7_addDigit_8 : decode cX7_addDigit 8 = .ok (.aload_n 0, 1) := by decide +kernel
theorem dX7_addDigit_9 : decode cX7_addDigit 9 = .ok (.getfield 9, 3) := by decide +kernel
theorem dX7_addDigit_12 : decode cX7_addDigit 12 = .ok (.iload_n 1, 1) := by decide +kernel
theorem dX7_addDigit_13 : decode cX7_addDigit 13 = .ok (.iaload, 1) := by decide +kernel
theorem dX7_addDigit_14 : decode cX7_addDigit 14 = .ok (.iadd, 1) := by decide +kernel
theorem dX7_addDigit_15 : decode cX7_addDigit 15 = .ok (.iload_n 2, 1) := by decide +kernel
theorem dX7_addDigit_16 : decode cX7_addDigit 16 = .ok (.iastore, 1) := by decide +kernel
theorem dX7_addDigit_17 : decode cX7_addDigit 17 = .ok (.aload_n 0, 1) := by decide +kernel
theorem dX7_addDigit_18 : decode cX7_addDigit 18 = .ok (.getfield 9, 3) := by decide +kernel
theorem dX7_addDigit_21 : decode cX7_addDigit 21 = .ok (.iload_n 1, 1) := by decide +kernel
theorem dX7_addDigit_22 : decode cX7_addDigit 22 = .ok (.dup2, 1) := by decide +kernel
theorem dX7_addDigit_23 : decode cX7_addDigit 23 = .ok (.iaload, 1) := by decide +kernel
theorem dX7_addDigit_24 : decode cX7_addDigit 24 = .ok (.iconst 1, 1) := by decide +kernel
theorem dX7_addDigit_25 : decode cX7_addDigit 25 = .ok (.iadd, 1) := by decide +kernel
theorem dX7_addDigit_26 : decode cX7_addDigit 26 = .ok (.iastore, 1) := by decide +kernel
theorem dX7_addDigit_27 : decode cX7_addDigit 27 = .ok (.iload_n 2, 1) := by decide +kernel
theorem dX7_addDigit_28 : decode cX7_addDigit 28 = .ok (.bipush 27, 2) := by decide +kernel
theorem dX7_addDigit_30 : decode cX7_addDigit 30 = .ok (.if_icmp .ne 16, 3) := by decide +kernel
theorem dX7_addDigit_33 : decode cX7_addDigit 33 = .ok (.aload_n 0, 1) := by decide +kernel
theorem dX7_addDigit_34 : decode cX7_addDigit 34 = .ok (.getfield 15, 3) := by decide +kernel
theorem dX7_addDigit_37 : decode cX7_addDigit 37 = .ok (.iload_n 1, 1) := by decide +kernel
theorem dX7_addDigit_38 : decode cX7_addDigit 38 = .ok (.dup2, 1) := by decide +kernel
theorem dX7_addDigit_39 : decode cX7_addDigit 39 = .ok (.iaload, 1) := by decide +kernel
theorem dX7_addDigit_40 : decode cX7_addDigit 40 = .ok (.iconst 1, 1) := by decide +kernel
theorem dX7_addDigit_41 : decode cX7_addDigit 41 = .ok (.iadd, 1) := by decide +kernel
theorem dX7_addDigit_42 : decode cX7_addDigit 42 = .ok (.iastore, 1) := by decide +kernel
theorem dX7_addDigit_43 : decode cX7_addDigit 43 = .ok (.goto 25, 3) := by decide +kernel
theorem dX7_addDigit_46 : decode cX7_addDigit 46 = .ok (.aload_n 0, 1) := by decide +kernel
theorem dX7_addDigit_47 : decode cX7_addDigit 47 = .ok (.getfield 24, 3) := by decide +kernel
theorem dX7_addDigit_50 : decode cX7_addDigit 50 = .ok (.aload_n 0, 1) := by decide +kernel
theorem dX7_addDigit_51 : decode cX7_addDigit 51 = .ok (.getfield 33, 3) := by decide +kernel
theorem dX7_addDigit_54 : decode cX7_addDigit 54 = .ok (.iload_n 2, 1) := by decide +kernel
theorem dX7_addDigit_55 : decode cX7_addDigit 55 = .ok (.iconst 1, 1) := by decide +kernel
theorem dX7_addDigit_56 : decode cX7_addDigit 56 = .ok (.isub, 1) := by decide +kernel
theorem dX7_addDigit_57 : decode cX7_addDigit 57 = .ok (.iastore, 1) := by decide +kernel
theorem dX7_addDigit_58 : decode cX7_addDigit 58 = .ok (.aload_n 0, 1) := by decide +kernel
theorem dX7_addDigit_59 : decode cX7_addDigit 59 = .ok (.dup, 1) := by decide +kernel
theorem dX7_addDigit_60 : decode cX7_addDigit 60 = .ok (.getfield 33, 3) := by decide +kernel
theorem dX7_addDigit_63 : decode cX7_addDigit 63 = .ok (.iconst 1, 1) := by decide +kernel
theorem dX7_addDigit_64 : decode cX7_addDigit 64 = .ok (.iadd, 1) := by decide +kernel
theorem dX7_addDigit_65 : decode cX7_addDigit 65 = .ok (.putfield 33, 3) := by decide +kernel
theorem dX7_addDigit_68 : decode cX7_addDigit 68 = .ok (.return_, 1) := by decide +kernel
theorem dX7_has_0 : decode cX7_has 0 = .ok (.iload_n 1, 1) := by decide +kernel
theorem dX7_has_1 : decode cX7_has 1 = .ok (.ifCond .lt 15, 3) := by decide +kernel
theorem dX7_has_4 : decode cX7_has 4 = .ok (.iload_n 1, 1) := by decide +kernel
theorem dX7_has_5 : decode cX7_has 5 = .ok (.aload_n 0, 1) := by decide +kernel
theorem dX7_has_6 : decode cX7_has 6 = .ok (.getfield 29, 3) := by decide +kernel
theorem dX7_has_9 : decode cX7_has 9 = .ok (.if_icmp .ge 7, 3) := by decide +kernel
theorem dX7_has_12 : decode cX7_has 12 = .ok (.iconst 1, 1) := by decide +kernel
theorem dX7_has_13 : decode cX7_has 13 = .ok (.goto 4, 3) := by decide +kernel
theorem dX7_has_16 : decode cX7_has 16 = .ok (.iconst 0, 1) := by decide +kernel
theorem dX7_has_17 : decode cX7_has 17 = .ok (.ireturn, 1) := by decide +kernel
theorem dX7_total_0 : decode cX7_total 0 = .ok (.aload_n 0, 1) := by decide +kernel
theorem dX7_total_1 : decode cX7_total 1 = .ok (.getfield 29, 3) := by decide +kernel
theorem dX7_total_4 : decode cX7_total 4 = .ok (.ireturn, 1) := by decide +kernel
theorem dX7_lengthOf_0 : decode cX7_lengthOf 0 = .ok (.aload_n 0, 1) := by decide +kernel
theorem dX7_lengthOf_1 : decode cX7_lengthOf 1 = .ok (.getfield 9, 3) := by decide +kernel
theorem dX7_lengthOf_4 : decode cX7_lengthOf 4 = .ok (.iload_n 1, 1) := by decide +kernel
theorem dX7_lengthOf_5 : decode cX7_lengthOf 5 = .ok (.iaload, 1) := by decide +kernel
theorem dX7_lengthOf_6 : decode cX7_lengthOf 6 = .ok (.ireturn, 1) := by decide +kernel
theorem dX7_holesOf_0 : decode cX7_holesOf 0 = .ok (.aload_n 0, 1) := by decide +kernel
theorem dX7_holesOf_1 : decode cX7_holesOf 1 = .ok (.getfield 15, 3) := by decide +kernel
theorem dX7_holesOf_4 : decode cX7_holesOf 4 = .ok (.iload_n 1, 1) := by decide +kernel
theorem dX7_holesOf_5 : decode cX7_holesOf 5 = .ok (.iaload, 1) := by decide +kernel
theorem dX7_holesOf_6 : decode cX7_holesOf 6 = .ok (.ireturn, 1) := by decide +kernel
theorem dX7_isHole_0 : decode cX7_isHole 0 = .ok (.aload_n 0, 1) := by decide +kernel
theorem dX7_isHole_1 : decode cX7_isHole 1 = .ok (.getfield 21, 3) := by decide +kernel
theorem dX7_isHole_4 : decode cX7_isHole 4 = .ok (.iload_n 1, 1) := by decide +kernel
theorem dX7_isHole_5 : decode cX7_isHole 5 = .ok (.bipush 12, 2) := by decide +kernel
theorem dX7_isHole_7 : decode cX7_isHole 7 = .ok (.imul, 1) := by decide +kernel
theorem dX7_isHole_8 : decode cX7_isHole 8 = .ok (.iload_n 2, 1) := by decide +kernel
theorem dX7_isHole_9 : decode cX7_isHole 9 = .ok (.iadd, 1) := by decide +kernel
theorem dX7_isHole_10 : decode cX7_isHole 10 = .ok (.iaload, 1) := by decide +kernel
theorem dX7_isHole_11 : decode cX7_isHole 11 = .ok (.bipush 27, 2) := by decide +kernel
theorem dX7_isHole_13 : decode cX7_isHole 13 = .ok (.if_icmp .ne 7, 3) := by decide +kernel
theorem dX7_isHole_16 : decode cX7_isHole 16 = .ok (.iconst 1, 1) := by decide +kernel
theorem dX7_isHole_17 : decode cX7_isHole 17 = .ok (.goto 4, 3) := by decide +kernel
theorem dX7_isHole_20 : decode cX7_isHole 20 = .ok (.iconst 0, 1) := by decide +kernel
theorem dX7_isHole_21 : decode cX7_isHole 21 = .ok (.ireturn, 1) := by decide +kernel
theorem dX7_firstLetterOf_0 : decode cX7_firstLetterOf 0 = .ok (.aload_n 0, 1) := by decide +kernel
theorem dX7_firstLetterOf_1 : decode cX7_firstLetterOf 1 = .ok (.getfield 18, 3) := by decide +kernel
theorem dX7_firstLetterOf_4 : decode cX7_firstLetterOf 4 = .ok (.iload_n 1, 1) := by decide +kernel
theorem dX7_firstLetterOf_5 : decode cX7_firstLetterOf 5 = .ok (.iaload, 1) := by decide +kernel
theorem dX7_firstLetterOf_6 : decode cX7_firstLetterOf 6 = .ok (.ireturn, 1) := by decide +kernel
theorem dX7_letterTotal_0 : decode cX7_letterTotal 0 = .ok (.aload_n 0, 1) := by decide +kernel
theorem dX7_letterTotal_1 : decode cX7_letterTotal 1 = .ok (.getfield 33, 3) := by decide +kernel
theorem dX7_letterTotal_4 : decode cX7_letterTotal 4 = .ok (.ireturn, 1) := by decide +kernel
theorem dX7_letterAt_0 : decode cX7_letterAt 0 = .ok (.aload_n 0, 1) := by decide +kernel
theorem dX7_letterAt_1 : decode cX7_letterAt 1 = .ok (.getfield 24, 3) := by decide +kernel
theorem dX7_letterAt_4 : decode cX7_letterAt 4 = .ok (.iload_n 1, 1) := by decide +kernel
theorem dX7_letterAt_5 : decode cX7_letterAt 5 = .ok (.iaload, 1) := by decide +kernel
theorem dX7_letterAt_6 : decode cX7_letterAt 6 = .ok (.ireturn, 1) := by decide +kernel
theorem dX8_init_0 : decode cX8_init 0 = .ok (.aload_n 0, 1) := by decide +kernel
theorem dX8_init_1 : decode cX8_init 1 = .ok (.invokespecial 3, 3) := by decide +kernel
theorem dX8_init_4 : decode cX8_init 4 = .ok (.aload_n 0, 1) := by decide +kernel
theorem dX8_init_5 : decode cX8_init 5 = .ok (.sipush 400, 3) := by decide +kernel
theorem dX8_init_8 : decode cX8_init 8 = .ok (.newarray .int, 2) := by decide +kernel
theorem dX8_init_10 : decode cX8_init 10 = .ok (.putfield 9, 3) := by decide +kernel
theorem dX8_init_13 : decode cX8_init 13 = .ok (.aload_n 0, 1) := by decide +kernel
theorem dX8_init_14 : decode cX8_init 14 = .ok (.sipush 400, 3) := by decide +kernel
theorem dX8_init_17 : decode cX8_init 17 = .ok (.newarray .int, 2) := by decide +kernel
theorem dX8_init_19 : decode cX8_init 19 = .ok (.putfield 15, 3) := by decide +kernel
theorem dX8_init_22 : decode cX8_init 22 = .ok (.aload_n 0, 1) := by decide +kernel
theorem dX8_init_23 : decode cX8_init 23 = .ok (.sipush 200, 3) := by decide +kernel
theorem dX8_init_26 : decode cX8_init 26 = .ok (.newarray .byte, 2) := by decide +kernel
theorem dX8_init_28 : decode cX8_init 28 = .ok (.putfield 18, 3) := by decide +kernel
theorem dX8_init_31 : decode cX8_init 31 = .ok (.aload_n 0, 1) := by decide +kernel
theorem dX8_init_32 : decode cX8_init 32 = .ok (.sipush 200, 3) := by decide +kernel
theorem dX8_init_35 : decode cX8_init 35 = .ok (.newarray .byte, 2) := by decide +kernel
theorem dX8_init_37 : decode cX8_init 37 = .ok (.putfield 22, 3) := by decide +kernel
theorem dX8_init_40 : decode cX8_init 40 = .ok (.aload_n 0, 1) := by decide +kernel
theorem dX8_init_41 : decode cX8_init 41 = .ok (.sipush 200, 3) := by decide +kernel
theorem dX8_init_44 : decode cX8_init 44 = .ok (.newarray .byte, 2) := by decide +kernel
theorem dX8_init_46 : decode cX8_init 46 = .ok (.putfield 25, 3) := by decide +kernel
theorem dX8_init_49 : decode cX8_init 49 = .ok (.return_, 1) := by decide +kernel
theorem dX8_clear_0 : decode cX8_clear 0 = .ok (.aload_n 0, 1) := by decide +kernel
theorem dX8_clear_1 : decode cX8_clear 1 = .ok (.iconst 0, 1) := by decide +kernel
theorem dX8_clear_2 : decode cX8_clear 2 = .ok (.putfield 28, 3) := by decide +kernel
theorem dX8_clear_5 : decode cX8_clear 5 = .ok (.aload_n 0, 1) := by decide +kernel
theorem dX8_clear_6 : decode cX8_clear 6 = .ok (.iconst 0, 1) := by decide +kernel
theorem dX8_clear_7 : decode cX8_clear 7 = .ok (.putfield 32, 3) := by decide +kernel
theorem dX8_clear_10 : decode cX8_clear 10 = .ok (.return_, 1) := by decide +kernel
theorem dX8_outputLength_0 : decode cX8_outputLength 0 = .ok (.aload_n 0, 1) := by decide +kernel
theorem dX8_outputLength_1 : decode cX8_outputLength 1 = .ok (.getfield 32, 3) := by decide +kernel
theorem dX8_outputLength_4 : decode cX8_outputLength 4 = .ok (.ireturn, 1) := by decide +kernel
theorem dX8_outputAt_0 : decode cX8_outputAt 0 = .ok (.aload_n 0, 1) := by decide +kernel
theorem dX8_outputAt_1 : decode cX8_outputAt 1 = .ok (.getfield 25, 3) := by decide +kernel
theorem dX8_outputAt_4 : decode cX8_outputAt 4 = .ok (.iload_n 1, 1) := by decide +kernel
theorem dX8_outputAt_5 : decode cX8_outputAt 5 = .ok (.baload, 1) := by decide +kernel
theorem dX8_outputAt_6 : decode cX8_outputAt 6 = .ok (.ireturn, 1) := by decide +kernel
theorem dX8_begin_0 : decode cX8_begin 0 = .ok (.aload_n 0, 1) := by decide +kernel
theorem dX8_begin_1 : decode cX8_begin 1 = .ok (.getfield 28, 3) := by decide +kernel
theorem dX8_begin_4 : decode cX8_begin 4 = .ok (.sipush 400, 3) := by decide +kernel
theorem dX8_begin_7 : decode cX8_begin 7 = .ok (.if_icmp .ne 7, 3) := by decide +kernel
theorem dX8_begin_10 : decode cX8_begin 10 = .ok (.ldc2_w 35, 3) := by decide +kernel
theorem dX8_begin_13 : decode cX8_begin 13 = .ok (.lreturn, 1) := by decide +kernel
theorem dX8_begin_14 : decode cX8_begin 14 = .ok (.aload_n 0, 1) := by decide +kernel
theorem dX8_begin_15 : decode cX8_begin 15 = .ok (.getfield 9, 3) := by decide +kernel
theorem dX8_begin_18 : decode cX8_begin 18 = .ok (.aload_n 0, 1) := by decide +kernel
theorem dX8_begin_19 : decode cX8_begin 19 = .ok (.getfield 28, 3) := by decide +kernel
theorem dX8_begin_22 : decode cX8_begin 22 = .ok (.aload_n 0, 1) := by decide +kernel
theorem dX8_begin_23 : decode cX8_begin 23 = .ok (.getfield 28, 3) := by decide +kernel
theorem dX8_begin_26 : decode cX8_begin 26 = .ok (.ifCond .ne 7, 3) := by decide +kernel
theorem dX8_begin_29 : decode cX8_begin 29 = .ok (.iconst 0, 1) := by decide +kernel
theorem dX8_begin_30 : decode cX8_begin 30 = .ok (.goto 26, 3) := by decide +kernel
theorem dX8_begin_33 : decode cX8_begin 33 = .ok (.aload_n 0, 1) := by decide +kernel
theorem dX8_begin_34 : decode cX8_begin 34 = .ok (.getfield 9, 3) := by decide +kernel
theorem dX8_begin_37 : decode cX8_begin 37 = .ok (.aload_n 0, 1) := by decide +kernel
theorem dX8_begin_38 : decode cX8_begin 38 = .ok (.getfield 28, 3) := by decide +kernel
theorem dX8_begin_41 : decode cX8_begin 41 = .ok (.iconst 1, 1) := by decide +kernel
theorem dX8_begin_42 : decode cX8_begin 42 = .ok (.isub, 1) := by decide +kernel
theorem dX8_begin_43 : decode cX8_begin 43 = .ok (.iaload, 1) := by decide +kernel
theorem dX8_begin_44 : decode cX8_begin 44 = .ok (.aload_n 0, 1) := by decide +kernel
theorem dX8_begin_45 : decode cX8_begin 45 = .ok (.getfield 15, 3) := by decide +kernel
theorem dX8_begin_48 : decode cX8_begin 48 = .ok (.aload_n 0, 1) := by decide +kernel
theorem dX8_begin_49 : decode cX8_begin 49 = .ok (.getfield 28, 3) := by decide +kernel
theorem dX8_begin_52 : decode cX8_begin 52 = .ok (.iconst 1, 1) := by decide +kernel
theorem dX8_begin_53 : decode cX8_begin 53 = .ok (.isub, 1) := by decide +kernel
theorem dX8_begin_54 : decode cX8_begin 54 = .ok (.iaload, 1) := by decide +kernel
theorem dX8_begin_55 : decode cX8_begin 55 = .ok (.iadd, 1) := by decide +kernel
theorem dX8_begin_56 : decode cX8_begin 56 = .ok (.iastore, 1) := by decide +kernel
theorem dX8_begin_57 : decode cX8_begin 57 = .ok (.aload_n 0, 1) := by decide +kernel
theorem dX8_begin_58 : decode cX8_begin 58 = .ok (.getfield 15, 3) := by decide +kernel
theorem dX8_begin_61 : decode cX8_begin 61 = .ok (.aload_n 0, 1) := by decide +kernel
theorem dX8_begin_62 : decode cX8_begin 62 = .ok (.getfield 28, 3) := by decide +kernel
theorem dX8_begin_65 : decode cX8_begin 65 = .ok (.iconst 0, 1) := by decide +kernel
theorem dX8_begin_66 : decode cX8_begin 66 = .ok (.iastore, 1) := by decide +kernel
theorem dX8_begin_67 : decode cX8_begin 67 = .ok (.aload_n 0, 1) := by decide +kernel
theorem dX8_begin_68 : decode cX8_begin 68 = .ok (.dup, 1) := by decide +kernel
theorem dX8_begin_69 : decode cX8_begin 69 = .ok (.getfield 28, 3) := by decide +kernel
theorem dX8_begin_72 : decode cX8_begin 72 = .ok (.iconst 1, 1) := by decide +kernel
theorem dX8_begin_73 : decode cX8_begin 73 = .ok (.iadd, 1) := by decide +kernel
theorem dX8_begin_74 : decode cX8_begin 74 = .ok (.putfield 28, 3) := by decide +kernel
theorem dX8_begin_77 : decode cX8_begin 77 = .ok (.iconst 2, 1) := by decide +kernel
theorem dX8_begin_78 : decode cX8_begin 78 = .ok (.aload_n 0, 1) := by decide +kernel
theorem dX8_begin_79 : decode cX8_begin 79 = .ok (.getfield 28, 3) := by decide +kernel
theorem dX8_begin_82 : decode cX8_begin 82 = .ok (.iconst 1, 1) := by decide +kernel
theorem dX8_begin_83 : decode cX8_begin 83 = .ok (.isub, 1) := by decide +kernel
theorem dX8_begin_84 : decode cX8_begin 84 = .ok (.invokestatic 37, 3) := by decide +kernel
theorem dX8_begin_87 : decode cX8_begin 87 = .ok (.lreturn, 1) := by decide +kernel
theorem dX8_appendLetter_0 : decode cX8_appendLetter 0 = .ok (.aload_n 0, 1) := by decide +kernel
theorem dX8_appendLetter_1 : decode cX8_appendLetter 1 = .ok (.getfield 22, 3) := by decide +kernel
theorem dX8_appendLetter_4 : decode cX8_appendLetter 4 = .ok (.iconst 0, 1) := by decide +kernel
theorem dX8_appendLetter_5 : decode cX8_appendLetter 5 = .ok (.bipush 97, 2) := by decide +kernel
theorem dX8_appendLetter_7 : decode cX8_appendLetter 7 = .ok (.iload_n 2, 1) := by decide +kernel
theorem dX8_appendLetter_8 : decode cX8_appendLetter 8 = .ok (.iadd, 1) := by decide +kernel
theorem dX8_appendLetter_9 : decode cX8_appendLetter 9 = .ok (.i2b, 1) := by decide +kernel
theorem dX8_appendLetter_10 : decode cX8_appendLetter 10 = .ok (.bastore, 1) := by decide +kernel
theorem dX8_appendLetter_11 : decode cX8_appendLetter 11 = .ok (.aload_n 0, 1) := by decide +kernel
theorem dX8_appendLetter_12 : decode cX8_appendLetter 12 = .ok (.iconst 1, 1) := by decide +kernel
theorem dX8_appendLetter_13 : decode cX8_appendLetter 13 = .ok (.putfield 41, 3) := by decide +kernel
theorem dX8_appendLetter_16 : decode cX8_appendLetter 16 = .ok (.aload_n 0, 1) := by decide +kernel
theorem dX8_appendLetter_17 : decode cX8_appendLetter 17 = .ok (.iload_n 1, 1) := by decide +kernel
theorem dX8_appendLetter_18 : decode cX8_appendLetter 18 = .ok (.invokevirtual 44, 3) := by decide +kernel
theorem dX8_appendLetter_21 : decode cX8_appendLetter 21 = .ok (.ireturn, 1) := by decide +kernel
theorem dX8_appendValue_0 : decode cX8_appendValue 0 = .ok (.aload_n 0, 1) := by decide +kernel
theorem dX8_appendValue_1 : decode cX8_appendValue 1 = .ok (.lload_n 2, 1) := by decide +kernel
theorem dX8_appendValue_2 : decode cX8_appendValue 2 = .ok (.invokevirtual 48, 3) := by decide +kernel
theorem dX8_appendValue_5 : decode cX8_appendValue 5 = .ok (.aload_n 0, 1) := by decide +kernel
theorem dX8_appendValue_6 : decode cX8_appendValue 6 = .ok (.iload_n 1, 1) := by decide +kernel
theorem dX8_appendValue_7 : decode cX8_appendValue 7 = .ok (.invokevirtual 44, 3) := by decide +kernel
theorem dX8_appendValue_10 : decode cX8_appendValue 10 = .ok (.ireturn, 1) := by decide +kernel
theorem dX8_sayValue_0 : decode cX8_sayValue 0 = .ok (.aload_n 0, 1) := by decide +kernel
theorem dX8_sayValue_1 : decode cX8_sayValue 1 = .ok (.lload_n 1, 1) := by decide +kernel
theorem dX8_sayValue_2 : decode cX8_sayValue 2 = .ok (.invokevirtual 48, 3) := by decide +kernel
theorem dX8_sayValue_5 : decode cX8_sayValue 5 = .ok (.aload_n 0, 1) := by decide +kernel
theorem dX8_sayValue_6 : decode cX8_sayValue 6 = .ok (.getfield 32, 3) := by decide +kernel
theorem dX8_sayValue_9 : decode cX8_sayValue 9 = .ok (.aload_n 0, 1) := by decide +kernel
theorem dX8_sayValue_10 : decode cX8_sayValue 10 = .ok (.getfield 41, 3) := by decide +kernel
theorem dX8_sayValue_13 : decode cX8_sayValue 13 = .ok (.iadd, 1) := by decide +kernel
theorem dX8_sayValue_14 : decode cX8_sayValue 14 = .ok (.sipush 200, 3) := by decide +kernel
theorem dX8_sayValue_17 : decode cX8_sayValue 17 = .ok (.if_icmp .le 5, 3) := by decide +kernel
theorem dX8_sayValue_20 : decode cX8_sayValue 20 = .ok (.iconst 0, 1) := by decide +kernel
theorem dX8_sayValue_21 : decode cX8_sayValue 21 = .ok (.ireturn, 1) := by decide +kernel
theorem dX8_sayValue_22 : decode cX8_sayValue 22 = .ok (.aload_n 0, 1) := by decide +kernel
theorem dX8_sayValue_23 : decode cX8_sayValue 23 = .ok (.getfield 22, 3) := by decide +kernel
theorem dX8_sayValue_26 : decode cX8_sayValue 26 = .ok (.iconst 0, 1) := by decide +kernel
theorem dX8_sayValue_27 : decode cX8_sayValue 27 = .ok (.aload_n 0, 1) := by decide +kernel
theorem dX8_sayValue_28 : decode cX8_sayValue 28 = .ok (.getfield 25, 3) := by decide +kernel
theorem dX8_sayValue_31 : decode cX8_sayValue 31 = .ok (.aload_n 0, 1) := by decide +kernel
theorem dX8_sayValue_32 : decode cX8_sayValue 32 = .ok (.getfield 32, 3) := by decide +kernel
theorem dX8_sayValue_35 : decode cX8_sayValue 35 = .ok (.aload_n 0, 1) := by decide +kernel
theorem dX8_sayValue_36 : decode cX8_sayValue 36 = .ok (.getfield 41, 3) := by decide +kernel
theorem dX8_sayValue_39 : decode cX8_sayValue 39 = .ok (.invokestatic 52, 3) := by decide +kernel
theorem dX8_sayValue_42 : decode cX8_sayValue 42 = .ok (.aload_n 0, 1) := by decide +kernel
theorem dX8_sayValue_43 : decode cX8_sayValue 43 = .ok (.dup, 1) := by decide +kernel
theorem dX8_sayValue_44 : decode cX8_sayValue 44 = .ok (.getfield 32, 3) := by decide +kernel
theorem dX8_sayValue_47 : decode cX8_sayValue 47 = .ok (.aload_n 0, 1) := by decide +kernel
theorem dX8_sayValue_48 : decode cX8_sayValue 48 = .ok (.getfield 41, 3) := by decide +kernel
theorem dX8_sayValue_51 : decode cX8_sayValue 51 = .ok (.iadd, 1) := by decide +kernel
theorem dX8_sayValue_52 : decode cX8_sayValue 52 = .ok (.putfield 32, 3) := by decide +kernel
theorem dX8_sayValue_55 : decode cX8_sayValue 55 = .ok (.iconst 1, 1) := by decide +kernel
theorem dX8_sayValue_56 : decode cX8_sayValue 56 = .ok (.ireturn, 1) := by decide +kernel
theorem dX8_appendSpelled_0 : decode cX8_appendSpelled 0 = .ok (.aload_n 0, 1) := by decide +kernel
theorem dX8_appendSpelled_1 : decode cX8_appendSpelled 1 = .ok (.getfield 15, 3) := by decide +kernel
theorem dX8_appendSpelled_4 : decode cX8_appendSpelled 4 = .ok (.iload_n 1, 1) := by decide +kernel
theorem dX8_appendSpelled_5 : decode cX8_appendSpelled 5 = .ok (.iaload, 1) := by decide +kernel
theorem dX8_appendSpelled_6 : decode cX8_appendSpelled 6 = .ok (.aload_n 0, 1) := by decide +kernel
theorem dX8_appendSpelled_7 : decode cX8_appendSpelled 7 = .ok (.getfield 41, 3) := by decide +kernel
theorem dX8_appendSpelled_10 : decode cX8_appendSpelled 10 = .ok (.iadd, 1) := by decide +kernel
theorem dX8_appendSpelled_11 : decode cX8_appendSpelled 11 = .ok (.sipush 200, 3) := by decide +kernel
theorem dX8_appendSpelled_14 : decode cX8_appendSpelled 14 = .ok (.if_icmp .le 5, 3) := by decide +kernel
theorem dX8_appendSpelled_17 : decode cX8_appendSpelled 17 = .ok (.iconst 0, 1) := by decide +kernel
theorem dX8_appendSpelled_18 : decode cX8_appendSpelled 18 = .ok (.ireturn, 1) := by decide +kernel
theorem dX8_appendSpelled_19 : decode cX8_appendSpelled 19 = .ok (.aload_n 0, 1) := by decide +kernel
theorem dX8_appendSpelled_20 : decode cX8_appendSpelled 20 = .ok (.getfield 9, 3) := by decide +kernel
theorem dX8_appendSpelled_23 : decode cX8_appendSpelled 23 = .ok (.iload_n 1, 1) := by decide +kernel
theorem dX8_appendSpelled_24 : decode cX8_appendSpelled 24 = .ok (.iaload, 1) := by decide +kernel
theorem dX8_appendSpelled_25 : decode cX8_appendSpelled 25 = .ok (.aload_n 0, 1) := by decide +kernel
theorem dX8_appendSpelled_26 : decode cX8_appendSpelled 26 = .ok (.getfield 15, 3) := by decide +kernel
theorem dX8_appendSpelled_29 : decode cX8_appendSpelled 29 = .ok (.iload_n 1, 1) := by decide +kernel
theorem dX8_appendSpelled_30 : decode cX8_appendSpelled 30 = .ok (.iaload, 1) := by decide +kernel
theorem dX8_appendSpelled_31 : decode cX8_appendSpelled 31 = .ok (.iadd, 1) := by decide +kernel
theorem dX8_appendSpelled_32 : decode cX8_appendSpelled 32 = .ok (.istore_n 2, 1) := by decide +kernel
theorem dX8_appendSpelled_33 : decode cX8_appendSpelled 33 = .ok (.iload_n 2, 1) := by decide +kernel
theorem dX8_appendSpelled_34 : decode cX8_appendSpelled 34 = .ok (.aload_n 0, 1) := by decide +kernel
theorem dX8_appendSpelled_35 : decode cX8_appendSpelled 35 = .ok (.getfield 41, 3) := by decide +kernel
theorem dX8_appendSpelled_38 : decode cX8_appendSpelled 38 = .ok (.iadd, 1) := by decide +kernel
theorem dX8_appendSpelled_39 : decode cX8_appendSpelled 39 = .ok (.aload_n 0, 1) := by decide +kernel
theorem dX8_appendSpelled_40 : decode cX8_appendSpelled 40 = .ok (.getfield 18, 3) := by decide +kernel
theorem dX8_appendSpelled_43 : decode cX8_appendSpelled 43 = .ok (.arraylength, 1) := by decide +kernel
theorem dX8_appendSpelled_44 : decode cX8_appendSpelled 44 = .ok (.if_icmp .le 26, 3) := by decide +kernel
theorem dX8_appendSpelled_47 : decode cX8_appendSpelled 47 = .ok (.aload_n 0, 1) := by decide +kernel
theorem dX8_appendSpelled_48 : decode cX8_appendSpelled 48 = .ok (.aload_n 0, 1) := by decide +kernel
theorem dX8_appendSpelled_49 : decode cX8_appendSpelled 49 = .ok (.getfield 18, 3) := by decide +kernel
theorem dX8_appendSpelled_52 : decode cX8_appendSpelled 52 = .ok (.iconst 2, 1) := by decide +kernel
theorem dX8_appendSpelled_53 : decode cX8_appendSpelled 53 = .ok (.aload_n 0, 1) := by decide +kernel
theorem dX8_appendSpelled_54 : decode cX8_appendSpelled 54 = .ok (.getfield 18, 3) := by decide +kernel
theorem dX8_appendSpelled_57 : decode cX8_appendSpelled 57 = .ok (.arraylength, 1) := by decide +kernel
theorem dX8_appendSpelled_58 : decode cX8_appendSpelled 58 = .ok (.imul, 1) := by decide +kernel
theorem dX8_appendSpelled_59 : decode cX8_appendSpelled 59 = .ok (.ldc 58, 2) := by decide +kernel
theorem dX8_appendSpelled_61 : decode cX8_appendSpelled 61 = .ok (.invokestatic 59, 3) := by decide +kernel
theorem dX8_appendSpelled_64 : decode cX8_appendSpelled 64 = .ok (.invokestatic 65, 3) := by decide +kernel
theorem dX8_appendSpelled_67 : decode cX8_appendSpelled 67 = .ok (.putfield 18, 3) := by decide +kernel
theorem dX8_appendSpelled_70 : decode cX8_appendSpelled 70 = .ok (.aload_n 0, 1) := by decide +kernel
theorem dX8_appendSpelled_71 : decode cX8_appendSpelled 71 = .ok (.getfield 22, 3) := by decide +kernel
theorem dX8_appendSpelled_74 : decode cX8_appendSpelled 74 = .ok (.iconst 0, 1) := by decide +kernel
theorem dX8_appendSpelled_75 : decode cX8_appendSpelled 75 = .ok (.aload_n 0, 1) := by decide +kernel
theorem dX8_appendSpelled_76 : decode cX8_appendSpelled 76 = .ok (.getfield 18, 3) := by decide +kernel
theorem dX8_appendSpelled_79 : decode cX8_appendSpelled 79 = .ok (.iload_n 2, 1) := by decide +kernel
theorem dX8_appendSpelled_80 : decode cX8_appendSpelled 80 = .ok (.aload_n 0, 1) := by decide +kernel
theorem dX8_appendSpelled_81 : decode cX8_appendSpelled 81 = .ok (.getfield 41, 3) := by decide +kernel
theorem dX8_appendSpelled_84 : decode cX8_appendSpelled 84 = .ok (.invokestatic 52, 3) := by decide +kernel
theorem dX8_appendSpelled_87 : decode cX8_appendSpelled 87 = .ok (.aload_n 0, 1) := by decide +kernel
theorem dX8_appendSpelled_88 : decode cX8_appendSpelled 88 = .ok (.getfield 15, 3) := by decide +kernel
theorem dX8_appendSpelled_91 : decode cX8_appendSpelled 91 = .ok (.iload_n 1, 1) := by decide +kernel
theorem dX8_appendSpelled_92 : decode cX8_appendSpelled 92 = .ok (.dup2, 1) := by decide +kernel
theorem dX8_appendSpelled_93 : decode cX8_appendSpelled 93 = .ok (.iaload, 1) := by decide +kernel
theorem dX8_appendSpelled_94 : decode cX8_appendSpelled 94 = .ok (.aload_n 0, 1) := by decide +kernel
theorem dX8_appendSpelled_95 : decode cX8_appendSpelled 95 = .ok (.getfield 41, 3) := by decide +kernel
theorem dX8_appendSpelled_98 : decode cX8_appendSpelled 98 = .ok (.iadd, 1) := by decide +kernel
theorem dX8_appendSpelled_99 : decode cX8_appendSpelled 99 = .ok (.iastore, 1) := by decide +kernel
theorem dX8_appendSpelled_100 : decode cX8_appendSpelled 100 = .ok (.iconst 1, 1) := by decide +kernel
theorem dX8_appendSpelled_101 : decode cX8_appendSpelled 101 = .ok (.ireturn, 1) := by decide +kernel
theorem dX8_spell_0 : decode cX8_spell 0 = .ok (.lload_n 1, 1) := by decide +kernel
theorem dX8_spell_1 : decode cX8_spell 1 = .ok (.invokestatic 71, 3) := by decide +kernel
theorem dX8_spell_4 : decode cX8_spell 4 = .ok (.istore_n 3, 1) := by decide +kernel
theorem dX8_spell_5 : decode cX8_spell 5 = .ok (.lload_n 1, 1) := by decide +kernel
theorem dX8_spell_6 : decode cX8_spell 6 = .ok (.invokestatic 75, 3) := by decide +kernel
theorem dX8_spell_9 : decode cX8_spell 9 = .ok (.istore 4, 2) := by decide +kernel
theorem dX8_spell_11 : decode cX8_spell 11 = .ok (.iload_n 3, 1) := by decide +kernel
theorem dX8_spell_12 : decode cX8_spell 12 = .ok (.iconst 1, 1) := by decide +kernel
theorem dX8_spell_13 : decode cX8_spell 13 = .ok (.if_icmp .ne 12, 3) := by decide +kernel
theorem dX8_spell_16 : decode cX8_spell 16 = .ok (.aload_n 0, 1) := by decide +kernel
theorem dX8_spell_17 : decode cX8_spell 17 = .ok (.iload 4, 2) := by decide +kernel
theorem dX8_spell_19 : decode cX8_spell 19 = .ok (.invokevirtual 78, 3) := by decide +kernel
theorem dX8_spell_22 : decode cX8_spell 22 = .ok (.goto 58, 3) := by decide +kernel
theorem dX8_spell_25 : decode cX8_spell 25 = .ok (.iload_n 3, 1) := by decide +kernel
theorem dX8_spell_26 : decode cX8_spell 26 = .ok (.iconst 2, 1) := by decide +kernel
theorem dX8_spell_27 : decode cX8_spell 27 = .ok (.if_icmp .ne 40, 3) := by decide +kernel
theorem dX8_spell_30 : decode cX8_spell 30 = .ok (.aload_n 0, 1) := by decide +kernel
theorem dX8_spell_31 : decode cX8_spell 31 = .ok (.aload_n 0, 1) := by decide +kernel
theorem dX8_spell_32 : decode cX8_spell 32 = .ok (.getfield 15, 3) := by decide +kernel
theorem dX8_spell_35 : decode cX8_spell 35 = .ok (.iload 4, 2) := by decide +kernel
theorem dX8_spell_37 : decode cX8_spell 37 = .ok (.iaload, 1) := by decide +kernel
theorem dX8_spell_38 : decode cX8_spell 38 = .ok (.putfield 41, 3) := by decide +kernel
theorem dX8_spell_41 : decode cX8_spell 41 = .ok (.aload_n 0, 1) := by decide +kernel
theorem dX8_spell_42 : decode cX8_spell 42 = .ok (.getfield 18, 3) := by decide +kernel
theorem dX8_spell_45 : decode cX8_spell 45 = .ok (.aload_n 0, 1) := by decide +kernel
theorem dX8_spell_46 : decode cX8_spell 46 = .ok (.getfield 9, 3) := by decide +kernel
theorem dX8_spell_49 : decode cX8_spell 49 = .ok (.iload 4, 2) := by decide +kernel
theorem dX8_spell_51 : decode cX8_spell 51 = .ok (.iaload, 1) := by decide +kernel
theorem dX8_spell_52 : decode cX8_spell 52 = .ok (.aload_n 0, 1) := by decide +kernel
theorem dX8_spell_53 : decode cX8_spell 53 = .ok (.getfield 22, 3) := by decide +kernel
theorem dX8_spell_56 : decode cX8_spell 56 = .ok (.iconst 0, 1) := by decide +kernel
theorem dX8_spell_57 : decode cX8_spell 57 = .ok (.aload_n 0, 1) := by decide +kernel
theorem dX8_spell_58 : decode cX8_spell 58 = .ok (.getfield 41, 3) := by decide +kernel
theorem dX8_spell_61 : decode cX8_spell 61 = .ok (.invokestatic 52, 3) := by decide +kernel
theorem dX8_spell_64 : decode cX8_spell 64 = .ok (.goto 16, 3) := by decide +kernel
theorem dX8_spell_67 : decode cX8_spell 67 = .ok (.aload_n 0, 1) := by decide +kernel
theorem dX8_spell_68 : decode cX8_spell 68 = .ok (.getfield 22, 3) := by decide +kernel
theorem dX8_spell_71 : decode cX8_spell 71 = .ok (.iconst 0, 1) := by decide +kernel
theorem dX8_spell_72 : decode cX8_spell 72 = .ok (.bipush 102, 2) := by decide +kernel
theorem dX8_spell_74 : decode cX8_spell 74 = .ok (.bastore, 1) := by decide +kernel
theorem dX8_spell_75 : decode cX8_spell 75 = .ok (.aload_n 0, 1) := by decide +kernel
theorem dX8_spell_76 : decode cX8_spell 76 = .ok (.iconst 1, 1) := by decide +kernel
theorem dX8_spell_77 : decode cX8_spell 77 = .ok (.putfield 41, 3) := by decide +kernel
theorem dX8_spell_80 : decode cX8_spell 80 = .ok (.return_, 1) := by decide +kernel
theorem dX8_spellNumber_0 : decode cX8_spellNumber 0 = .ok (.iload_n 1, 1) := by decide +kernel
theorem dX8_spellNumber_1 : decode cX8_spellNumber 1 = .ok (.ifCond .ge 9, 3) := by decide +kernel
theorem dX8_spellNumber_4 : decode cX8_spellNumber 4 = .ok (.iload_n 1, 1) := by decide +kernel
theorem dX8_spellNumber_5 : decode cX8_spellNumber 5 = .ok (.i2l, 1) := by decide +kernel
theorem dX8_spellNumber_6 : decode cX8_spellNumber 6 = .ok (.lneg, 1) := by decide +kernel
theorem dX8_spellNumber_7 : decode cX8_spellNumber 7 = .ok (.goto 5, 3) := by decide +kernel
theorem dX8_spellNumber_10 : decode cX8_spellNumber 10 = .ok (.iload_n 1, 1) := by decide +kernel
theorem dX8_spellNumber_11 : decode cX8_spellNumber 11 = .ok (.i2l, 1) := by decide +kernel
theorem dX8_spellNumber_12 : decode cX8_spellNumber 12 = .ok (.lstore_n 2, 1) := by decide +kernel
theorem dX8_spellNumber_13 : decode cX8_spellNumber 13 = .ok (.iconst 1, 1) := by decide +kernel
theorem dX8_spellNumber_14 : decode cX8_spellNumber 14 = .ok (.istore 4, 2) := by decide +kernel
theorem dX8_spellNumber_16 : decode cX8_spellNumber 16 = .ok (.ldc2_w 82, 3) := by decide +kernel
theorem dX8_spellNumber_19 : decode cX8_spellNumber 19 = .ok (.lstore 5, 2) := by decide +kernel
theorem dX8_spellNumber_21 : decode cX8_spellNumber 21 = .ok (.iload 4, 2) := by decide +kernel
theorem dX8_spellNumber_23 : decode cX8_spellNumber 23 = .ok (.bipush 10, 2) := by decide +kernel
theorem dX8_spellNumber_25 : decode cX8_spellNumber 25 = .ok (.if_icmp .ge 24, 3) := by decide +kernel
theorem dX8_spellNumber_28 : decode cX8_spellNumber 28 = .ok (.lload 5, 2) := by decide +kernel
theorem dX8_spellNumber_30 : decode cX8_spellNumber 30 = .ok (.lload_n 2, 1) := by decide +kernel
theorem dX8_spellNumber_31 : decode cX8_spellNumber 31 = .ok (.lcmp, 1) := by decide +kernel
theorem dX8_spellNumber_32 : decode cX8_spellNumber 32 = .ok (.ifCond .gt 17, 3) := by decide +kernel
theorem dX8_spellNumber_35 : decode cX8_spellNumber 35 = .ok (.iinc 4 1, 3) := by decide +kernel
theorem dX8_spellNumber_38 : decode cX8_spellNumber 38 = .ok (.lload 5, 2) := by decide +kernel
theorem dX8_spellNumber_40 : decode cX8_spellNumber 40 = .ok (.ldc2_w 82, 3) := by decide +kernel
theorem dX8_spellNumber_43 : decode cX8_spellNumber 43 = .ok (.lmul, 1) := by decide +kernel
theorem dX8_spellNumber_44 : decode cX8_spellNumber 44 = .ok (.lstore 5, 2) := by decide +kernel
theorem dX8_spellNumber_46 : decode cX8_spellNumber 46 = .ok (.goto (-25), 3) := by decide +kernel
theorem dX8_spellNumber_49 : decode cX8_spellNumber 49 = .ok (.iload_n 1, 1) := by decide +kernel
theorem dX8_spellNumber_50 : decode cX8_spellNumber 50 = .ok (.ifCond .ge 7, 3) := by decide +kernel
theorem dX8_spellNumber_53 : decode cX8_spellNumber 53 = .ok (.iconst 1, 1) := by decide +kernel
theorem dX8_spellNumber_54 : decode cX8_spellNumber 54 = .ok (.goto 4, 3) := by decide +kernel
theorem dX8_spellNumber_57 : decode cX8_spellNumber 57 = .ok (.iconst 0, 1) := by decide +kernel
theorem dX8_spellNumber_58 : decode cX8_spellNumber 58 = .ok (.istore 5, 2) := by decide +kernel
theorem dX8_spellNumber_60 : decode cX8_spellNumber 60 = .ok (.aload_n 0, 1) := by decide +kernel
theorem dX8_spellNumber_61 : decode cX8_spellNumber 61 = .ok (.getfield 22, 3) := by decide +kernel
theorem dX8_spellNumber_64 : decode cX8_spellNumber 64 = .ok (.iconst 0, 1) := by decide +kernel
theorem dX8_spellNumber_65 : decode cX8_spellNumber 65 = .ok (.bipush 45, 2) := by decide +kernel
theorem dX8_spellNumber_67 : decode cX8_spellNumber 67 = .ok (.bastore, 1) := by decide +kernel
theorem dX8_spellNumber_68 : decode cX8_spellNumber 68 = .ok (.aload_n 0, 1) := by decide +kernel
theorem dX8_spellNumber_69 : decode cX8_spellNumber 69 = .ok (.iload 5, 2) := by decide +kernel
theorem dX8_spellNumber_71 : decode cX8_spellNumber 71 = .ok (.iload 4, 2) := by decide +kernel
theorem dX8_spellNumber_73 : decode cX8_spellNumber 73 = .ok (.iadd, 1) := by decide +kernel
theorem dX8_spellNumber_74 : decode cX8_spellNumber 74 = .ok (.putfield 41, 3) := by decide +kernel
theorem dX8_spellNumber_77 : decode cX8_spellNumber 77 = .ok (.aload_n 0, 1) := by decide +kernel
theorem dX8_spellNumber_78 : decode cX8_spellNumber 78 = .ok (.getfield 41, 3) := by decide +kernel
theorem dX8_spellNumber_81 : decode cX8_spellNumber 81 = .ok (.iconst 1, 1) := by decide +kernel
theorem dX8_spellNumber_82 : decode cX8_spellNumber 82 = .ok (.isub, 1) := by decide +kernel
theorem dX8_spellNumber_83 : decode cX8_spellNumber 83 = .ok (.istore 6, 2) := by decide +kernel
theorem dX8_spellNumber_85 : decode cX8_spellNumber 85 = .ok (.iload 6, 2) := by decide +kernel
theorem dX8_spellNumber_87 : decode cX8_spellNumber 87 = .ok (.iload 5, 2) := by decide +kernel
theorem dX8_spellNumber_89 : decode cX8_spellNumber 89 = .ok (.if_icmp .lt 33, 3) := by decide +kernel
theorem dX8_spellNumber_92 : decode cX8_spellNumber 92 = .ok (.aload_n 0, 1) := by decide +kernel
theorem dX8_spellNumber_93 : decode cX8_spellNumber 93 = .ok (.getfield 22, 3) := by decide +kernel
theorem dX8_spellNumber_96 : decode cX8_spellNumber 96 = .ok (.iload 6, 2) := by decide +kernel
theorem dX8_spellNumber_98 : decode cX8_spellNumber 98 = .ok (.ldc2_w 84, 3) := by decide +kernel
theorem dX8_spellNumber_101 : decode cX8_spellNumber 101 = .ok (.lload_n 2, 1) := by decide +kernel
theorem dX8_spellNumber_102 : decode cX8_spellNumber 102 = .ok (.ldc2_w 82, 3) := by decide +kernel
theorem dX8_spellNumber_105 : decode cX8_spellNumber 105 = .ok (.lrem, 1) := by decide +kernel
theorem dX8_spellNumber_106 : decode cX8_spellNumber 106 = .ok (.ladd, 1) := by decide +kernel
theorem dX8_spellNumber_107 : decode cX8_spellNumber 107 = .ok (.l2i, 1) := by decide +kernel
theorem dX8_spellNumber_108 : decode cX8_spellNumber 108 = .ok (.i2b, 1) := by decide +kernel
theorem dX8_spellNumber_109 : decode cX8_spellNumber 109 = .ok (.bastore, 1) := by decide +kernel
theorem dX8_spellNumber_110 : decode cX8_spellNumber 110 = .ok (.lload_n 2, 1) := by decide +kernel
theorem dX8_spellNumber_111 : decode cX8_spellNumber 111 = .ok (.ldc2_w 82, 3) := by decide +kernel
theorem dX8_spellNumber_114 : decode cX8_spellNumber 114 = .ok (.ldiv, 1) := by decide +kernel
theorem dX8_spellNumber_115 : decode cX8_spellNumber 115 = .ok (.lstore_n 2, 1) := by decide +kernel
theorem dX8_spellNumber_116 : decode cX8_spellNumber 116 = .ok (.iinc 6 (-1), 3) := by decide +kernel
theorem dX8_spellNumber_119 : decode cX8_spellNumber 119 = .ok (.goto (-34), 3) := by decide +kernel
theorem dX8_spellNumber_122 : decode cX8_spellNumber 122 = .ok (.return_, 1) := by decide +kernel
theorem dX9_init_0 : decode cX9_init 0 = .ok (.aload_n 0, 1) := by decide +kernel
theorem dX9_init_1 : decode cX9_init 1 = .ok (.invokespecial 3, 3) := by decide +kernel
theorem dX9_init_4 : decode cX9_init 4 = .ok (.aload_n 0, 1) := by decide +kernel
theorem dX9_init_5 : decode cX9_init 5 = .ok (.bipush 40, 2) := by decide +kernel
theorem dX9_init_7 : decode cX9_init 7 = .ok (.newarray .int, 2) := by decide +kernel
theorem dX9_init_9 : decode cX9_init 9 = .ok (.putfield 9, 3) := by decide +kernel
theorem dX9_init_12 : decode cX9_init 12 = .ok (.aload_n 0, 1) := by decide +kernel
theorem dX9_init_13 : decode cX9_init 13 = .ok (.bipush 40, 2) := by decide +kernel
theorem dX9_init_15 : decode cX9_init 15 = .ok (.newarray .boolean, 2) := by decide +kernel
theorem dX9_init_17 : decode cX9_init 17 = .ok (.putfield 15, 3) := by decide +kernel
theorem dX9_init_20 : decode cX9_init 20 = .ok (.aload_n 0, 1) := by decide +kernel
theorem dX9_init_21 : decode cX9_init 21 = .ok (.aload_n 1, 1) := by decide +kernel
theorem dX9_init_22 : decode cX9_init 22 = .ok (.putfield 19, 3) := by decide +kernel
theorem dX9_init_25 : decode cX9_init 25 = .ok (.return_, 1) := by decide +kernel
theorem dX9_wrongPlace_0 : decode cX9_wrongPlace 0 = .ok (.aload_n 0, 1) := by decide +kernel
theorem dX9_wrongPlace_1 : decode cX9_wrongPlace 1 = .ok (.getfield 19, 3) := by decide +kernel
theorem dX9_wrongPlace_4 : decode cX9_wrongPlace 4 = .ok (.iload_n 1, 1) := by decide +kernel
theorem dX9_wrongPlace_5 : decode cX9_wrongPlace 5 = .ok (.invokevirtual 23, 3) := by decide +kernel
theorem dX9_wrongPlace_8 : decode cX9_wrongPlace 8 = .ok (.istore_n 2, 1) := by decide +kernel
theorem dX9_wrongPlace_9 : decode cX9_wrongPlace 9 = .ok (.iload_n 2, 1) := by decide +kernel
theorem dX9_wrongPlace_10 : decode cX9_wrongPlace 10 = .ok (.ifCond .ne 5, 3) := by decide +kernel
theorem dX9_wrongPlace_13 : decode cX9_wrongPlace 13 = .ok (.iconst 0, 1) := by decide +kernel
theorem dX9_wrongPlace_14 : decode cX9_wrongPlace 14 = .ok (.ireturn, 1) := by decide +kernel
theorem dX9_wrongPlace_15 : decode cX9_wrongPlace 15 = .ok (.iconst 0, 1) := by decide +kernel
theorem dX9_wrongPlace_16 : decode cX9_wrongPlace 16 = .ok (.istore_n 3, 1) := by decide +kernel
theorem dX9_wrongPlace_17 : decode cX9_wrongPlace 17 = .ok (.iload_n 3, 1) := by decide +kernel
theorem dX9_wrongPlace_18 : decode cX9_wrongPlace 18 = .ok (.iload_n 2, 1) := by decide +kernel
theorem dX9_wrongPlace_19 : decode cX9_wrongPlace 19 = .ok (.if_icmp .ge 23, 3) := by decide +kernel
theorem dX9_wrongPlace_22 : decode cX9_wrongPlace 22 = .ok (.aload_n 0, 1) := by decide +kernel
theorem dX9_wrongPlace_23 : decode cX9_wrongPlace 23 = .ok (.getfield 19, 3) := by decide +kernel
theorem dX9_wrongPlace_26 : decode cX9_wrongPlace 26 = .ok (.iload_n 1, 1) := by decide +kernel
theorem dX9_wrongPlace_27 : decode cX9_wrongPlace 27 = .ok (.iload_n 3, 1) := by decide +kernel
theorem dX9_wrongPlace_28 : decode cX9_wrongPlace 28 = .ok (.invokevirtual 29, 3) := by decide +kernel
theorem dX9_wrongPlace_31 : decode cX9_wrongPlace 31 = .ok (.ifCond .ne 5, 3) := by decide +kernel
theorem dX9_wrongPlace_34 : decode cX9_wrongPlace 34 = .ok (.iload_n 3, 1) := by decide +kernel
theorem dX9_wrongPlace_35 : decode cX9_wrongPlace 35 = .ok (.ireturn, 1) := by decide +kernel
theorem dX9_wrongPlace_36 : decode cX9_wrongPlace 36 = .ok (.iinc 3 1, 3) := by decide +kernel
theorem dX9_wrongPlace_39 : decode cX9_wrongPlace 39 = .ok (.goto (-22), 3) := by decide +kernel
theorem dX9_wrongPlace_42 : decode cX9_wrongPlace 42 = .ok (.aload_n 0, 1) := by decide +kernel
theorem dX9_wrongPlace_43 : decode cX9_wrongPlace 43 = .ok (.iload_n 1, 1) := by decide +kernel
theorem dX9_wrongPlace_44 : decode cX9_wrongPlace 44 = .ok (.iload_n 2, 1) := by decide +kernel
theorem dX9_wrongPlace_45 : decode cX9_wrongPlace 45 = .ok (.invokevirtual 33, 3) := by decide +kernel
theorem dX9_wrongPlace_48 : decode cX9_wrongPlace 48 = .ok (.ireturn, 1) := by decide +kernel
theorem dX9_isMet_0 : decode cX9_isMet 0 = .ok (.aload_n 0, 1) := by decide +kernel
theorem dX9_isMet_1 : decode cX9_isMet 1 = .ok (.getfield 9, 3) := by decide +kernel
theorem dX9_isMet_4 : decode cX9_isMet 4 = .ok (.iload_n 1, 1) := by decide +kernel
theorem dX9_isMet_5 : decode cX9_isMet 5 = .ok (.iaload, 1) := by decide +kernel
theorem dX9_isMet_6 : decode cX9_isMet 6 = .ok (.iconst (-1), 1) := by decide +kernel
theorem dX9_isMet_7 : decode cX9_isMet 7 = .ok (.if_icmp .eq 7, 3) := by decide +kernel
theorem dX9_isMet_10 : decode cX9_isMet 10 = .ok (.iconst 1, 1) := by decide +kernel
theorem dX9_isMet_11 : decode cX9_isMet 11 = .ok (.goto 4, 3) := by decide +kernel
theorem dX9_isMet_14 : decode cX9_isMet 14 = .ok (.iconst 0, 1) := by decide +kernel
theorem dX9_isMet_15 : decode cX9_isMet 15 = .ok (.ireturn, 1) := by decide +kernel
theorem dX9_heightAt_0 : decode cX9_heightAt 0 = .ok (.aload_n 0, 1) := by decide +kernel
theorem dX9_heightAt_1 : decode cX9_heightAt 1 = .ok (.getfield 9, 3) := by decide +kernel
theorem dX9_heightAt_4 : decode cX9_heightAt 4 = .ok (.iload_n 1, 1) := by decide +kernel
theorem dX9_heightAt_5 : decode cX9_heightAt 5 = .ok (.iaload, 1) := by decide +kernel
theorem dX9_heightAt_6 : decode cX9_heightAt 6 = .ok (.ireturn, 1) := by decide +kernel
theorem dX9_wrongOnWays_0 : decode cX9_wrongOnWays 0 = .ok (.iconst 0, 1) := by decide +kernel
theorem dX9_wrongOnWays_1 : decode cX9_wrongOnWays 1 = .ok (.istore_n 3, 1) := by decide +kernel
theorem dX9_wrongOnWays_2 : decode cX9_wrongOnWays 2 = .ok (.iload_n 3, 1) := by decide +kernel
theorem dX9_wrongOnWays_3 : decode cX9_wrongOnWays 3 = .ok (.iload_n 2, 1) := by decide +kernel
theorem dX9_wrongOnWays_4 : decode cX9_wrongOnWays 4 = .ok (.if_icmp .ge 23, 3) := by decide +kernel
theorem dX9_wrongOnWays_7 : decode cX9_wrongOnWays 7 = .ok (.aload_n 0, 1) := by decide +kernel
theorem dX9_wrongOnWays_8 : decode cX9_wrongOnWays 8 = .ok (.getfield 9, 3) := by decide +kernel
theorem dX9_wrongOnWays_11 : decode cX9_wrongOnWays 11 = .ok (.iload_n 3, 1) := by decide +kernel
theorem dX9_wrongOnWays_12 : decode cX9_wrongOnWays 12 = .ok (.iconst (-1), 1) := by decide +kernel
theorem dX9_wrongOnWays_13 : decode cX9_wrongOnWays 13 = .ok (.iastore, 1) := by decide +kernel
theorem dX9_wrongOnWays_14 : decode cX9_wrongOnWays 14 = .ok (.aload_n 0, 1) := by decide +kernel
theorem dX9_wrongOnWays_15 : decode cX9_wrongOnWays 15 = .ok (.getfield 15, 3) := by decide +kernel
theorem dX9_wrongOnWays_18 : decode cX9_wrongOnWays 18 = .ok (.iload_n 3, 1) := by decide +kernel
theorem dX9_wrongOnWays_19 : decode cX9_wrongOnWays 19 = .ok (.iconst 0, 1) := by decide +kernel
theorem dX9_wrongOnWays_20 : decode cX9_wrongOnWays 20 = .ok (.bastore, 1) := by decide +kernel
theorem dX9_wrongOnWays_21 : decode cX9_wrongOnWays 21 = .ok (.iinc 3 1, 3) := by decide +kernel
theorem dX9_wrongOnWays_24 : decode cX9_wrongOnWays 24 = .ok (.goto (-22), 3) := by decide +kernel
theorem dX9_wrongOnWays_27 : decode cX9_wrongOnWays 27 = .ok (.aload_n 0, 1) := by decide +kernel
theorem dX9_wrongOnWays_28 : decode cX9_wrongOnWays 28 = .ok (.getfield 9, 3) := by decide +kernel
theorem dX9_wrongOnWays_31 : decode cX9_wrongOnWays 31 = .ok (.iconst 0, 1) := by decide +kernel
theorem dX9_wrongOnWays_32 : decode cX9_wrongOnWays 32 = .ok (.iconst 0, 1) := by decide +kernel
theorem dX9_wrongOnWays_33 : decode cX9_wrongOnWays 33 = .ok (.iastore, 1) := by decide +kernel
theorem dX9_wrongOnWays_34 : decode cX9_wrongOnWays 34 = .ok (.iconst 0, 1) := by decide +kernel
theorem dX9_wrongOnWays_35 : decode cX9_wrongOnWays 35 = .ok (.istore_n 3, 1) := by decide +kernel
theorem dX9_wrongOnWays_36 : decode cX9_wrongOnWays 36 = .ok (.iload_n 3, 1) := by decide +kernel
theorem dX9_wrongOnWays_37 : decode cX9_wrongOnWays 37 = .ok (.iload_n 2, 1) := by decide +kernel
theorem dX9_wrongOnWays_38 : decode cX9_wrongOnWays 38 = .ok (.if_icmp .ge 46, 3) := by decide +kernel
theorem dX9_wrongOnWays_41 : decode cX9_wrongOnWays 41 = .ok (.aload_n 0, 1) := by decide +kernel
theorem dX9_wrongOnWays_42 : decode cX9_wrongOnWays 42 = .ok (.iload_n 2, 1) := by decide +kernel
theorem dX9_wrongOnWays_43 : decode cX9_wrongOnWays 43 = .ok (.invokevirtual 37, 3) := by decide +kernel
theorem dX9_wrongOnWays_46 : decode cX9_wrongOnWays 46 = .ok (.istore 4, 2) := by decide +kernel
theorem dX9_wrongOnWays_48 : decode cX9_wrongOnWays 48 = .ok (.iload 4, 2) := by decide +kernel
theorem dX9_wrongOnWays_50 : decode cX9_wrongOnWays 50 = .ok (.iconst (-1), 1) := by decide +kernel
theorem dX9_wrongOnWays_51 : decode cX9_wrongOnWays 51 = .ok (.if_icmp .ne 5, 3) := by decide +kernel
theorem dX9_wrongOnWays_54 : decode cX9_wrongOnWays 54 = .ok (.iconst (-1), 1) := by decide +kernel
theorem dX9_wrongOnWays_55 : decode cX9_wrongOnWays 55 = .ok (.ireturn, 1) := by decide +kernel
theorem dX9_wrongOnWays_56 : decode cX9_wrongOnWays 56 = .ok (.aload_n 0, 1) := by decide +kernel
theorem dX9_wrongOnWays_57 : decode cX9_wrongOnWays 57 = .ok (.getfield 15, 3) := by decide +kernel
theorem dX9_wrongOnWays_60 : decode cX9_wrongOnWays 60 = .ok (.iload 4, 2) := by decide +kernel
theorem dX9_wrongOnWays_62 : decode cX9_wrongOnWays 62 = .ok (.iconst 1, 1) := by decide +kernel
theorem dX9_wrongOnWays_63 : decode cX9_wrongOnWays 63 = .ok (.bastore, 1) := by decide +kernel
theorem dX9_wrongOnWays_64 : decode cX9_wrongOnWays 64 = .ok (.aload_n 0, 1) := by decide +kernel
theorem dX9_wrongOnWays_65 : decode cX9_wrongOnWays 65 = .ok (.iload_n 1, 1) := by decide +kernel
theorem dX9_wrongOnWays_66 : decode cX9_wrongOnWays 66 = .ok (.iload 4, 2) := by decide +kernel
theorem dX9_wrongOnWays_68 : decode cX9_wrongOnWays 68 = .ok (.iload_n 2, 1) := by decide +kernel
theorem dX9_wrongOnWays_69 : decode cX9_wrongOnWays 69 = .ok (.invokevirtual 40, 3) := by decide +kernel
theorem dX9_wrongOnWays_72 : decode cX9_wrongOnWays 72 = .ok (.ifCond .ne 6, 3) := by decide +kernel
theorem dX9_wrongOnWays_75 : decode cX9_wrongOnWays 75 = .ok (.iload 4, 2) := by decide +kernel
theorem dX9_wrongOnWays_77 : decode cX9_wrongOnWays 77 = .ok (.ireturn, 1) := by decide +kernel
theorem dX9_wrongOnWays_78 : decode cX9_wrongOnWays 78 = .ok (.iinc 3 1, 3) := by decide +kernel
theorem dX9_wrongOnWays_81 : decode cX9_wrongOnWays 81 = .ok (.goto (-45), 3) := by decide +kernel
theorem dX9_wrongOnWays_84 : decode cX9_wrongOnWays 84 = .ok (.iconst (-1), 1) := by decide +kernel
theorem dX9_wrongOnWays_85 : decode cX9_wrongOnWays 85 = .ok (.ireturn, 1) := by decide +kernel
theorem dX9_leastWaiting_0 : decode cX9_leastWaiting 0 = .ok (.iconst 0, 1) := by decide +kernel
theorem dX9_leastWaiting_1 : decode cX9_leastWaiting 1 = .ok (.istore_n 2, 1) := by decide +kernel
theorem dX9_leastWaiting_2 : decode cX9_leastWaiting 2 = .ok (.iload_n 2, 1) := by decide +kernel
theorem dX9_leastWaiting_3 : decode cX9_leastWaiting 3 = .ok (.iload_n 1, 1) := by decide +kernel
theorem dX9_leastWaiting_4 : decode cX9_leastWaiting 4 = .ok (.if_icmp .ge 30, 3) := by decide +kernel
theorem dX9_leastWaiting_7 : decode cX9_leastWaiting 7 = .ok (.aload_n 0, 1) := by decide +kernel
theorem dX9_leastWaiting_8 : decode cX9_leastWaiting 8 = .ok (.getfield 9, 3) := by decide +kernel
theorem dX9_leastWaiting_11 : decode cX9_leastWaiting 11 = .ok (.iload_n 2, 1) := by decide +kernel
theorem dX9_leastWaiting_12 : decode cX9_leastWaiting 12 = .ok (.iaload, 1) := by decide +kernel
theorem dX9_leastWaiting_13 : decode cX9_leastWaiting 13 = .ok (.iconst (-1), 1) := by decide +kernel
theorem dX9_leastWaiting_14 : decode cX9_leastWaiting 14 = .ok (.if_icmp .eq 14, 3) := by decide +kernel
theorem dX9_leastWaiting_17 : decode cX9_leastWaiting 17 = .ok (.aload_n 0, 1) := by decide +kernel
theorem dX9_leastWaiting_18 : decode cX9_leastWaiting 18 = .ok (.getfield 15, 3) := by decide +kernel
theorem dX9_leastWaiting_21 : decode cX9_leastWaiting 21 = .ok (.iload_n 2, 1) := by decide +kernel
theorem dX9_leastWaiting_22 : decode cX9_leastWaiting 22 = .ok (.baload, 1) := by decide +kernel
theorem dX9_leastWaiting_23 : decode cX9_leastWaiting 23 = .ok (.ifCond .ne 5, 3) := by decide +kernel
theorem dX9_leastWaiting_26 : decode cX9_leastWaiting 26 = .ok (.iload_n 2, 1) := by decide +kernel
theorem dX9_leastWaiting_27 : decode cX9_leastWaiting 27 = .ok (.ireturn, 1) := by decide +kernel
theorem dX9_leastWaiting_28 : decode cX9_leastWaiting 28 = .ok (.iinc 2 1, 3) := by decide +kernel
theorem dX9_leastWaiting_31 : decode cX9_leastWaiting 31 = .ok (.goto (-29), 3) := by decide +kernel
theorem dX9_leastWaiting_34 : decode cX9_leastWaiting 34 = .ok (.iconst (-1), 1) := by decide +kernel
theorem dX9_leastWaiting_35 : decode cX9_leastWaiting 35 = .ok (.ireturn, 1) := by decide +kernel
theorem dX9_goesOn_0 : decode cX9_goesOn 0 = .ok (.aload_n 0, 1) := by decide +kernel
theorem dX9_goesOn_1 : decode cX9_goesOn 1 = .ok (.getfield 19, 3) := by decide +kernel
theorem dX9_goesOn_4 : decode cX9_goesOn 4 = .ok (.iload_n 1, 1) := by decide +kernel
theorem dX9_goesOn_5 : decode cX9_goesOn 5 = .ok (.iload_n 2, 1) := by decide +kernel
theorem dX9_goesOn_6 : decode cX9_goesOn 6 = .ok (.invokevirtual 44, 3) := by decide +kernel
theorem dX9_goesOn_9 : decode cX9_goesOn 9 = .ok (.istore 4, 2) := by decide +kernel
theorem dX9_goesOn_11 : decode cX9_goesOn 11 = .ok (.aload_n 0, 1) := by decide +kernel
theorem dX9_goesOn_12 : decode cX9_goesOn 12 = .ok (.getfield 19, 3) := by decide +kernel
theorem dX9_goesOn_15 : decode cX9_goesOn 15 = .ok (.iload_n 1, 1) := by decide +kernel
theorem dX9_goesOn_16 : decode cX9_goesOn 16 = .ok (.iload_n 2, 1) := by decide +kernel
theorem dX9_goesOn_17 : decode cX9_goesOn 17 = .ok (.invokevirtual 47, 3) := by decide +kernel
theorem dX9_goesOn_20 : decode cX9_goesOn 20 = .ok (.istore 5, 2) := by decide +kernel
theorem dX9_goesOn_22 : decode cX9_goesOn 22 = .ok (.aload_n 0, 1) := by decide +kernel
theorem dX9_goesOn_23 : decode cX9_goesOn 23 = .ok (.getfield 19, 3) := by decide +kernel
theorem dX9_goesOn_26 : decode cX9_goesOn 26 = .ok (.iload_n 1, 1) := by decide +kernel
theorem dX9_goesOn_27 : decode cX9_goesOn 27 = .ok (.iload_n 2, 1) := by decide +kernel
theorem dX9_goesOn_28 : decode cX9_goesOn 28 = .ok (.invokevirtual 50, 3) := by decide +kernel
theorem dX9_goesOn_31 : decode cX9_goesOn 31 = .ok (.istore 6, 2) := by decide +kernel
theorem dX9_goesOn_33 : decode cX9_goesOn 33 = .ok (.aload_n 0, 1) := by decide +kernel
theorem dX9_goesOn_34 : decode cX9_goesOn 34 = .ok (.getfield 9, 3) := by decide +kernel
theorem dX9_goesOn_37 : decode cX9_goesOn 37 = .ok (.iload_n 2, 1) := by decide +kernel
theorem dX9_goesOn_38 : decode cX9_goesOn 38 = .ok (.iaload, 1) := by decide +kernel
theorem dX9_goesOn_39 : decode cX9_goesOn 39 = .ok (.aload_n 0, 1) := by decide +kernel
theorem dX9_goesOn_40 : decode cX9_goesOn 40 = .ok (.getfield 19, 3) := by decide +kernel
theorem dX9_goesOn_43 : decode cX9_goesOn 43 = .ok (.iload 4, 2) := by decide +kernel
theorem dX9_goesOn_45 : decode cX9_goesOn 45 = .ok (.iload 5, 2) := by decide +kernel
theorem dX9_goesOn_47 : decode cX9_goesOn 47 = .ok (.iload 6, 2) := by decide +kernel
theorem dX9_goesOn_49 : decode cX9_goesOn 49 = .ok (.invokevirtual 53, 3) := by decide +kernel
theorem dX9_goesOn_52 : decode cX9_goesOn 52 = .ok (.isub, 1) := by decide +kernel
theorem dX9_goesOn_53 : decode cX9_goesOn 53 = .ok (.istore 7, 2) := by decide +kernel
theorem dX9_goesOn_55 : decode cX9_goesOn 55 = .ok (.iload 7, 2) := by decide +kernel
theorem dX9_goesOn_57 : decode cX9_goesOn 57 = .ok (.aload_n 0, 1) := by decide +kernel
theorem dX9_goesOn_58 : decode cX9_goesOn 58 = .ok (.getfield 19, 3) := by decide +kernel
theorem dX9_goesOn_61 : decode cX9_goesOn 61 = .ok (.iload 4, 2) := by decide +kernel
theorem dX9_goesOn_63 : decode cX9_goesOn 63 = .ok (.invokevirtual 57, 3) := by decide +kernel
theorem dX9_goesOn_66 : decode cX9_goesOn 66 = .ok (.iadd, 1) := by decide +kernel
theorem dX9_goesOn_67 : decode cX9_goesOn 67 = .ok (.istore 8, 2) := by decide +kernel
theorem dX9_goesOn_69 : decode cX9_goesOn 69 = .ok (.iload 7, 2) := by decide +kernel
theorem dX9_goesOn_71 : decode cX9_goesOn 71 = .ok (.ifCond .lt 10, 3) := by decide +kernel
theorem dX9_goesOn_74 : decode cX9_goesOn 74 = .ok (.iload 8, 2) := by decide +kernel
theorem dX9_goesOn_76 : decode cX9_goesOn 76 = .ok (.bipush 12, 2) := by decide +kernel
theorem dX9_goesOn_78 : decode cX9_goesOn 78 = .ok (.if_icmp .le 5, 3) := by decide +kernel
theorem dX9_goesOn_81 : decode cX9_goesOn 81 = .ok (.iconst 0, 1) := by decide +kernel
theorem dX9_goesOn_82 : decode cX9_goesOn 82 = .ok (.ireturn, 1) := by decide +kernel
theorem dX9_goesOn_83 : decode cX9_goesOn 83 = .ok (.iload 4, 2) := by decide +kernel
theorem dX9_goesOn_85 : decode cX9_goesOn 85 = .ok (.bipush 11, 2) := by decide +kernel
theorem dX9_goesOn_87 : decode cX9_goesOn 87 = .ok (.if_icmp .ne 5, 3) := by decide +kernel
theorem dX9_goesOn_90 : decode cX9_goesOn 90 = .ok (.iconst 1, 1) := by decide +kernel
theorem dX9_goesOn_91 : decode cX9_goesOn 91 = .ok (.ireturn, 1) := by decide +kernel
theorem dX9_goesOn_92 : decode cX9_goesOn 92 = .ok (.iload 4, 2) := by decide +kernel
theorem dX9_goesOn_94 : decode cX9_goesOn 94 = .ok (.bipush 8, 2) := by decide +kernel
theorem dX9_goesOn_96 : decode cX9_goesOn 96 = .ok (.if_icmp .eq 10, 3) := by decide +kernel
theorem dX9_goesOn_99 : decode cX9_goesOn 99 = .ok (.iload 4, 2) := by decide +kernel
theorem dX9_goesOn_101 : decode cX9_goesOn 101 = .ok (.bipush 9, 2) := by decide +kernel
theorem dX9_goesOn_103 : decode cX9_goesOn 103 = .ok (.if_icmp .ne 17, 3) := by decide +kernel
theorem dX9_goesOn_106 : decode cX9_goesOn 106 = .ok (.aload_n 0, 1) := by decide +kernel
theorem dX9_goesOn_107 : decode cX9_goesOn 107 = .ok (.iload 5, 2) := by decide +kernel
theorem dX9_goesOn_109 : decode cX9_goesOn 109 = .ok (.iload 8, 2) := by decide +kernel
theorem dX9_goesOn_111 : decode cX9_goesOn 111 = .ok (.iload_n 3, 1) := by decide +kernel
theorem dX9_goesOn_112 : decode cX9_goesOn 112 = .ok (.invokevirtual 60, 3) := by decide +kernel
theorem dX9_goesOn_115 : decode cX9_goesOn 115 = .ok (.ifCond .ne 5, 3) := by decide +kernel
theorem dX9_goesOn_118 : decode cX9_goesOn 118 = .ok (.iconst 0, 1) := by decide +kernel
theorem dX9_goesOn_119 : decode cX9_goesOn 119 = .ok (.ireturn, 1) := by decide +kernel
theorem dX9_goesOn_120 : decode cX9_goesOn 120 = .ok (.iload 4, 2) := by decide +kernel
theorem dX9_goesOn_122 : decode cX9_goesOn 122 = .ok (.bipush 8, 2) := by decide +kernel
theorem dX9_goesOn_124 : decode cX9_goesOn 124 = .ok (.if_icmp .eq 16, 3) := by decide +kernel
theorem dX9_goesOn_127 : decode cX9_goesOn 127 = .ok (.aload_n 0, 1) := by decide +kernel
theorem dX9_goesOn_128 : decode cX9_goesOn 128 = .ok (.iload_n 2, 1) := by decide +kernel
theorem dX9_goesOn_129 : decode cX9_goesOn 129 = .ok (.iconst 1, 1) := by decide +kernel
theorem dX9_goesOn_130 : decode cX9_goesOn 130 = .ok (.iadd, 1) := by decide +kernel
theorem dX9_goesOn_131 : decode cX9_goesOn 131 = .ok (.iload 8, 2) := by decide +kernel
theorem dX9_goesOn_133 : decode cX9_goesOn 133 = .ok (.iload_n 3, 1) := by decide +kernel
theorem dX9_goesOn_134 : decode cX9_goesOn 134 = .ok (.invokevirtual 60, 3) := by decide +kernel
theorem dX9_goesOn_137 : decode cX9_goesOn 137 = .ok (.ifCond .eq 7, 3) := by decide +kernel
theorem dX9_goesOn_140 : decode cX9_goesOn 140 = .ok (.iconst 1, 1) := by decide +kernel
theorem dX9_goesOn_141 : decode cX9_goesOn 141 = .ok (.goto 4, 3) := by decide +kernel
theorem dX9_goesOn_144 : decode cX9_goesOn 144 = .ok (.iconst 0, 1) := by decide +kernel
theorem dX9_goesOn_145 : decode cX9_goesOn 145 = .ok (.ireturn, 1) := by decide +kernel
theorem dX9_meets_0 : decode cX9_meets 0 = .ok (.iload_n 1, 1) := by decide +kernel
theorem dX9_meets_1 : decode cX9_meets 1 = .ok (.iload_n 3, 1) := by decide +kernel
theorem dX9_meets_2 : decode cX9_meets 2 = .ok (.if_icmp .lt 5, 3) := by decide +kernel
theorem dX9_meets_5 : decode cX9_meets 5 = .ok (.iconst 0, 1) := by decide +kernel
theorem dX9_meets_6 : decode cX9_meets 6 = .ok (.ireturn, 1) := by decide +kernel
theorem dX9_meets_7 : decode cX9_meets 7 = .ok (.aload_n 0, 1) := by decide +kernel
theorem dX9_meets_8 : decode cX9_meets 8 = .ok (.getfield 9, 3) := by decide +kernel
theorem dX9_meets_11 : decode cX9_meets 11 = .ok (.iload_n 1, 1) := by decide +kernel
theorem dX9_meets_12 : decode cX9_meets 12 = .ok (.iaload, 1) := by decide +kernel
theorem dX9_meets_13 : decode cX9_meets 13 = .ok (.iconst (-1), 1) := by decide +kernel
theorem dX9_meets_14 : decode cX9_meets 14 = .ok (.if_icmp .ne 10, 3) := by decide +kernel
theorem dX9_meets_17 : decode cX9_meets 17 = .ok (.aload_n 0, 1) := by decide +kernel
theorem dX9_meets_18 : decode cX9_meets 18 = .ok (.getfield 9, 3) := by decide +kernel
theorem dX9_meets_21 : decode cX9_meets 21 = .ok (.iload_n 1, 1) := by decide +kernel
theorem dX9_meets_22 : decode cX9_meets 22 = .ok (.iload_n 2, 1) := by decide +kernel
theorem dX9_meets_23 : decode cX9_meets 23 = .ok (.iastore, 1) := by decide +kernel
theorem dX9_meets_24 : decode cX9_meets 24 = .ok (.aload_n 0, 1) := by decide +kernel
theorem dX9_meets_25 : decode cX9_meets 25 = .ok (.getfield 9, 3) := by decide +kernel
theorem dX9_meets_28 : decode cX9_meets 28 = .ok (.iload_n 1, 1) := by decide +kernel
theorem dX9_meets_29 : decode cX9_meets 29 = .ok (.iaload, 1) := by decide +kernel
theorem dX9_meets_30 : decode cX9_meets 30 = .ok (.iload_n 2, 1) := by decide +kernel
theorem dX9_meets_31 : decode cX9_meets 31 = .ok (.if_icmp .ne 7, 3) := by decide +kernel
theorem dX9_meets_34 : decode cX9_meets 34 = .ok (.iconst 1, 1) := by decide +kernel
theorem dX9_meets_35 : decode cX9_meets 35 = .ok (.goto 4, 3) := by decide +kernel
theorem dX9_meets_38 : decode cX9_meets 38 = .ok (.iconst 0, 1) := by decide +kernel
theorem dX9_meets_39 : decode cX9_meets 39 = .ok (.ireturn, 1) := by decide +kernel
end
section
theorem dX4_init_0 : decode cX4_init 0 = .ok (.aload_n 0, 1) := by decide +kernel
theorem dX4_init_1 : decode cX4_init 1 = .ok (.invokespecial 3, 3) := by decide +kernel
theorem dX4_init_4 : decode cX4_init 4 = .ok (.aload_n 0, 1) := by decide +kernel
theorem dX4_init_5 : decode cX4_init 5 = .ok (.new 9, 3) := by decide +kernel
theorem dX4_init_8 : decode cX4_init 8 = .ok (.dup, 1) := by decide +kernel
theorem dX4_init_9 : decode cX4_init 9 = .ok (.invokespecial 11, 3) := by decide +kernel
theorem dX4_init_12 : decode cX4_init 12 = .ok (.putfield 12, 3) := by decide +kernel
theorem dX4_init_15 : decode cX4_init 15 = .ok (.aload_n 0, 1) := by decide +kernel
theorem dX4_init_16 : decode cX4_init 16 = .ok (.new 18, 3) := by decide +kernel
theorem dX4_init_19 : decode cX4_init 19 = .ok (.dup, 1) := by decide +kernel
theorem dX4_init_20 : decode cX4_init 20 = .ok (.invokespecial 20, 3) := by decide +kernel
theorem dX4_init_23 : decode cX4_init 23 = .ok (.putfield 21, 3) := by decide +kernel
theorem dX4_init_26 : decode cX4_init 26 = .ok (.aload_n 0, 1) := by decide +kernel
theorem dX4_init_27 : decode cX4_init 27 = .ok (.new 25, 3) := by decide +kernel
theorem dX4_init_30 : decode cX4_init 30 = .ok (.dup, 1) := by decide +kernel
theorem dX4_init_31 : decode cX4_init 31 = .ok (.invokespecial 27, 3) := by decide +kernel
theorem dX4_init_34 : decode cX4_init 34 = .ok (.putfield 28, 3) := by decide +kernel
theorem dX4_init_37 : decode cX4_init 37 = .ok (.aload_n 0, 1) := by decide +kernel
theorem dX4_init_38 : decode cX4_init 38 = .ok (.lconst 0, 1) := by decide +kernel
theorem dX4_init_39 : decode cX4_init 39 = .ok (.putfield 32, 3) := by decide +kernel
theorem dX4_init_42 : decode cX4_init 42 = .ok (.aload_n 0, 1) := by decide +kernel
theorem dX4_init_43 : decode cX4_init 43 = .ok (.aload_n 1, 1) := by decide +kernel
theorem dX4_init_44 : decode cX4_init 44 = .ok (.putfield 36, 3) := by decide +kernel
theorem dX4_init_47 : decode cX4_init 47 = .ok (.aload_n 0, 1) := by decide +kernel
theorem dX4_init_48 : decode cX4_init 48 = .ok (.aload_n 2, 1) := by decide +kernel
theorem dX4_init_49 : decode cX4_init 49 = .ok (.putfield 40, 3) := by decide +kernel
theorem dX4_init_52 : decode cX4_init 52 = .ok (.aload_n 0, 1) := by decide +kernel
theorem dX4_init_53 : decode cX4_init 53 = .ok (.aload_n 1, 1) := by decide +kernel
theorem dX4_init_54 : decode cX4_init 54 = .ok (.putfield 44, 3) := by decide +kernel
theorem dX4_init_57 : decode cX4_init 57 = .ok (.return_, 1) := by decide +kernel
theorem dX4_outputLength_0 : decode cX4_outputLength 0 = .ok (.aload_n 0, 1) := by decide +kernel
theorem dX4_outputLength_1 : decode cX4_outputLength 1 = .ok (.getfield 28, 3) := by decide +kernel
theorem dX4_outputLength_4 : decode cX4_outputLength 4 = .ok (.invokevirtual 48, 3) := by decide +kernel
theorem dX4_outputLength_7 : decode cX4_outputLength 7 = .ok (.ireturn, 1) := by decide +kernel
theorem dX4_outputAt_0 : decode cX4_outputAt 0 = .ok (.aload_n 0, 1) := by decide +kernel
theorem dX4_outputAt_1 : decode cX4_outputAt 1 = .ok (.getfield 28, 3) := by decide +kernel
theorem dX4_outputAt_4 : decode cX4_outputAt 4 = .ok (.iload_n 1, 1) := by decide +kernel
theorem dX4_outputAt_5 : decode cX4_outputAt 5 = .ok (.invokevirtual 52, 3) := by decide +kernel
theorem dX4_outputAt_8 : decode cX4_outputAt 8 = .ok (.ireturn, 1) := by decide +kernel
theorem dX4_stepTotal_0 : decode cX4_stepTotal 0 = .ok (.aload_n 0, 1) := by decide +kernel
theorem dX4_stepTotal_1 : decode cX4_stepTotal 1 = .ok (.getfield 56, 3) := by decide +kernel
theorem dX4_stepTotal_4 : decode cX4_stepTotal 4 = .ok (.ireturn, 1) := by decide +kernel
theorem dX4_returnedKind_0 : decode cX4_returnedKind 0 = .ok (.aload_n 0, 1) := by decide +kernel
theorem dX4_returnedKind_1 : decode cX4_returnedKind 1 = .ok (.getfield 32, 3) := by decide +kernel
theorem dX4_returnedKind_4 : decode cX4_returnedKind 4 = .ok (.invokestatic 60, 3) := by decide +kernel
theorem dX4_returnedKind_7 : decode cX4_returnedKind 7 = .ok (.ireturn, 1) := by decide +kernel
theorem dX4_returnedNumber_0 : decode cX4_returnedNumber 0 = .ok (.aload_n 0, 1) := by decide +kernel
theorem dX4_returnedNumber_1 : decode cX4_returnedNumber 1 = .ok (.invokevirtual 64, 3) := by decide +kernel
theorem dX4_returnedNumber_4 : decode cX4_returnedNumber 4 = .ok (.iconst 1, 1) := by decide +kernel
theorem dX4_returnedNumber_5 : decode cX4_returnedNumber 5 = .ok (.if_icmp .ne 13, 3) := by decide +kernel
theorem dX4_returnedNumber_8 : decode cX4_returnedNumber 8 = .ok (.aload_n 0, 1) := by decide +kernel
theorem dX4_returnedNumber_9 : decode cX4_returnedNumber 9 = .ok (.getfield 32, 3) := by decide +kernel
theorem dX4_returnedNumber_12 : decode cX4_returnedNumber 12 = .ok (.invokestatic 67, 3) := by decide +kernel
theorem dX4_returnedNumber_15 : decode cX4_returnedNumber 15 = .ok (.goto 4, 3) := by decide +kernel
theorem dX4_returnedNumber_18 : decode cX4_returnedNumber 18 = .ok (.iconst 0, 1) := by decide +kernel
theorem dX4_returnedNumber_19 : decode cX4_returnedNumber 19 = .ok (.ireturn, 1) := by decide +kernel
theorem dX4_perform_0 : decode cX4_perform 0 = .ok (.aload_n 0, 1) := by decide +kernel
theorem dX4_perform_1 : decode cX4_perform 1 = .ok (.getfield 12, 3) := by decide +kernel
theorem dX4_perform_4 : decode cX4_perform 4 = .ok (.invokevirtual 70, 3) := by decide +kernel
theorem dX4_perform_7 : decode cX4_perform 7 = .ok (.aload_n 0, 1) := by decide +kernel
theorem dX4_perform_8 : decode cX4_perform 8 = .ok (.getfield 21, 3) := by decide +kernel
theorem dX4_perform_11 : decode cX4_perform 11 = .ok (.invokevirtual 73, 3) := by decide +kernel
theorem dX4_perform_14 : decode cX4_perform 14 = .ok (.aload_n 0, 1) := by decide +kernel
theorem dX4_perform_15 : decode cX4_perform 15 = .ok (.getfield 28, 3) := by decide +kernel
theorem dX4_perform_18 : decode cX4_perform 18 = .ok (.invokevirtual 74, 3) := by decide +kernel
theorem dX4_perform_21 : decode cX4_perform 21 = .ok (.aload_n 0, 1) := by decide +kernel
theorem dX4_perform_22 : decode cX4_perform 22 = .ok (.iconst 0, 1) := by decide +kernel
theorem dX4_perform_23 : decode cX4_perform 23 = .ok (.putfield 75, 3) := by decide +kernel
theorem dX4_perform_26 : decode cX4_perform 26 = .ok (.aload_n 0, 1) := by decide +kernel
theorem dX4_perform_27 : decode cX4_perform 27 = .ok (.iconst 0, 1) := by decide +kernel
theorem dX4_perform_28 : decode cX4_perform 28 = .ok (.putfield 56, 3) := by decide +kernel
theorem dX4_perform_31 : decode cX4_perform 31 = .ok (.aload_n 0, 1) := by decide +kernel
theorem dX4_perform_32 : decode cX4_perform 32 = .ok (.iconst 0, 1) := by decide +kernel
theorem dX4_perform_33 : decode cX4_perform 33 = .ok (.putfield 78, 3) := by decide +kernel
theorem dX4_perform_36 : decode cX4_perform 36 = .ok (.aload_n 0, 1) := by decide +kernel
theorem dX4_perform_37 : decode cX4_perform 37 = .ok (.lconst 0, 1) := by decide +kernel
theorem dX4_perform_38 : decode cX4_perform 38 = .ok (.putfield 32, 3) := by decide +kernel
theorem dX4_perform_41 : decode cX4_perform 41 = .ok (.aload_n 0, 1) := by decide +kernel
theorem dX4_perform_42 : decode cX4_perform 42 = .ok (.aload_n 0, 1) := by decide +kernel
theorem dX4_perform_43 : decode cX4_perform 43 = .ok (.getfield 36, 3) := by decide +kernel
theorem dX4_perform_46 : decode cX4_perform 46 = .ok (.putfield 44, 3) := by decide +kernel
theorem dX4_perform_49 : decode cX4_perform 49 = .ok (.iload 5, 2) := by decide +kernel
theorem dX4_perform_51 : decode cX4_perform 51 = .ok (.ifCond .eq 11, 3) := by decide +kernel
theorem dX4_perform_54 : decode cX4_perform 54 = .ok (.aload_n 0, 1) := by decide +kernel
theorem dX4_perform_55 : decode cX4_perform 55 = .ok (.aload_n 0, 1) := by decide +kernel
theorem dX4_perform_56 : decode cX4_perform 56 = .ok (.getfield 40, 3) := by decide +kernel
theorem dX4_perform_59 : decode cX4_perform 59 = .ok (.putfield 44, 3) := by decide +kernel
theorem dX4_perform_62 : decode cX4_perform 62 = .ok (.aload_n 0, 1) := by decide +kernel
theorem dX4_perform_63 : decode cX4_perform 63 = .ok (.iload_n 1, 1) := by decide +kernel
theorem dX4_perform_64 : decode cX4_perform 64 = .ok (.invokevirtual 81, 3) := by decide +kernel
theorem dX4_perform_67 : decode cX4_perform 67 = .ok (.pop, 1) := by decide +kernel
theorem dX4_perform_68 : decode cX4_perform 68 = .ok (.aload_n 0, 1) := by decide +kernel
theorem dX4_perform_69 : decode cX4_perform 69 = .ok (.getfield 36, 3) := by decide +kernel
theorem dX4_perform_72 : decode cX4_perform 72 = .ok (.iload_n 1, 1) := by decide +kernel
theorem dX4_perform_73 : decode cX4_perform 73 = .ok (.invokevirtual 85, 3) := by decide +kernel
theorem dX4_perform_76 : decode cX4_perform 76 = .ok (.istore 6, 2) := by decide +kernel
theorem dX4_perform_78 : decode cX4_perform 78 = .ok (.iconst 0, 1) := by decide +kernel
theorem dX4_perform_79 : decode cX4_perform 79 = .ok (.istore 7, 2) := by decide +kernel
theorem dX4_perform_81 : decode cX4_perform 81 = .ok (.iload 7, 2) := by decide +kernel
theorem dX4_perform_83 : decode cX4_perform 83 = .ok (.iload 6, 2) := by decide +kernel
theorem dX4_perform_85 : decode cX4_perform 85 = .ok (.if_icmp .ge 43, 3) := by decide +kernel
theorem dX4_perform_88 : decode cX4_perform 88 = .ok (.aload_n 0, 1) := by decide +kernel
theorem dX4_perform_89 : decode cX4_perform 89 = .ok (.getfield 12, 3) := by decide +kernel
theorem dX4_perform_92 : decode cX4_perform 92 = .ok (.iload 7, 2) := by decide +kernel
theorem dX4_perform_94 : decode cX4_perform 94 = .ok (.iconst 1, 1) := by decide +kernel
theorem dX4_perform_95 : decode cX4_perform 95 = .ok (.iload 7, 2) := by decide +kernel
theorem dX4_perform_97 : decode cX4_perform 97 = .ok (.ifCond .ne 7, 3) := by decide +kernel
theorem dX4_perform_100 : decode cX4_perform 100 = .ok (.iload_n 2, 1) := by decide +kernel
theorem dX4_perform_101 : decode cX4_perform 101 = .ok (.goto 15, 3) := by decide +kernel
theorem dX4_perform_104 : decode cX4_perform 104 = .ok (.iload 7, 2) := by decide +kernel
theorem dX4_perform_106 : decode cX4_perform 106 = .ok (.iconst 1, 1) := by decide +kernel
theorem dX4_perform_107 : decode cX4_perform 107 = .ok (.if_icmp .ne 7, 3) := by decide +kernel
theorem dX4_perform_110 : decode cX4_perform 110 = .ok (.iload_n 3, 1) := by decide +kernel
theorem dX4_perform_111 : decode cX4_perform 111 = .ok (.goto 5, 3) := by decide +kernel
theorem dX4_perform_114 : decode cX4_perform 114 = .ok (.iload 4, 2) := by decide +kernel
theorem dX4_perform_116 : decode cX4_perform 116 = .ok (.invokestatic 90, 3) := by decide +kernel
theorem dX4_perform_119 : decode cX4_perform 119 = .ok (.invokevirtual 94, 3) := by decide +kernel
theorem dX4_perform_122 : decode cX4_perform 122 = .ok (.iinc 7 1, 3) := by decide +kernel
theorem dX4_perform_125 : decode cX4_perform 125 = .ok (.goto (-44), 3) := by decide +kernel
theorem dX4_perform_128 : decode cX4_perform 128 = .ok (.iconst 0, 1) := by decide +kernel
theorem dX4_perform_129 : decode cX4_perform 129 = .ok (.istore 7, 2) := by decide +kernel
theorem dX4_perform_131 : decode cX4_perform 131 = .ok (.iload 7, 2) := by decide +kernel
theorem dX4_perform_133 : decode cX4_perform 133 = .ok (.ldc 98, 2) := by decide +kernel
theorem dX4_perform_135 : decode cX4_perform 135 = .ok (.if_icmp .ge 30, 3) := by decide +kernel
theorem dX4_perform_138 : decode cX4_perform 138 = .ok (.aload_n 0, 1) := by decide +kernel
theorem dX4_perform_139 : decode cX4_perform 139 = .ok (.getfield 78, 3) := by decide +kernel
theorem dX4_perform_142 : decode cX4_perform 142 = .ok (.ifCond .ne 23, 3) := by decide +kernel
theorem dX4_perform_145 : decode cX4_perform 145 = .ok (.aload_n 0, 1) := by decide +kernel
theorem dX4_perform_146 : decode cX4_perform 146 = .ok (.getfield 12, 3) := by decide +kernel
theorem dX4_perform_149 : decode cX4_perform 149 = .ok (.invokevirtual 99, 3) := by decide +kernel
theorem dX4_perform_152 : decode cX4_perform 152 = .ok (.ifCond .eq 13, 3) := by decide +kernel
theorem dX4_perform_155 : decode cX4_perform 155 = .ok (.aload_n 0, 1) := by decide +kernel
theorem dX4_perform_156 : decode cX4_perform 156 = .ok (.invokevirtual 103, 3) := by decide +kernel
theorem dX4_perform_159 : decode cX4_perform 159 = .ok (.iinc 7 1, 3) := by decide +kernel
theorem dX4_perform_162 : decode cX4_perform 162 = .ok (.goto (-31), 3) := by decide +kernel
theorem dX4_perform_165 : decode cX4_perform 165 = .ok (.aload_n 0, 1) := by decide +kernel
theorem dX4_perform_166 : decode cX4_perform 166 = .ok (.getfield 78, 3) := by decide +kernel
theorem dX4_perform_169 : decode cX4_perform 169 = .ok (.ireturn, 1) := by decide +kernel
theorem dX4_doNext_0 : decode cX4_doNext 0 = .ok (.aload_n 0, 1) := by decide +kernel
theorem dX4_doNext_1 : decode cX4_doNext 1 = .ok (.getfield 12, 3) := by decide +kernel
theorem dX4_doNext_4 : decode cX4_doNext 4 = .ok (.invokevirtual 106, 3) := by decide +kernel
theorem dX4_doNext_7 : decode cX4_doNext 7 = .ok (.istore_n 1, 1) := by decide +kernel
theorem dX4_doNext_8 : decode cX4_doNext 8 = .ok (.aload_n 0, 1) := by decide +kernel
theorem dX4_doNext_9 : decode cX4_doNext 9 = .ok (.getfield 12, 3) := by decide +kernel
theorem dX4_doNext_12 : decode cX4_doNext 12 = .ok (.invokevirtual 109, 3) := by decide +kernel
theorem dX4_doNext_15 : decode cX4_doNext 15 = .ok (.istore_n 2, 1) := by decide +kernel
theorem dX4_doNext_16 : decode cX4_doNext 16 = .ok (.aload_n 0, 1) := by decide +kernel
theorem dX4_doNext_17 : decode cX4_doNext 17 = .ok (.getfield 44, 3) := by decide +kernel
theorem dX4_doNext_20 : decode cX4_doNext 20 = .ok (.iload_n 1, 1) := by decide +kernel
theorem dX4_doNext_21 : decode cX4_doNext 21 = .ok (.iload_n 2, 1) := by decide +kernel
theorem dX4_doNext_22 : decode cX4_doNext 22 = .ok (.invokeinterface 112 3, 5) := by decide +kernel
theorem dX4_doNext_27 : decode cX4_doNext 27 = .ok (.ifCond .eq 29, 3) := by decide +kernel
theorem dX4_doNext_30 : decode cX4_doNext 30 = .ok (.aload_n 0, 1) := by decide +kernel
theorem dX4_doNext_31 : decode cX4_doNext 31 = .ok (.getfield 56, 3) := by decide +kernel
theorem dX4_doNext_34 : decode cX4_doNext 34 = .ok (.sipush 400, 3) := by decide +kernel
theorem dX4_doNext_37 : decode cX4_doNext 37 = .ok (.if_icmp .ne 9, 3) := by decide +kernel
theorem dX4_doNext_40 : decode cX4_doNext 40 = .ok (.aload_n 0, 1) := by decide +kernel
theorem dX4_doNext_41 : decode cX4_doNext 41 = .ok (.iconst 4, 1) := by decide +kernel
theorem dX4_doNext_42 : decode cX4_doNext 42 = .ok (.putfield 78, 3) := by decide +kernel
theorem dX4_doNext_45 : decode cX4_doNext 45 = .ok (.return_, 1) := by decide +kernel
theorem dX4_doNext_46 : decode cX4_doNext 46 = .ok (.aload_n 0, 1) := by decide +kernel
theorem dX4_doNext_47 : decode cX4_doNext 47 = .ok (.dup, 1) := by decide +kernel
theorem dX4_doNext_48 : decode cX4_doNext 48 = .ok (.getfield 56, 3) := by decide +kernel
theorem dX4_doNext_51 : decode cX4_doNext 51 = .ok (.iconst 1, 1) := by decide +kernel
theorem dX4_doNext_52 : decode cX4_doNext 52 = .ok (.iadd, 1) := by decide +kernel
theorem dX4_doNext_53 : decode cX4_doNext 53 = .ok (.putfield 56, 3) := by decide +kernel
theorem dX4_doNext_56 : decode cX4_doNext 56 = .ok (.aload_n 0, 1) := by decide +kernel
theorem dX4_doNext_57 : decode cX4_doNext 57 = .ok (.getfield 12, 3) := by decide +kernel
theorem dX4_doNext_60 : decode cX4_doNext 60 = .ok (.iload_n 2, 1) := by decide +kernel
theorem dX4_doNext_61 : decode cX4_doNext 61 = .ok (.iconst 1, 1) := by decide +kernel
theorem dX4_doNext_62 : decode cX4_doNext 62 = .ok (.iadd, 1) := by decide +kernel
theorem dX4_doNext_63 : decode cX4_doNext 63 = .ok (.invokevirtual 118, 3) := by decide +kernel
theorem dX4_doNext_66 : decode cX4_doNext 66 = .ok (.aload_n 0, 1) := by decide +kernel
theorem dX4_doNext_67 : decode cX4_doNext 67 = .ok (.getfield 44, 3) := by decide +kernel
theorem dX4_doNext_70 : decode cX4_doNext 70 = .ok (.iload_n 1, 1) := by decide +kernel
theorem dX4_doNext_71 : decode cX4_doNext 71 = .ok (.iload_n 2, 1) := by decide +kernel
theorem dX4_doNext_72 : decode cX4_doNext 72 = .ok (.invokeinterface 122 3, 5) := by decide +kernel
theorem dX4_doNext_77 : decode cX4_doNext 77 = .ok (.istore_n 3, 1) := by decide +kernel
theorem dX4_doNext_78 : decode cX4_doNext 78 = .ok (.aload_n 0, 1) := by decide +kernel
theorem dX4_doNext_79 : decode cX4_doNext 79 = .ok (.getfield 44, 3) := by decide +kernel
theorem dX4_doNext_82 : decode cX4_doNext 82 = .ok (.iload_n 1, 1) := by decide +kernel
theorem dX4_doNext_83 : decode cX4_doNext 83 = .ok (.iload_n 2, 1) := by decide +kernel
theorem dX4_doNext_84 : decode cX4_doNext 84 = .ok (.invokeinterface 126 3, 5) := by decide +kernel
theorem dX4_doNext_89 : decode cX4_doNext 89 = .ok (.istore 4, 2) := by decide +kernel
theorem dX4_doNext_91 : decode cX4_doNext 91 = .ok (.aload_n 0, 1) := by decide +kernel
theorem dX4_doNext_92 : decode cX4_doNext 92 = .ok (.getfield 44, 3) := by decide +kernel
theorem dX4_doNext_95 : decode cX4_doNext 95 = .ok (.iload_n 1, 1) := by decide +kernel
theorem dX4_doNext_96 : decode cX4_doNext 96 = .ok (.iload_n 2, 1) := by decide +kernel
theorem dX4_doNext_97 : decode cX4_doNext 97 = .ok (.invokeinterface 129 3, 5) := by decide +kernel
theorem dX4_doNext_102 : decode cX4_doNext 102 = .ok (.istore 5, 2) := by decide +kernel
theorem dX4_doNext_104 : decode cX4_doNext 104 = .ok (.iload_n 3, 1) := by decide +kernel
theorem dX4_doNext_105 : decode cX4_doNext 105 = .ok (.bipush 12, 2) := by decide +kernel
theorem dX4_doNext_107 : decode cX4_doNext 107 = .ok (.if_icmp .gt 13, 3) := by decide +kernel
theorem dX4_doNext_110 : decode cX4_doNext 110 = .ok (.aload_n 0, 1) := by decide +kernel
theorem dX4_doNext_111 : decode cX4_doNext 111 = .ok (.iload_n 3, 1) := by decide +kernel
theorem dX4_doNext_112 : decode cX4_doNext 112 = .ok (.iload 4, 2) := by decide +kernel
theorem dX4_doNext_114 : decode cX4_doNext 114 = .ok (.invokevirtual 132, 3) := by decide +kernel
theorem dX4_doNext_117 : decode cX4_doNext 117 = .ok (.goto 30, 3) := by decide +kernel
theorem dX4_doNext_120 : decode cX4_doNext 120 = .ok (.iload_n 3, 1) := by decide +kernel
theorem dX4_doNext_121 : decode cX4_doNext 121 = .ok (.bipush 15, 2) := by decide +kernel
theorem dX4_doNext_123 : decode cX4_doNext 123 = .ok (.if_icmp .gt 15, 3) := by decide +kernel
theorem dX4_doNext_126 : decode cX4_doNext 126 = .ok (.aload_n 0, 1) := by decide +kernel
theorem dX4_doNext_127 : decode cX4_doNext 127 = .ok (.iload_n 3, 1) := by decide +kernel
theorem dX4_doNext_128 : decode cX4_doNext 128 = .ok (.iload 4, 2) := by decide +kernel
theorem dX4_doNext_130 : decode cX4_doNext 130 = .ok (.iload 5, 2) := by decide +kernel
theorem dX4_doNext_132 : decode cX4_doNext 132 = .ok (.invokevirtual 136, 3) := by decide +kernel
theorem dX4_doNext_135 : decode cX4_doNext 135 = .ok (.goto 12, 3) := by decide +kernel
theorem dX4_doNext_138 : decode cX4_doNext 138 = .ok (.aload_n 0, 1) := by decide +kernel
theorem dX4_doNext_139 : decode cX4_doNext 139 = .ok (.iload_n 3, 1) := by decide +kernel
theorem dX4_doNext_140 : decode cX4_doNext 140 = .ok (.iload 4, 2) := by decide +kernel
theorem dX4_doNext_142 : decode cX4_doNext 142 = .ok (.iload 5, 2) := by decide +kernel
theorem dX4_doNext_144 : decode cX4_doNext 144 = .ok (.invokevirtual 140, 3) := by decide +kernel
theorem dX4_doNext_147 : decode cX4_doNext 147 = .ok (.return_, 1) := by decide +kernel
theorem dX4_doShared_0 : decode cX4_doShared 0 = .ok (.iload_n 1, 1) := by decide +kernel
theorem dX4_doShared_1 : decode cX4_doShared 1 = .ok (.tableswitch 212 0 12 #[67, 82, 100, 212, 212, 212, 118, 145, 156, 167, 175, 183, 190], 67) := by decide +kernel
theorem dX4_doShared_68 : decode cX4_doShared 68 = .ok (.aload_n 0, 1) := by decide +kernel
theorem dX4_doShared_69 : decode cX4_doShared 69 = .ok (.getfield 12, 3) := by decide +kernel
theorem dX4_doShared_72 : decode cX4_doShared 72 = .ok (.iconst 1, 1) := by decide +kernel
theorem dX4_doShared_73 : decode cX4_doShared 73 = .ok (.iload_n 2, 1) := by decide +kernel
theorem dX4_doShared_74 : decode cX4_doShared 74 = .ok (.invokestatic 90, 3) := by decide +kernel
theorem dX4_doShared_77 : decode cX4_doShared 77 = .ok (.invokevirtual 143, 3) := by decide +kernel
theorem dX4_doShared_80 : decode cX4_doShared 80 = .ok (.goto 138, 3) := by decide +kernel
theorem dX4_doShared_83 : decode cX4_doShared 83 = .ok (.aload_n 0, 1) := by decide +kernel
theorem dX4_doShared_84 : decode cX4_doShared 84 = .ok (.getfield 12, 3) := by decide +kernel
theorem dX4_doShared_87 : decode cX4_doShared 87 = .ok (.aload_n 0, 1) := by decide +kernel
theorem dX4_doShared_88 : decode cX4_doShared 88 = .ok (.getfield 12, 3) := by decide +kernel
theorem dX4_doShared_91 : decode cX4_doShared 91 = .ok (.iload_n 2, 1) := by decide +kernel
theorem dX4_doShared_92 : decode cX4_doShared 92 = .ok (.invokevirtual 147, 3) := by decide +kernel
theorem dX4_doShared_95 : decode cX4_doShared 95 = .ok (.invokevirtual 143, 3) := by decide +kernel
theorem dX4_doShared_98 : decode cX4_doShared 98 = .ok (.goto 120, 3) := by decide +kernel
theorem dX4_doShared_101 : decode cX4_doShared 101 = .ok (.aload_n 0, 1) := by decide +kernel
theorem dX4_doShared_102 : decode cX4_doShared 102 = .ok (.getfield 12, 3) := by decide +kernel
theorem dX4_doShared_105 : decode cX4_doShared 105 = .ok (.iload_n 2, 1) := by decide +kernel
theorem dX4_doShared_106 : decode cX4_doShared 106 = .ok (.aload_n 0, 1) := by decide +kernel
theorem dX4_doShared_107 : decode cX4_doShared 107 = .ok (.getfield 12, 3) := by decide +kernel
theorem dX4_doShared_110 : decode cX4_doShared 110 = .ok (.invokevirtual 151, 3) := by decide +kernel
theorem dX4_doShared_113 : decode cX4_doShared 113 = .ok (.invokevirtual 94, 3) := by decide +kernel
theorem dX4_doShared_116 : decode cX4_doShared 116 = .ok (.goto 102, 3) := by decide +kernel
theorem dX4_doShared_119 : decode cX4_doShared 119 = .ok (.aload_n 0, 1) := by decide +kernel
theorem dX4_doShared_120 : decode cX4_doShared 120 = .ok (.getfield 12, 3) := by decide +kernel
theorem dX4_doShared_123 : decode cX4_doShared 123 = .ok (.invokevirtual 151, 3) := by decide +kernel
theorem dX4_doShared_126 : decode cX4_doShared 126 = .ok (.lstore_n 3, 1) := by decide +kernel
theorem dX4_doShared_127 : decode cX4_doShared 127 = .ok (.aload_n 0, 1) := by decide +kernel
theorem dX4_doShared_128 : decode cX4_doShared 128 = .ok (.getfield 12, 3) := by decide +kernel
theorem dX4_doShared_131 : decode cX4_doShared 131 = .ok (.lload_n 3, 1) := by decide +kernel
theorem dX4_doShared_132 : decode cX4_doShared 132 = .ok (.invokevirtual 143, 3) := by decide +kernel
theorem dX4_doShared_135 : decode cX4_doShared 135 = .ok (.aload_n 0, 1) := by decide +kernel
theorem dX4_doShared_136 : decode cX4_doShared 136 = .ok (.getfield 12, 3) := by decide +kernel
theorem dX4_doShared_139 : decode cX4_doShared 139 = .ok (.lload_n 3, 1) := by decide +kernel
theorem dX4_doShared_140 : decode cX4_doShared 140 = .ok (.invokevirtual 143, 3) := by decide +kernel
theorem dX4_doShared_143 : decode cX4_doShared 143 = .ok (.goto 75, 3) := by decide +kernel
theorem dX4_doShared_146 : decode cX4_doShared 146 = .ok (.aload_n 0, 1) := by decide +kernel
theorem dX4_doShared_147 : decode cX4_doShared 147 = .ok (.getfield 12, 3) := by decide +kernel
theorem dX4_doShared_150 : decode cX4_doShared 150 = .ok (.invokevirtual 151, 3) := by decide +kernel
theorem dX4_doShared_153 : decode cX4_doShared 153 = .ok (.pop2, 1) := by decide +kernel
theorem dX4_doShared_154 : decode cX4_doShared 154 = .ok (.goto 64, 3) := by decide +kernel
theorem dX4_doShared_157 : decode cX4_doShared 157 = .ok (.aload_n 0, 1) := by decide +kernel
theorem dX4_doShared_158 : decode cX4_doShared 158 = .ok (.getfield 12, 3) := by decide +kernel
theorem dX4_doShared_161 : decode cX4_doShared 161 = .ok (.iload_n 2, 1) := by decide +kernel
theorem dX4_doShared_162 : decode cX4_doShared 162 = .ok (.invokevirtual 118, 3) := by decide +kernel
theorem dX4_doShared_165 : decode cX4_doShared 165 = .ok (.goto 53, 3) := by decide +kernel
theorem dX4_doShared_168 : decode cX4_doShared 168 = .ok (.aload_n 0, 1) := by decide +kernel
theorem dX4_doShared_169 : decode cX4_doShared 169 = .ok (.iload_n 2, 1) := by decide +kernel
theorem dX4_doShared_170 : decode cX4_doShared 170 = .ok (.invokevirtual 155, 3) := by decide +kernel
theorem dX4_doShared_173 : decode cX4_doShared 173 = .ok (.goto 45, 3) := by decide +kernel
theorem dX4_doShared_176 : decode cX4_doShared 176 = .ok (.aload_n 0, 1) := by decide +kernel
theorem dX4_doShared_177 : decode cX4_doShared 177 = .ok (.iload_n 2, 1) := by decide +kernel
theorem dX4_doShared_178 : decode cX4_doShared 178 = .ok (.invokevirtual 158, 3) := by decide +kernel
theorem dX4_doShared_181 : decode cX4_doShared 181 = .ok (.goto 37, 3) := by decide +kernel
theorem dX4_doShared_184 : decode cX4_doShared 184 = .ok (.aload_n 0, 1) := by decide +kernel
theorem dX4_doShared_185 : decode cX4_doShared 185 = .ok (.invokevirtual 161, 3) := by decide +kernel
theorem dX4_doShared_188 : decode cX4_doShared 188 = .ok (.goto 30, 3) := by decide +kernel
theorem dX4_doShared_191 : decode cX4_doShared 191 = .ok (.aload_n 0, 1) := by decide +kernel
theorem dX4_doShared_192 : decode cX4_doShared 192 = .ok (.aload_n 0, 1) := by decide +kernel
theorem dX4_doShared_193 : decode cX4_doShared 193 = .ok (.getfield 28, 3) := by decide +kernel
theorem dX4_doShared_196 : decode cX4_doShared 196 = .ok (.aload_n 0, 1) := by decide +kernel
theorem dX4_doShared_197 : decode cX4_doShared 197 = .ok (.getfield 12, 3) := by decide +kernel
theorem dX4_doShared_200 : decode cX4_doShared 200 = .ok (.invokevirtual 151, 3) := by decide +kernel
theorem dX4_doShared_203 : decode cX4_doShared 203 = .ok (.invokevirtual 164, 3) := by decide +kernel
theorem dX4_doShared_206 : decode cX4_doShared 206 = .ok (.iconst 5, 1) := by decide +kernel
theorem dX4_doShared_207 : decode cX4_doShared 207 = .ok (.invokevirtual 168, 3) := by decide +kernel
theorem dX4_doShared_210 : decode cX4_doShared 210 = .ok (.goto 8, 3) := by decide +kernel
theorem dX4_doShared_213 : decode cX4_doShared 213 = .ok (.aload_n 0, 1) := by decide +kernel
theorem dX4_doShared_214 : decode cX4_doShared 214 = .ok (.iload_n 1, 1) := by decide +kernel
theorem dX4_doShared_215 : decode cX4_doShared 215 = .ok (.invokevirtual 172, 3) := by decide +kernel
theorem dX4_doShared_218 : decode cX4_doShared 218 = .ok (.return_, 1) := by decide +kernel
theorem dX4_doFirst_0 : decode cX4_doFirst 0 = .ok (.iload_n 1, 1) := by decide +kernel
theorem dX4_doFirst_1 : decode cX4_doFirst 1 = .ok (.bipush 13, 2) := by decide +kernel
theorem dX4_doFirst_3 : decode cX4_doFirst 3 = .ok (.if_icmp .ne 72, 3) := by decide +kernel
theorem dX4_doFirst_6 : decode cX4_doFirst 6 = .ok (.aload_n 0, 1) := by decide +kernel
theorem dX4_doFirst_7 : decode cX4_doFirst 7 = .ok (.getfield 12, 3) := by decide +kernel
theorem dX4_doFirst_10 : decode cX4_doFirst 10 = .ok (.iload_n 3, 1) := by decide +kernel
theorem dX4_doFirst_11 : decode cX4_doFirst 11 = .ok (.invokevirtual 175, 3) := by decide +kernel
theorem dX4_doFirst_14 : decode cX4_doFirst 14 = .ok (.aload_n 0, 1) := by decide +kernel
theorem dX4_doFirst_15 : decode cX4_doFirst 15 = .ok (.getfield 21, 3) := by decide +kernel
theorem dX4_doFirst_18 : decode cX4_doFirst 18 = .ok (.iload_n 2, 1) := by decide +kernel
theorem dX4_doFirst_19 : decode cX4_doFirst 19 = .ok (.iload_n 3, 1) := by decide +kernel
theorem dX4_doFirst_20 : decode cX4_doFirst 20 = .ok (.invokevirtual 178, 3) := by decide +kernel
theorem dX4_doFirst_23 : decode cX4_doFirst 23 = .ok (.lstore 4, 2) := by decide +kernel
theorem dX4_doFirst_25 : decode cX4_doFirst 25 = .ok (.iconst 0, 1) := by decide +kernel
theorem dX4_doFirst_26 : decode cX4_doFirst 26 = .ok (.istore 6, 2) := by decide +kernel
theorem dX4_doFirst_28 : decode cX4_doFirst 28 = .ok (.iload 6, 2) := by decide +kernel
theorem dX4_doFirst_30 : decode cX4_doFirst 30 = .ok (.iload_n 3, 1) := by decide +kernel
theorem dX4_doFirst_31 : decode cX4_doFirst 31 = .ok (.if_icmp .ge 32, 3) := by decide +kernel
theorem dX4_doFirst_34 : decode cX4_doFirst 34 = .ok (.aload_n 0, 1) := by decide +kernel
theorem dX4_doFirst_35 : decode cX4_doFirst 35 = .ok (.getfield 21, 3) := by decide +kernel
theorem dX4_doFirst_38 : decode cX4_doFirst 38 = .ok (.lload 4, 2) := by decide +kernel
theorem dX4_doFirst_40 : decode cX4_doFirst 40 = .ok (.invokestatic 67, 3) := by decide +kernel
theorem dX4_doFirst_43 : decode cX4_doFirst 43 = .ok (.iload 6, 2) := by decide +kernel
theorem dX4_doFirst_45 : decode cX4_doFirst 45 = .ok (.aload_n 0, 1) := by decide +kernel
theorem dX4_doFirst_46 : decode cX4_doFirst 46 = .ok (.getfield 12, 3) := by decide +kernel
theorem dX4_doFirst_49 : decode cX4_doFirst 49 = .ok (.iload 6, 2) := by decide +kernel
theorem dX4_doFirst_51 : decode cX4_doFirst 51 = .ok (.invokevirtual 181, 3) := by decide +kernel
theorem dX4_doFirst_54 : decode cX4_doFirst 54 = .ok (.invokevirtual 184, 3) := by decide +kernel
theorem dX4_doFirst_57 : decode cX4_doFirst 57 = .ok (.iinc 6 1, 3) := by decide +kernel
theorem dX4_doFirst_60 : decode cX4_doFirst 60 = .ok (.goto (-32), 3) := by decide +kernel
theorem dX4_doFirst_63 : decode cX4_doFirst 63 = .ok (.aload_n 0, 1) := by decide +kernel
theorem dX4_doFirst_64 : decode cX4_doFirst 64 = .ok (.getfield 12, 3) := by decide +kernel
theorem dX4_doFirst_67 : decode cX4_doFirst 67 = .ok (.lload 4, 2) := by decide +kernel
theorem dX4_doFirst_69 : decode cX4_doFirst 69 = .ok (.invokevirtual 143, 3) := by decide +kernel
theorem dX4_doFirst_72 : decode cX4_doFirst 72 = .ok (.goto 29, 3) := by decide +kernel
theorem dX4_doFirst_75 : decode cX4_doFirst 75 = .ok (.iload_n 1, 1) := by decide +kernel
theorem dX4_doFirst_76 : decode cX4_doFirst 76 = .ok (.bipush 14, 2) := by decide +kernel
theorem dX4_doFirst_78 : decode cX4_doFirst 78 = .ok (.if_icmp .ne 11, 3) := by decide +kernel
theorem dX4_doFirst_81 : decode cX4_doFirst 81 = .ok (.aload_n 0, 1) := by decide +kernel
theorem dX4_doFirst_82 : decode cX4_doFirst 82 = .ok (.iload_n 2, 1) := by decide +kernel
theorem dX4_doFirst_83 : decode cX4_doFirst 83 = .ok (.invokevirtual 188, 3) := by decide +kernel
theorem dX4_doFirst_86 : decode cX4_doFirst 86 = .ok (.goto 15, 3) := by decide +kernel
theorem dX4_doFirst_89 : decode cX4_doFirst 89 = .ok (.aload_n 0, 1) := by decide +kernel
theorem dX4_doFirst_90 : decode cX4_doFirst 90 = .ok (.iload_n 2, 1) := by decide +kernel
theorem dX4_doFirst_91 : decode cX4_doFirst 91 = .ok (.aload_n 0, 1) := by decide +kernel
theorem dX4_doFirst_92 : decode cX4_doFirst 92 = .ok (.getfield 36, 3) := by decide +kernel
theorem dX4_doFirst_95 : decode cX4_doFirst 95 = .ok (.invokevirtual 191, 3) := by decide +kernel
theorem dX4_doFirst_98 : decode cX4_doFirst 98 = .ok (.invokevirtual 195, 3) := by decide +kernel
theorem dX4_doFirst_101 : decode cX4_doFirst 101 = .ok (.return_, 1) := by decide +kernel
theorem dX4_doPlain_0 : decode cX4_doPlain 0 = .ok (.iload_n 1, 1) := by decide +kernel
theorem dX4_doPlain_1 : decode cX4_doPlain 1 = .ok (.tableswitch 181 20 25 #[39, 65, 118, 126, 155, 172], 39) := by decide +kernel
theorem dX4_doPlain_40 : decode cX4_doPlain 40 = .ok (.aload_n 0, 1) := by decide +kernel
theorem dX4_doPlain_41 : decode cX4_doPlain 41 = .ok (.getfield 12, 3) := by decide +kernel
theorem dX4_doPlain_44 : decode cX4_doPlain 44 = .ok (.aload_n 0, 1) := by decide +kernel
theorem dX4_doPlain_45 : decode cX4_doPlain 45 = .ok (.getfield 21, 3) := by decide +kernel
theorem dX4_doPlain_48 : decode cX4_doPlain 48 = .ok (.iload_n 2, 1) := by decide +kernel
theorem dX4_doPlain_49 : decode cX4_doPlain 49 = .ok (.aload_n 0, 1) := by decide +kernel
theorem dX4_doPlain_50 : decode cX4_doPlain 50 = .ok (.getfield 40, 3) := by decide +kernel
theorem dX4_doPlain_53 : decode cX4_doPlain 53 = .ok (.iload_n 2, 1) := by decide +kernel
theorem dX4_doPlain_54 : decode cX4_doPlain 54 = .ok (.invokevirtual 199, 3) := by decide +kernel
theorem dX4_doPlain_57 : decode cX4_doPlain 57 = .ok (.invokevirtual 178, 3) := by decide +kernel
theorem dX4_doPlain_60 : decode cX4_doPlain 60 = .ok (.invokevirtual 143, 3) := by decide +kernel
theorem dX4_doPlain_63 : decode cX4_doPlain 63 = .ok (.goto 177, 3) := by decide +kernel
theorem dX4_doPlain_66 : decode cX4_doPlain 66 = .ok (.aload_n 0, 1) := by decide +kernel
theorem dX4_doPlain_67 : decode cX4_doPlain 67 = .ok (.getfield 12, 3) := by decide +kernel
theorem dX4_doPlain_70 : decode cX4_doPlain 70 = .ok (.iconst 2, 1) := by decide +kernel
theorem dX4_doPlain_71 : decode cX4_doPlain 71 = .ok (.invokevirtual 175, 3) := by decide +kernel
theorem dX4_doPlain_74 : decode cX4_doPlain 74 = .ok (.aload_n 0, 1) := by decide +kernel
theorem dX4_doPlain_75 : decode cX4_doPlain 75 = .ok (.getfield 21, 3) := by decide +kernel
theorem dX4_doPlain_78 : decode cX4_doPlain 78 = .ok (.aload_n 0, 1) := by decide +kernel
theorem dX4_doPlain_79 : decode cX4_doPlain 79 = .ok (.getfield 12, 3) := by decide +kernel
theorem dX4_doPlain_82 : decode cX4_doPlain 82 = .ok (.iconst 0, 1) := by decide +kernel
theorem dX4_doPlain_83 : decode cX4_doPlain 83 = .ok (.invokevirtual 181, 3) := by decide +kernel
theorem dX4_doPlain_86 : decode cX4_doPlain 86 = .ok (.invokestatic 67, 3) := by decide +kernel
theorem dX4_doPlain_89 : decode cX4_doPlain 89 = .ok (.iload_n 2, 1) := by decide +kernel
theorem dX4_doPlain_90 : decode cX4_doPlain 90 = .ok (.aload_n 0, 1) := by decide +kernel
theorem dX4_doPlain_91 : decode cX4_doPlain 91 = .ok (.getfield 12, 3) := by decide +kernel
theorem dX4_doPlain_94 : decode cX4_doPlain 94 = .ok (.iconst 1, 1) := by decide +kernel
theorem dX4_doPlain_95 : decode cX4_doPlain 95 = .ok (.invokevirtual 181, 3) := by decide +kernel
theorem dX4_doPlain_98 : decode cX4_doPlain 98 = .ok (.invokevirtual 184, 3) := by decide +kernel
theorem dX4_doPlain_101 : decode cX4_doPlain 101 = .ok (.aload_n 0, 1) := by decide +kernel
theorem dX4_doPlain_102 : decode cX4_doPlain 102 = .ok (.getfield 12, 3) := by decide +kernel
theorem dX4_doPlain_105 : decode cX4_doPlain 105 = .ok (.aload_n 0, 1) := by decide +kernel
theorem dX4_doPlain_106 : decode cX4_doPlain 106 = .ok (.getfield 12, 3) := by decide +kernel
theorem dX4_doPlain_109 : decode cX4_doPlain 109 = .ok (.iconst 0, 1) := by decide +kernel
theorem dX4_doPlain_110 : decode cX4_doPlain 110 = .ok (.invokevirtual 181, 3) := by decide +kernel
theorem dX4_doPlain_113 : decode cX4_doPlain 113 = .ok (.invokevirtual 143, 3) := by decide +kernel
theorem dX4_doPlain_116 : decode cX4_doPlain 116 = .ok (.goto 124, 3) := by decide +kernel
theorem dX4_doPlain_119 : decode cX4_doPlain 119 = .ok (.aload_n 0, 1) := by decide +kernel
theorem dX4_doPlain_120 : decode cX4_doPlain 120 = .ok (.iload_n 2, 1) := by decide +kernel
theorem dX4_doPlain_121 : decode cX4_doPlain 121 = .ok (.invokevirtual 204, 3) := by decide +kernel
theorem dX4_doPlain_124 : decode cX4_doPlain 124 = .ok (.goto 116, 3) := by decide +kernel
theorem dX4_doPlain_127 : decode cX4_doPlain 127 = .ok (.aload_n 0, 1) := by decide +kernel
theorem dX4_doPlain_128 : decode cX4_doPlain 128 = .ok (.getfield 12, 3) := by decide +kernel
theorem dX4_doPlain_131 : decode cX4_doPlain 131 = .ok (.aload_n 0, 1) := by decide +kernel
theorem dX4_doPlain_132 : decode cX4_doPlain 132 = .ok (.getfield 21, 3) := by decide +kernel
theorem dX4_doPlain_135 : decode cX4_doPlain 135 = .ok (.aload_n 0, 1) := by decide +kernel
theorem dX4_doPlain_136 : decode cX4_doPlain 136 = .ok (.getfield 12, 3) := by decide +kernel
theorem dX4_doPlain_139 : decode cX4_doPlain 139 = .ok (.iconst 0, 1) := by decide +kernel
theorem dX4_doPlain_140 : decode cX4_doPlain 140 = .ok (.invokevirtual 147, 3) := by decide +kernel
theorem dX4_doPlain_143 : decode cX4_doPlain 143 = .ok (.invokestatic 67, 3) := by decide +kernel
theorem dX4_doPlain_146 : decode cX4_doPlain 146 = .ok (.iload_n 2, 1) := by decide +kernel
theorem dX4_doPlain_147 : decode cX4_doPlain 147 = .ok (.invokevirtual 207, 3) := by decide +kernel
theorem dX4_doPlain_150 : decode cX4_doPlain 150 = .ok (.invokevirtual 143, 3) := by decide +kernel
theorem dX4_doPlain_153 : decode cX4_doPlain 153 = .ok (.goto 87, 3) := by decide +kernel
theorem dX4_doPlain_156 : decode cX4_doPlain 156 = .ok (.aload_n 0, 1) := by decide +kernel
theorem dX4_doPlain_157 : decode cX4_doPlain 157 = .ok (.getfield 12, 3) := by decide +kernel
theorem dX4_doPlain_160 : decode cX4_doPlain 160 = .ok (.aload_n 0, 1) := by decide +kernel
theorem dX4_doPlain_161 : decode cX4_doPlain 161 = .ok (.getfield 28, 3) := by decide +kernel
theorem dX4_doPlain_164 : decode cX4_doPlain 164 = .ok (.invokevirtual 210, 3) := by decide +kernel
theorem dX4_doPlain_167 : decode cX4_doPlain 167 = .ok (.invokevirtual 143, 3) := by decide +kernel
theorem dX4_doPlain_170 : decode cX4_doPlain 170 = .ok (.goto 70, 3) := by decide +kernel
theorem dX4_doPlain_173 : decode cX4_doPlain 173 = .ok (.aload_n 0, 1) := by decide +kernel
theorem dX4_doPlain_174 : decode cX4_doPlain 174 = .ok (.iload_n 2, 1) := by decide +kernel
theorem dX4_doPlain_175 : decode cX4_doPlain 175 = .ok (.iload_n 3, 1) := by decide +kernel
theorem dX4_doPlain_176 : decode cX4_doPlain 176 = .ok (.invokevirtual 213, 3) := by decide +kernel
theorem dX4_doPlain_179 : decode cX4_doPlain 179 = .ok (.goto 61, 3) := by decide +kernel
theorem dX4_doPlain_182 : decode cX4_doPlain 182 = .ok (.aload_n 0, 1) := by decide +kernel
theorem dX4_doPlain_183 : decode cX4_doPlain 183 = .ok (.getfield 12, 3) := by decide +kernel
theorem dX4_doPlain_186 : decode cX4_doPlain 186 = .ok (.iconst 2, 1) := by decide +kernel
theorem dX4_doPlain_187 : decode cX4_doPlain 187 = .ok (.invokevirtual 175, 3) := by decide +kernel
theorem dX4_doPlain_190 : decode cX4_doPlain 190 = .ok (.aload_n 0, 1) := by decide +kernel
theorem dX4_doPlain_191 : decode cX4_doPlain 191 = .ok (.getfield 28, 3) := by decide +kernel
theorem dX4_doPlain_194 : decode cX4_doPlain 194 = .ok (.aload_n 0, 1) := by decide +kernel
theorem dX4_doPlain_195 : decode cX4_doPlain 195 = .ok (.getfield 12, 3) := by decide +kernel
theorem dX4_doPlain_198 : decode cX4_doPlain 198 = .ok (.iconst 0, 1) := by decide +kernel
theorem dX4_doPlain_199 : decode cX4_doPlain 199 = .ok (.invokevirtual 181, 3) := by decide +kernel
theorem dX4_doPlain_202 : decode cX4_doPlain 202 = .ok (.invokestatic 67, 3) := by decide +kernel
theorem dX4_doPlain_205 : decode cX4_doPlain 205 = .ok (.aload_n 0, 1) := by decide +kernel
theorem dX4_doPlain_206 : decode cX4_doPlain 206 = .ok (.getfield 12, 3) := by decide +kernel
theorem dX4_doPlain_209 : decode cX4_doPlain 209 = .ok (.iconst 1, 1) := by decide +kernel
theorem dX4_doPlain_210 : decode cX4_doPlain 210 = .ok (.invokevirtual 181, 3) := by decide +kernel
theorem dX4_doPlain_213 : decode cX4_doPlain 213 = .ok (.invokevirtual 216, 3) := by decide +kernel
theorem dX4_doPlain_216 : decode cX4_doPlain 216 = .ok (.istore 4, 2) := by decide +kernel
theorem dX4_doPlain_218 : decode cX4_doPlain 218 = .ok (.aload_n 0, 1) := by decide +kernel
theorem dX4_doPlain_219 : decode cX4_doPlain 219 = .ok (.iload 4, 2) := by decide +kernel
theorem dX4_doPlain_221 : decode cX4_doPlain 221 = .ok (.iconst 5, 1) := by decide +kernel
theorem dX4_doPlain_222 : decode cX4_doPlain 222 = .ok (.invokevirtual 168, 3) := by decide +kernel
theorem dX4_doPlain_225 : decode cX4_doPlain 225 = .ok (.aload_n 0, 1) := by decide +kernel
theorem dX4_doPlain_226 : decode cX4_doPlain 226 = .ok (.getfield 12, 3) := by decide +kernel
theorem dX4_doPlain_229 : decode cX4_doPlain 229 = .ok (.aload_n 0, 1) := by decide +kernel
theorem dX4_doPlain_230 : decode cX4_doPlain 230 = .ok (.getfield 12, 3) := by decide +kernel
theorem dX4_doPlain_233 : decode cX4_doPlain 233 = .ok (.iconst 0, 1) := by decide +kernel
theorem dX4_doPlain_234 : decode cX4_doPlain 234 = .ok (.invokevirtual 181, 3) := by decide +kernel
theorem dX4_doPlain_237 : decode cX4_doPlain 237 = .ok (.invokevirtual 143, 3) := by decide +kernel
theorem dX4_doPlain_240 : decode cX4_doPlain 240 = .ok (.return_, 1) := by decide +kernel
theorem dX4_faultUnless_0 : decode cX4_faultUnless 0 = .ok (.iload_n 1, 1) := by decide +kernel
theorem dX4_faultUnless_1 : decode cX4_faultUnless 1 = .ok (.ifCond .ne 8, 3) := by decide +kernel
theorem dX4_faultUnless_4 : decode cX4_faultUnless 4 = .ok (.aload_n 0, 1) := by decide +kernel
theorem dX4_faultUnless_5 : decode cX4_faultUnless 5 = .ok (.iload_n 2, 1) := by decide +kernel
theorem dX4_faultUnless_6 : decode cX4_faultUnless 6 = .ok (.putfield 78, 3) := by decide +kernel
theorem dX4_faultUnless_9 : decode cX4_faultUnless 9 = .ok (.return_, 1) := by decide +kernel
theorem dX4_reckon_0 : decode cX4_reckon 0 = .ok (.aload_n 0, 1) := by decide +kernel
theorem dX4_reckon_1 : decode cX4_reckon 1 = .ok (.getfield 12, 3) := by decide +kernel
theorem dX4_reckon_4 : decode cX4_reckon 4 = .ok (.iconst 2, 1) := by decide +kernel
theorem dX4_reckon_5 : decode cX4_reckon 5 = .ok (.invokevirtual 175, 3) := by decide +kernel
theorem dX4_reckon_8 : decode cX4_reckon 8 = .ok (.aload_n 0, 1) := by decide +kernel
theorem dX4_reckon_9 : decode cX4_reckon 9 = .ok (.getfield 12, 3) := by decide +kernel
theorem dX4_reckon_12 : decode cX4_reckon 12 = .ok (.iconst 0, 1) := by decide +kernel
theorem dX4_reckon_13 : decode cX4_reckon 13 = .ok (.invokevirtual 181, 3) := by decide +kernel
theorem dX4_reckon_16 : decode cX4_reckon 16 = .ok (.lstore_n 2, 1) := by decide +kernel
theorem dX4_reckon_17 : decode cX4_reckon 17 = .ok (.aload_n 0, 1) := by decide +kernel
theorem dX4_reckon_18 : decode cX4_reckon 18 = .ok (.getfield 12, 3) := by decide +kernel
theorem dX4_reckon_21 : decode cX4_reckon 21 = .ok (.iconst 1, 1) := by decide +kernel
theorem dX4_reckon_22 : decode cX4_reckon 22 = .ok (.invokevirtual 181, 3) := by decide +kernel
theorem dX4_reckon_25 : decode cX4_reckon 25 = .ok (.lstore 4, 2) := by decide +kernel
theorem dX4_reckon_27 : decode cX4_reckon 27 = .ok (.lload_n 2, 1) := by decide +kernel
theorem dX4_reckon_28 : decode cX4_reckon 28 = .ok (.invokestatic 60, 3) := by decide +kernel
theorem dX4_reckon_31 : decode cX4_reckon 31 = .ok (.iconst 1, 1) := by decide +kernel
theorem dX4_reckon_32 : decode cX4_reckon 32 = .ok (.if_icmp .ne 12, 3) := by decide +kernel
theorem dX4_reckon_35 : decode cX4_reckon 35 = .ok (.lload 4, 2) := by decide +kernel
theorem dX4_reckon_37 : decode cX4_reckon 37 = .ok (.invokestatic 60, 3) := by decide +kernel
theorem dX4_reckon_40 : decode cX4_reckon 40 = .ok (.iconst 1, 1) := by decide +kernel
theorem dX4_reckon_41 : decode cX4_reckon 41 = .ok (.if_icmp .eq 9, 3) := by decide +kernel
theorem dX4_reckon_44 : decode cX4_reckon 44 = .ok (.aload_n 0, 1) := by decide +kernel
theorem dX4_reckon_45 : decode cX4_reckon 45 = .ok (.iconst 1, 1) := by decide +kernel
theorem dX4_reckon_46 : decode cX4_reckon 46 = .ok (.putfield 78, 3) := by decide +kernel
theorem dX4_reckon_49 : decode cX4_reckon 49 = .ok (.return_, 1) := by decide +kernel
theorem dX4_reckon_50 : decode cX4_reckon 50 = .ok (.lload_n 2, 1) := by decide +kernel
theorem dX4_reckon_51 : decode cX4_reckon 51 = .ok (.invokestatic 67, 3) := by decide +kernel
theorem dX4_reckon_54 : decode cX4_reckon 54 = .ok (.istore 6, 2) := by decide +kernel
theorem dX4_reckon_56 : decode cX4_reckon 56 = .ok (.lload 4, 2) := by decide +kernel
theorem dX4_reckon_58 : decode cX4_reckon 58 = .ok (.invokestatic 67, 3) := by decide +kernel
theorem dX4_reckon_61 : decode cX4_reckon 61 = .ok (.istore 7, 2) := by decide +kernel
theorem dX4_reckon_63 : decode cX4_reckon 63 = .ok (.iload_n 1, 1) := by decide +kernel
theorem dX4_reckon_64 : decode cX4_reckon 64 = .ok (.iconst 3, 1) := by decide +kernel
theorem dX4_reckon_65 : decode cX4_reckon 65 = .ok (.if_icmp .ne 11, 3) := by decide +kernel
theorem dX4_reckon_68 : decode cX4_reckon 68 = .ok (.iload 6, 2) := by decide +kernel
theorem dX4_reckon_70 : decode cX4_reckon 70 = .ok (.iload 7, 2) := by decide +kernel
theorem dX4_reckon_72 : decode cX4_reckon 72 = .ok (.iadd, 1) := by decide +kernel
theorem dX4_reckon_73 : decode cX4_reckon 73 = .ok (.goto 21, 3) := by decide +kernel
theorem dX4_reckon_76 : decode cX4_reckon 76 = .ok (.iload_n 1, 1) := by decide +kernel
theorem dX4_reckon_77 : decode cX4_reckon 77 = .ok (.iconst 4, 1) := by decide +kernel
theorem dX4_reckon_78 : decode cX4_reckon 78 = .ok (.if_icmp .ne 11, 3) := by decide +kernel
theorem dX4_reckon_81 : decode cX4_reckon 81 = .ok (.iload 6, 2) := by decide +kernel
theorem dX4_reckon_83 : decode cX4_reckon 83 = .ok (.iload 7, 2) := by decide +kernel
theorem dX4_reckon_85 : decode cX4_reckon 85 = .ok (.isub, 1) := by decide +kernel
theorem dX4_reckon_86 : decode cX4_reckon 86 = .ok (.goto 8, 3) := by decide +kernel
theorem dX4_reckon_89 : decode cX4_reckon 89 = .ok (.iload 6, 2) := by decide +kernel
theorem dX4_reckon_91 : decode cX4_reckon 91 = .ok (.iload 7, 2) := by decide +kernel
theorem dX4_reckon_93 : decode cX4_reckon 93 = .ok (.imul, 1) := by decide +kernel
theorem dX4_reckon_94 : decode cX4_reckon 94 = .ok (.istore 8, 2) := by decide +kernel
theorem dX4_reckon_96 : decode cX4_reckon 96 = .ok (.aload_n 0, 1) := by decide +kernel
theorem dX4_reckon_97 : decode cX4_reckon 97 = .ok (.getfield 12, 3) := by decide +kernel
theorem dX4_reckon_100 : decode cX4_reckon 100 = .ok (.iconst 1, 1) := by decide +kernel
theorem dX4_reckon_101 : decode cX4_reckon 101 = .ok (.iload 8, 2) := by decide +kernel
theorem dX4_reckon_103 : decode cX4_reckon 103 = .ok (.invokestatic 90, 3) := by decide +kernel
theorem dX4_reckon_106 : decode cX4_reckon 106 = .ok (.invokevirtual 143, 3) := by decide +kernel
theorem dX4_reckon_109 : decode cX4_reckon 109 = .ok (.return_, 1) := by decide +kernel
theorem dX4_goIfZero_0 : decode cX4_goIfZero 0 = .ok (.aload_n 0, 1) := by decide +kernel
theorem dX4_goIfZero_1 : decode cX4_goIfZero 1 = .ok (.getfield 12, 3) := by decide +kernel
theorem dX4_goIfZero_4 : decode cX4_goIfZero 4 = .ok (.invokevirtual 151, 3) := by decide +kernel
theorem dX4_goIfZero_7 : decode cX4_goIfZero 7 = .ok (.lstore_n 2, 1) := by decide +kernel
theorem dX4_goIfZero_8 : decode cX4_goIfZero 8 = .ok (.lload_n 2, 1) := by decide +kernel
theorem dX4_goIfZero_9 : decode cX4_goIfZero 9 = .ok (.invokestatic 60, 3) := by decide +kernel
theorem dX4_goIfZero_12 : decode cX4_goIfZero 12 = .ok (.iconst 1, 1) := by decide +kernel
theorem dX4_goIfZero_13 : decode cX4_goIfZero 13 = .ok (.if_icmp .eq 11, 3) := by decide +kernel
theorem dX4_goIfZero_16 : decode cX4_goIfZero 16 = .ok (.aload_n 0, 1) := by decide +kernel
theorem dX4_goIfZero_17 : decode cX4_goIfZero 17 = .ok (.iconst 1, 1) := by decide +kernel
theorem dX4_goIfZero_18 : decode cX4_goIfZero 18 = .ok (.putfield 78, 3) := by decide +kernel
theorem dX4_goIfZero_21 : decode cX4_goIfZero 21 = .ok (.goto 18, 3) := by decide +kernel
theorem dX4_goIfZero_24 : decode cX4_goIfZero 24 = .ok (.lload_n 2, 1) := by decide +kernel
theorem dX4_goIfZero_25 : decode cX4_goIfZero 25 = .ok (.invokestatic 67, 3) := by decide +kernel
theorem dX4_goIfZero_28 : decode cX4_goIfZero 28 = .ok (.ifCond .ne 11, 3) := by decide +kernel
theorem dX4_goIfZero_31 : decode cX4_goIfZero 31 = .ok (.aload_n 0, 1) := by decide +kernel
theorem dX4_goIfZero_32 : decode cX4_goIfZero 32 = .ok (.getfield 12, 3) := by decide +kernel
theorem dX4_goIfZero_35 : decode cX4_goIfZero 35 = .ok (.iload_n 1, 1) := by decide +kernel
theorem dX4_goIfZero_36 : decode cX4_goIfZero 36 = .ok (.invokevirtual 118, 3) := by decide +kernel
theorem dX4_goIfZero_39 : decode cX4_goIfZero 39 = .ok (.return_, 1) := by decide +kernel
theorem dX4_beginFunction_0 : decode cX4_beginFunction 0 = .ok (.aload_n 0, 1) := by decide +kernel
theorem dX4_beginFunction_1 : decode cX4_beginFunction 1 = .ok (.getfield 75, 3) := by decide +kernel
theorem dX4_beginFunction_4 : decode cX4_beginFunction 4 = .ok (.bipush 30, 2) := by decide +kernel
theorem dX4_beginFunction_6 : decode cX4_beginFunction 6 = .ok (.if_icmp .ne 10, 3) := by decide +kernel
theorem dX4_beginFunction_9 : decode cX4_beginFunction 9 = .ok (.aload_n 0, 1) := by decide +kernel
theorem dX4_beginFunction_10 : decode cX4_beginFunction 10 = .ok (.iconst 3, 1) := by decide +kernel
theorem dX4_beginFunction_11 : decode cX4_beginFunction 11 = .ok (.putfield 78, 3) := by decide +kernel
theorem dX4_beginFunction_14 : decode cX4_beginFunction 14 = .ok (.iconst 0, 1) := by decide +kernel
theorem dX4_beginFunction_15 : decode cX4_beginFunction 15 = .ok (.ireturn, 1) := by decide +kernel
theorem dX4_beginFunction_16 : decode cX4_beginFunction 16 = .ok (.aload_n 0, 1) := by decide +kernel
theorem dX4_beginFunction_17 : decode cX4_beginFunction 17 = .ok (.dup, 1) := by decide +kernel
theorem dX4_beginFunction_18 : decode cX4_beginFunction 18 = .ok (.getfield 75, 3) := by decide +kernel
theorem dX4_beginFunction_21 : decode cX4_beginFunction 21 = .ok (.iconst 1, 1) := by decide +kernel
theorem dX4_beginFunction_22 : decode cX4_beginFunction 22 = .ok (.iadd, 1) := by decide +kernel
theorem dX4_beginFunction_23 : decode cX4_beginFunction 23 = .ok (.putfield 75, 3) := by decide +kernel
theorem dX4_beginFunction_26 : decode cX4_beginFunction 26 = .ok (.aload_n 0, 1) := by decide +kernel
theorem dX4_beginFunction_27 : decode cX4_beginFunction 27 = .ok (.getfield 12, 3) := by decide +kernel
theorem dX4_beginFunction_30 : decode cX4_beginFunction 30 = .ok (.iload_n 1, 1) := by decide +kernel
theorem dX4_beginFunction_31 : decode cX4_beginFunction 31 = .ok (.invokevirtual 220, 3) := by decide +kernel
theorem dX4_beginFunction_34 : decode cX4_beginFunction 34 = .ok (.iconst 1, 1) := by decide +kernel
theorem dX4_beginFunction_35 : decode cX4_beginFunction 35 = .ok (.ireturn, 1) := by decide +kernel
theorem dX4_callFunction_0 : decode cX4_callFunction 0 = .ok (.aload_n 0, 1) := by decide +kernel
theorem dX4_callFunction_1 : decode cX4_callFunction 1 = .ok (.getfield 36, 3) := by decide +kernel
theorem dX4_callFunction_4 : decode cX4_callFunction 4 = .ok (.iload_n 1, 1) := by decide +kernel
theorem dX4_callFunction_5 : decode cX4_callFunction 5 = .ok (.invokevirtual 85, 3) := by decide +kernel
theorem dX4_callFunction_8 : decode cX4_callFunction 8 = .ok (.istore_n 2, 1) := by decide +kernel
theorem dX4_callFunction_9 : decode cX4_callFunction 9 = .ok (.aload_n 0, 1) := by decide +kernel
theorem dX4_callFunction_10 : decode cX4_callFunction 10 = .ok (.getfield 12, 3) := by decide +kernel
theorem dX4_callFunction_13 : decode cX4_callFunction 13 = .ok (.iload_n 2, 1) := by decide +kernel
theorem dX4_callFunction_14 : decode cX4_callFunction 14 = .ok (.invokevirtual 175, 3) := by decide +kernel
theorem dX4_callFunction_17 : decode cX4_callFunction 17 = .ok (.aload_n 0, 1) := by decide +kernel
theorem dX4_callFunction_18 : decode cX4_callFunction 18 = .ok (.iload_n 1, 1) := by decide +kernel
theorem dX4_callFunction_19 : decode cX4_callFunction 19 = .ok (.invokevirtual 81, 3) := by decide +kernel
theorem dX4_callFunction_22 : decode cX4_callFunction 22 = .ok (.ifCond .eq 12, 3) := by decide +kernel
theorem dX4_callFunction_25 : decode cX4_callFunction 25 = .ok (.aload_n 0, 1) := by decide +kernel
theorem dX4_callFunction_26 : decode cX4_callFunction 26 = .ok (.getfield 12, 3) := by decide +kernel
theorem dX4_callFunction_29 : decode cX4_callFunction 29 = .ok (.iconst 0, 1) := by decide +kernel
theorem dX4_callFunction_30 : decode cX4_callFunction 30 = .ok (.iload_n 2, 1) := by decide +kernel
theorem dX4_callFunction_31 : decode cX4_callFunction 31 = .ok (.invokevirtual 223, 3) := by decide +kernel
theorem dX4_callFunction_34 : decode cX4_callFunction 34 = .ok (.return_, 1) := by decide +kernel
theorem dX4_giveBack_0 : decode cX4_giveBack 0 = .ok (.aload_n 0, 1) := by decide +kernel
theorem dX4_giveBack_1 : decode cX4_giveBack 1 = .ok (.getfield 12, 3) := by decide +kernel
theorem dX4_giveBack_4 : decode cX4_giveBack 4 = .ok (.invokevirtual 151, 3) := by decide +kernel
theorem dX4_giveBack_7 : decode cX4_giveBack 7 = .ok (.lstore_n 1, 1) := by decide +kernel
theorem dX4_giveBack_8 : decode cX4_giveBack 8 = .ok (.aload_n 0, 1) := by decide +kernel
theorem dX4_giveBack_9 : decode cX4_giveBack 9 = .ok (.getfield 40, 3) := by decide +kernel
theorem dX4_giveBack_12 : decode cX4_giveBack 12 = .ok (.aload_n 0, 1) := by decide +kernel
theorem dX4_giveBack_13 : decode cX4_giveBack 13 = .ok (.getfield 12, 3) := by decide +kernel
theorem dX4_giveBack_16 : decode cX4_giveBack 16 = .ok (.invokevirtual 106, 3) := by decide +kernel
theorem dX4_giveBack_19 : decode cX4_giveBack 19 = .ok (.invokevirtual 226, 3) := by decide +kernel
theorem dX4_giveBack_22 : decode cX4_giveBack 22 = .ok (.ifCond .ne 13, 3) := by decide +kernel
theorem dX4_giveBack_25 : decode cX4_giveBack 25 = .ok (.aload_n 0, 1) := by decide +kernel
theorem dX4_giveBack_26 : decode cX4_giveBack 26 = .ok (.dup, 1) := by decide +kernel
theorem dX4_giveBack_27 : decode cX4_giveBack 27 = .ok (.getfield 75, 3) := by decide +kernel
theorem dX4_giveBack_30 : decode cX4_giveBack 30 = .ok (.iconst 1, 1) := by decide +kernel
theorem dX4_giveBack_31 : decode cX4_giveBack 31 = .ok (.isub, 1) := by decide +kernel
theorem dX4_giveBack_32 : decode cX4_giveBack 32 = .ok (.putfield 75, 3) := by decide +kernel
theorem dX4_giveBack_35 : decode cX4_giveBack 35 = .ok (.aload_n 0, 1) := by decide +kernel
theorem dX4_giveBack_36 : decode cX4_giveBack 36 = .ok (.getfield 12, 3) := by decide +kernel
theorem dX4_giveBack_39 : decode cX4_giveBack 39 = .ok (.invokevirtual 229, 3) := by decide +kernel
theorem dX4_giveBack_42 : decode cX4_giveBack 42 = .ok (.aload_n 0, 1) := by decide +kernel
theorem dX4_giveBack_43 : decode cX4_giveBack 43 = .ok (.getfield 12, 3) := by decide +kernel
theorem dX4_giveBack_46 : decode cX4_giveBack 46 = .ok (.invokevirtual 99, 3) := by decide +kernel
theorem dX4_giveBack_49 : decode cX4_giveBack 49 = .ok (.ifCond .eq 14, 3) := by decide +kernel
theorem dX4_giveBack_52 : decode cX4_giveBack 52 = .ok (.aload_n 0, 1) := by decide +kernel
theorem dX4_giveBack_53 : decode cX4_giveBack 53 = .ok (.getfield 12, 3) := by decide +kernel
theorem dX4_giveBack_56 : decode cX4_giveBack 56 = .ok (.lload_n 1, 1) := by decide +kernel
theorem dX4_giveBack_57 : decode cX4_giveBack 57 = .ok (.invokevirtual 143, 3) := by decide +kernel
theorem dX4_giveBack_60 : decode cX4_giveBack 60 = .ok (.goto 8, 3) := by decide +kernel
theorem dX4_giveBack_63 : decode cX4_giveBack 63 = .ok (.aload_n 0, 1) := by decide +kernel
theorem dX4_giveBack_64 : decode cX4_giveBack 64 = .ok (.lload_n 1, 1) := by decide +kernel
theorem dX4_giveBack_65 : decode cX4_giveBack 65 = .ok (.putfield 32, 3) := by decide +kernel
theorem dX4_giveBack_68 : decode cX4_giveBack 68 = .ok (.return_, 1) := by decide +kernel
theorem dX4_applyTo_0 : decode cX4_applyTo 0 = .ok (.aload_n 0, 1) := by decide +kernel
theorem dX4_applyTo_1 : decode cX4_applyTo 1 = .ok (.getfield 12, 3) := by decide +kernel
theorem dX4_applyTo_4 : decode cX4_applyTo 4 = .ok (.iload_n 1, 1) := by decide +kernel
theorem dX4_applyTo_5 : decode cX4_applyTo 5 = .ok (.invokevirtual 175, 3) := by decide +kernel
theorem dX4_applyTo_8 : decode cX4_applyTo 8 = .ok (.aload_n 0, 1) := by decide +kernel
theorem dX4_applyTo_9 : decode cX4_applyTo 9 = .ok (.getfield 12, 3) := by decide +kernel
theorem dX4_applyTo_12 : decode cX4_applyTo 12 = .ok (.invokevirtual 151, 3) := by decide +kernel
theorem dX4_applyTo_15 : decode cX4_applyTo 15 = .ok (.lstore_n 2, 1) := by decide +kernel
theorem dX4_applyTo_16 : decode cX4_applyTo 16 = .ok (.lload_n 2, 1) := by decide +kernel
theorem dX4_applyTo_17 : decode cX4_applyTo 17 = .ok (.invokestatic 60, 3) := by decide +kernel
theorem dX4_applyTo_20 : decode cX4_applyTo 20 = .ok (.iconst 3, 1) := by decide +kernel
theorem dX4_applyTo_21 : decode cX4_applyTo 21 = .ok (.if_icmp .eq 9, 3) := by decide +kernel
theorem dX4_applyTo_24 : decode cX4_applyTo 24 = .ok (.aload_n 0, 1) := by decide +kernel
theorem dX4_applyTo_25 : decode cX4_applyTo 25 = .ok (.iconst 1, 1) := by decide +kernel
theorem dX4_applyTo_26 : decode cX4_applyTo 26 = .ok (.putfield 78, 3) := by decide +kernel
theorem dX4_applyTo_29 : decode cX4_applyTo 29 = .ok (.return_, 1) := by decide +kernel
theorem dX4_applyTo_30 : decode cX4_applyTo 30 = .ok (.lload_n 2, 1) := by decide +kernel
theorem dX4_applyTo_31 : decode cX4_applyTo 31 = .ok (.invokestatic 67, 3) := by decide +kernel
theorem dX4_applyTo_34 : decode cX4_applyTo 34 = .ok (.istore 4, 2) := by decide +kernel
theorem dX4_applyTo_36 : decode cX4_applyTo 36 = .ok (.aload_n 0, 1) := by decide +kernel
theorem dX4_applyTo_37 : decode cX4_applyTo 37 = .ok (.getfield 21, 3) := by decide +kernel
theorem dX4_applyTo_40 : decode cX4_applyTo 40 = .ok (.iload 4, 2) := by decide +kernel
theorem dX4_applyTo_42 : decode cX4_applyTo 42 = .ok (.invokevirtual 232, 3) := by decide +kernel
theorem dX4_applyTo_45 : decode cX4_applyTo 45 = .ok (.istore 5, 2) := by decide +kernel
theorem dX4_applyTo_47 : decode cX4_applyTo 47 = .ok (.aload_n 0, 1) := by decide +kernel
theorem dX4_applyTo_48 : decode cX4_applyTo 48 = .ok (.getfield 21, 3) := by decide +kernel
theorem dX4_applyTo_51 : decode cX4_applyTo 51 = .ok (.iload 4, 2) := by decide +kernel
theorem dX4_applyTo_53 : decode cX4_applyTo 53 = .ok (.invokevirtual 235, 3) := by decide +kernel
theorem dX4_applyTo_56 : decode cX4_applyTo 56 = .ok (.istore 6, 2) := by decide +kernel
theorem dX4_applyTo_58 : decode cX4_applyTo 58 = .ok (.iload 6, 2) := by decide +kernel
theorem dX4_applyTo_60 : decode cX4_applyTo 60 = .ok (.iload_n 1, 1) := by decide +kernel
theorem dX4_applyTo_61 : decode cX4_applyTo 61 = .ok (.iadd, 1) := by decide +kernel
theorem dX4_applyTo_62 : decode cX4_applyTo 62 = .ok (.aload_n 0, 1) := by decide +kernel
theorem dX4_applyTo_63 : decode cX4_applyTo 63 = .ok (.getfield 36, 3) := by decide +kernel
theorem dX4_applyTo_66 : decode cX4_applyTo 66 = .ok (.iload 5, 2) := by decide +kernel
theorem dX4_applyTo_68 : decode cX4_applyTo 68 = .ok (.invokevirtual 85, 3) := by decide +kernel
theorem dX4_applyTo_71 : decode cX4_applyTo 71 = .ok (.if_icmp .eq 9, 3) := by decide +kernel
theorem dX4_applyTo_74 : decode cX4_applyTo 74 = .ok (.aload_n 0, 1) := by decide +kernel
theorem dX4_applyTo_75 : decode cX4_applyTo 75 = .ok (.iconst 2, 1) := by decide +kernel
theorem dX4_applyTo_76 : decode cX4_applyTo 76 = .ok (.putfield 78, 3) := by decide +kernel
theorem dX4_applyTo_79 : decode cX4_applyTo 79 = .ok (.return_, 1) := by decide +kernel
theorem dX4_applyTo_80 : decode cX4_applyTo 80 = .ok (.aload_n 0, 1) := by decide +kernel
theorem dX4_applyTo_81 : decode cX4_applyTo 81 = .ok (.iload 5, 2) := by decide +kernel
theorem dX4_applyTo_83 : decode cX4_applyTo 83 = .ok (.invokevirtual 81, 3) := by decide +kernel
theorem dX4_applyTo_86 : decode cX4_applyTo 86 = .ok (.ifCond .eq 49, 3) := by decide +kernel
theorem dX4_applyTo_89 : decode cX4_applyTo 89 = .ok (.iconst 0, 1) := by decide +kernel
theorem dX4_applyTo_90 : decode cX4_applyTo 90 = .ok (.istore 7, 2) := by decide +kernel
theorem dX4_applyTo_92 : decode cX4_applyTo 92 = .ok (.iload 7, 2) := by decide +kernel
theorem dX4_applyTo_94 : decode cX4_applyTo 94 = .ok (.iload 6, 2) := by decide +kernel
theorem dX4_applyTo_96 : decode cX4_applyTo 96 = .ok (.if_icmp .ge 29, 3) := by decide +kernel
theorem dX4_applyTo_99 : decode cX4_applyTo 99 = .ok (.aload_n 0, 1) := by decide +kernel
theorem dX4_applyTo_100 : decode cX4_applyTo 100 = .ok (.getfield 12, 3) := by decide +kernel
theorem dX4_applyTo_103 : decode cX4_applyTo 103 = .ok (.iload 7, 2) := by decide +kernel
theorem dX4_applyTo_105 : decode cX4_applyTo 105 = .ok (.aload_n 0, 1) := by decide +kernel
theorem dX4_applyTo_106 : decode cX4_applyTo 106 = .ok (.getfield 21, 3) := by decide +kernel
theorem dX4_applyTo_109 : decode cX4_applyTo 109 = .ok (.iload 4, 2) := by decide +kernel
theorem dX4_applyTo_111 : decode cX4_applyTo 111 = .ok (.iload 7, 2) := by decide +kernel
theorem dX4_applyTo_113 : decode cX4_applyTo 113 = .ok (.invokevirtual 207, 3) := by decide +kernel
theorem dX4_applyTo_116 : decode cX4_applyTo 116 = .ok (.invokevirtual 94, 3) := by decide +kernel
theorem dX4_applyTo_119 : decode cX4_applyTo 119 = .ok (.iinc 7 1, 3) := by decide +kernel
theorem dX4_applyTo_122 : decode cX4_applyTo 122 = .ok (.goto (-30), 3) := by decide +kernel
theorem dX4_applyTo_125 : decode cX4_applyTo 125 = .ok (.aload_n 0, 1) := by decide +kernel
theorem dX4_applyTo_126 : decode cX4_applyTo 126 = .ok (.getfield 12, 3) := by decide +kernel
theorem dX4_applyTo_129 : decode cX4_applyTo 129 = .ok (.iload 6, 2) := by decide +kernel
theorem dX4_applyTo_131 : decode cX4_applyTo 131 = .ok (.iload_n 1, 1) := by decide +kernel
theorem dX4_applyTo_132 : decode cX4_applyTo 132 = .ok (.invokevirtual 223, 3) := by decide +kernel
theorem dX4_applyTo_135 : decode cX4_applyTo 135 = .ok (.return_, 1) := by decide +kernel
theorem dX4_invoke_0 : decode cX4_invoke 0 = .ok (.aload_n 0, 1) := by decide +kernel
theorem dX4_invoke_1 : decode cX4_invoke 1 = .ok (.getfield 12, 3) := by decide +kernel
theorem dX4_invoke_4 : decode cX4_invoke 4 = .ok (.iload_n 1, 1) := by decide +kernel
theorem dX4_invoke_5 : decode cX4_invoke 5 = .ok (.invokevirtual 175, 3) := by decide +kernel
theorem dX4_invoke_8 : decode cX4_invoke 8 = .ok (.aload_n 0, 1) := by decide +kernel
theorem dX4_invoke_9 : decode cX4_invoke 9 = .ok (.getfield 12, 3) := by decide +kernel
theorem dX4_invoke_12 : decode cX4_invoke 12 = .ok (.invokevirtual 151, 3) := by decide +kernel
theorem dX4_invoke_15 : decode cX4_invoke 15 = .ok (.lstore_n 2, 1) := by decide +kernel
theorem dX4_invoke_16 : decode cX4_invoke 16 = .ok (.lload_n 2, 1) := by decide +kernel
theorem dX4_invoke_17 : decode cX4_invoke 17 = .ok (.invokestatic 60, 3) := by decide +kernel
theorem dX4_invoke_20 : decode cX4_invoke 20 = .ok (.iconst 3, 1) := by decide +kernel
theorem dX4_invoke_21 : decode cX4_invoke 21 = .ok (.if_icmp .eq 9, 3) := by decide +kernel
theorem dX4_invoke_24 : decode cX4_invoke 24 = .ok (.aload_n 0, 1) := by decide +kernel
theorem dX4_invoke_25 : decode cX4_invoke 25 = .ok (.iconst 1, 1) := by decide +kernel
theorem dX4_invoke_26 : decode cX4_invoke 26 = .ok (.putfield 78, 3) := by decide +kernel
theorem dX4_invoke_29 : decode cX4_invoke 29 = .ok (.return_, 1) := by decide +kernel
theorem dX4_invoke_30 : decode cX4_invoke 30 = .ok (.aload_n 0, 1) := by decide +kernel
theorem dX4_invoke_31 : decode cX4_invoke 31 = .ok (.getfield 21, 3) := by decide +kernel
theorem dX4_invoke_34 : decode cX4_invoke 34 = .ok (.lload_n 2, 1) := by decide +kernel
theorem dX4_invoke_35 : decode cX4_invoke 35 = .ok (.invokestatic 67, 3) := by decide +kernel
theorem dX4_invoke_38 : decode cX4_invoke 38 = .ok (.invokevirtual 232, 3) := by decide +kernel
theorem dX4_invoke_41 : decode cX4_invoke 41 = .ok (.istore 4, 2) := by decide +kernel
theorem dX4_invoke_43 : decode cX4_invoke 43 = .ok (.aload_n 0, 1) := by decide +kernel
theorem dX4_invoke_44 : decode cX4_invoke 44 = .ok (.getfield 36, 3) := by decide +kernel
theorem dX4_invoke_47 : decode cX4_invoke 47 = .ok (.aload_n 0, 1) := by decide +kernel
theorem dX4_invoke_48 : decode cX4_invoke 48 = .ok (.getfield 40, 3) := by decide +kernel
theorem dX4_invoke_51 : decode cX4_invoke 51 = .ok (.iload 4, 2) := by decide +kernel
theorem dX4_invoke_53 : decode cX4_invoke 53 = .ok (.invokevirtual 238, 3) := by decide +kernel
theorem dX4_invoke_56 : decode cX4_invoke 56 = .ok (.invokevirtual 85, 3) := by decide +kernel
theorem dX4_invoke_59 : decode cX4_invoke 59 = .ok (.istore 5, 2) := by decide +kernel
theorem dX4_invoke_61 : decode cX4_invoke 61 = .ok (.aload_n 0, 1) := by decide +kernel
theorem dX4_invoke_62 : decode cX4_invoke 62 = .ok (.getfield 40, 3) := by decide +kernel
theorem dX4_invoke_65 : decode cX4_invoke 65 = .ok (.iload 4, 2) := by decide +kernel
theorem dX4_invoke_67 : decode cX4_invoke 67 = .ok (.invokevirtual 199, 3) := by decide +kernel
theorem dX4_invoke_70 : decode cX4_invoke 70 = .ok (.iload_n 1, 1) := by decide +kernel
theorem dX4_invoke_71 : decode cX4_invoke 71 = .ok (.iadd, 1) := by decide +kernel
theorem dX4_invoke_72 : decode cX4_invoke 72 = .ok (.iload 5, 2) := by decide +kernel
theorem dX4_invoke_74 : decode cX4_invoke 74 = .ok (.if_icmp .eq 9, 3) := by decide +kernel
theorem dX4_invoke_77 : decode cX4_invoke 77 = .ok (.aload_n 0, 1) := by decide +kernel
theorem dX4_invoke_78 : decode cX4_invoke 78 = .ok (.iconst 2, 1) := by decide +kernel
theorem dX4_invoke_79 : decode cX4_invoke 79 = .ok (.putfield 78, 3) := by decide +kernel
theorem dX4_invoke_82 : decode cX4_invoke 82 = .ok (.return_, 1) := by decide +kernel
theorem dX4_invoke_83 : decode cX4_invoke 83 = .ok (.aload_n 0, 1) := by decide +kernel
theorem dX4_invoke_84 : decode cX4_invoke 84 = .ok (.getfield 12, 3) := by decide +kernel
theorem dX4_invoke_87 : decode cX4_invoke 87 = .ok (.aload_n 0, 1) := by decide +kernel
theorem dX4_invoke_88 : decode cX4_invoke 88 = .ok (.getfield 40, 3) := by decide +kernel
theorem dX4_invoke_91 : decode cX4_invoke 91 = .ok (.iload 4, 2) := by decide +kernel
theorem dX4_invoke_93 : decode cX4_invoke 93 = .ok (.invokevirtual 241, 3) := by decide +kernel
theorem dX4_invoke_96 : decode cX4_invoke 96 = .ok (.invokevirtual 220, 3) := by decide +kernel
theorem dX4_invoke_99 : decode cX4_invoke 99 = .ok (.aload_n 0, 1) := by decide +kernel
theorem dX4_invoke_100 : decode cX4_invoke 100 = .ok (.getfield 12, 3) := by decide +kernel
theorem dX4_invoke_103 : decode cX4_invoke 103 = .ok (.iconst 0, 1) := by decide +kernel
theorem dX4_invoke_104 : decode cX4_invoke 104 = .ok (.lload_n 2, 1) := by decide +kernel
theorem dX4_invoke_105 : decode cX4_invoke 105 = .ok (.invokevirtual 94, 3) := by decide +kernel
theorem dX4_invoke_108 : decode cX4_invoke 108 = .ok (.aload_n 0, 1) := by decide +kernel
theorem dX4_invoke_109 : decode cX4_invoke 109 = .ok (.getfield 12, 3) := by decide +kernel
theorem dX4_invoke_112 : decode cX4_invoke 112 = .ok (.iconst 1, 1) := by decide +kernel
theorem dX4_invoke_113 : decode cX4_invoke 113 = .ok (.iload_n 1, 1) := by decide +kernel
theorem dX4_invoke_114 : decode cX4_invoke 114 = .ok (.invokevirtual 223, 3) := by decide +kernel
theorem dX4_invoke_117 : decode cX4_invoke 117 = .ok (.return_, 1) := by decide +kernel
theorem dX4_join_0 : decode cX4_join 0 = .ok (.aload_n 0, 1) := by decide +kernel
theorem dX4_join_1 : decode cX4_join 1 = .ok (.getfield 12, 3) := by decide +kernel
theorem dX4_join_4 : decode cX4_join 4 = .ok (.aload_n 2, 1) := by decide +kernel
theorem dX4_join_5 : decode cX4_join 5 = .ok (.iload_n 1, 1) := by decide +kernel
theorem dX4_join_6 : decode cX4_join 6 = .ok (.invokevirtual 244, 3) := by decide +kernel
theorem dX4_join_9 : decode cX4_join 9 = .ok (.invokevirtual 175, 3) := by decide +kernel
theorem dX4_join_12 : decode cX4_join 12 = .ok (.aload_n 0, 1) := by decide +kernel
theorem dX4_join_13 : decode cX4_join 13 = .ok (.getfield 28, 3) := by decide +kernel
theorem dX4_join_16 : decode cX4_join 16 = .ok (.invokevirtual 210, 3) := by decide +kernel
theorem dX4_join_19 : decode cX4_join 19 = .ok (.lstore_n 3, 1) := by decide +kernel
theorem dX4_join_20 : decode cX4_join 20 = .ok (.lload_n 3, 1) := by decide +kernel
theorem dX4_join_21 : decode cX4_join 21 = .ok (.invokestatic 67, 3) := by decide +kernel
theorem dX4_join_24 : decode cX4_join 24 = .ok (.istore 5, 2) := by decide +kernel
theorem dX4_join_26 : decode cX4_join 26 = .ok (.aload_n 2, 1) := by decide +kernel
theorem dX4_join_27 : decode cX4_join 27 = .ok (.iload_n 1, 1) := by decide +kernel
theorem dX4_join_28 : decode cX4_join 28 = .ok (.invokevirtual 249, 3) := by decide +kernel
theorem dX4_join_31 : decode cX4_join 31 = .ok (.istore 6, 2) := by decide +kernel
theorem dX4_join_33 : decode cX4_join 33 = .ok (.iconst 0, 1) := by decide +kernel
theorem dX4_join_34 : decode cX4_join 34 = .ok (.istore 7, 2) := by decide +kernel
theorem dX4_join_36 : decode cX4_join 36 = .ok (.iconst 0, 1) := by decide +kernel
theorem dX4_join_37 : decode cX4_join 37 = .ok (.istore 8, 2) := by decide +kernel
theorem dX4_join_39 : decode cX4_join 39 = .ok (.iload 8, 2) := by decide +kernel
theorem dX4_join_41 : decode cX4_join 41 = .ok (.aload_n 2, 1) := by decide +kernel
theorem dX4_join_42 : decode cX4_join 42 = .ok (.iload_n 1, 1) := by decide +kernel
theorem dX4_join_43 : decode cX4_join 43 = .ok (.invokevirtual 252, 3) := by decide +kernel
theorem dX4_join_46 : decode cX4_join 46 = .ok (.if_icmp .ge 78, 3) := by decide +kernel
theorem dX4_join_49 : decode cX4_join 49 = .ok (.aload_n 0, 1) := by decide +kernel
theorem dX4_join_50 : decode cX4_join 50 = .ok (.getfield 78, 3) := by decide +kernel
theorem dX4_join_53 : decode cX4_join 53 = .ok (.ifCond .ne 71, 3) := by decide +kernel
theorem dX4_join_56 : decode cX4_join 56 = .ok (.aload_n 2, 1) := by decide +kernel
theorem dX4_join_57 : decode cX4_join 57 = .ok (.iload_n 1, 1) := by decide +kernel
theorem dX4_join_58 : decode cX4_join 58 = .ok (.iload 8, 2) := by decide +kernel
theorem dX4_join_60 : decode cX4_join 60 = .ok (.invokevirtual 255, 3) := by decide +kernel
theorem dX4_join_63 : decode cX4_join 63 = .ok (.ifCond .eq 32, 3) := by decide +kernel
theorem dX4_join_66 : decode cX4_join 66 = .ok (.aload_n 0, 1) := by decide +kernel
theorem dX4_join_67 : decode cX4_join 67 = .ok (.aload_n 0, 1) := by decide +kernel
theorem dX4_join_68 : decode cX4_join 68 = .ok (.getfield 28, 3) := by decide +kernel
theorem dX4_join_71 : decode cX4_join 71 = .ok (.iload 5, 2) := by decide +kernel
theorem dX4_join_73 : decode cX4_join 73 = .ok (.aload_n 0, 1) := by decide +kernel
theorem dX4_join_74 : decode cX4_join 74 = .ok (.getfield 12, 3) := by decide +kernel
theorem dX4_join_77 : decode cX4_join 77 = .ok (.iload 7, 2) := by decide +kernel
theorem dX4_join_79 : decode cX4_join 79 = .ok (.invokevirtual 181, 3) := by decide +kernel
theorem dX4_join_82 : decode cX4_join 82 = .ok (.invokevirtual 216, 3) := by decide +kernel
theorem dX4_join_85 : decode cX4_join 85 = .ok (.iconst 5, 1) := by decide +kernel
theorem dX4_join_86 : decode cX4_join 86 = .ok (.invokevirtual 168, 3) := by decide +kernel
theorem dX4_join_89 : decode cX4_join 89 = .ok (.iinc 7 1, 3) := by decide +kernel
theorem dX4_join_92 : decode cX4_join 92 = .ok (.goto 26, 3) := by decide +kernel
theorem dX4_join_95 : decode cX4_join 95 = .ok (.aload_n 0, 1) := by decide +kernel
theorem dX4_join_96 : decode cX4_join 96 = .ok (.aload_n 0, 1) := by decide +kernel
theorem dX4_join_97 : decode cX4_join 97 = .ok (.getfield 28, 3) := by decide +kernel
theorem dX4_join_100 : decode cX4_join 100 = .ok (.iload 5, 2) := by decide +kernel
theorem dX4_join_102 : decode cX4_join 102 = .ok (.aload_n 2, 1) := by decide +kernel
theorem dX4_join_103 : decode cX4_join 103 = .ok (.iload 6, 2) := by decide +kernel
theorem dX4_join_105 : decode cX4_join 105 = .ok (.invokevirtual 258, 3) := by decide +kernel
theorem dX4_join_108 : decode cX4_join 108 = .ok (.invokevirtual 261, 3) := by decide +kernel
theorem dX4_join_111 : decode cX4_join 111 = .ok (.iconst 5, 1) := by decide +kernel
theorem dX4_join_112 : decode cX4_join 112 = .ok (.invokevirtual 168, 3) := by decide +kernel
theorem dX4_join_115 : decode cX4_join 115 = .ok (.iinc 6 1, 3) := by decide +kernel
theorem dX4_join_118 : decode cX4_join 118 = .ok (.iinc 8 1, 3) := by decide +kernel
theorem dX4_join_121 : decode cX4_join 121 = .ok (.goto (-82), 3) := by decide +kernel
theorem dX4_join_124 : decode cX4_join 124 = .ok (.aload_n 0, 1) := by decide +kernel
theorem dX4_join_125 : decode cX4_join 125 = .ok (.getfield 12, 3) := by decide +kernel
theorem dX4_join_128 : decode cX4_join 128 = .ok (.lload_n 3, 1) := by decide +kernel
theorem dX4_join_129 : decode cX4_join 129 = .ok (.invokevirtual 143, 3) := by decide +kernel
theorem dX4_join_132 : decode cX4_join 132 = .ok (.return_, 1) := by decide +kernel
theorem dX4_appendCharacters_0 : decode cX4_appendCharacters 0 = .ok (.aload_n 0, 1) := by decide +kernel
theorem dX4_appendCharacters_1 : decode cX4_appendCharacters 1 = .ok (.getfield 12, 3) := by decide +kernel
theorem dX4_appendCharacters_4 : decode cX4_appendCharacters 4 = .ok (.invokevirtual 151, 3) := by decide +kernel
theorem dX4_appendCharacters_7 : decode cX4_appendCharacters 7 = .ok (.lstore_n 3, 1) := by decide +kernel
theorem dX4_appendCharacters_8 : decode cX4_appendCharacters 8 = .ok (.lload_n 3, 1) := by decide +kernel
theorem dX4_appendCharacters_9 : decode cX4_appendCharacters 9 = .ok (.invokestatic 67, 3) := by decide +kernel
theorem dX4_appendCharacters_12 : decode cX4_appendCharacters 12 = .ok (.istore 5, 2) := by decide +kernel
theorem dX4_appendCharacters_14 : decode cX4_appendCharacters 14 = .ok (.iconst 0, 1) := by decide +kernel
theorem dX4_appendCharacters_15 : decode cX4_appendCharacters 15 = .ok (.istore 6, 2) := by decide +kernel
theorem dX4_appendCharacters_17 : decode cX4_appendCharacters 17 = .ok (.iload 6, 2) := by decide +kernel
theorem dX4_appendCharacters_19 : decode cX4_appendCharacters 19 = .ok (.iload_n 2, 1) := by decide +kernel
theorem dX4_appendCharacters_20 : decode cX4_appendCharacters 20 = .ok (.if_icmp .ge 48, 3) := by decide +kernel
theorem dX4_appendCharacters_23 : decode cX4_appendCharacters 23 = .ok (.aload_n 0, 1) := by decide +kernel
theorem dX4_appendCharacters_24 : decode cX4_appendCharacters 24 = .ok (.getfield 78, 3) := by decide +kernel
theorem dX4_appendCharacters_27 : decode cX4_appendCharacters 27 = .ok (.ifCond .ne 41, 3) := by decide +kernel
theorem dX4_appendCharacters_30 : decode cX4_appendCharacters 30 = .ok (.aload_n 0, 1) := by decide +kernel
theorem dX4_appendCharacters_31 : decode cX4_appendCharacters 31 = .ok (.getfield 36, 3) := by decide +kernel
theorem dX4_appendCharacters_34 : decode cX4_appendCharacters 34 = .ok (.invokevirtual 191, 3) := by decide +kernel
theorem dX4_appendCharacters_37 : decode cX4_appendCharacters 37 = .ok (.iload_n 1, 1) := by decide +kernel
theorem dX4_appendCharacters_38 : decode cX4_appendCharacters 38 = .ok (.iload 6, 2) := by decide +kernel
theorem dX4_appendCharacters_40 : decode cX4_appendCharacters 40 = .ok (.iadd, 1) := by decide +kernel
theorem dX4_appendCharacters_41 : decode cX4_appendCharacters 41 = .ok (.invokevirtual 258, 3) := by decide +kernel
theorem dX4_appendCharacters_44 : decode cX4_appendCharacters 44 = .ok (.istore 7, 2) := by decide +kernel
theorem dX4_appendCharacters_46 : decode cX4_appendCharacters 46 = .ok (.aload_n 0, 1) := by decide +kernel
theorem dX4_appendCharacters_47 : decode cX4_appendCharacters 47 = .ok (.aload_n 0, 1) := by decide +kernel
theorem dX4_appendCharacters_48 : decode cX4_appendCharacters 48 = .ok (.getfield 28, 3) := by decide +kernel
theorem dX4_appendCharacters_51 : decode cX4_appendCharacters 51 = .ok (.iload 5, 2) := by decide +kernel
theorem dX4_appendCharacters_53 : decode cX4_appendCharacters 53 = .ok (.iload 7, 2) := by decide +kernel
theorem dX4_appendCharacters_55 : decode cX4_appendCharacters 55 = .ok (.invokevirtual 261, 3) := by decide +kernel
theorem dX4_appendCharacters_58 : decode cX4_appendCharacters 58 = .ok (.iconst 5, 1) := by decide +kernel
theorem dX4_appendCharacters_59 : decode cX4_appendCharacters 59 = .ok (.invokevirtual 168, 3) := by decide +kernel
theorem dX4_appendCharacters_62 : decode cX4_appendCharacters 62 = .ok (.iinc 6 1, 3) := by decide +kernel
theorem dX4_appendCharacters_65 : decode cX4_appendCharacters 65 = .ok (.goto (-48), 3) := by decide +kernel
theorem dX4_appendCharacters_68 : decode cX4_appendCharacters 68 = .ok (.aload_n 0, 1) := by decide +kernel
theorem dX4_appendCharacters_69 : decode cX4_appendCharacters 69 = .ok (.getfield 12, 3) := by decide +kernel
theorem dX4_appendCharacters_72 : decode cX4_appendCharacters 72 = .ok (.lload_n 3, 1) := by decide +kernel
theorem dX4_appendCharacters_73 : decode cX4_appendCharacters 73 = .ok (.invokevirtual 143, 3) := by decide +kernel
theorem dX4_appendCharacters_76 : decode cX4_appendCharacters 76 = .ok (.return_, 1) := by decide +kernel
theorem dX5_init_0 : decode cX5_init 0 = .ok (.aload_n 0, 1) := by decide +kernel
theorem dX5_init_1 : decode cX5_init 1 = .ok (.invokespecial 3, 3) := by decide +kernel
theorem dX5_init_4 : decode cX5_init 4 = .ok (.aload_n 0, 1) := by decide +kernel
theorem dX5_init_5 : decode cX5_init 5 = .ok (.new 9, 3) := by decide +kernel
theorem dX5_init_8 : decode cX5_init 8 = .ok (.dup, 1) := by decide +kernel
theorem dX5_init_9 : decode cX5_init 9 = .ok (.invokespecial 11, 3) := by decide +kernel
theorem dX5_init_12 : decode cX5_init 12 = .ok (.putfield 12, 3) := by decide +kernel
theorem dX5_init_15 : decode cX5_init 15 = .ok (.aload_n 0, 1) := by decide +kernel
theorem dX5_init_16 : decode cX5_init 16 = .ok (.sipush 493, 3) := by decide +kernel
theorem dX5_init_19 : decode cX5_init 19 = .ok (.newarray .int, 2) := by decide +kernel
theorem dX5_init_21 : decode cX5_init 21 = .ok (.putfield 18, 3) := by decide +kernel
theorem dX5_init_24 : decode cX5_init 24 = .ok (.aload_n 0, 1) := by decide +kernel
theorem dX5_init_25 : decode cX5_init 25 = .ok (.sipush 480, 3) := by decide +kernel
theorem dX5_init_28 : decode cX5_init 28 = .ok (.newarray .int, 2) := by decide +kernel
theorem dX5_init_30 : decode cX5_init 30 = .ok (.putfield 22, 3) := by decide +kernel
theorem dX5_init_33 : decode cX5_init 33 = .ok (.aload_n 0, 1) := by decide +kernel
theorem dX5_init_34 : decode cX5_init 34 = .ok (.sipush 480, 3) := by decide +kernel
theorem dX5_init_37 : decode cX5_init 37 = .ok (.newarray .int, 2) := by decide +kernel
theorem dX5_init_39 : decode cX5_init 39 = .ok (.putfield 25, 3) := by decide +kernel
theorem dX5_init_42 : decode cX5_init 42 = .ok (.aload_n 0, 1) := by decide +kernel
theorem dX5_init_43 : decode cX5_init 43 = .ok (.bipush 12, 2) := by decide +kernel
theorem dX5_init_45 : decode cX5_init 45 = .ok (.newarray .int, 2) := by decide +kernel
theorem dX5_init_47 : decode cX5_init 47 = .ok (.putfield 28, 3) := by decide +kernel
theorem dX5_init_50 : decode cX5_init 50 = .ok (.aload_n 0, 1) := by decide +kernel
theorem dX5_init_51 : decode cX5_init 51 = .ok (.bipush 12, 2) := by decide +kernel
theorem dX5_init_53 : decode cX5_init 53 = .ok (.newarray .int, 2) := by decide +kernel
theorem dX5_init_55 : decode cX5_init 55 = .ok (.putfield 31, 3) := by decide +kernel
theorem dX5_init_58 : decode cX5_init 58 = .ok (.aload_n 0, 1) := by decide +kernel
theorem dX5_init_59 : decode cX5_init 59 = .ok (.bipush 40, 2) := by decide +kernel
theorem dX5_init_61 : decode cX5_init 61 = .ok (.newarray .int, 2) := by decide +kernel
theorem dX5_init_63 : decode cX5_init 63 = .ok (.putfield 34, 3) := by decide +kernel
theorem dX5_init_66 : decode cX5_init 66 = .ok (.aload_n 0, 1) := by decide +kernel
theorem dX5_init_67 : decode cX5_init 67 = .ok (.aload_n 1, 1) := by decide +kernel
theorem dX5_init_68 : decode cX5_init 68 = .ok (.putfield 37, 3) := by decide +kernel
theorem dX5_init_71 : decode cX5_init 71 = .ok (.aload_n 0, 1) := by decide +kernel
theorem dX5_init_72 : decode cX5_init 72 = .ok (.aload_n 2, 1) := by decide +kernel
theorem dX5_init_73 : decode cX5_init 73 = .ok (.putfield 41, 3) := by decide +kernel
theorem dX5_init_76 : decode cX5_init 76 = .ok (.return_, 1) := by decide +kernel
theorem dX5_forget_0 : decode cX5_forget 0 = .ok (.aload_n 0, 1) := by decide +kernel
theorem dX5_forget_1 : decode cX5_forget 1 = .ok (.iconst 0, 1) := by decide +kernel
theorem dX5_forget_2 : decode cX5_forget 2 = .ok (.putfield 45, 3) := by decide +kernel
theorem dX5_forget_5 : decode cX5_forget 5 = .ok (.return_, 1) := by decide +kernel
theorem dX5_isMade_0 : decode cX5_isMade 0 = .ok (.aload_n 0, 1) := by decide +kernel
theorem dX5_isMade_1 : decode cX5_isMade 1 = .ok (.getfield 45, 3) := by decide +kernel
theorem dX5_isMade_4 : decode cX5_isMade 4 = .ok (.ireturn, 1) := by decide +kernel
theorem dX5_classTotal_0 : decode cX5_classTotal 0 = .ok (.aload_n 0, 1) := by decide +kernel
theorem dX5_classTotal_1 : decode cX5_classTotal 1 = .ok (.getfield 49, 3) := by decide +kernel
theorem dX5_classTotal_4 : decode cX5_classTotal 4 = .ok (.ireturn, 1) := by decide +kernel
theorem dX5_valuesOfClass_0 : decode cX5_valuesOfClass 0 = .ok (.aload_n 0, 1) := by decide +kernel
theorem dX5_valuesOfClass_1 : decode cX5_valuesOfClass 1 = .ok (.getfield 25, 3) := by decide +kernel
theorem dX5_valuesOfClass_4 : decode cX5_valuesOfClass 4 = .ok (.iload_n 1, 1) := by decide +kernel
theorem dX5_valuesOfClass_5 : decode cX5_valuesOfClass 5 = .ok (.iaload, 1) := by decide +kernel
theorem dX5_valuesOfClass_6 : decode cX5_valuesOfClass 6 = .ok (.ireturn, 1) := by decide +kernel
theorem dX5_functionOfClass_0 : decode cX5_functionOfClass 0 = .ok (.aload_n 0, 1) := by decide +kernel
theorem dX5_functionOfClass_1 : decode cX5_functionOfClass 1 = .ok (.getfield 22, 3) := by decide +kernel
theorem dX5_functionOfClass_4 : decode cX5_functionOfClass 4 = .ok (.iload_n 1, 1) := by decide +kernel
theorem dX5_functionOfClass_5 : decode cX5_functionOfClass 5 = .ok (.iaload, 1) := by decide +kernel
theorem dX5_functionOfClass_6 : decode cX5_functionOfClass 6 = .ok (.ireturn, 1) := by decide +kernel
theorem dX5_methodOfClass_0 : decode cX5_methodOfClass 0 = .ok (.aload_n 0, 1) := by decide +kernel
theorem dX5_methodOfClass_1 : decode cX5_methodOfClass 1 = .ok (.getfield 37, 3) := by decide +kernel
theorem dX5_methodOfClass_4 : decode cX5_methodOfClass 4 = .ok (.invokevirtual 53, 3) := by decide +kernel
theorem dX5_methodOfClass_7 : decode cX5_methodOfClass 7 = .ok (.iload_n 1, 1) := by decide +kernel
theorem dX5_methodOfClass_8 : decode cX5_methodOfClass 8 = .ok (.iadd, 1) := by decide +kernel
theorem dX5_methodOfClass_9 : decode cX5_methodOfClass 9 = .ok (.ireturn, 1) := by decide +kernel
theorem dX5_isMethod_0 : decode cX5_isMethod 0 = .ok (.iload_n 1, 1) := by decide +kernel
theorem dX5_isMethod_1 : decode cX5_isMethod 1 = .ok (.aload_n 0, 1) := by decide +kernel
theorem dX5_isMethod_2 : decode cX5_isMethod 2 = .ok (.getfield 37, 3) := by decide +kernel
theorem dX5_isMethod_5 : decode cX5_isMethod 5 = .ok (.invokevirtual 53, 3) := by decide +kernel
theorem dX5_isMethod_8 : decode cX5_isMethod 8 = .ok (.if_icmp .lt 7, 3) := by decide +kernel
theorem dX5_isMethod_11 : decode cX5_isMethod 11 = .ok (.iconst 1, 1) := by decide +kernel
theorem dX5_isMethod_12 : decode cX5_isMethod 12 = .ok (.goto 4, 3) := by decide +kernel
theorem dX5_isMethod_15 : decode cX5_isMethod 15 = .ok (.iconst 0, 1) := by decide +kernel
theorem dX5_isMethod_16 : decode cX5_isMethod 16 = .ok (.ireturn, 1) := by decide +kernel
theorem dX5_sourceHeightOf_0 : decode cX5_sourceHeightOf 0 = .ok (.aload_n 0, 1) := by decide +kernel
theorem dX5_sourceHeightOf_1 : decode cX5_sourceHeightOf 1 = .ok (.getfield 28, 3) := by decide +kernel
theorem dX5_sourceHeightOf_4 : decode cX5_sourceHeightOf 4 = .ok (.iload_n 1, 1) := by decide +kernel
theorem dX5_sourceHeightOf_5 : decode cX5_sourceHeightOf 5 = .ok (.iaload, 1) := by decide +kernel
theorem dX5_sourceHeightOf_6 : decode cX5_sourceHeightOf 6 = .ok (.ireturn, 1) := by decide +kernel
theorem dX5_plainHeightOf_0 : decode cX5_plainHeightOf 0 = .ok (.aload_n 0, 1) := by decide +kernel
theorem dX5_plainHeightOf_1 : decode cX5_plainHeightOf 1 = .ok (.getfield 31, 3) := by decide +kernel
theorem dX5_plainHeightOf_4 : decode cX5_plainHeightOf 4 = .ok (.iload_n 1, 1) := by decide +kernel
theorem dX5_plainHeightOf_5 : decode cX5_plainHeightOf 5 = .ok (.iaload, 1) := by decide +kernel
theorem dX5_plainHeightOf_6 : decode cX5_plainHeightOf 6 = .ok (.ireturn, 1) := by decide +kernel
theorem dX5_lengthOf_0 : decode cX5_lengthOf 0 = .ok (.aload_n 0, 1) := by decide +kernel
theorem dX5_lengthOf_1 : decode cX5_lengthOf 1 = .ok (.getfield 18, 3) := by decide +kernel
theorem dX5_lengthOf_4 : decode cX5_lengthOf 4 = .ok (.iload_n 1, 1) := by decide +kernel
theorem dX5_lengthOf_5 : decode cX5_lengthOf 5 = .ok (.iconst 1, 1) := by decide +kernel
theorem dX5_lengthOf_6 : decode cX5_lengthOf 6 = .ok (.iadd, 1) := by decide +kernel
theorem dX5_lengthOf_7 : decode cX5_lengthOf 7 = .ok (.iaload, 1) := by decide +kernel
theorem dX5_lengthOf_8 : decode cX5_lengthOf 8 = .ok (.aload_n 0, 1) := by decide +kernel
theorem dX5_lengthOf_9 : decode cX5_lengthOf 9 = .ok (.getfield 18, 3) := by decide +kernel
theorem dX5_lengthOf_12 : decode cX5_lengthOf 12 = .ok (.iload_n 1, 1) := by decide +kernel
theorem dX5_lengthOf_13 : decode cX5_lengthOf 13 = .ok (.iaload, 1) := by decide +kernel
theorem dX5_lengthOf_14 : decode cX5_lengthOf 14 = .ok (.isub, 1) := by decide +kernel
theorem dX5_lengthOf_15 : decode cX5_lengthOf 15 = .ok (.ireturn, 1) := by decide +kernel
theorem dX5_wordAt_0 : decode cX5_wordAt 0 = .ok (.aload_n 0, 1) := by decide +kernel
theorem dX5_wordAt_1 : decode cX5_wordAt 1 = .ok (.getfield 12, 3) := by decide +kernel
theorem dX5_wordAt_4 : decode cX5_wordAt 4 = .ok (.aload_n 0, 1) := by decide +kernel
theorem dX5_wordAt_5 : decode cX5_wordAt 5 = .ok (.getfield 18, 3) := by decide +kernel
theorem dX5_wordAt_8 : decode cX5_wordAt 8 = .ok (.iload_n 1, 1) := by decide +kernel
theorem dX5_wordAt_9 : decode cX5_wordAt 9 = .ok (.iaload, 1) := by decide +kernel
theorem dX5_wordAt_10 : decode cX5_wordAt 10 = .ok (.iload_n 2, 1) := by decide +kernel
theorem dX5_wordAt_11 : decode cX5_wordAt 11 = .ok (.iadd, 1) := by decide +kernel
theorem dX5_wordAt_12 : decode cX5_wordAt 12 = .ok (.invokevirtual 59, 3) := by decide +kernel
theorem dX5_wordAt_15 : decode cX5_wordAt 15 = .ok (.ireturn, 1) := by decide +kernel
theorem dX5_firstNumberAt_0 : decode cX5_firstNumberAt 0 = .ok (.aload_n 0, 1) := by decide +kernel
theorem dX5_firstNumberAt_1 : decode cX5_firstNumberAt 1 = .ok (.getfield 12, 3) := by decide +kernel
theorem dX5_firstNumberAt_4 : decode cX5_firstNumberAt 4 = .ok (.aload_n 0, 1) := by decide +kernel
theorem dX5_firstNumberAt_5 : decode cX5_firstNumberAt 5 = .ok (.getfield 18, 3) := by decide +kernel
theorem dX5_firstNumberAt_8 : decode cX5_firstNumberAt 8 = .ok (.iload_n 1, 1) := by decide +kernel
theorem dX5_firstNumberAt_9 : decode cX5_firstNumberAt 9 = .ok (.iaload, 1) := by decide +kernel
theorem dX5_firstNumberAt_10 : decode cX5_firstNumberAt 10 = .ok (.iload_n 2, 1) := by decide +kernel
theorem dX5_firstNumberAt_11 : decode cX5_firstNumberAt 11 = .ok (.iadd, 1) := by decide +kernel
theorem dX5_firstNumberAt_12 : decode cX5_firstNumberAt 12 = .ok (.invokevirtual 63, 3) := by decide +kernel
theorem dX5_firstNumberAt_15 : decode cX5_firstNumberAt 15 = .ok (.ireturn, 1) := by decide +kernel
theorem dX5_secondNumberAt_0 : decode cX5_secondNumberAt 0 = .ok (.aload_n 0, 1) := by decide +kernel
theorem dX5_secondNumberAt_1 : decode cX5_secondNumberAt 1 = .ok (.getfield 12, 3) := by decide +kernel
theorem dX5_secondNumberAt_4 : decode cX5_secondNumberAt 4 = .ok (.aload_n 0, 1) := by decide +kernel
theorem dX5_secondNumberAt_5 : decode cX5_secondNumberAt 5 = .ok (.getfield 18, 3) := by decide +kernel
theorem dX5_secondNumberAt_8 : decode cX5_secondNumberAt 8 = .ok (.iload_n 1, 1) := by decide +kernel
theorem dX5_secondNumberAt_9 : decode cX5_secondNumberAt 9 = .ok (.iaload, 1) := by decide +kernel
theorem dX5_secondNumberAt_10 : decode cX5_secondNumberAt 10 = .ok (.iload_n 2, 1) := by decide +kernel
theorem dX5_secondNumberAt_11 : decode cX5_secondNumberAt 11 = .ok (.iadd, 1) := by decide +kernel
theorem dX5_secondNumberAt_12 : decode cX5_secondNumberAt 12 = .ok (.invokevirtual 66, 3) := by decide +kernel
theorem dX5_secondNumberAt_15 : decode cX5_secondNumberAt 15 = .ok (.ireturn, 1) := by decide +kernel
theorem dX5_isStepAt_0 : decode cX5_isStepAt 0 = .ok (.aload_n 0, 1) := by decide +kernel
theorem dX5_isStepAt_1 : decode cX5_isStepAt 1 = .ok (.getfield 12, 3) := by decide +kernel
theorem dX5_isStepAt_4 : decode cX5_isStepAt 4 = .ok (.aload_n 0, 1) := by decide +kernel
theorem dX5_isStepAt_5 : decode cX5_isStepAt 5 = .ok (.getfield 18, 3) := by decide +kernel
theorem dX5_isStepAt_8 : decode cX5_isStepAt 8 = .ok (.iload_n 1, 1) := by decide +kernel
theorem dX5_isStepAt_9 : decode cX5_isStepAt 9 = .ok (.iaload, 1) := by decide +kernel
theorem dX5_isStepAt_10 : decode cX5_isStepAt 10 = .ok (.iload_n 2, 1) := by decide +kernel
theorem dX5_isStepAt_11 : decode cX5_isStepAt 11 = .ok (.iadd, 1) := by decide +kernel
theorem dX5_isStepAt_12 : decode cX5_isStepAt 12 = .ok (.invokevirtual 69, 3) := by decide +kernel
theorem dX5_isStepAt_15 : decode cX5_isStepAt 15 = .ok (.ireturn, 1) := by decide +kernel
theorem dX5_make_0 : decode cX5_make 0 = .ok (.aload_n 0, 1) := by decide +kernel
theorem dX5_make_1 : decode cX5_make 1 = .ok (.getfield 12, 3) := by decide +kernel
theorem dX5_make_4 : decode cX5_make 4 = .ok (.invokevirtual 73, 3) := by decide +kernel
theorem dX5_make_7 : decode cX5_make 7 = .ok (.aload_n 0, 1) := by decide +kernel
theorem dX5_make_8 : decode cX5_make 8 = .ok (.iconst 0, 1) := by decide +kernel
theorem dX5_make_9 : decode cX5_make 9 = .ok (.putfield 49, 3) := by decide +kernel
theorem dX5_make_12 : decode cX5_make 12 = .ok (.iconst 0, 1) := by decide +kernel
theorem dX5_make_13 : decode cX5_make 13 = .ok (.istore_n 1, 1) := by decide +kernel
theorem dX5_make_14 : decode cX5_make 14 = .ok (.iload_n 1, 1) := by decide +kernel
theorem dX5_make_15 : decode cX5_make 15 = .ok (.aload_n 0, 1) := by decide +kernel
theorem dX5_make_16 : decode cX5_make 16 = .ok (.getfield 37, 3) := by decide +kernel
theorem dX5_make_19 : decode cX5_make 19 = .ok (.invokevirtual 53, 3) := by decide +kernel
theorem dX5_make_22 : decode cX5_make 22 = .ok (.if_icmp .ge 14, 3) := by decide +kernel
theorem dX5_make_25 : decode cX5_make 25 = .ok (.aload_n 0, 1) := by decide +kernel
theorem dX5_make_26 : decode cX5_make 26 = .ok (.iload_n 1, 1) := by decide +kernel
theorem dX5_make_27 : decode cX5_make 27 = .ok (.invokevirtual 76, 3) := by decide +kernel
theorem dX5_make_30 : decode cX5_make 30 = .ok (.iinc 1 1, 3) := by decide +kernel
theorem dX5_make_33 : decode cX5_make 33 = .ok (.goto (-19), 3) := by decide +kernel
theorem dX5_make_36 : decode cX5_make 36 = .ok (.aload_n 0, 1) := by decide +kernel
theorem dX5_make_37 : decode cX5_make 37 = .ok (.getfield 12, 3) := by decide +kernel
theorem dX5_make_40 : decode cX5_make 40 = .ok (.invokevirtual 80, 3) := by decide +kernel
theorem dX5_make_43 : decode cX5_make 43 = .ok (.istore_n 1, 1) := by decide +kernel
theorem dX5_make_44 : decode cX5_make 44 = .ok (.iconst 0, 1) := by decide +kernel
theorem dX5_make_45 : decode cX5_make 45 = .ok (.istore_n 2, 1) := by decide +kernel
theorem dX5_make_46 : decode cX5_make 46 = .ok (.iload_n 2, 1) := by decide +kernel
theorem dX5_make_47 : decode cX5_make 47 = .ok (.aload_n 0, 1) := by decide +kernel
theorem dX5_make_48 : decode cX5_make 48 = .ok (.getfield 49, 3) := by decide +kernel
theorem dX5_make_51 : decode cX5_make 51 = .ok (.if_icmp .ge 14, 3) := by decide +kernel
theorem dX5_make_54 : decode cX5_make 54 = .ok (.aload_n 0, 1) := by decide +kernel
theorem dX5_make_55 : decode cX5_make 55 = .ok (.iload_n 2, 1) := by decide +kernel
theorem dX5_make_56 : decode cX5_make 56 = .ok (.invokevirtual 83, 3) := by decide +kernel
theorem dX5_make_59 : decode cX5_make 59 = .ok (.iinc 2 1, 3) := by decide +kernel
theorem dX5_make_62 : decode cX5_make 62 = .ok (.goto (-16), 3) := by decide +kernel
theorem dX5_make_65 : decode cX5_make 65 = .ok (.aload_n 0, 1) := by decide +kernel
theorem dX5_make_66 : decode cX5_make 66 = .ok (.iconst 1, 1) := by decide +kernel
theorem dX5_make_67 : decode cX5_make 67 = .ok (.putfield 45, 3) := by decide +kernel
theorem dX5_make_70 : decode cX5_make 70 = .ok (.iload_n 1, 1) := by decide +kernel
theorem dX5_make_71 : decode cX5_make 71 = .ok (.ireturn, 1) := by decide +kernel
theorem dX5_makeFunction_0 : decode cX5_makeFunction 0 = .ok (.aload_n 0, 1) := by decide +kernel
theorem dX5_makeFunction_1 : decode cX5_makeFunction 1 = .ok (.getfield 12, 3) := by decide +kernel
theorem dX5_makeFunction_4 : decode cX5_makeFunction 4 = .ok (.invokevirtual 80, 3) := by decide +kernel
theorem dX5_makeFunction_7 : decode cX5_makeFunction 7 = .ok (.istore_n 2, 1) := by decide +kernel
theorem dX5_makeFunction_8 : decode cX5_makeFunction 8 = .ok (.aload_n 0, 1) := by decide +kernel
theorem dX5_makeFunction_9 : decode cX5_makeFunction 9 = .ok (.getfield 18, 3) := by decide +kernel
theorem dX5_makeFunction_12 : decode cX5_makeFunction 12 = .ok (.iload_n 1, 1) := by decide +kernel
theorem dX5_makeFunction_13 : decode cX5_makeFunction 13 = .ok (.iload_n 2, 1) := by decide +kernel
theorem dX5_makeFunction_14 : decode cX5_makeFunction 14 = .ok (.iastore, 1) := by decide +kernel
theorem dX5_makeFunction_15 : decode cX5_makeFunction 15 = .ok (.aload_n 0, 1) := by decide +kernel
theorem dX5_makeFunction_16 : decode cX5_makeFunction 16 = .ok (.getfield 28, 3) := by decide +kernel
theorem dX5_makeFunction_19 : decode cX5_makeFunction 19 = .ok (.iload_n 1, 1) := by decide +kernel
theorem dX5_makeFunction_20 : decode cX5_makeFunction 20 = .ok (.iconst 0, 1) := by decide +kernel
theorem dX5_makeFunction_21 : decode cX5_makeFunction 21 = .ok (.iastore, 1) := by decide +kernel
theorem dX5_makeFunction_22 : decode cX5_makeFunction 22 = .ok (.aload_n 0, 1) := by decide +kernel
theorem dX5_makeFunction_23 : decode cX5_makeFunction 23 = .ok (.getfield 31, 3) := by decide +kernel
theorem dX5_makeFunction_26 : decode cX5_makeFunction 26 = .ok (.iload_n 1, 1) := by decide +kernel
theorem dX5_makeFunction_27 : decode cX5_makeFunction 27 = .ok (.iconst 0, 1) := by decide +kernel
theorem dX5_makeFunction_28 : decode cX5_makeFunction 28 = .ok (.iastore, 1) := by decide +kernel
theorem dX5_makeFunction_29 : decode cX5_makeFunction 29 = .ok (.aload_n 0, 1) := by decide +kernel
theorem dX5_makeFunction_30 : decode cX5_makeFunction 30 = .ok (.getfield 41, 3) := by decide +kernel
theorem dX5_makeFunction_33 : decode cX5_makeFunction 33 = .ok (.iload_n 1, 1) := by decide +kernel
theorem dX5_makeFunction_34 : decode cX5_makeFunction 34 = .ok (.invokevirtual 86, 3) := by decide +kernel
theorem dX5_makeFunction_37 : decode cX5_makeFunction 37 = .ok (.pop, 1) := by decide +kernel
theorem dX5_makeFunction_38 : decode cX5_makeFunction 38 = .ok (.iconst 0, 1) := by decide +kernel
theorem dX5_makeFunction_39 : decode cX5_makeFunction 39 = .ok (.istore_n 3, 1) := by decide +kernel
theorem dX5_makeFunction_40 : decode cX5_makeFunction 40 = .ok (.iload_n 3, 1) := by decide +kernel
theorem dX5_makeFunction_41 : decode cX5_makeFunction 41 = .ok (.aload_n 0, 1) := by decide +kernel
theorem dX5_makeFunction_42 : decode cX5_makeFunction 42 = .ok (.getfield 37, 3) := by decide +kernel
theorem dX5_makeFunction_45 : decode cX5_makeFunction 45 = .ok (.iload_n 1, 1) := by decide +kernel
theorem dX5_makeFunction_46 : decode cX5_makeFunction 46 = .ok (.invokevirtual 91, 3) := by decide +kernel
theorem dX5_makeFunction_49 : decode cX5_makeFunction 49 = .ok (.if_icmp .ge 62, 3) := by decide +kernel
theorem dX5_makeFunction_52 : decode cX5_makeFunction 52 = .ok (.aload_n 0, 1) := by decide +kernel
theorem dX5_makeFunction_53 : decode cX5_makeFunction 53 = .ok (.getfield 12, 3) := by decide +kernel
theorem dX5_makeFunction_56 : decode cX5_makeFunction 56 = .ok (.invokevirtual 80, 3) := by decide +kernel
theorem dX5_makeFunction_59 : decode cX5_makeFunction 59 = .ok (.istore 4, 2) := by decide +kernel
theorem dX5_makeFunction_61 : decode cX5_makeFunction 61 = .ok (.aload_n 0, 1) := by decide +kernel
theorem dX5_makeFunction_62 : decode cX5_makeFunction 62 = .ok (.getfield 34, 3) := by decide +kernel
theorem dX5_makeFunction_65 : decode cX5_makeFunction 65 = .ok (.iload_n 3, 1) := by decide +kernel
theorem dX5_makeFunction_66 : decode cX5_makeFunction 66 = .ok (.iload 4, 2) := by decide +kernel
theorem dX5_makeFunction_68 : decode cX5_makeFunction 68 = .ok (.iload_n 2, 1) := by decide +kernel
theorem dX5_makeFunction_69 : decode cX5_makeFunction 69 = .ok (.isub, 1) := by decide +kernel
theorem dX5_makeFunction_70 : decode cX5_makeFunction 70 = .ok (.iastore, 1) := by decide +kernel
theorem dX5_makeFunction_71 : decode cX5_makeFunction 71 = .ok (.aload_n 0, 1) := by decide +kernel
theorem dX5_makeFunction_72 : decode cX5_makeFunction 72 = .ok (.iload_n 1, 1) := by decide +kernel
theorem dX5_makeFunction_73 : decode cX5_makeFunction 73 = .ok (.iload_n 3, 1) := by decide +kernel
theorem dX5_makeFunction_74 : decode cX5_makeFunction 74 = .ok (.invokevirtual 94, 3) := by decide +kernel
theorem dX5_makeFunction_77 : decode cX5_makeFunction 77 = .ok (.aload_n 0, 1) := by decide +kernel
theorem dX5_makeFunction_78 : decode cX5_makeFunction 78 = .ok (.getfield 12, 3) := by decide +kernel
theorem dX5_makeFunction_81 : decode cX5_makeFunction 81 = .ok (.iload 4, 2) := by decide +kernel
theorem dX5_makeFunction_83 : decode cX5_makeFunction 83 = .ok (.invokevirtual 98, 3) := by decide +kernel
theorem dX5_makeFunction_86 : decode cX5_makeFunction 86 = .ok (.aload_n 0, 1) := by decide +kernel
theorem dX5_makeFunction_87 : decode cX5_makeFunction 87 = .ok (.getfield 41, 3) := by decide +kernel
theorem dX5_makeFunction_90 : decode cX5_makeFunction 90 = .ok (.iload_n 3, 1) := by decide +kernel
theorem dX5_makeFunction_91 : decode cX5_makeFunction 91 = .ok (.invokevirtual 101, 3) := by decide +kernel
theorem dX5_makeFunction_94 : decode cX5_makeFunction 94 = .ok (.ifCond .eq 11, 3) := by decide +kernel
theorem dX5_makeFunction_97 : decode cX5_makeFunction 97 = .ok (.aload_n 0, 1) := by decide +kernel
theorem dX5_makeFunction_98 : decode cX5_makeFunction 98 = .ok (.iload_n 1, 1) := by decide +kernel
theorem dX5_makeFunction_99 : decode cX5_makeFunction 99 = .ok (.iload_n 3, 1) := by decide +kernel
theorem dX5_makeFunction_100 : decode cX5_makeFunction 100 = .ok (.iload 4, 2) := by decide +kernel
theorem dX5_makeFunction_102 : decode cX5_makeFunction 102 = .ok (.invokevirtual 104, 3) := by decide +kernel
theorem dX5_makeFunction_105 : decode cX5_makeFunction 105 = .ok (.iinc 3 1, 3) := by decide +kernel
theorem dX5_makeFunction_108 : decode cX5_makeFunction 108 = .ok (.goto (-68), 3) := by decide +kernel
theorem dX5_makeFunction_111 : decode cX5_makeFunction 111 = .ok (.aload_n 0, 1) := by decide +kernel
theorem dX5_makeFunction_112 : decode cX5_makeFunction 112 = .ok (.getfield 18, 3) := by decide +kernel
theorem dX5_makeFunction_115 : decode cX5_makeFunction 115 = .ok (.iload_n 1, 1) := by decide +kernel
theorem dX5_makeFunction_116 : decode cX5_makeFunction 116 = .ok (.iconst 1, 1) := by decide +kernel
theorem dX5_makeFunction_117 : decode cX5_makeFunction 117 = .ok (.iadd, 1) := by decide +kernel
theorem dX5_makeFunction_118 : decode cX5_makeFunction 118 = .ok (.aload_n 0, 1) := by decide +kernel
theorem dX5_makeFunction_119 : decode cX5_makeFunction 119 = .ok (.getfield 12, 3) := by decide +kernel
theorem dX5_makeFunction_122 : decode cX5_makeFunction 122 = .ok (.invokevirtual 80, 3) := by decide +kernel
theorem dX5_makeFunction_125 : decode cX5_makeFunction 125 = .ok (.iastore, 1) := by decide +kernel
theorem dX5_makeFunction_126 : decode cX5_makeFunction 126 = .ok (.aload_n 0, 1) := by decide +kernel
theorem dX5_makeFunction_127 : decode cX5_makeFunction 127 = .ok (.iload_n 2, 1) := by decide +kernel
theorem dX5_makeFunction_128 : decode cX5_makeFunction 128 = .ok (.invokevirtual 108, 3) := by decide +kernel
theorem dX5_makeFunction_131 : decode cX5_makeFunction 131 = .ok (.return_, 1) := by decide +kernel
theorem dX5_makeGroup_0 : decode cX5_makeGroup 0 = .ok (.aload_n 0, 1) := by decide +kernel
theorem dX5_makeGroup_1 : decode cX5_makeGroup 1 = .ok (.getfield 37, 3) := by decide +kernel
theorem dX5_makeGroup_4 : decode cX5_makeGroup 4 = .ok (.iload_n 1, 1) := by decide +kernel
theorem dX5_makeGroup_5 : decode cX5_makeGroup 5 = .ok (.iload_n 2, 1) := by decide +kernel
theorem dX5_makeGroup_6 : decode cX5_makeGroup 6 = .ok (.invokevirtual 111, 3) := by decide +kernel
theorem dX5_makeGroup_9 : decode cX5_makeGroup 9 = .ok (.istore_n 3, 1) := by decide +kernel
theorem dX5_makeGroup_10 : decode cX5_makeGroup 10 = .ok (.aload_n 0, 1) := by decide +kernel
theorem dX5_makeGroup_11 : decode cX5_makeGroup 11 = .ok (.getfield 37, 3) := by decide +kernel
theorem dX5_makeGroup_14 : decode cX5_makeGroup 14 = .ok (.iload_n 1, 1) := by decide +kernel
theorem dX5_makeGroup_15 : decode cX5_makeGroup 15 = .ok (.iload_n 2, 1) := by decide +kernel
theorem dX5_makeGroup_16 : decode cX5_makeGroup 16 = .ok (.invokevirtual 115, 3) := by decide +kernel
theorem dX5_makeGroup_19 : decode cX5_makeGroup 19 = .ok (.istore 4, 2) := by decide +kernel
theorem dX5_makeGroup_21 : decode cX5_makeGroup 21 = .ok (.iload_n 3, 1) := by decide +kernel
theorem dX5_makeGroup_22 : decode cX5_makeGroup 22 = .ok (.bipush 13, 2) := by decide +kernel
theorem dX5_makeGroup_24 : decode cX5_makeGroup 24 = .ok (.if_icmp .ne 21, 3) := by decide +kernel
theorem dX5_makeGroup_27 : decode cX5_makeGroup 27 = .ok (.aload_n 0, 1) := by decide +kernel
theorem dX5_makeGroup_28 : decode cX5_makeGroup 28 = .ok (.iload 4, 2) := by decide +kernel
theorem dX5_makeGroup_30 : decode cX5_makeGroup 30 = .ok (.aload_n 0, 1) := by decide +kernel
theorem dX5_makeGroup_31 : decode cX5_makeGroup 31 = .ok (.getfield 37, 3) := by decide +kernel
theorem dX5_makeGroup_34 : decode cX5_makeGroup 34 = .ok (.iload_n 1, 1) := by decide +kernel
theorem dX5_makeGroup_35 : decode cX5_makeGroup 35 = .ok (.iload_n 2, 1) := by decide +kernel
theorem dX5_makeGroup_36 : decode cX5_makeGroup 36 = .ok (.invokevirtual 118, 3) := by decide +kernel
theorem dX5_makeGroup_39 : decode cX5_makeGroup 39 = .ok (.invokevirtual 121, 3) := by decide +kernel
theorem dX5_makeGroup_42 : decode cX5_makeGroup 42 = .ok (.goto 57, 3) := by decide +kernel
theorem dX5_makeGroup_45 : decode cX5_makeGroup 45 = .ok (.iload_n 3, 1) := by decide +kernel
theorem dX5_makeGroup_46 : decode cX5_makeGroup 46 = .ok (.bipush 14, 2) := by decide +kernel
theorem dX5_makeGroup_48 : decode cX5_makeGroup 48 = .ok (.if_icmp .ne 18, 3) := by decide +kernel
theorem dX5_makeGroup_51 : decode cX5_makeGroup 51 = .ok (.aload_n 0, 1) := by decide +kernel
theorem dX5_makeGroup_52 : decode cX5_makeGroup 52 = .ok (.getfield 12, 3) := by decide +kernel
theorem dX5_makeGroup_55 : decode cX5_makeGroup 55 = .ok (.bipush 22, 2) := by decide +kernel
theorem dX5_makeGroup_57 : decode cX5_makeGroup 57 = .ok (.iload 4, 2) := by decide +kernel
theorem dX5_makeGroup_59 : decode cX5_makeGroup 59 = .ok (.iconst 0, 1) := by decide +kernel
theorem dX5_makeGroup_60 : decode cX5_makeGroup 60 = .ok (.invokevirtual 124, 3) := by decide +kernel
theorem dX5_makeGroup_63 : decode cX5_makeGroup 63 = .ok (.goto 36, 3) := by decide +kernel
theorem dX5_makeGroup_66 : decode cX5_makeGroup 66 = .ok (.iload_n 3, 1) := by decide +kernel
theorem dX5_makeGroup_67 : decode cX5_makeGroup 67 = .ok (.bipush 15, 2) := by decide +kernel
theorem dX5_makeGroup_69 : decode cX5_makeGroup 69 = .ok (.if_icmp .ne 19, 3) := by decide +kernel
theorem dX5_makeGroup_72 : decode cX5_makeGroup 72 = .ok (.aload_n 0, 1) := by decide +kernel
theorem dX5_makeGroup_73 : decode cX5_makeGroup 73 = .ok (.iload 4, 2) := by decide +kernel
theorem dX5_makeGroup_75 : decode cX5_makeGroup 75 = .ok (.aload_n 0, 1) := by decide +kernel
theorem dX5_makeGroup_76 : decode cX5_makeGroup 76 = .ok (.getfield 37, 3) := by decide +kernel
theorem dX5_makeGroup_79 : decode cX5_makeGroup 79 = .ok (.invokevirtual 127, 3) := by decide +kernel
theorem dX5_makeGroup_82 : decode cX5_makeGroup 82 = .ok (.invokevirtual 131, 3) := by decide +kernel
theorem dX5_makeGroup_85 : decode cX5_makeGroup 85 = .ok (.goto 14, 3) := by decide +kernel
theorem dX5_makeGroup_88 : decode cX5_makeGroup 88 = .ok (.aload_n 0, 1) := by decide +kernel
theorem dX5_makeGroup_89 : decode cX5_makeGroup 89 = .ok (.getfield 12, 3) := by decide +kernel
theorem dX5_makeGroup_92 : decode cX5_makeGroup 92 = .ok (.iload_n 3, 1) := by decide +kernel
theorem dX5_makeGroup_93 : decode cX5_makeGroup 93 = .ok (.iload 4, 2) := by decide +kernel
theorem dX5_makeGroup_95 : decode cX5_makeGroup 95 = .ok (.iconst 0, 1) := by decide +kernel
theorem dX5_makeGroup_96 : decode cX5_makeGroup 96 = .ok (.invokevirtual 124, 3) := by decide +kernel
theorem dX5_makeGroup_99 : decode cX5_makeGroup 99 = .ok (.return_, 1) := by decide +kernel
theorem dX5_makeNew_0 : decode cX5_makeNew 0 = .ok (.aload_n 0, 1) := by decide +kernel
theorem dX5_makeNew_1 : decode cX5_makeNew 1 = .ok (.getfield 22, 3) := by decide +kernel
theorem dX5_makeNew_4 : decode cX5_makeNew 4 = .ok (.aload_n 0, 1) := by decide +kernel
theorem dX5_makeNew_5 : decode cX5_makeNew 5 = .ok (.getfield 49, 3) := by decide +kernel
theorem dX5_makeNew_8 : decode cX5_makeNew 8 = .ok (.iload_n 1, 1) := by decide +kernel
theorem dX5_makeNew_9 : decode cX5_makeNew 9 = .ok (.iastore, 1) := by decide +kernel
theorem dX5_makeNew_10 : decode cX5_makeNew 10 = .ok (.aload_n 0, 1) := by decide +kernel
theorem dX5_makeNew_11 : decode cX5_makeNew 11 = .ok (.getfield 25, 3) := by decide +kernel
theorem dX5_makeNew_14 : decode cX5_makeNew 14 = .ok (.aload_n 0, 1) := by decide +kernel
theorem dX5_makeNew_15 : decode cX5_makeNew 15 = .ok (.getfield 49, 3) := by decide +kernel
theorem dX5_makeNew_18 : decode cX5_makeNew 18 = .ok (.iload_n 2, 1) := by decide +kernel
theorem dX5_makeNew_19 : decode cX5_makeNew 19 = .ok (.iastore, 1) := by decide +kernel
theorem dX5_makeNew_20 : decode cX5_makeNew 20 = .ok (.aload_n 0, 1) := by decide +kernel
theorem dX5_makeNew_21 : decode cX5_makeNew 21 = .ok (.getfield 12, 3) := by decide +kernel
theorem dX5_makeNew_24 : decode cX5_makeNew 24 = .ok (.bipush 20, 2) := by decide +kernel
theorem dX5_makeNew_26 : decode cX5_makeNew 26 = .ok (.aload_n 0, 1) := by decide +kernel
theorem dX5_makeNew_27 : decode cX5_makeNew 27 = .ok (.getfield 49, 3) := by decide +kernel
theorem dX5_makeNew_30 : decode cX5_makeNew 30 = .ok (.iconst 0, 1) := by decide +kernel
theorem dX5_makeNew_31 : decode cX5_makeNew 31 = .ok (.invokevirtual 124, 3) := by decide +kernel
theorem dX5_makeNew_34 : decode cX5_makeNew 34 = .ok (.aload_n 0, 1) := by decide +kernel
theorem dX5_makeNew_35 : decode cX5_makeNew 35 = .ok (.dup, 1) := by decide +kernel
theorem dX5_makeNew_36 : decode cX5_makeNew 36 = .ok (.getfield 49, 3) := by decide +kernel
theorem dX5_makeNew_39 : decode cX5_makeNew 39 = .ok (.iconst 1, 1) := by decide +kernel
theorem dX5_makeNew_40 : decode cX5_makeNew 40 = .ok (.iadd, 1) := by decide +kernel
theorem dX5_makeNew_41 : decode cX5_makeNew 41 = .ok (.putfield 49, 3) := by decide +kernel
theorem dX5_makeNew_44 : decode cX5_makeNew 44 = .ok (.iload_n 2, 1) := by decide +kernel
theorem dX5_makeNew_45 : decode cX5_makeNew 45 = .ok (.ifCond .ne 4, 3) := by decide +kernel
theorem dX5_makeNew_48 : decode cX5_makeNew 48 = .ok (.return_, 1) := by decide +kernel
theorem dX5_makeNew_49 : decode cX5_makeNew 49 = .ok (.aload_n 0, 1) := by decide +kernel
theorem dX5_makeNew_50 : decode cX5_makeNew 50 = .ok (.getfield 12, 3) := by decide +kernel
theorem dX5_makeNew_53 : decode cX5_makeNew 53 = .ok (.iconst 2, 1) := by decide +kernel
theorem dX5_makeNew_54 : decode cX5_makeNew 54 = .ok (.bipush 8, 2) := by decide +kernel
theorem dX5_makeNew_56 : decode cX5_makeNew 56 = .ok (.iconst 0, 1) := by decide +kernel
theorem dX5_makeNew_57 : decode cX5_makeNew 57 = .ok (.invokevirtual 124, 3) := by decide +kernel
theorem dX5_makeNew_60 : decode cX5_makeNew 60 = .ok (.iload_n 2, 1) := by decide +kernel
theorem dX5_makeNew_61 : decode cX5_makeNew 61 = .ok (.istore_n 3, 1) := by decide +kernel
theorem dX5_makeNew_62 : decode cX5_makeNew 62 = .ok (.iload_n 3, 1) := by decide +kernel
theorem dX5_makeNew_63 : decode cX5_makeNew 63 = .ok (.ifCond .le 22, 3) := by decide +kernel
theorem dX5_makeNew_66 : decode cX5_makeNew 66 = .ok (.aload_n 0, 1) := by decide +kernel
theorem dX5_makeNew_67 : decode cX5_makeNew 67 = .ok (.getfield 12, 3) := by decide +kernel
theorem dX5_makeNew_70 : decode cX5_makeNew 70 = .ok (.iconst 2, 1) := by decide +kernel
theorem dX5_makeNew_71 : decode cX5_makeNew 71 = .ok (.bipush 8, 2) := by decide +kernel
theorem dX5_makeNew_73 : decode cX5_makeNew 73 = .ok (.iload_n 3, 1) := by decide +kernel
theorem dX5_makeNew_74 : decode cX5_makeNew 74 = .ok (.iadd, 1) := by decide +kernel
theorem dX5_makeNew_75 : decode cX5_makeNew 75 = .ok (.iconst 0, 1) := by decide +kernel
theorem dX5_makeNew_76 : decode cX5_makeNew 76 = .ok (.invokevirtual 124, 3) := by decide +kernel
theorem dX5_makeNew_79 : decode cX5_makeNew 79 = .ok (.iinc 3 (-1), 3) := by decide +kernel
theorem dX5_makeNew_82 : decode cX5_makeNew 82 = .ok (.goto (-20), 3) := by decide +kernel
theorem dX5_makeNew_85 : decode cX5_makeNew 85 = .ok (.aload_n 0, 1) := by decide +kernel
theorem dX5_makeNew_86 : decode cX5_makeNew 86 = .ok (.getfield 12, 3) := by decide +kernel
theorem dX5_makeNew_89 : decode cX5_makeNew 89 = .ok (.iconst 1, 1) := by decide +kernel
theorem dX5_makeNew_90 : decode cX5_makeNew 90 = .ok (.bipush 8, 2) := by decide +kernel
theorem dX5_makeNew_92 : decode cX5_makeNew 92 = .ok (.iconst 0, 1) := by decide +kernel
theorem dX5_makeNew_93 : decode cX5_makeNew 93 = .ok (.invokevirtual 124, 3) := by decide +kernel
theorem dX5_makeNew_96 : decode cX5_makeNew 96 = .ok (.iconst 0, 1) := by decide +kernel
theorem dX5_makeNew_97 : decode cX5_makeNew 97 = .ok (.istore_n 3, 1) := by decide +kernel
theorem dX5_makeNew_98 : decode cX5_makeNew 98 = .ok (.iload_n 3, 1) := by decide +kernel
theorem dX5_makeNew_99 : decode cX5_makeNew 99 = .ok (.iload_n 2, 1) := by decide +kernel
theorem dX5_makeNew_100 : decode cX5_makeNew 100 = .ok (.if_icmp .ge 33, 3) := by decide +kernel
theorem dX5_makeNew_103 : decode cX5_makeNew 103 = .ok (.aload_n 0, 1) := by decide +kernel
theorem dX5_makeNew_104 : decode cX5_makeNew 104 = .ok (.getfield 12, 3) := by decide +kernel
theorem dX5_makeNew_107 : decode cX5_makeNew 107 = .ok (.iconst 1, 1) := by decide +kernel
theorem dX5_makeNew_108 : decode cX5_makeNew 108 = .ok (.bipush 9, 2) := by decide +kernel
theorem dX5_makeNew_110 : decode cX5_makeNew 110 = .ok (.iload_n 3, 1) := by decide +kernel
theorem dX5_makeNew_111 : decode cX5_makeNew 111 = .ok (.iadd, 1) := by decide +kernel
theorem dX5_makeNew_112 : decode cX5_makeNew 112 = .ok (.iconst 0, 1) := by decide +kernel
theorem dX5_makeNew_113 : decode cX5_makeNew 113 = .ok (.invokevirtual 124, 3) := by decide +kernel
theorem dX5_makeNew_116 : decode cX5_makeNew 116 = .ok (.aload_n 0, 1) := by decide +kernel
theorem dX5_makeNew_117 : decode cX5_makeNew 117 = .ok (.getfield 12, 3) := by decide +kernel
theorem dX5_makeNew_120 : decode cX5_makeNew 120 = .ok (.bipush 21, 2) := by decide +kernel
theorem dX5_makeNew_122 : decode cX5_makeNew 122 = .ok (.iload_n 3, 1) := by decide +kernel
theorem dX5_makeNew_123 : decode cX5_makeNew 123 = .ok (.iconst 0, 1) := by decide +kernel
theorem dX5_makeNew_124 : decode cX5_makeNew 124 = .ok (.invokevirtual 124, 3) := by decide +kernel
theorem dX5_makeNew_127 : decode cX5_makeNew 127 = .ok (.iinc 3 1, 3) := by decide +kernel
theorem dX5_makeNew_130 : decode cX5_makeNew 130 = .ok (.goto (-32), 3) := by decide +kernel
theorem dX5_makeNew_133 : decode cX5_makeNew 133 = .ok (.return_, 1) := by decide +kernel
theorem dX5_makeJoin_0 : decode cX5_makeJoin 0 = .ok (.aload_n 2, 1) := by decide +kernel
theorem dX5_makeJoin_1 : decode cX5_makeJoin 1 = .ok (.iload_n 1, 1) := by decide +kernel
theorem dX5_makeJoin_2 : decode cX5_makeJoin 2 = .ok (.invokevirtual 135, 3) := by decide +kernel
theorem dX5_makeJoin_5 : decode cX5_makeJoin 5 = .ok (.iconst 1, 1) := by decide +kernel
theorem dX5_makeJoin_6 : decode cX5_makeJoin 6 = .ok (.isub, 1) := by decide +kernel
theorem dX5_makeJoin_7 : decode cX5_makeJoin 7 = .ok (.istore_n 3, 1) := by decide +kernel
theorem dX5_makeJoin_8 : decode cX5_makeJoin 8 = .ok (.iload_n 3, 1) := by decide +kernel
theorem dX5_makeJoin_9 : decode cX5_makeJoin 9 = .ok (.ifCond .lt 22, 3) := by decide +kernel
theorem dX5_makeJoin_12 : decode cX5_makeJoin 12 = .ok (.aload_n 0, 1) := by decide +kernel
theorem dX5_makeJoin_13 : decode cX5_makeJoin 13 = .ok (.getfield 12, 3) := by decide +kernel
theorem dX5_makeJoin_16 : decode cX5_makeJoin 16 = .ok (.iconst 2, 1) := by decide +kernel
theorem dX5_makeJoin_17 : decode cX5_makeJoin 17 = .ok (.bipush 8, 2) := by decide +kernel
theorem dX5_makeJoin_19 : decode cX5_makeJoin 19 = .ok (.iload_n 3, 1) := by decide +kernel
theorem dX5_makeJoin_20 : decode cX5_makeJoin 20 = .ok (.iadd, 1) := by decide +kernel
theorem dX5_makeJoin_21 : decode cX5_makeJoin 21 = .ok (.iconst 0, 1) := by decide +kernel
theorem dX5_makeJoin_22 : decode cX5_makeJoin 22 = .ok (.invokevirtual 124, 3) := by decide +kernel
theorem dX5_makeJoin_25 : decode cX5_makeJoin 25 = .ok (.iinc 3 (-1), 3) := by decide +kernel
theorem dX5_makeJoin_28 : decode cX5_makeJoin 28 = .ok (.goto (-20), 3) := by decide +kernel
theorem dX5_makeJoin_31 : decode cX5_makeJoin 31 = .ok (.aload_n 0, 1) := by decide +kernel
theorem dX5_makeJoin_32 : decode cX5_makeJoin 32 = .ok (.getfield 12, 3) := by decide +kernel
theorem dX5_makeJoin_35 : decode cX5_makeJoin 35 = .ok (.bipush 24, 2) := by decide +kernel
theorem dX5_makeJoin_37 : decode cX5_makeJoin 37 = .ok (.iconst 0, 1) := by decide +kernel
theorem dX5_makeJoin_38 : decode cX5_makeJoin 38 = .ok (.iconst 0, 1) := by decide +kernel
theorem dX5_makeJoin_39 : decode cX5_makeJoin 39 = .ok (.invokevirtual 124, 3) := by decide +kernel
theorem dX5_makeJoin_42 : decode cX5_makeJoin 42 = .ok (.iconst 0, 1) := by decide +kernel
theorem dX5_makeJoin_43 : decode cX5_makeJoin 43 = .ok (.istore_n 3, 1) := by decide +kernel
theorem dX5_makeJoin_44 : decode cX5_makeJoin 44 = .ok (.aload_n 2, 1) := by decide +kernel
theorem dX5_makeJoin_45 : decode cX5_makeJoin 45 = .ok (.iload_n 1, 1) := by decide +kernel
theorem dX5_makeJoin_46 : decode cX5_makeJoin 46 = .ok (.invokevirtual 140, 3) := by decide +kernel
theorem dX5_makeJoin_49 : decode cX5_makeJoin 49 = .ok (.istore 4, 2) := by decide +kernel
theorem dX5_makeJoin_51 : decode cX5_makeJoin 51 = .ok (.iconst 0, 1) := by decide +kernel
theorem dX5_makeJoin_52 : decode cX5_makeJoin 52 = .ok (.istore 5, 2) := by decide +kernel
theorem dX5_makeJoin_54 : decode cX5_makeJoin 54 = .ok (.iconst 0, 1) := by decide +kernel
theorem dX5_makeJoin_55 : decode cX5_makeJoin 55 = .ok (.istore 6, 2) := by decide +kernel
theorem dX5_makeJoin_57 : decode cX5_makeJoin 57 = .ok (.iload 6, 2) := by decide +kernel
theorem dX5_makeJoin_59 : decode cX5_makeJoin 59 = .ok (.aload_n 2, 1) := by decide +kernel
theorem dX5_makeJoin_60 : decode cX5_makeJoin 60 = .ok (.iload_n 1, 1) := by decide +kernel
theorem dX5_makeJoin_61 : decode cX5_makeJoin 61 = .ok (.invokevirtual 143, 3) := by decide +kernel
theorem dX5_makeJoin_64 : decode cX5_makeJoin 64 = .ok (.if_icmp .ge 80, 3) := by decide +kernel
theorem dX5_makeJoin_67 : decode cX5_makeJoin 67 = .ok (.aload_n 2, 1) := by decide +kernel
theorem dX5_makeJoin_68 : decode cX5_makeJoin 68 = .ok (.iload_n 1, 1) := by decide +kernel
theorem dX5_makeJoin_69 : decode cX5_makeJoin 69 = .ok (.iload 6, 2) := by decide +kernel
theorem dX5_makeJoin_71 : decode cX5_makeJoin 71 = .ok (.invokevirtual 144, 3) := by decide +kernel
theorem dX5_makeJoin_74 : decode cX5_makeJoin 74 = .ok (.ifCond .ne 9, 3) := by decide +kernel
theorem dX5_makeJoin_77 : decode cX5_makeJoin 77 = .ok (.iinc 5 1, 3) := by decide +kernel
theorem dX5_makeJoin_80 : decode cX5_makeJoin 80 = .ok (.goto 58, 3) := by decide +kernel
theorem dX5_makeJoin_83 : decode cX5_makeJoin 83 = .ok (.iload 5, 2) := by decide +kernel
theorem dX5_makeJoin_85 : decode cX5_makeJoin 85 = .ok (.ifCond .le 26, 3) := by decide +kernel
theorem dX5_makeJoin_88 : decode cX5_makeJoin 88 = .ok (.aload_n 0, 1) := by decide +kernel
theorem dX5_makeJoin_89 : decode cX5_makeJoin 89 = .ok (.getfield 12, 3) := by decide +kernel
theorem dX5_makeJoin_92 : decode cX5_makeJoin 92 = .ok (.bipush 25, 2) := by decide +kernel
theorem dX5_makeJoin_94 : decode cX5_makeJoin 94 = .ok (.iload 4, 2) := by decide +kernel
theorem dX5_makeJoin_96 : decode cX5_makeJoin 96 = .ok (.iload 5, 2) := by decide +kernel
theorem dX5_makeJoin_98 : decode cX5_makeJoin 98 = .ok (.invokevirtual 124, 3) := by decide +kernel
theorem dX5_makeJoin_101 : decode cX5_makeJoin 101 = .ok (.iload 4, 2) := by decide +kernel
theorem dX5_makeJoin_103 : decode cX5_makeJoin 103 = .ok (.iload 5, 2) := by decide +kernel
theorem dX5_makeJoin_105 : decode cX5_makeJoin 105 = .ok (.iadd, 1) := by decide +kernel
theorem dX5_makeJoin_106 : decode cX5_makeJoin 106 = .ok (.istore 4, 2) := by decide +kernel
theorem dX5_makeJoin_108 : decode cX5_makeJoin 108 = .ok (.iconst 0, 1) := by decide +kernel
theorem dX5_makeJoin_109 : decode cX5_makeJoin 109 = .ok (.istore 5, 2) := by decide +kernel
theorem dX5_makeJoin_111 : decode cX5_makeJoin 111 = .ok (.aload_n 0, 1) := by decide +kernel
theorem dX5_makeJoin_112 : decode cX5_makeJoin 112 = .ok (.getfield 12, 3) := by decide +kernel
theorem dX5_makeJoin_115 : decode cX5_makeJoin 115 = .ok (.iconst 1, 1) := by decide +kernel
theorem dX5_makeJoin_116 : decode cX5_makeJoin 116 = .ok (.bipush 8, 2) := by decide +kernel
theorem dX5_makeJoin_118 : decode cX5_makeJoin 118 = .ok (.iload_n 3, 1) := by decide +kernel
theorem dX5_makeJoin_119 : decode cX5_makeJoin 119 = .ok (.iadd, 1) := by decide +kernel
theorem dX5_makeJoin_120 : decode cX5_makeJoin 120 = .ok (.iconst 0, 1) := by decide +kernel
theorem dX5_makeJoin_121 : decode cX5_makeJoin 121 = .ok (.invokevirtual 124, 3) := by decide +kernel
theorem dX5_makeJoin_124 : decode cX5_makeJoin 124 = .ok (.aload_n 0, 1) := by decide +kernel
theorem dX5_makeJoin_125 : decode cX5_makeJoin 125 = .ok (.getfield 12, 3) := by decide +kernel
theorem dX5_makeJoin_128 : decode cX5_makeJoin 128 = .ok (.bipush 26, 2) := by decide +kernel
theorem dX5_makeJoin_130 : decode cX5_makeJoin 130 = .ok (.iconst 0, 1) := by decide +kernel
theorem dX5_makeJoin_131 : decode cX5_makeJoin 131 = .ok (.iconst 0, 1) := by decide +kernel
theorem dX5_makeJoin_132 : decode cX5_makeJoin 132 = .ok (.invokevirtual 124, 3) := by decide +kernel
theorem dX5_makeJoin_135 : decode cX5_makeJoin 135 = .ok (.iinc 3 1, 3) := by decide +kernel
theorem dX5_makeJoin_138 : decode cX5_makeJoin 138 = .ok (.iinc 6 1, 3) := by decide +kernel
theorem dX5_makeJoin_141 : decode cX5_makeJoin 141 = .ok (.goto (-84), 3) := by decide +kernel
theorem dX5_makeJoin_144 : decode cX5_makeJoin 144 = .ok (.iload 5, 2) := by decide +kernel
theorem dX5_makeJoin_146 : decode cX5_makeJoin 146 = .ok (.ifCond .le 16, 3) := by decide +kernel
theorem dX5_makeJoin_149 : decode cX5_makeJoin 149 = .ok (.aload_n 0, 1) := by decide +kernel
theorem dX5_makeJoin_150 : decode cX5_makeJoin 150 = .ok (.getfield 12, 3) := by decide +kernel
theorem dX5_makeJoin_153 : decode cX5_makeJoin 153 = .ok (.bipush 25, 2) := by decide +kernel
theorem dX5_makeJoin_155 : decode cX5_makeJoin 155 = .ok (.iload 4, 2) := by decide +kernel
theorem dX5_makeJoin_157 : decode cX5_makeJoin 157 = .ok (.iload 5, 2) := by decide +kernel
theorem dX5_makeJoin_159 : decode cX5_makeJoin 159 = .ok (.invokevirtual 124, 3) := by decide +kernel
theorem dX5_makeJoin_162 : decode cX5_makeJoin 162 = .ok (.return_, 1) := by decide +kernel
theorem dX5_makeMethod_0 : decode cX5_makeMethod 0 = .ok (.aload_n 0, 1) := by decide +kernel
theorem dX5_makeMethod_1 : decode cX5_makeMethod 1 = .ok (.iload_n 1, 1) := by decide +kernel
theorem dX5_makeMethod_2 : decode cX5_makeMethod 2 = .ok (.invokevirtual 148, 3) := by decide +kernel
theorem dX5_makeMethod_5 : decode cX5_makeMethod 5 = .ok (.istore_n 2, 1) := by decide +kernel
theorem dX5_makeMethod_6 : decode cX5_makeMethod 6 = .ok (.aload_n 0, 1) := by decide +kernel
theorem dX5_makeMethod_7 : decode cX5_makeMethod 7 = .ok (.getfield 18, 3) := by decide +kernel
theorem dX5_makeMethod_10 : decode cX5_makeMethod 10 = .ok (.iload_n 2, 1) := by decide +kernel
theorem dX5_makeMethod_11 : decode cX5_makeMethod 11 = .ok (.aload_n 0, 1) := by decide +kernel
theorem dX5_makeMethod_12 : decode cX5_makeMethod 12 = .ok (.getfield 12, 3) := by decide +kernel
theorem dX5_makeMethod_15 : decode cX5_makeMethod 15 = .ok (.invokevirtual 80, 3) := by decide +kernel
theorem dX5_makeMethod_18 : decode cX5_makeMethod 18 = .ok (.iastore, 1) := by decide +kernel
theorem dX5_makeMethod_19 : decode cX5_makeMethod 19 = .ok (.aload_n 0, 1) := by decide +kernel
theorem dX5_makeMethod_20 : decode cX5_makeMethod 20 = .ok (.getfield 25, 3) := by decide +kernel
theorem dX5_makeMethod_23 : decode cX5_makeMethod 23 = .ok (.iload_n 1, 1) := by decide +kernel
theorem dX5_makeMethod_24 : decode cX5_makeMethod 24 = .ok (.iaload, 1) := by decide +kernel
theorem dX5_makeMethod_25 : decode cX5_makeMethod 25 = .ok (.istore_n 3, 1) := by decide +kernel
theorem dX5_makeMethod_26 : decode cX5_makeMethod 26 = .ok (.iconst 0, 1) := by decide +kernel
theorem dX5_makeMethod_27 : decode cX5_makeMethod 27 = .ok (.istore 4, 2) := by decide +kernel
theorem dX5_makeMethod_29 : decode cX5_makeMethod 29 = .ok (.iload 4, 2) := by decide +kernel
theorem dX5_makeMethod_31 : decode cX5_makeMethod 31 = .ok (.iload_n 3, 1) := by decide +kernel
theorem dX5_makeMethod_32 : decode cX5_makeMethod 32 = .ok (.if_icmp .ge 21, 3) := by decide +kernel
theorem dX5_makeMethod_35 : decode cX5_makeMethod 35 = .ok (.aload_n 0, 1) := by decide +kernel
theorem dX5_makeMethod_36 : decode cX5_makeMethod 36 = .ok (.getfield 12, 3) := by decide +kernel
theorem dX5_makeMethod_39 : decode cX5_makeMethod 39 = .ok (.bipush 23, 2) := by decide +kernel
theorem dX5_makeMethod_41 : decode cX5_makeMethod 41 = .ok (.iload 4, 2) := by decide +kernel
theorem dX5_makeMethod_43 : decode cX5_makeMethod 43 = .ok (.iconst 0, 1) := by decide +kernel
theorem dX5_makeMethod_44 : decode cX5_makeMethod 44 = .ok (.invokevirtual 124, 3) := by decide +kernel
theorem dX5_makeMethod_47 : decode cX5_makeMethod 47 = .ok (.iinc 4 1, 3) := by decide +kernel
theorem dX5_makeMethod_50 : decode cX5_makeMethod 50 = .ok (.goto (-21), 3) := by decide +kernel
theorem dX5_makeMethod_53 : decode cX5_makeMethod 53 = .ok (.aload_n 0, 1) := by decide +kernel
theorem dX5_makeMethod_54 : decode cX5_makeMethod 54 = .ok (.getfield 37, 3) := by decide +kernel
theorem dX5_makeMethod_57 : decode cX5_makeMethod 57 = .ok (.aload_n 0, 1) := by decide +kernel
theorem dX5_makeMethod_58 : decode cX5_makeMethod 58 = .ok (.getfield 22, 3) := by decide +kernel
theorem dX5_makeMethod_61 : decode cX5_makeMethod 61 = .ok (.iload_n 1, 1) := by decide +kernel
theorem dX5_makeMethod_62 : decode cX5_makeMethod 62 = .ok (.iaload, 1) := by decide +kernel
theorem dX5_makeMethod_63 : decode cX5_makeMethod 63 = .ok (.invokevirtual 151, 3) := by decide +kernel
theorem dX5_makeMethod_66 : decode cX5_makeMethod 66 = .ok (.iload_n 3, 1) := by decide +kernel
theorem dX5_makeMethod_67 : decode cX5_makeMethod 67 = .ok (.isub, 1) := by decide +kernel
theorem dX5_makeMethod_68 : decode cX5_makeMethod 68 = .ok (.istore 4, 2) := by decide +kernel
theorem dX5_makeMethod_70 : decode cX5_makeMethod 70 = .ok (.iconst 1, 1) := by decide +kernel
theorem dX5_makeMethod_71 : decode cX5_makeMethod 71 = .ok (.istore 5, 2) := by decide +kernel
theorem dX5_makeMethod_73 : decode cX5_makeMethod 73 = .ok (.iload 5, 2) := by decide +kernel
theorem dX5_makeMethod_75 : decode cX5_makeMethod 75 = .ok (.iload 4, 2) := by decide +kernel
theorem dX5_makeMethod_77 : decode cX5_makeMethod 77 = .ok (.if_icmp .gt 20, 3) := by decide +kernel
theorem dX5_makeMethod_80 : decode cX5_makeMethod 80 = .ok (.aload_n 0, 1) := by decide +kernel
theorem dX5_makeMethod_81 : decode cX5_makeMethod 81 = .ok (.getfield 12, 3) := by decide +kernel
theorem dX5_makeMethod_84 : decode cX5_makeMethod 84 = .ok (.iconst 1, 1) := by decide +kernel
theorem dX5_makeMethod_85 : decode cX5_makeMethod 85 = .ok (.iload 5, 2) := by decide +kernel
theorem dX5_makeMethod_87 : decode cX5_makeMethod 87 = .ok (.iconst 0, 1) := by decide +kernel
theorem dX5_makeMethod_88 : decode cX5_makeMethod 88 = .ok (.invokevirtual 124, 3) := by decide +kernel
theorem dX5_makeMethod_91 : decode cX5_makeMethod 91 = .ok (.iinc 5 1, 3) := by decide +kernel
theorem dX5_makeMethod_94 : decode cX5_makeMethod 94 = .ok (.goto (-21), 3) := by decide +kernel
theorem dX5_makeMethod_97 : decode cX5_makeMethod 97 = .ok (.aload_n 0, 1) := by decide +kernel
theorem dX5_makeMethod_98 : decode cX5_makeMethod 98 = .ok (.getfield 12, 3) := by decide +kernel
theorem dX5_makeMethod_101 : decode cX5_makeMethod 101 = .ok (.bipush 10, 2) := by decide +kernel
theorem dX5_makeMethod_103 : decode cX5_makeMethod 103 = .ok (.aload_n 0, 1) := by decide +kernel
theorem dX5_makeMethod_104 : decode cX5_makeMethod 104 = .ok (.getfield 22, 3) := by decide +kernel
theorem dX5_makeMethod_107 : decode cX5_makeMethod 107 = .ok (.iload_n 1, 1) := by decide +kernel
theorem dX5_makeMethod_108 : decode cX5_makeMethod 108 = .ok (.iaload, 1) := by decide +kernel
theorem dX5_makeMethod_109 : decode cX5_makeMethod 109 = .ok (.iconst 0, 1) := by decide +kernel
theorem dX5_makeMethod_110 : decode cX5_makeMethod 110 = .ok (.invokevirtual 124, 3) := by decide +kernel
theorem dX5_makeMethod_113 : decode cX5_makeMethod 113 = .ok (.aload_n 0, 1) := by decide +kernel
theorem dX5_makeMethod_114 : decode cX5_makeMethod 114 = .ok (.getfield 12, 3) := by decide +kernel
theorem dX5_makeMethod_117 : decode cX5_makeMethod 117 = .ok (.bipush 11, 2) := by decide +kernel
theorem dX5_makeMethod_119 : decode cX5_makeMethod 119 = .ok (.iconst 0, 1) := by decide +kernel
theorem dX5_makeMethod_120 : decode cX5_makeMethod 120 = .ok (.iconst 0, 1) := by decide +kernel
theorem dX5_makeMethod_121 : decode cX5_makeMethod 121 = .ok (.invokevirtual 124, 3) := by decide +kernel
theorem dX5_makeMethod_124 : decode cX5_makeMethod 124 = .ok (.aload_n 0, 1) := by decide +kernel
theorem dX5_makeMethod_125 : decode cX5_makeMethod 125 = .ok (.getfield 18, 3) := by decide +kernel
theorem dX5_makeMethod_128 : decode cX5_makeMethod 128 = .ok (.iload_n 2, 1) := by decide +kernel
theorem dX5_makeMethod_129 : decode cX5_makeMethod 129 = .ok (.iconst 1, 1) := by decide +kernel
theorem dX5_makeMethod_130 : decode cX5_makeMethod 130 = .ok (.iadd, 1) := by decide +kernel
theorem dX5_makeMethod_131 : decode cX5_makeMethod 131 = .ok (.aload_n 0, 1) := by decide +kernel
theorem dX5_makeMethod_132 : decode cX5_makeMethod 132 = .ok (.getfield 12, 3) := by decide +kernel
theorem dX5_makeMethod_135 : decode cX5_makeMethod 135 = .ok (.invokevirtual 80, 3) := by decide +kernel
theorem dX5_makeMethod_138 : decode cX5_makeMethod 138 = .ok (.iastore, 1) := by decide +kernel
theorem dX5_makeMethod_139 : decode cX5_makeMethod 139 = .ok (.return_, 1) := by decide +kernel
theorem dX5_measure_0 : decode cX5_measure 0 = .ok (.aload_n 0, 1) := by decide +kernel
theorem dX5_measure_1 : decode cX5_measure 1 = .ok (.getfield 41, 3) := by decide +kernel
theorem dX5_measure_4 : decode cX5_measure 4 = .ok (.iload_n 2, 1) := by decide +kernel
theorem dX5_measure_5 : decode cX5_measure 5 = .ok (.invokevirtual 154, 3) := by decide +kernel
theorem dX5_measure_8 : decode cX5_measure 8 = .ok (.istore 4, 2) := by decide +kernel
theorem dX5_measure_10 : decode cX5_measure 10 = .ok (.aload_n 0, 1) := by decide +kernel
theorem dX5_measure_11 : decode cX5_measure 11 = .ok (.getfield 37, 3) := by decide +kernel
theorem dX5_measure_14 : decode cX5_measure 14 = .ok (.iload_n 1, 1) := by decide +kernel
theorem dX5_measure_15 : decode cX5_measure 15 = .ok (.iload_n 2, 1) := by decide +kernel
theorem dX5_measure_16 : decode cX5_measure 16 = .ok (.invokevirtual 115, 3) := by decide +kernel
theorem dX5_measure_19 : decode cX5_measure 19 = .ok (.istore 5, 2) := by decide +kernel
theorem dX5_measure_21 : decode cX5_measure 21 = .ok (.aload_n 0, 1) := by decide +kernel
theorem dX5_measure_22 : decode cX5_measure 22 = .ok (.getfield 37, 3) := by decide +kernel
theorem dX5_measure_25 : decode cX5_measure 25 = .ok (.iload_n 1, 1) := by decide +kernel
theorem dX5_measure_26 : decode cX5_measure 26 = .ok (.iload_n 2, 1) := by decide +kernel
theorem dX5_measure_27 : decode cX5_measure 27 = .ok (.invokevirtual 118, 3) := by decide +kernel
theorem dX5_measure_30 : decode cX5_measure 30 = .ok (.istore 6, 2) := by decide +kernel
theorem dX5_measure_32 : decode cX5_measure 32 = .ok (.iload 4, 2) := by decide +kernel
theorem dX5_measure_34 : decode cX5_measure 34 = .ok (.aload_n 0, 1) := by decide +kernel
theorem dX5_measure_35 : decode cX5_measure 35 = .ok (.aload_n 0, 1) := by decide +kernel
theorem dX5_measure_36 : decode cX5_measure 36 = .ok (.getfield 37, 3) := by decide +kernel
theorem dX5_measure_39 : decode cX5_measure 39 = .ok (.iload_n 1, 1) := by decide +kernel
theorem dX5_measure_40 : decode cX5_measure 40 = .ok (.iload_n 2, 1) := by decide +kernel
theorem dX5_measure_41 : decode cX5_measure 41 = .ok (.invokevirtual 111, 3) := by decide +kernel
theorem dX5_measure_44 : decode cX5_measure 44 = .ok (.iload 5, 2) := by decide +kernel
theorem dX5_measure_46 : decode cX5_measure 46 = .ok (.iload 6, 2) := by decide +kernel
theorem dX5_measure_48 : decode cX5_measure 48 = .ok (.invokevirtual 157, 3) := by decide +kernel
theorem dX5_measure_51 : decode cX5_measure 51 = .ok (.iadd, 1) := by decide +kernel
theorem dX5_measure_52 : decode cX5_measure 52 = .ok (.istore 7, 2) := by decide +kernel
theorem dX5_measure_54 : decode cX5_measure 54 = .ok (.aload_n 0, 1) := by decide +kernel
theorem dX5_measure_55 : decode cX5_measure 55 = .ok (.getfield 28, 3) := by decide +kernel
theorem dX5_measure_58 : decode cX5_measure 58 = .ok (.iload_n 1, 1) := by decide +kernel
theorem dX5_measure_59 : decode cX5_measure 59 = .ok (.aload_n 0, 1) := by decide +kernel
theorem dX5_measure_60 : decode cX5_measure 60 = .ok (.getfield 28, 3) := by decide +kernel
theorem dX5_measure_63 : decode cX5_measure 63 = .ok (.iload_n 1, 1) := by decide +kernel
theorem dX5_measure_64 : decode cX5_measure 64 = .ok (.iaload, 1) := by decide +kernel
theorem dX5_measure_65 : decode cX5_measure 65 = .ok (.iload 7, 2) := by decide +kernel
theorem dX5_measure_67 : decode cX5_measure 67 = .ok (.invokestatic 161, 3) := by decide +kernel
theorem dX5_measure_70 : decode cX5_measure 70 = .ok (.iastore, 1) := by decide +kernel
theorem dX5_measure_71 : decode cX5_measure 71 = .ok (.iload 4, 2) := by decide +kernel
theorem dX5_measure_73 : decode cX5_measure 73 = .ok (.istore 8, 2) := by decide +kernel
theorem dX5_measure_75 : decode cX5_measure 75 = .ok (.iload_n 3, 1) := by decide +kernel
theorem dX5_measure_76 : decode cX5_measure 76 = .ok (.istore 9, 2) := by decide +kernel
theorem dX5_measure_78 : decode cX5_measure 78 = .ok (.iload 9, 2) := by decide +kernel
theorem dX5_measure_80 : decode cX5_measure 80 = .ok (.aload_n 0, 1) := by decide +kernel
theorem dX5_measure_81 : decode cX5_measure 81 = .ok (.getfield 12, 3) := by decide +kernel
theorem dX5_measure_84 : decode cX5_measure 84 = .ok (.invokevirtual 80, 3) := by decide +kernel
theorem dX5_measure_87 : decode cX5_measure 87 = .ok (.if_icmp .ge 62, 3) := by decide +kernel
theorem dX5_measure_90 : decode cX5_measure 90 = .ok (.iload 8, 2) := by decide +kernel
theorem dX5_measure_92 : decode cX5_measure 92 = .ok (.aload_n 0, 1) := by decide +kernel
theorem dX5_measure_93 : decode cX5_measure 93 = .ok (.aload_n 0, 1) := by decide +kernel
theorem dX5_measure_94 : decode cX5_measure 94 = .ok (.getfield 12, 3) := by decide +kernel
theorem dX5_measure_97 : decode cX5_measure 97 = .ok (.iload 9, 2) := by decide +kernel
theorem dX5_measure_99 : decode cX5_measure 99 = .ok (.invokevirtual 59, 3) := by decide +kernel
theorem dX5_measure_102 : decode cX5_measure 102 = .ok (.aload_n 0, 1) := by decide +kernel
theorem dX5_measure_103 : decode cX5_measure 103 = .ok (.getfield 12, 3) := by decide +kernel
theorem dX5_measure_106 : decode cX5_measure 106 = .ok (.iload 9, 2) := by decide +kernel
theorem dX5_measure_108 : decode cX5_measure 108 = .ok (.invokevirtual 63, 3) := by decide +kernel
theorem dX5_measure_111 : decode cX5_measure 111 = .ok (.aload_n 0, 1) := by decide +kernel
theorem dX5_measure_112 : decode cX5_measure 112 = .ok (.getfield 12, 3) := by decide +kernel
theorem dX5_measure_115 : decode cX5_measure 115 = .ok (.iload 9, 2) := by decide +kernel
theorem dX5_measure_117 : decode cX5_measure 117 = .ok (.invokevirtual 66, 3) := by decide +kernel
theorem dX5_measure_120 : decode cX5_measure 120 = .ok (.invokevirtual 157, 3) := by decide +kernel
theorem dX5_measure_123 : decode cX5_measure 123 = .ok (.iadd, 1) := by decide +kernel
theorem dX5_measure_124 : decode cX5_measure 124 = .ok (.istore 8, 2) := by decide +kernel
theorem dX5_measure_126 : decode cX5_measure 126 = .ok (.aload_n 0, 1) := by decide +kernel
theorem dX5_measure_127 : decode cX5_measure 127 = .ok (.getfield 31, 3) := by decide +kernel
theorem dX5_measure_130 : decode cX5_measure 130 = .ok (.iload_n 1, 1) := by decide +kernel
theorem dX5_measure_131 : decode cX5_measure 131 = .ok (.aload_n 0, 1) := by decide +kernel
theorem dX5_measure_132 : decode cX5_measure 132 = .ok (.getfield 31, 3) := by decide +kernel
theorem dX5_measure_135 : decode cX5_measure 135 = .ok (.iload_n 1, 1) := by decide +kernel
theorem dX5_measure_136 : decode cX5_measure 136 = .ok (.iaload, 1) := by decide +kernel
theorem dX5_measure_137 : decode cX5_measure 137 = .ok (.iload 8, 2) := by decide +kernel
theorem dX5_measure_139 : decode cX5_measure 139 = .ok (.invokestatic 161, 3) := by decide +kernel
theorem dX5_measure_142 : decode cX5_measure 142 = .ok (.iastore, 1) := by decide +kernel
theorem dX5_measure_143 : decode cX5_measure 143 = .ok (.iinc 9 1, 3) := by decide +kernel
theorem dX5_measure_146 : decode cX5_measure 146 = .ok (.goto (-68), 3) := by decide +kernel
theorem dX5_measure_149 : decode cX5_measure 149 = .ok (.return_, 1) := by decide +kernel
theorem dX5_risesBy_0 : decode cX5_risesBy 0 = .ok (.aload_n 0, 1) := by decide +kernel
theorem dX5_risesBy_1 : decode cX5_risesBy 1 = .ok (.getfield 37, 3) := by decide +kernel
theorem dX5_risesBy_4 : decode cX5_risesBy 4 = .ok (.iload_n 1, 1) := by decide +kernel
theorem dX5_risesBy_5 : decode cX5_risesBy 5 = .ok (.invokevirtual 166, 3) := by decide +kernel
theorem dX5_risesBy_8 : decode cX5_risesBy 8 = .ok (.aload_n 0, 1) := by decide +kernel
theorem dX5_risesBy_9 : decode cX5_risesBy 9 = .ok (.getfield 37, 3) := by decide +kernel
theorem dX5_risesBy_12 : decode cX5_risesBy 12 = .ok (.iload_n 1, 1) := by decide +kernel
theorem dX5_risesBy_13 : decode cX5_risesBy 13 = .ok (.iload_n 2, 1) := by decide +kernel
theorem dX5_risesBy_14 : decode cX5_risesBy 14 = .ok (.iload_n 3, 1) := by decide +kernel
theorem dX5_risesBy_15 : decode cX5_risesBy 15 = .ok (.invokevirtual 169, 3) := by decide +kernel
theorem dX5_risesBy_18 : decode cX5_risesBy 18 = .ok (.isub, 1) := by decide +kernel
theorem dX5_risesBy_19 : decode cX5_risesBy 19 = .ok (.ireturn, 1) := by decide +kernel
theorem dX5_movePlaces_0 : decode cX5_movePlaces 0 = .ok (.iload_n 1, 1) := by decide +kernel
theorem dX5_movePlaces_1 : decode cX5_movePlaces 1 = .ok (.istore_n 2, 1) := by decide +kernel
theorem dX5_movePlaces_2 : decode cX5_movePlaces 2 = .ok (.iload_n 2, 1) := by decide +kernel
theorem dX5_movePlaces_3 : decode cX5_movePlaces 3 = .ok (.aload_n 0, 1) := by decide +kernel
theorem dX5_movePlaces_4 : decode cX5_movePlaces 4 = .ok (.getfield 12, 3) := by decide +kernel
theorem dX5_movePlaces_7 : decode cX5_movePlaces 7 = .ok (.invokevirtual 80, 3) := by decide +kernel
theorem dX5_movePlaces_10 : decode cX5_movePlaces 10 = .ok (.if_icmp .ge 51, 3) := by decide +kernel
theorem dX5_movePlaces_13 : decode cX5_movePlaces 13 = .ok (.aload_n 0, 1) := by decide +kernel
theorem dX5_movePlaces_14 : decode cX5_movePlaces 14 = .ok (.getfield 12, 3) := by decide +kernel
theorem dX5_movePlaces_17 : decode cX5_movePlaces 17 = .ok (.iload_n 2, 1) := by decide +kernel
theorem dX5_movePlaces_18 : decode cX5_movePlaces 18 = .ok (.invokevirtual 59, 3) := by decide +kernel
theorem dX5_movePlaces_21 : decode cX5_movePlaces 21 = .ok (.istore_n 3, 1) := by decide +kernel
theorem dX5_movePlaces_22 : decode cX5_movePlaces 22 = .ok (.iload_n 3, 1) := by decide +kernel
theorem dX5_movePlaces_23 : decode cX5_movePlaces 23 = .ok (.bipush 8, 2) := by decide +kernel
theorem dX5_movePlaces_25 : decode cX5_movePlaces 25 = .ok (.if_icmp .eq 9, 3) := by decide +kernel
theorem dX5_movePlaces_28 : decode cX5_movePlaces 28 = .ok (.iload_n 3, 1) := by decide +kernel
theorem dX5_movePlaces_29 : decode cX5_movePlaces 29 = .ok (.bipush 9, 2) := by decide +kernel
theorem dX5_movePlaces_31 : decode cX5_movePlaces 31 = .ok (.if_icmp .ne 24, 3) := by decide +kernel
theorem dX5_movePlaces_34 : decode cX5_movePlaces 34 = .ok (.aload_n 0, 1) := by decide +kernel
theorem dX5_movePlaces_35 : decode cX5_movePlaces 35 = .ok (.getfield 12, 3) := by decide +kernel
theorem dX5_movePlaces_38 : decode cX5_movePlaces 38 = .ok (.iload_n 2, 1) := by decide +kernel
theorem dX5_movePlaces_39 : decode cX5_movePlaces 39 = .ok (.aload_n 0, 1) := by decide +kernel
theorem dX5_movePlaces_40 : decode cX5_movePlaces 40 = .ok (.getfield 34, 3) := by decide +kernel
theorem dX5_movePlaces_43 : decode cX5_movePlaces 43 = .ok (.aload_n 0, 1) := by decide +kernel
theorem dX5_movePlaces_44 : decode cX5_movePlaces 44 = .ok (.getfield 12, 3) := by decide +kernel
theorem dX5_movePlaces_47 : decode cX5_movePlaces 47 = .ok (.iload_n 2, 1) := by decide +kernel
theorem dX5_movePlaces_48 : decode cX5_movePlaces 48 = .ok (.invokevirtual 63, 3) := by decide +kernel
theorem dX5_movePlaces_51 : decode cX5_movePlaces 51 = .ok (.iaload, 1) := by decide +kernel
theorem dX5_movePlaces_52 : decode cX5_movePlaces 52 = .ok (.invokevirtual 172, 3) := by decide +kernel
theorem dX5_movePlaces_55 : decode cX5_movePlaces 55 = .ok (.iinc 2 1, 3) := by decide +kernel
theorem dX5_movePlaces_58 : decode cX5_movePlaces 58 = .ok (.goto (-56), 3) := by decide +kernel
theorem dX5_movePlaces_61 : decode cX5_movePlaces 61 = .ok (.return_, 1) := by decide +kernel
end
section
theorem dX10_init_0 : decode cX10_init 0 = .ok (.aload_n 0, 1) := by decide +kernel
theorem dX10_init_1 : decode cX10_init 1 = .ok (.invokespecial 3, 3) := by decide +kernel
theorem dX10_init_4 : decode cX10_init 4 = .ok (.aload_n 0, 1) := by decide +kernel
theorem dX10_init_5 : decode cX10_init 5 = .ok (.new 9, 3) := by decide +kernel
theorem dX10_init_8 : decode cX10_init 8 = .ok (.dup, 1) := by decide +kernel
theorem dX10_init_9 : decode cX10_init 9 = .ok (.invokespecial 11, 3) := by decide +kernel
theorem dX10_init_12 : decode cX10_init 12 = .ok (.putfield 12, 3) := by decide +kernel
theorem dX10_init_15 : decode cX10_init 15 = .ok (.aload_n 0, 1) := by decide +kernel
theorem dX10_init_16 : decode cX10_init 16 = .ok (.new 16, 3) := by decide +kernel
theorem dX10_init_19 : decode cX10_init 19 = .ok (.dup, 1) := by decide +kernel
theorem dX10_init_20 : decode cX10_init 20 = .ok (.aload_n 0, 1) := by decide +kernel
theorem dX10_init_21 : decode cX10_init 21 = .ok (.getfield 12, 3) := by decide +kernel
theorem dX10_init_24 : decode cX10_init 24 = .ok (.invokespecial 18, 3) := by decide +kernel
theorem dX10_init_27 : decode cX10_init 27 = .ok (.putfield 21, 3) := by decide +kernel
theorem dX10_init_30 : decode cX10_init 30 = .ok (.aload_n 0, 1) := by decide +kernel
theorem dX10_init_31 : decode cX10_init 31 = .ok (.new 25, 3) := by decide +kernel
theorem dX10_init_34 : decode cX10_init 34 = .ok (.dup, 1) := by decide +kernel
theorem dX10_init_35 : decode cX10_init 35 = .ok (.aload_n 0, 1) := by decide +kernel
theorem dX10_init_36 : decode cX10_init 36 = .ok (.getfield 12, 3) := by decide +kernel
theorem dX10_init_39 : decode cX10_init 39 = .ok (.aload_n 0, 1) := by decide +kernel
theorem dX10_init_40 : decode cX10_init 40 = .ok (.getfield 21, 3) := by decide +kernel
theorem dX10_init_43 : decode cX10_init 43 = .ok (.invokespecial 27, 3) := by decide +kernel
theorem dX10_init_46 : decode cX10_init 46 = .ok (.putfield 30, 3) := by decide +kernel
theorem dX10_init_49 : decode cX10_init 49 = .ok (.aload_n 0, 1) := by decide +kernel
theorem dX10_init_50 : decode cX10_init 50 = .ok (.new 34, 3) := by decide +kernel
theorem dX10_init_53 : decode cX10_init 53 = .ok (.dup, 1) := by decide +kernel
theorem dX10_init_54 : decode cX10_init 54 = .ok (.aload_n 0, 1) := by decide +kernel
theorem dX10_init_55 : decode cX10_init 55 = .ok (.getfield 12, 3) := by decide +kernel
theorem dX10_init_58 : decode cX10_init 58 = .ok (.aload_n 0, 1) := by decide +kernel
theorem dX10_init_59 : decode cX10_init 59 = .ok (.getfield 30, 3) := by decide +kernel
theorem dX10_init_62 : decode cX10_init 62 = .ok (.invokespecial 36, 3) := by decide +kernel
theorem dX10_init_65 : decode cX10_init 65 = .ok (.putfield 39, 3) := by decide +kernel
theorem dX10_init_68 : decode cX10_init 68 = .ok (.return_, 1) := by decide +kernel
theorem dX10_function_0 : decode cX10_function 0 = .ok (.iload_n 1, 1) := by decide +kernel
theorem dX10_function_1 : decode cX10_function 1 = .ok (.ifCond .lt 8, 3) := by decide +kernel
theorem dX10_function_4 : decode cX10_function 4 = .ok (.iload_n 1, 1) := by decide +kernel
theorem dX10_function_5 : decode cX10_function 5 = .ok (.iconst 3, 1) := by decide +kernel
theorem dX10_function_6 : decode cX10_function 6 = .ok (.if_icmp .le 11, 3) := by decide +kernel
theorem dX10_function_9 : decode cX10_function 9 = .ok (.new 43, 3) := by decide +kernel
theorem dX10_function_12 : decode cX10_function 12 = .ok (.dup, 1) := by decide +kernel
theorem dX10_function_13 : decode cX10_function 13 = .ok (.invokespecial 45, 3) := by decide +kernel
theorem dX10_function_16 : decode cX10_function 16 = .ok (.athrow, 1) := by decide +kernel
theorem dX10_function_17 : decode cX10_function 17 = .ok (.aload_n 0, 1) := by decide +kernel
theorem dX10_function_18 : decode cX10_function 18 = .ok (.getfield 12, 3) := by decide +kernel
theorem dX10_function_21 : decode cX10_function 21 = .ok (.invokevirtual 46, 3) := by decide +kernel
theorem dX10_function_24 : decode cX10_function 24 = .ok (.bipush 12, 2) := by decide +kernel
theorem dX10_function_26 : decode cX10_function 26 = .ok (.if_icmp .ne 11, 3) := by decide +kernel
theorem dX10_function_29 : decode cX10_function 29 = .ok (.new 50, 3) := by decide +kernel
theorem dX10_function_32 : decode cX10_function 32 = .ok (.dup, 1) := by decide +kernel
theorem dX10_function_33 : decode cX10_function 33 = .ok (.invokespecial 52, 3) := by decide +kernel
theorem dX10_function_36 : decode cX10_function 36 = .ok (.athrow, 1) := by decide +kernel
theorem dX10_function_37 : decode cX10_function 37 = .ok (.aload_n 0, 1) := by decide +kernel
theorem dX10_function_38 : decode cX10_function 38 = .ok (.getfield 30, 3) := by decide +kernel
theorem dX10_function_41 : decode cX10_function 41 = .ok (.invokevirtual 53, 3) := by decide +kernel
theorem dX10_function_44 : decode cX10_function 44 = .ok (.aload_n 0, 1) := by decide +kernel
theorem dX10_function_45 : decode cX10_function 45 = .ok (.getfield 12, 3) := by decide +kernel
theorem dX10_function_48 : decode cX10_function 48 = .ok (.iload_n 1, 1) := by decide +kernel
theorem dX10_function_49 : decode cX10_function 49 = .ok (.invokevirtual 56, 3) := by decide +kernel
theorem dX10_function_52 : decode cX10_function 52 = .ok (.ireturn, 1) := by decide +kernel
theorem dX10_code_0 : decode cX10_code 0 = .ok (.aload_n 0, 1) := by decide +kernel
theorem dX10_code_1 : decode cX10_code 1 = .ok (.getfield 12, 3) := by decide +kernel
theorem dX10_code_4 : decode cX10_code 4 = .ok (.iload_n 1, 1) := by decide +kernel
theorem dX10_code_5 : decode cX10_code 5 = .ok (.invokevirtual 60, 3) := by decide +kernel
theorem dX10_code_8 : decode cX10_code 8 = .ok (.ifCond .eq 13, 3) := by decide +kernel
theorem dX10_code_11 : decode cX10_code 11 = .ok (.iload_n 2, 1) := by decide +kernel
theorem dX10_code_12 : decode cX10_code 12 = .ok (.ifCond .lt 9, 3) := by decide +kernel
theorem dX10_code_15 : decode cX10_code 15 = .ok (.iload_n 2, 1) := by decide +kernel
theorem dX10_code_16 : decode cX10_code 16 = .ok (.bipush 15, 2) := by decide +kernel
theorem dX10_code_18 : decode cX10_code 18 = .ok (.if_icmp .le 11, 3) := by decide +kernel
theorem dX10_code_21 : decode cX10_code 21 = .ok (.new 43, 3) := by decide +kernel
theorem dX10_code_24 : decode cX10_code 24 = .ok (.dup, 1) := by decide +kernel
theorem dX10_code_25 : decode cX10_code 25 = .ok (.invokespecial 45, 3) := by decide +kernel
theorem dX10_code_28 : decode cX10_code 28 = .ok (.athrow, 1) := by decide +kernel
theorem dX10_code_29 : decode cX10_code 29 = .ok (.aload_n 0, 1) := by decide +kernel
theorem dX10_code_30 : decode cX10_code 30 = .ok (.getfield 12, 3) := by decide +kernel
theorem dX10_code_33 : decode cX10_code 33 = .ok (.iload_n 1, 1) := by decide +kernel
theorem dX10_code_34 : decode cX10_code 34 = .ok (.invokevirtual 64, 3) := by decide +kernel
theorem dX10_code_37 : decode cX10_code 37 = .ok (.bipush 40, 2) := by decide +kernel
theorem dX10_code_39 : decode cX10_code 39 = .ok (.if_icmp .ne 11, 3) := by decide +kernel
theorem dX10_code_42 : decode cX10_code 42 = .ok (.new 50, 3) := by decide +kernel
theorem dX10_code_45 : decode cX10_code 45 = .ok (.dup, 1) := by decide +kernel
theorem dX10_code_46 : decode cX10_code 46 = .ok (.invokespecial 52, 3) := by decide +kernel
theorem dX10_code_49 : decode cX10_code 49 = .ok (.athrow, 1) := by decide +kernel
theorem dX10_code_50 : decode cX10_code 50 = .ok (.aload_n 0, 1) := by decide +kernel
theorem dX10_code_51 : decode cX10_code 51 = .ok (.getfield 30, 3) := by decide +kernel
theorem dX10_code_54 : decode cX10_code 54 = .ok (.invokevirtual 53, 3) := by decide +kernel
theorem dX10_code_57 : decode cX10_code 57 = .ok (.aload_n 0, 1) := by decide +kernel
theorem dX10_code_58 : decode cX10_code 58 = .ok (.getfield 12, 3) := by decide +kernel
theorem dX10_code_61 : decode cX10_code 61 = .ok (.iload_n 1, 1) := by decide +kernel
theorem dX10_code_62 : decode cX10_code 62 = .ok (.iload_n 2, 1) := by decide +kernel
theorem dX10_code_63 : decode cX10_code 63 = .ok (.iload_n 3, 1) := by decide +kernel
theorem dX10_code_64 : decode cX10_code 64 = .ok (.iload 4, 2) := by decide +kernel
theorem dX10_code_66 : decode cX10_code 66 = .ok (.invokevirtual 67, 3) := by decide +kernel
theorem dX10_code_69 : decode cX10_code 69 = .ok (.ireturn, 1) := by decide +kernel
theorem dX10_recipe_0 : decode cX10_recipe 0 = .ok (.lload_n 1, 1) := by decide +kernel
theorem dX10_recipe_1 : decode cX10_recipe 1 = .ok (.invokestatic 71, 3) := by decide +kernel
theorem dX10_recipe_4 : decode cX10_recipe 4 = .ok (.ifCond .ne 11, 3) := by decide +kernel
theorem dX10_recipe_7 : decode cX10_recipe 7 = .ok (.new 43, 3) := by decide +kernel
theorem dX10_recipe_10 : decode cX10_recipe 10 = .ok (.dup, 1) := by decide +kernel
theorem dX10_recipe_11 : decode cX10_recipe 11 = .ok (.invokespecial 45, 3) := by decide +kernel
theorem dX10_recipe_14 : decode cX10_recipe 14 = .ok (.athrow, 1) := by decide +kernel
theorem dX10_recipe_15 : decode cX10_recipe 15 = .ok (.aload_n 0, 1) := by decide +kernel
theorem dX10_recipe_16 : decode cX10_recipe 16 = .ok (.getfield 12, 3) := by decide +kernel
theorem dX10_recipe_19 : decode cX10_recipe 19 = .ok (.invokevirtual 77, 3) := by decide +kernel
theorem dX10_recipe_22 : decode cX10_recipe 22 = .ok (.invokevirtual 81, 3) := by decide +kernel
theorem dX10_recipe_25 : decode cX10_recipe 25 = .ok (.bipush 8, 2) := by decide +kernel
theorem dX10_recipe_27 : decode cX10_recipe 27 = .ok (.if_icmp .ne 11, 3) := by decide +kernel
theorem dX10_recipe_30 : decode cX10_recipe 30 = .ok (.new 50, 3) := by decide +kernel
theorem dX10_recipe_33 : decode cX10_recipe 33 = .ok (.dup, 1) := by decide +kernel
theorem dX10_recipe_34 : decode cX10_recipe 34 = .ok (.invokespecial 52, 3) := by decide +kernel
theorem dX10_recipe_37 : decode cX10_recipe 37 = .ok (.athrow, 1) := by decide +kernel
theorem dX10_recipe_38 : decode cX10_recipe 38 = .ok (.aload_n 0, 1) := by decide +kernel
theorem dX10_recipe_39 : decode cX10_recipe 39 = .ok (.getfield 30, 3) := by decide +kernel
theorem dX10_recipe_42 : decode cX10_recipe 42 = .ok (.invokevirtual 53, 3) := by decide +kernel
theorem dX10_recipe_45 : decode cX10_recipe 45 = .ok (.aload_n 0, 1) := by decide +kernel
theorem dX10_recipe_46 : decode cX10_recipe 46 = .ok (.getfield 12, 3) := by decide +kernel
theorem dX10_recipe_49 : decode cX10_recipe 49 = .ok (.invokevirtual 77, 3) := by decide +kernel
theorem dX10_recipe_52 : decode cX10_recipe 52 = .ok (.lload_n 1, 1) := by decide +kernel
theorem dX10_recipe_53 : decode cX10_recipe 53 = .ok (.invokevirtual 84, 3) := by decide +kernel
theorem dX10_recipe_56 : decode cX10_recipe 56 = .ok (.ireturn, 1) := by decide +kernel
theorem dX10_check_0 : decode cX10_check 0 = .ok (.iconst 0, 1) := by decide +kernel
theorem dX10_check_1 : decode cX10_check 1 = .ok (.istore_n 1, 1) := by decide +kernel
theorem dX10_check_2 : decode cX10_check 2 = .ok (.iload_n 1, 1) := by decide +kernel
theorem dX10_check_3 : decode cX10_check 3 = .ok (.aload_n 0, 1) := by decide +kernel
theorem dX10_check_4 : decode cX10_check 4 = .ok (.getfield 12, 3) := by decide +kernel
theorem dX10_check_7 : decode cX10_check 7 = .ok (.invokevirtual 46, 3) := by decide +kernel
theorem dX10_check_10 : decode cX10_check 10 = .ok (.if_icmp .ge 30, 3) := by decide +kernel
theorem dX10_check_13 : decode cX10_check 13 = .ok (.aload_n 0, 1) := by decide +kernel
theorem dX10_check_14 : decode cX10_check 14 = .ok (.getfield 21, 3) := by decide +kernel
theorem dX10_check_17 : decode cX10_check 17 = .ok (.iload_n 1, 1) := by decide +kernel
theorem dX10_check_18 : decode cX10_check 18 = .ok (.invokevirtual 88, 3) := by decide +kernel
theorem dX10_check_21 : decode cX10_check 21 = .ok (.istore_n 2, 1) := by decide +kernel
theorem dX10_check_22 : decode cX10_check 22 = .ok (.iload_n 2, 1) := by decide +kernel
theorem dX10_check_23 : decode cX10_check 23 = .ok (.iconst (-1), 1) := by decide +kernel
theorem dX10_check_24 : decode cX10_check 24 = .ok (.if_icmp .eq 10, 3) := by decide +kernel
theorem dX10_check_27 : decode cX10_check 27 = .ok (.bipush 64, 2) := by decide +kernel
theorem dX10_check_29 : decode cX10_check 29 = .ok (.iload_n 1, 1) := by decide +kernel
theorem dX10_check_30 : decode cX10_check 30 = .ok (.imul, 1) := by decide +kernel
theorem dX10_check_31 : decode cX10_check 31 = .ok (.iload_n 2, 1) := by decide +kernel
theorem dX10_check_32 : decode cX10_check 32 = .ok (.iadd, 1) := by decide +kernel
theorem dX10_check_33 : decode cX10_check 33 = .ok (.ireturn, 1) := by decide +kernel
theorem dX10_check_34 : decode cX10_check 34 = .ok (.iinc 1 1, 3) := by decide +kernel
theorem dX10_check_37 : decode cX10_check 37 = .ok (.goto (-35), 3) := by decide +kernel
theorem dX10_check_40 : decode cX10_check 40 = .ok (.iconst (-1), 1) := by decide +kernel
theorem dX10_check_41 : decode cX10_check 41 = .ok (.ireturn, 1) := by decide +kernel
theorem dX10_lower_0 : decode cX10_lower 0 = .ok (.aload_n 0, 1) := by decide +kernel
theorem dX10_lower_1 : decode cX10_lower 1 = .ok (.invokevirtual 91, 3) := by decide +kernel
theorem dX10_lower_4 : decode cX10_lower 4 = .ok (.iconst (-1), 1) := by decide +kernel
theorem dX10_lower_5 : decode cX10_lower 5 = .ok (.if_icmp .ne 13, 3) := by decide +kernel
theorem dX10_lower_8 : decode cX10_lower 8 = .ok (.aload_n 0, 1) := by decide +kernel
theorem dX10_lower_9 : decode cX10_lower 9 = .ok (.getfield 30, 3) := by decide +kernel
theorem dX10_lower_12 : decode cX10_lower 12 = .ok (.invokevirtual 94, 3) := by decide +kernel
theorem dX10_lower_15 : decode cX10_lower 15 = .ok (.goto 4, 3) := by decide +kernel
theorem dX10_lower_18 : decode cX10_lower 18 = .ok (.iconst (-1), 1) := by decide +kernel
theorem dX10_lower_19 : decode cX10_lower 19 = .ok (.ireturn, 1) := by decide +kernel
theorem dX10_count_0 : decode cX10_count 0 = .ok (.iload_n 1, 1) := by decide +kernel
theorem dX10_count_1 : decode cX10_count 1 = .ok (.ifCond .lt 8, 3) := by decide +kernel
theorem dX10_count_4 : decode cX10_count 4 = .ok (.iload_n 1, 1) := by decide +kernel
theorem dX10_count_5 : decode cX10_count 5 = .ok (.iconst 3, 1) := by decide +kernel
theorem dX10_count_6 : decode cX10_count 6 = .ok (.if_icmp .le 11, 3) := by decide +kernel
theorem dX10_count_9 : decode cX10_count 9 = .ok (.new 43, 3) := by decide +kernel
theorem dX10_count_12 : decode cX10_count 12 = .ok (.dup, 1) := by decide +kernel
theorem dX10_count_13 : decode cX10_count 13 = .ok (.invokespecial 45, 3) := by decide +kernel
theorem dX10_count_16 : decode cX10_count 16 = .ok (.athrow, 1) := by decide +kernel
theorem dX10_count_17 : decode cX10_count 17 = .ok (.iload_n 1, 1) := by decide +kernel
theorem dX10_count_18 : decode cX10_count 18 = .ok (.ifCond .ne 11, 3) := by decide +kernel
theorem dX10_count_21 : decode cX10_count 21 = .ok (.aload_n 0, 1) := by decide +kernel
theorem dX10_count_22 : decode cX10_count 22 = .ok (.getfield 12, 3) := by decide +kernel
theorem dX10_count_25 : decode cX10_count 25 = .ok (.invokevirtual 46, 3) := by decide +kernel
theorem dX10_count_28 : decode cX10_count 28 = .ok (.ireturn, 1) := by decide +kernel
theorem dX10_count_29 : decode cX10_count 29 = .ok (.iload_n 1, 1) := by decide +kernel
theorem dX10_count_30 : decode cX10_count 30 = .ok (.iconst 1, 1) := by decide +kernel
theorem dX10_count_31 : decode cX10_count 31 = .ok (.if_icmp .ne 14, 3) := by decide +kernel
theorem dX10_count_34 : decode cX10_count 34 = .ok (.aload_n 0, 1) := by decide +kernel
theorem dX10_count_35 : decode cX10_count 35 = .ok (.getfield 12, 3) := by decide +kernel
theorem dX10_count_38 : decode cX10_count 38 = .ok (.invokevirtual 77, 3) := by decide +kernel
theorem dX10_count_41 : decode cX10_count 41 = .ok (.invokevirtual 81, 3) := by decide +kernel
theorem dX10_count_44 : decode cX10_count 44 = .ok (.ireturn, 1) := by decide +kernel
theorem dX10_count_45 : decode cX10_count 45 = .ok (.aload_n 0, 1) := by decide +kernel
theorem dX10_count_46 : decode cX10_count 46 = .ok (.getfield 30, 3) := by decide +kernel
theorem dX10_count_49 : decode cX10_count 49 = .ok (.invokevirtual 97, 3) := by decide +kernel
theorem dX10_count_52 : decode cX10_count 52 = .ok (.ifCond .ne 11, 3) := by decide +kernel
theorem dX10_count_55 : decode cX10_count 55 = .ok (.new 50, 3) := by decide +kernel
theorem dX10_count_58 : decode cX10_count 58 = .ok (.dup, 1) := by decide +kernel
theorem dX10_count_59 : decode cX10_count 59 = .ok (.invokespecial 52, 3) := by decide +kernel
theorem dX10_count_62 : decode cX10_count 62 = .ok (.athrow, 1) := by decide +kernel
theorem dX10_count_63 : decode cX10_count 63 = .ok (.iload_n 1, 1) := by decide +kernel
theorem dX10_count_64 : decode cX10_count 64 = .ok (.iconst 2, 1) := by decide +kernel
theorem dX10_count_65 : decode cX10_count 65 = .ok (.if_icmp .ne 13, 3) := by decide +kernel
theorem dX10_count_68 : decode cX10_count 68 = .ok (.aload_n 0, 1) := by decide +kernel
theorem dX10_count_69 : decode cX10_count 69 = .ok (.getfield 30, 3) := by decide +kernel
theorem dX10_count_72 : decode cX10_count 72 = .ok (.invokevirtual 101, 3) := by decide +kernel
theorem dX10_count_75 : decode cX10_count 75 = .ok (.goto 13, 3) := by decide +kernel
theorem dX10_count_78 : decode cX10_count 78 = .ok (.aload_n 0, 1) := by decide +kernel
theorem dX10_count_79 : decode cX10_count 79 = .ok (.getfield 12, 3) := by decide +kernel
theorem dX10_count_82 : decode cX10_count 82 = .ok (.invokevirtual 77, 3) := by decide +kernel
theorem dX10_count_85 : decode cX10_count 85 = .ok (.invokevirtual 104, 3) := by decide +kernel
theorem dX10_count_88 : decode cX10_count 88 = .ok (.ireturn, 1) := by decide +kernel
theorem dX10_size_0 : decode cX10_size 0 = .ok (.aload_n 0, 1) := by decide +kernel
theorem dX10_size_1 : decode cX10_size 1 = .ok (.getfield 12, 3) := by decide +kernel
theorem dX10_size_4 : decode cX10_size 4 = .ok (.iload_n 1, 1) := by decide +kernel
theorem dX10_size_5 : decode cX10_size 5 = .ok (.invokevirtual 60, 3) := by decide +kernel
theorem dX10_size_8 : decode cX10_size 8 = .ok (.ifCond .eq 12, 3) := by decide +kernel
theorem dX10_size_11 : decode cX10_size 11 = .ok (.iload_n 2, 1) := by decide +kernel
theorem dX10_size_12 : decode cX10_size 12 = .ok (.ifCond .lt 8, 3) := by decide +kernel
theorem dX10_size_15 : decode cX10_size 15 = .ok (.iload_n 2, 1) := by decide +kernel
theorem dX10_size_16 : decode cX10_size 16 = .ok (.iconst 3, 1) := by decide +kernel
theorem dX10_size_17 : decode cX10_size 17 = .ok (.if_icmp .le 11, 3) := by decide +kernel
theorem dX10_size_20 : decode cX10_size 20 = .ok (.new 43, 3) := by decide +kernel
theorem dX10_size_23 : decode cX10_size 23 = .ok (.dup, 1) := by decide +kernel
theorem dX10_size_24 : decode cX10_size 24 = .ok (.invokespecial 45, 3) := by decide +kernel
theorem dX10_size_27 : decode cX10_size 27 = .ok (.athrow, 1) := by decide +kernel
theorem dX10_size_28 : decode cX10_size 28 = .ok (.iload_n 2, 1) := by decide +kernel
theorem dX10_size_29 : decode cX10_size 29 = .ok (.ifCond .ne 12, 3) := by decide +kernel
theorem dX10_size_32 : decode cX10_size 32 = .ok (.aload_n 0, 1) := by decide +kernel
theorem dX10_size_33 : decode cX10_size 33 = .ok (.getfield 12, 3) := by decide +kernel
theorem dX10_size_36 : decode cX10_size 36 = .ok (.iload_n 1, 1) := by decide +kernel
theorem dX10_size_37 : decode cX10_size 37 = .ok (.invokevirtual 64, 3) := by decide +kernel
theorem dX10_size_40 : decode cX10_size 40 = .ok (.ireturn, 1) := by decide +kernel
theorem dX10_size_41 : decode cX10_size 41 = .ok (.aload_n 0, 1) := by decide +kernel
theorem dX10_size_42 : decode cX10_size 42 = .ok (.getfield 30, 3) := by decide +kernel
theorem dX10_size_45 : decode cX10_size 45 = .ok (.invokevirtual 97, 3) := by decide +kernel
theorem dX10_size_48 : decode cX10_size 48 = .ok (.ifCond .ne 11, 3) := by decide +kernel
theorem dX10_size_51 : decode cX10_size 51 = .ok (.new 50, 3) := by decide +kernel
theorem dX10_size_54 : decode cX10_size 54 = .ok (.dup, 1) := by decide +kernel
theorem dX10_size_55 : decode cX10_size 55 = .ok (.invokespecial 52, 3) := by decide +kernel
theorem dX10_size_58 : decode cX10_size 58 = .ok (.athrow, 1) := by decide +kernel
theorem dX10_size_59 : decode cX10_size 59 = .ok (.iload_n 2, 1) := by decide +kernel
theorem dX10_size_60 : decode cX10_size 60 = .ok (.iconst 1, 1) := by decide +kernel
theorem dX10_size_61 : decode cX10_size 61 = .ok (.if_icmp .ne 12, 3) := by decide +kernel
theorem dX10_size_64 : decode cX10_size 64 = .ok (.aload_n 0, 1) := by decide +kernel
theorem dX10_size_65 : decode cX10_size 65 = .ok (.getfield 30, 3) := by decide +kernel
theorem dX10_size_68 : decode cX10_size 68 = .ok (.iload_n 1, 1) := by decide +kernel
theorem dX10_size_69 : decode cX10_size 69 = .ok (.invokevirtual 107, 3) := by decide +kernel
theorem dX10_size_72 : decode cX10_size 72 = .ok (.ireturn, 1) := by decide +kernel
theorem dX10_size_73 : decode cX10_size 73 = .ok (.iload_n 2, 1) := by decide +kernel
theorem dX10_size_74 : decode cX10_size 74 = .ok (.iconst 2, 1) := by decide +kernel
theorem dX10_size_75 : decode cX10_size 75 = .ok (.if_icmp .ne 14, 3) := by decide +kernel
theorem dX10_size_78 : decode cX10_size 78 = .ok (.aload_n 0, 1) := by decide +kernel
theorem dX10_size_79 : decode cX10_size 79 = .ok (.getfield 30, 3) := by decide +kernel
theorem dX10_size_82 : decode cX10_size 82 = .ok (.iload_n 1, 1) := by decide +kernel
theorem dX10_size_83 : decode cX10_size 83 = .ok (.invokevirtual 108, 3) := by decide +kernel
theorem dX10_size_86 : decode cX10_size 86 = .ok (.goto 11, 3) := by decide +kernel
theorem dX10_size_89 : decode cX10_size 89 = .ok (.aload_n 0, 1) := by decide +kernel
theorem dX10_size_90 : decode cX10_size 90 = .ok (.getfield 30, 3) := by decide +kernel
theorem dX10_size_93 : decode cX10_size 93 = .ok (.iload_n 1, 1) := by decide +kernel
theorem dX10_size_94 : decode cX10_size 94 = .ok (.invokevirtual 111, 3) := by decide +kernel
theorem dX10_size_97 : decode cX10_size 97 = .ok (.ireturn, 1) := by decide +kernel
theorem dX10_plain_0 : decode cX10_plain 0 = .ok (.aload_n 0, 1) := by decide +kernel
theorem dX10_plain_1 : decode cX10_plain 1 = .ok (.getfield 12, 3) := by decide +kernel
theorem dX10_plain_4 : decode cX10_plain 4 = .ok (.iload_n 1, 1) := by decide +kernel
theorem dX10_plain_5 : decode cX10_plain 5 = .ok (.invokevirtual 60, 3) := by decide +kernel
theorem dX10_plain_8 : decode cX10_plain 8 = .ok (.ifCond .eq 16, 3) := by decide +kernel
theorem dX10_plain_11 : decode cX10_plain 11 = .ok (.iload_n 2, 1) := by decide +kernel
theorem dX10_plain_12 : decode cX10_plain 12 = .ok (.ifCond .lt 12, 3) := by decide +kernel
theorem dX10_plain_15 : decode cX10_plain 15 = .ok (.iload_n 3, 1) := by decide +kernel
theorem dX10_plain_16 : decode cX10_plain 16 = .ok (.ifCond .lt 8, 3) := by decide +kernel
theorem dX10_plain_19 : decode cX10_plain 19 = .ok (.iload_n 3, 1) := by decide +kernel
theorem dX10_plain_20 : decode cX10_plain 20 = .ok (.iconst 2, 1) := by decide +kernel
theorem dX10_plain_21 : decode cX10_plain 21 = .ok (.if_icmp .le 11, 3) := by decide +kernel
theorem dX10_plain_24 : decode cX10_plain 24 = .ok (.new 43, 3) := by decide +kernel
theorem dX10_plain_27 : decode cX10_plain 27 = .ok (.dup, 1) := by decide +kernel
theorem dX10_plain_28 : decode cX10_plain 28 = .ok (.invokespecial 45, 3) := by decide +kernel
theorem dX10_plain_31 : decode cX10_plain 31 = .ok (.athrow, 1) := by decide +kernel
theorem dX10_plain_32 : decode cX10_plain 32 = .ok (.aload_n 0, 1) := by decide +kernel
theorem dX10_plain_33 : decode cX10_plain 33 = .ok (.getfield 30, 3) := by decide +kernel
theorem dX10_plain_36 : decode cX10_plain 36 = .ok (.invokevirtual 97, 3) := by decide +kernel
theorem dX10_plain_39 : decode cX10_plain 39 = .ok (.ifCond .ne 11, 3) := by decide +kernel
theorem dX10_plain_42 : decode cX10_plain 42 = .ok (.new 50, 3) := by decide +kernel
theorem dX10_plain_45 : decode cX10_plain 45 = .ok (.dup, 1) := by decide +kernel
theorem dX10_plain_46 : decode cX10_plain 46 = .ok (.invokespecial 52, 3) := by decide +kernel
theorem dX10_plain_49 : decode cX10_plain 49 = .ok (.athrow, 1) := by decide +kernel
theorem dX10_plain_50 : decode cX10_plain 50 = .ok (.iload_n 2, 1) := by decide +kernel
theorem dX10_plain_51 : decode cX10_plain 51 = .ok (.aload_n 0, 1) := by decide +kernel
theorem dX10_plain_52 : decode cX10_plain 52 = .ok (.getfield 30, 3) := by decide +kernel
theorem dX10_plain_55 : decode cX10_plain 55 = .ok (.iload_n 1, 1) := by decide +kernel
theorem dX10_plain_56 : decode cX10_plain 56 = .ok (.invokevirtual 107, 3) := by decide +kernel
theorem dX10_plain_59 : decode cX10_plain 59 = .ok (.if_icmp .lt 11, 3) := by decide +kernel
theorem dX10_plain_62 : decode cX10_plain 62 = .ok (.new 43, 3) := by decide +kernel
theorem dX10_plain_65 : decode cX10_plain 65 = .ok (.dup, 1) := by decide +kernel
theorem dX10_plain_66 : decode cX10_plain 66 = .ok (.invokespecial 45, 3) := by decide +kernel
theorem dX10_plain_69 : decode cX10_plain 69 = .ok (.athrow, 1) := by decide +kernel
theorem dX10_plain_70 : decode cX10_plain 70 = .ok (.iload_n 3, 1) := by decide +kernel
theorem dX10_plain_71 : decode cX10_plain 71 = .ok (.ifCond .ne 13, 3) := by decide +kernel
theorem dX10_plain_74 : decode cX10_plain 74 = .ok (.aload_n 0, 1) := by decide +kernel
theorem dX10_plain_75 : decode cX10_plain 75 = .ok (.getfield 30, 3) := by decide +kernel
theorem dX10_plain_78 : decode cX10_plain 78 = .ok (.iload_n 1, 1) := by decide +kernel
theorem dX10_plain_79 : decode cX10_plain 79 = .ok (.iload_n 2, 1) := by decide +kernel
theorem dX10_plain_80 : decode cX10_plain 80 = .ok (.invokevirtual 114, 3) := by decide +kernel
theorem dX10_plain_83 : decode cX10_plain 83 = .ok (.ireturn, 1) := by decide +kernel
theorem dX10_plain_84 : decode cX10_plain 84 = .ok (.iload_n 3, 1) := by decide +kernel
theorem dX10_plain_85 : decode cX10_plain 85 = .ok (.iconst 1, 1) := by decide +kernel
theorem dX10_plain_86 : decode cX10_plain 86 = .ok (.if_icmp .ne 15, 3) := by decide +kernel
theorem dX10_plain_89 : decode cX10_plain 89 = .ok (.aload_n 0, 1) := by decide +kernel
theorem dX10_plain_90 : decode cX10_plain 90 = .ok (.getfield 30, 3) := by decide +kernel
theorem dX10_plain_93 : decode cX10_plain 93 = .ok (.iload_n 1, 1) := by decide +kernel
theorem dX10_plain_94 : decode cX10_plain 94 = .ok (.iload_n 2, 1) := by decide +kernel
theorem dX10_plain_95 : decode cX10_plain 95 = .ok (.invokevirtual 118, 3) := by decide +kernel
theorem dX10_plain_98 : decode cX10_plain 98 = .ok (.goto 12, 3) := by decide +kernel
theorem dX10_plain_101 : decode cX10_plain 101 = .ok (.aload_n 0, 1) := by decide +kernel
theorem dX10_plain_102 : decode cX10_plain 102 = .ok (.getfield 30, 3) := by decide +kernel
theorem dX10_plain_105 : decode cX10_plain 105 = .ok (.iload_n 1, 1) := by decide +kernel
theorem dX10_plain_106 : decode cX10_plain 106 = .ok (.iload_n 2, 1) := by decide +kernel
theorem dX10_plain_107 : decode cX10_plain 107 = .ok (.invokevirtual 121, 3) := by decide +kernel
theorem dX10_plain_110 : decode cX10_plain 110 = .ok (.ireturn, 1) := by decide +kernel
theorem dX10_made_0 : decode cX10_made 0 = .ok (.iload_n 1, 1) := by decide +kernel
theorem dX10_made_1 : decode cX10_made 1 = .ok (.ifCond .lt 12, 3) := by decide +kernel
theorem dX10_made_4 : decode cX10_made 4 = .ok (.iload_n 2, 1) := by decide +kernel
theorem dX10_made_5 : decode cX10_made 5 = .ok (.ifCond .lt 8, 3) := by decide +kernel
theorem dX10_made_8 : decode cX10_made 8 = .ok (.iload_n 2, 1) := by decide +kernel
theorem dX10_made_9 : decode cX10_made 9 = .ok (.iconst 2, 1) := by decide +kernel
theorem dX10_made_10 : decode cX10_made 10 = .ok (.if_icmp .le 11, 3) := by decide +kernel
theorem dX10_made_13 : decode cX10_made 13 = .ok (.new 43, 3) := by decide +kernel
theorem dX10_made_16 : decode cX10_made 16 = .ok (.dup, 1) := by decide +kernel
theorem dX10_made_17 : decode cX10_made 17 = .ok (.invokespecial 45, 3) := by decide +kernel
theorem dX10_made_20 : decode cX10_made 20 = .ok (.athrow, 1) := by decide +kernel
theorem dX10_made_21 : decode cX10_made 21 = .ok (.aload_n 0, 1) := by decide +kernel
theorem dX10_made_22 : decode cX10_made 22 = .ok (.getfield 30, 3) := by decide +kernel
theorem dX10_made_25 : decode cX10_made 25 = .ok (.invokevirtual 97, 3) := by decide +kernel
theorem dX10_made_28 : decode cX10_made 28 = .ok (.ifCond .ne 11, 3) := by decide +kernel
theorem dX10_made_31 : decode cX10_made 31 = .ok (.new 50, 3) := by decide +kernel
theorem dX10_made_34 : decode cX10_made 34 = .ok (.dup, 1) := by decide +kernel
theorem dX10_made_35 : decode cX10_made 35 = .ok (.invokespecial 52, 3) := by decide +kernel
theorem dX10_made_38 : decode cX10_made 38 = .ok (.athrow, 1) := by decide +kernel
theorem dX10_made_39 : decode cX10_made 39 = .ok (.iload_n 1, 1) := by decide +kernel
theorem dX10_made_40 : decode cX10_made 40 = .ok (.aload_n 0, 1) := by decide +kernel
theorem dX10_made_41 : decode cX10_made 41 = .ok (.getfield 30, 3) := by decide +kernel
theorem dX10_made_44 : decode cX10_made 44 = .ok (.invokevirtual 101, 3) := by decide +kernel
theorem dX10_made_47 : decode cX10_made 47 = .ok (.if_icmp .lt 11, 3) := by decide +kernel
theorem dX10_made_50 : decode cX10_made 50 = .ok (.new 43, 3) := by decide +kernel
theorem dX10_made_53 : decode cX10_made 53 = .ok (.dup, 1) := by decide +kernel
theorem dX10_made_54 : decode cX10_made 54 = .ok (.invokespecial 45, 3) := by decide +kernel
theorem dX10_made_57 : decode cX10_made 57 = .ok (.athrow, 1) := by decide +kernel
theorem dX10_made_58 : decode cX10_made 58 = .ok (.iload_n 2, 1) := by decide +kernel
theorem dX10_made_59 : decode cX10_made 59 = .ok (.ifCond .ne 12, 3) := by decide +kernel
theorem dX10_made_62 : decode cX10_made 62 = .ok (.aload_n 0, 1) := by decide +kernel
theorem dX10_made_63 : decode cX10_made 63 = .ok (.getfield 30, 3) := by decide +kernel
theorem dX10_made_66 : decode cX10_made 66 = .ok (.iload_n 1, 1) := by decide +kernel
theorem dX10_made_67 : decode cX10_made 67 = .ok (.invokevirtual 124, 3) := by decide +kernel
theorem dX10_made_70 : decode cX10_made 70 = .ok (.ireturn, 1) := by decide +kernel
theorem dX10_made_71 : decode cX10_made 71 = .ok (.iload_n 2, 1) := by decide +kernel
theorem dX10_made_72 : decode cX10_made 72 = .ok (.iconst 1, 1) := by decide +kernel
theorem dX10_made_73 : decode cX10_made 73 = .ok (.if_icmp .ne 14, 3) := by decide +kernel
theorem dX10_made_76 : decode cX10_made 76 = .ok (.aload_n 0, 1) := by decide +kernel
theorem dX10_made_77 : decode cX10_made 77 = .ok (.getfield 30, 3) := by decide +kernel
theorem dX10_made_80 : decode cX10_made 80 = .ok (.iload_n 1, 1) := by decide +kernel
theorem dX10_made_81 : decode cX10_made 81 = .ok (.invokevirtual 127, 3) := by decide +kernel
theorem dX10_made_84 : decode cX10_made 84 = .ok (.goto 18, 3) := by decide +kernel
theorem dX10_made_87 : decode cX10_made 87 = .ok (.aload_n 0, 1) := by decide +kernel
theorem dX10_made_88 : decode cX10_made 88 = .ok (.getfield 30, 3) := by decide +kernel
theorem dX10_made_91 : decode cX10_made 91 = .ok (.aload_n 0, 1) := by decide +kernel
theorem dX10_made_92 : decode cX10_made 92 = .ok (.getfield 30, 3) := by decide +kernel
theorem dX10_made_95 : decode cX10_made 95 = .ok (.iload_n 1, 1) := by decide +kernel
theorem dX10_made_96 : decode cX10_made 96 = .ok (.invokevirtual 130, 3) := by decide +kernel
theorem dX10_made_99 : decode cX10_made 99 = .ok (.invokevirtual 107, 3) := by decide +kernel
theorem dX10_made_102 : decode cX10_made 102 = .ok (.ireturn, 1) := by decide +kernel
theorem dX10_character_0 : decode cX10_character 0 = .ok (.iload_n 1, 1) := by decide +kernel
theorem dX10_character_1 : decode cX10_character 1 = .ok (.ifCond .ge 11, 3) := by decide +kernel
theorem dX10_character_4 : decode cX10_character 4 = .ok (.new 43, 3) := by decide +kernel
theorem dX10_character_7 : decode cX10_character 7 = .ok (.dup, 1) := by decide +kernel
theorem dX10_character_8 : decode cX10_character 8 = .ok (.invokespecial 45, 3) := by decide +kernel
theorem dX10_character_11 : decode cX10_character 11 = .ok (.athrow, 1) := by decide +kernel
theorem dX10_character_12 : decode cX10_character 12 = .ok (.aload_n 0, 1) := by decide +kernel
theorem dX10_character_13 : decode cX10_character 13 = .ok (.getfield 30, 3) := by decide +kernel
theorem dX10_character_16 : decode cX10_character 16 = .ok (.invokevirtual 97, 3) := by decide +kernel
theorem dX10_character_19 : decode cX10_character 19 = .ok (.ifCond .ne 11, 3) := by decide +kernel
theorem dX10_character_22 : decode cX10_character 22 = .ok (.new 50, 3) := by decide +kernel
theorem dX10_character_25 : decode cX10_character 25 = .ok (.dup, 1) := by decide +kernel
theorem dX10_character_26 : decode cX10_character 26 = .ok (.invokespecial 52, 3) := by decide +kernel
theorem dX10_character_29 : decode cX10_character 29 = .ok (.athrow, 1) := by decide +kernel
theorem dX10_character_30 : decode cX10_character 30 = .ok (.iload_n 1, 1) := by decide +kernel
theorem dX10_character_31 : decode cX10_character 31 = .ok (.aload_n 0, 1) := by decide +kernel
theorem dX10_character_32 : decode cX10_character 32 = .ok (.getfield 12, 3) := by decide +kernel
theorem dX10_character_35 : decode cX10_character 35 = .ok (.invokevirtual 77, 3) := by decide +kernel
theorem dX10_character_38 : decode cX10_character 38 = .ok (.invokevirtual 104, 3) := by decide +kernel
theorem dX10_character_41 : decode cX10_character 41 = .ok (.if_icmp .lt 11, 3) := by decide +kernel
theorem dX10_character_44 : decode cX10_character 44 = .ok (.new 43, 3) := by decide +kernel
theorem dX10_character_47 : decode cX10_character 47 = .ok (.dup, 1) := by decide +kernel
theorem dX10_character_48 : decode cX10_character 48 = .ok (.invokespecial 45, 3) := by decide +kernel
theorem dX10_character_51 : decode cX10_character 51 = .ok (.athrow, 1) := by decide +kernel
theorem dX10_character_52 : decode cX10_character 52 = .ok (.aload_n 0, 1) := by decide +kernel
theorem dX10_character_53 : decode cX10_character 53 = .ok (.getfield 12, 3) := by decide +kernel
theorem dX10_character_56 : decode cX10_character 56 = .ok (.invokevirtual 77, 3) := by decide +kernel
theorem dX10_character_59 : decode cX10_character 59 = .ok (.iload_n 1, 1) := by decide +kernel
theorem dX10_character_60 : decode cX10_character 60 = .ok (.invokevirtual 133, 3) := by decide +kernel
theorem dX10_character_63 : decode cX10_character 63 = .ok (.ireturn, 1) := by decide +kernel
theorem dX10_run_0 : decode cX10_run 0 = .ok (.aload_n 0, 1) := by decide +kernel
theorem dX10_run_1 : decode cX10_run 1 = .ok (.getfield 12, 3) := by decide +kernel
theorem dX10_run_4 : decode cX10_run 4 = .ok (.iload_n 1, 1) := by decide +kernel
theorem dX10_run_5 : decode cX10_run 5 = .ok (.invokevirtual 60, 3) := by decide +kernel
theorem dX10_run_8 : decode cX10_run 8 = .ok (.ifCond .ne 11, 3) := by decide +kernel
theorem dX10_run_11 : decode cX10_run 11 = .ok (.new 43, 3) := by decide +kernel
theorem dX10_run_14 : decode cX10_run 14 = .ok (.dup, 1) := by decide +kernel
theorem dX10_run_15 : decode cX10_run 15 = .ok (.invokespecial 45, 3) := by decide +kernel
theorem dX10_run_18 : decode cX10_run 18 = .ok (.athrow, 1) := by decide +kernel
theorem dX10_run_19 : decode cX10_run 19 = .ok (.aload_n 0, 1) := by decide +kernel
theorem dX10_run_20 : decode cX10_run 20 = .ok (.getfield 30, 3) := by decide +kernel
theorem dX10_run_23 : decode cX10_run 23 = .ok (.invokevirtual 97, 3) := by decide +kernel
theorem dX10_run_26 : decode cX10_run 26 = .ok (.ifCond .ne 11, 3) := by decide +kernel
theorem dX10_run_29 : decode cX10_run 29 = .ok (.new 50, 3) := by decide +kernel
theorem dX10_run_32 : decode cX10_run 32 = .ok (.dup, 1) := by decide +kernel
theorem dX10_run_33 : decode cX10_run 33 = .ok (.invokespecial 52, 3) := by decide +kernel
theorem dX10_run_36 : decode cX10_run 36 = .ok (.athrow, 1) := by decide +kernel
theorem dX10_run_37 : decode cX10_run 37 = .ok (.aload_n 0, 1) := by decide +kernel
theorem dX10_run_38 : decode cX10_run 38 = .ok (.getfield 39, 3) := by decide +kernel
theorem dX10_run_41 : decode cX10_run 41 = .ok (.iload_n 1, 1) := by decide +kernel
theorem dX10_run_42 : decode cX10_run 42 = .ok (.iload_n 2, 1) := by decide +kernel
theorem dX10_run_43 : decode cX10_run 43 = .ok (.iload_n 3, 1) := by decide +kernel
theorem dX10_run_44 : decode cX10_run 44 = .ok (.iload 4, 2) := by decide +kernel
theorem dX10_run_46 : decode cX10_run 46 = .ok (.iload 5, 2) := by decide +kernel
theorem dX10_run_48 : decode cX10_run 48 = .ok (.invokevirtual 136, 3) := by decide +kernel
theorem dX10_run_51 : decode cX10_run 51 = .ok (.ireturn, 1) := by decide +kernel
theorem dX10_told_0 : decode cX10_told 0 = .ok (.iload_n 1, 1) := by decide +kernel
theorem dX10_told_1 : decode cX10_told 1 = .ok (.tableswitch 63 0 3 #[31, 39, 47, 55], 31) := by decide +kernel
theorem dX10_told_32 : decode cX10_told 32 = .ok (.aload_n 0, 1) := by decide +kernel
theorem dX10_told_33 : decode cX10_told 33 = .ok (.getfield 39, 3) := by decide +kernel
theorem dX10_told_36 : decode cX10_told 36 = .ok (.invokevirtual 140, 3) := by decide +kernel
theorem dX10_told_39 : decode cX10_told 39 = .ok (.ireturn, 1) := by decide +kernel
theorem dX10_told_40 : decode cX10_told 40 = .ok (.aload_n 0, 1) := by decide +kernel
theorem dX10_told_41 : decode cX10_told 41 = .ok (.getfield 39, 3) := by decide +kernel
theorem dX10_told_44 : decode cX10_told 44 = .ok (.invokevirtual 143, 3) := by decide +kernel
theorem dX10_told_47 : decode cX10_told 47 = .ok (.ireturn, 1) := by decide +kernel
theorem dX10_told_48 : decode cX10_told 48 = .ok (.aload_n 0, 1) := by decide +kernel
theorem dX10_told_49 : decode cX10_told 49 = .ok (.getfield 39, 3) := by decide +kernel
theorem dX10_told_52 : decode cX10_told 52 = .ok (.invokevirtual 146, 3) := by decide +kernel
theorem dX10_told_55 : decode cX10_told 55 = .ok (.ireturn, 1) := by decide +kernel
theorem dX10_told_56 : decode cX10_told 56 = .ok (.aload_n 0, 1) := by decide +kernel
theorem dX10_told_57 : decode cX10_told 57 = .ok (.getfield 39, 3) := by decide +kernel
theorem dX10_told_60 : decode cX10_told 60 = .ok (.invokevirtual 149, 3) := by decide +kernel
theorem dX10_told_63 : decode cX10_told 63 = .ok (.ireturn, 1) := by decide +kernel
theorem dX10_told_64 : decode cX10_told 64 = .ok (.new 43, 3) := by decide +kernel
theorem dX10_told_67 : decode cX10_told 67 = .ok (.dup, 1) := by decide +kernel
theorem dX10_told_68 : decode cX10_told 68 = .ok (.invokespecial 45, 3) := by decide +kernel
theorem dX10_told_71 : decode cX10_told 71 = .ok (.athrow, 1) := by decide +kernel
theorem dX10_said_0 : decode cX10_said 0 = .ok (.iload_n 1, 1) := by decide +kernel
theorem dX10_said_1 : decode cX10_said 1 = .ok (.ifCond .lt 14, 3) := by decide +kernel
theorem dX10_said_4 : decode cX10_said 4 = .ok (.iload_n 1, 1) := by decide +kernel
theorem dX10_said_5 : decode cX10_said 5 = .ok (.aload_n 0, 1) := by decide +kernel
theorem dX10_said_6 : decode cX10_said 6 = .ok (.getfield 39, 3) := by decide +kernel
theorem dX10_said_9 : decode cX10_said 9 = .ok (.invokevirtual 140, 3) := by decide +kernel
theorem dX10_said_12 : decode cX10_said 12 = .ok (.if_icmp .lt 11, 3) := by decide +kernel
theorem dX10_said_15 : decode cX10_said 15 = .ok (.new 43, 3) := by decide +kernel
theorem dX10_said_18 : decode cX10_said 18 = .ok (.dup, 1) := by decide +kernel
theorem dX10_said_19 : decode cX10_said 19 = .ok (.invokespecial 45, 3) := by decide +kernel
theorem dX10_said_22 : decode cX10_said 22 = .ok (.athrow, 1) := by decide +kernel
theorem dX10_said_23 : decode cX10_said 23 = .ok (.aload_n 0, 1) := by decide +kernel
theorem dX10_said_24 : decode cX10_said 24 = .ok (.getfield 39, 3) := by decide +kernel
theorem dX10_said_27 : decode cX10_said 27 = .ok (.iload_n 1, 1) := by decide +kernel
theorem dX10_said_28 : decode cX10_said 28 = .ok (.invokevirtual 152, 3) := by decide +kernel
theorem dX10_said_31 : decode cX10_said 31 = .ok (.ireturn, 1) := by decide +kernel
theorem dX10_valueOf_0 : decode cX10_valueOf 0 = .ok (.iload_n 0, 1) := by decide +kernel
theorem dX10_valueOf_1 : decode cX10_valueOf 1 = .ok (.i2l, 1) := by decide +kernel
theorem dX10_valueOf_2 : decode cX10_valueOf 2 = .ok (.bipush 32, 2) := by decide +kernel
theorem dX10_valueOf_4 : decode cX10_valueOf 4 = .ok (.lshl, 1) := by decide +kernel
theorem dX10_valueOf_5 : decode cX10_valueOf 5 = .ok (.iload_n 1, 1) := by decide +kernel
theorem dX10_valueOf_6 : decode cX10_valueOf 6 = .ok (.i2l, 1) := by decide +kernel
theorem dX10_valueOf_7 : decode cX10_valueOf 7 = .ok (.ldc2_w 155, 3) := by decide +kernel
theorem dX10_valueOf_10 : decode cX10_valueOf 10 = .ok (.land, 1) := by decide +kernel
theorem dX10_valueOf_11 : decode cX10_valueOf 11 = .ok (.lor, 1) := by decide +kernel
theorem dX10_valueOf_12 : decode cX10_valueOf 12 = .ok (.lreturn, 1) := by decide +kernel
theorem dX10_kindOf_0 : decode cX10_kindOf 0 = .ok (.lload_n 0, 1) := by decide +kernel
theorem dX10_kindOf_1 : decode cX10_kindOf 1 = .ok (.bipush 32, 2) := by decide +kernel
theorem dX10_kindOf_3 : decode cX10_kindOf 3 = .ok (.lshr, 1) := by decide +kernel
theorem dX10_kindOf_4 : decode cX10_kindOf 4 = .ok (.l2i, 1) := by decide +kernel
theorem dX10_kindOf_5 : decode cX10_kindOf 5 = .ok (.ireturn, 1) := by decide +kernel
theorem dX10_contentOf_0 : decode cX10_contentOf 0 = .ok (.lload_n 0, 1) := by decide +kernel
theorem dX10_contentOf_1 : decode cX10_contentOf 1 = .ok (.l2i, 1) := by decide +kernel
theorem dX10_contentOf_2 : decode cX10_contentOf 2 = .ok (.ireturn, 1) := by decide +kernel
theorem dL_function_0 : decode cL_function 0 = .ok (.aload_n 2, 1) := by decide +kernel
theorem dL_function_1 : decode cL_function 1 = .ok (.iconst 0, 1) := by decide +kernel
theorem dL_function_2 : decode cL_function 2 = .ok (.aload_n 0, 1) := by decide +kernel
theorem dL_function_3 : decode cL_function 3 = .ok (.iload_n 1, 1) := by decide +kernel
theorem dL_function_4 : decode cL_function 4 = .ok (.invokevirtual 7, 3) := by decide +kernel
theorem dL_function_7 : decode cL_function 7 = .ok (.i2l, 1) := by decide +kernel
theorem dL_function_8 : decode cL_function 8 = .ok (.lastore, 1) := by decide +kernel
theorem dL_function_9 : decode cL_function 9 = .ok (.goto 9, 3) := by decide +kernel
theorem dL_function_12 : decode cL_function 12 = .ok (.astore_n 3, 1) := by decide +kernel
theorem dL_function_13 : decode cL_function 13 = .ok (.iconst 1, 1) := by decide +kernel
theorem dL_function_14 : decode cL_function 14 = .ok (.ireturn, 1) := by decide +kernel
theorem dL_function_15 : decode cL_function 15 = .ok (.astore_n 3, 1) := by decide +kernel
theorem dL_function_16 : decode cL_function 16 = .ok (.iconst 2, 1) := by decide +kernel
theorem dL_function_17 : decode cL_function 17 = .ok (.ireturn, 1) := by decide +kernel
theorem dL_function_18 : decode cL_function 18 = .ok (.iconst 0, 1) := by decide +kernel
theorem dL_function_19 : decode cL_function 19 = .ok (.ireturn, 1) := by decide +kernel
theorem dL_code_0 : decode cL_code 0 = .ok (.aload 5, 2) := by decide +kernel
theorem dL_code_2 : decode cL_code 2 = .ok (.iconst 0, 1) := by decide +kernel
theorem dL_code_3 : decode cL_code 3 = .ok (.aload_n 0, 1) := by decide +kernel
theorem dL_code_4 : decode cL_code 4 = .ok (.iload_n 1, 1) := by decide +kernel
theorem dL_code_5 : decode cL_code 5 = .ok (.iload_n 2, 1) := by decide +kernel
theorem dL_code_6 : decode cL_code 6 = .ok (.iload_n 3, 1) := by decide +kernel
theorem dL_code_7 : decode cL_code 7 = .ok (.iload 4, 2) := by decide +kernel
theorem dL_code_9 : decode cL_code 9 = .ok (.invokevirtual 17, 3) := by decide +kernel
theorem dL_code_12 : decode cL_code 12 = .ok (.i2l, 1) := by decide +kernel
theorem dL_code_13 : decode cL_code 13 = .ok (.lastore, 1) := by decide +kernel
theorem dL_code_14 : decode cL_code 14 = .ok (.goto 11, 3) := by decide +kernel
theorem dL_code_17 : decode cL_code 17 = .ok (.astore 6, 2) := by decide +kernel
theorem dL_code_19 : decode cL_code 19 = .ok (.iconst 1, 1) := by decide +kernel
theorem dL_code_20 : decode cL_code 20 = .ok (.ireturn, 1) := by decide +kernel
theorem dL_code_21 : decode cL_code 21 = .ok (.astore 6, 2) := by decide +kernel
theorem dL_code_23 : decode cL_code 23 = .ok (.iconst 2, 1) := by decide +kernel
theorem dL_code_24 : decode cL_code 24 = .ok (.ireturn, 1) := by decide +kernel
theorem dL_code_25 : decode cL_code 25 = .ok (.iconst 0, 1) := by decide +kernel
theorem dL_code_26 : decode cL_code 26 = .ok (.ireturn, 1) := by decide +kernel
theorem dL_recipe_0 : decode cL_recipe 0 = .ok (.aload_n 3, 1) := by decide +kernel
theorem dL_recipe_1 : decode cL_recipe 1 = .ok (.iconst 0, 1) := by decide +kernel
theorem dL_recipe_2 : decode cL_recipe 2 = .ok (.aload_n 0, 1) := by decide +kernel
theorem dL_recipe_3 : decode cL_recipe 3 = .ok (.lload_n 1, 1) := by decide +kernel
theorem dL_recipe_4 : decode cL_recipe 4 = .ok (.invokevirtual 21, 3) := by decide +kernel
theorem dL_recipe_7 : decode cL_recipe 7 = .ok (.i2l, 1) := by decide +kernel
theorem dL_recipe_8 : decode cL_recipe 8 = .ok (.lastore, 1) := by decide +kernel
theorem dL_recipe_9 : decode cL_recipe 9 = .ok (.goto 11, 3) := by decide +kernel
theorem dL_recipe_12 : decode cL_recipe 12 = .ok (.astore 4, 2) := by decide +kernel
theorem dL_recipe_14 : decode cL_recipe 14 = .ok (.iconst 1, 1) := by decide +kernel
theorem dL_recipe_15 : decode cL_recipe 15 = .ok (.ireturn, 1) := by decide +kernel
theorem dL_recipe_16 : decode cL_recipe 16 = .ok (.astore 4, 2) := by decide +kernel
theorem dL_recipe_18 : decode cL_recipe 18 = .ok (.iconst 2, 1) := by decide +kernel
theorem dL_recipe_19 : decode cL_recipe 19 = .ok (.ireturn, 1) := by decide +kernel
theorem dL_recipe_20 : decode cL_recipe 20 = .ok (.iconst 0, 1) := by decide +kernel
theorem dL_recipe_21 : decode cL_recipe 21 = .ok (.ireturn, 1) := by decide +kernel
theorem dL_count_0 : decode cL_count 0 = .ok (.aload_n 2, 1) := by decide +kernel
theorem dL_count_1 : decode cL_count 1 = .ok (.iconst 0, 1) := by decide +kernel
theorem dL_count_2 : decode cL_count 2 = .ok (.aload_n 0, 1) := by decide +kernel
theorem dL_count_3 : decode cL_count 3 = .ok (.iload_n 1, 1) := by decide +kernel
theorem dL_count_4 : decode cL_count 4 = .ok (.invokevirtual 25, 3) := by decide +kernel
theorem dL_count_7 : decode cL_count 7 = .ok (.i2l, 1) := by decide +kernel
theorem dL_count_8 : decode cL_count 8 = .ok (.lastore, 1) := by decide +kernel
theorem dL_count_9 : decode cL_count 9 = .ok (.goto 9, 3) := by decide +kernel
theorem dL_count_12 : decode cL_count 12 = .ok (.astore_n 3, 1) := by decide +kernel
theorem dL_count_13 : decode cL_count 13 = .ok (.iconst 1, 1) := by decide +kernel
theorem dL_count_14 : decode cL_count 14 = .ok (.ireturn, 1) := by decide +kernel
theorem dL_count_15 : decode cL_count 15 = .ok (.astore_n 3, 1) := by decide +kernel
theorem dL_count_16 : decode cL_count 16 = .ok (.iconst 2, 1) := by decide +kernel
theorem dL_count_17 : decode cL_count 17 = .ok (.ireturn, 1) := by decide +kernel
theorem dL_count_18 : decode cL_count 18 = .ok (.iconst 0, 1) := by decide +kernel
theorem dL_count_19 : decode cL_count 19 = .ok (.ireturn, 1) := by decide +kernel
theorem dL_size_0 : decode cL_size 0 = .ok (.aload_n 3, 1) := by decide +kernel
theorem dL_size_1 : decode cL_size 1 = .ok (.iconst 0, 1) := by decide +kernel
theorem dL_size_2 : decode cL_size 2 = .ok (.aload_n 0, 1) := by decide +kernel
theorem dL_size_3 : decode cL_size 3 = .ok (.iload_n 1, 1) := by decide +kernel
theorem dL_size_4 : decode cL_size 4 = .ok (.iload_n 2, 1) := by decide +kernel
theorem dL_size_5 : decode cL_size 5 = .ok (.invokevirtual 28, 3) := by decide +kernel
theorem dL_size_8 : decode cL_size 8 = .ok (.i2l, 1) := by decide +kernel
theorem dL_size_9 : decode cL_size 9 = .ok (.lastore, 1) := by decide +kernel
theorem dL_size_10 : decode cL_size 10 = .ok (.goto 11, 3) := by decide +kernel
theorem dL_size_13 : decode cL_size 13 = .ok (.astore 4, 2) := by decide +kernel
theorem dL_size_15 : decode cL_size 15 = .ok (.iconst 1, 1) := by decide +kernel
theorem dL_size_16 : decode cL_size 16 = .ok (.ireturn, 1) := by decide +kernel
theorem dL_size_17 : decode cL_size 17 = .ok (.astore 4, 2) := by decide +kernel
theorem dL_size_19 : decode cL_size 19 = .ok (.iconst 2, 1) := by decide +kernel
theorem dL_size_20 : decode cL_size 20 = .ok (.ireturn, 1) := by decide +kernel
theorem dL_size_21 : decode cL_size 21 = .ok (.iconst 0, 1) := by decide +kernel
theorem dL_size_22 : decode cL_size 22 = .ok (.ireturn, 1) := by decide +kernel
theorem dL_plain_0 : decode cL_plain 0 = .ok (.aload 4, 2) := by decide +kernel
theorem dL_plain_2 : decode cL_plain 2 = .ok (.iconst 0, 1) := by decide +kernel
theorem dL_plain_3 : decode cL_plain 3 = .ok (.aload_n 0, 1) := by decide +kernel
theorem dL_plain_4 : decode cL_plain 4 = .ok (.iload_n 1, 1) := by decide +kernel
theorem dL_plain_5 : decode cL_plain 5 = .ok (.iload_n 2, 1) := by decide +kernel
theorem dL_plain_6 : decode cL_plain 6 = .ok (.iload_n 3, 1) := by decide +kernel
theorem dL_plain_7 : decode cL_plain 7 = .ok (.invokevirtual 32, 3) := by decide +kernel
theorem dL_plain_10 : decode cL_plain 10 = .ok (.i2l, 1) := by decide +kernel
theorem dL_plain_11 : decode cL_plain 11 = .ok (.lastore, 1) := by decide +kernel
theorem dL_plain_12 : decode cL_plain 12 = .ok (.goto 11, 3) := by decide +kernel
theorem dL_plain_15 : decode cL_plain 15 = .ok (.astore 5, 2) := by decide +kernel
theorem dL_plain_17 : decode cL_plain 17 = .ok (.iconst 1, 1) := by decide +kernel
theorem dL_plain_18 : decode cL_plain 18 = .ok (.ireturn, 1) := by decide +kernel
theorem dL_plain_19 : decode cL_plain 19 = .ok (.astore 5, 2) := by decide +kernel
theorem dL_plain_21 : decode cL_plain 21 = .ok (.iconst 2, 1) := by decide +kernel
theorem dL_plain_22 : decode cL_plain 22 = .ok (.ireturn, 1) := by decide +kernel
theorem dL_plain_23 : decode cL_plain 23 = .ok (.iconst 0, 1) := by decide +kernel
theorem dL_plain_24 : decode cL_plain 24 = .ok (.ireturn, 1) := by decide +kernel
theorem dL_made_0 : decode cL_made 0 = .ok (.aload_n 3, 1) := by decide +kernel
theorem dL_made_1 : decode cL_made 1 = .ok (.iconst 0, 1) := by decide +kernel
theorem dL_made_2 : decode cL_made 2 = .ok (.aload_n 0, 1) := by decide +kernel
theorem dL_made_3 : decode cL_made 3 = .ok (.iload_n 1, 1) := by decide +kernel
theorem dL_made_4 : decode cL_made 4 = .ok (.iload_n 2, 1) := by decide +kernel
theorem dL_made_5 : decode cL_made 5 = .ok (.invokevirtual 36, 3) := by decide +kernel
theorem dL_made_8 : decode cL_made 8 = .ok (.i2l, 1) := by decide +kernel
theorem dL_made_9 : decode cL_made 9 = .ok (.lastore, 1) := by decide +kernel
theorem dL_made_10 : decode cL_made 10 = .ok (.goto 11, 3) := by decide +kernel
theorem dL_made_13 : decode cL_made 13 = .ok (.astore 4, 2) := by decide +kernel
theorem dL_made_15 : decode cL_made 15 = .ok (.iconst 1, 1) := by decide +kernel
theorem dL_made_16 : decode cL_made 16 = .ok (.ireturn, 1) := by decide +kernel
theorem dL_made_17 : decode cL_made 17 = .ok (.astore 4, 2) := by decide +kernel
theorem dL_made_19 : decode cL_made 19 = .ok (.iconst 2, 1) := by decide +kernel
theorem dL_made_20 : decode cL_made 20 = .ok (.ireturn, 1) := by decide +kernel
theorem dL_made_21 : decode cL_made 21 = .ok (.iconst 0, 1) := by decide +kernel
theorem dL_made_22 : decode cL_made 22 = .ok (.ireturn, 1) := by decide +kernel
theorem dL_character_0 : decode cL_character 0 = .ok (.aload_n 2, 1) := by decide +kernel
theorem dL_character_1 : decode cL_character 1 = .ok (.iconst 0, 1) := by decide +kernel
theorem dL_character_2 : decode cL_character 2 = .ok (.aload_n 0, 1) := by decide +kernel
theorem dL_character_3 : decode cL_character 3 = .ok (.iload_n 1, 1) := by decide +kernel
theorem dL_character_4 : decode cL_character 4 = .ok (.invokevirtual 39, 3) := by decide +kernel
theorem dL_character_7 : decode cL_character 7 = .ok (.i2l, 1) := by decide +kernel
theorem dL_character_8 : decode cL_character 8 = .ok (.lastore, 1) := by decide +kernel
theorem dL_character_9 : decode cL_character 9 = .ok (.goto 9, 3) := by decide +kernel
theorem dL_character_12 : decode cL_character 12 = .ok (.astore_n 3, 1) := by decide +kernel
theorem dL_character_13 : decode cL_character 13 = .ok (.iconst 1, 1) := by decide +kernel
theorem dL_character_14 : decode cL_character 14 = .ok (.ireturn, 1) := by decide +kernel
theorem dL_character_15 : decode cL_character 15 = .ok (.astore_n 3, 1) := by decide +kernel
theorem dL_character_16 : decode cL_character 16 = .ok (.iconst 2, 1) := by decide +kernel
theorem dL_character_17 : decode cL_character 17 = .ok (.ireturn, 1) := by decide +kernel
theorem dL_character_18 : decode cL_character 18 = .ok (.iconst 0, 1) := by decide +kernel
theorem dL_character_19 : decode cL_character 19 = .ok (.ireturn, 1) := by decide +kernel
theorem dL_run_0 : decode cL_run 0 = .ok (.aload 6, 2) := by decide +kernel
theorem dL_run_2 : decode cL_run 2 = .ok (.iconst 0, 1) := by decide +kernel
theorem dL_run_3 : decode cL_run 3 = .ok (.aload_n 0, 1) := by decide +kernel
theorem dL_run_4 : decode cL_run 4 = .ok (.iload_n 1, 1) := by decide +kernel
theorem dL_run_5 : decode cL_run 5 = .ok (.iload_n 2, 1) := by decide +kernel
theorem dL_run_6 : decode cL_run 6 = .ok (.iload_n 3, 1) := by decide +kernel
theorem dL_run_7 : decode cL_run 7 = .ok (.iload 4, 2) := by decide +kernel
theorem dL_run_9 : decode cL_run 9 = .ok (.iload 5, 2) := by decide +kernel
theorem dL_run_11 : decode cL_run 11 = .ok (.invokevirtual 42, 3) := by decide +kernel
theorem dL_run_14 : decode cL_run 14 = .ok (.i2l, 1) := by decide +kernel
theorem dL_run_15 : decode cL_run 15 = .ok (.lastore, 1) := by decide +kernel
theorem dL_run_16 : decode cL_run 16 = .ok (.goto 11, 3) := by decide +kernel
theorem dL_run_19 : decode cL_run 19 = .ok (.astore 7, 2) := by decide +kernel
theorem dL_run_21 : decode cL_run 21 = .ok (.iconst 1, 1) := by decide +kernel
theorem dL_run_22 : decode cL_run 22 = .ok (.ireturn, 1) := by decide +kernel
theorem dL_run_23 : decode cL_run 23 = .ok (.astore 7, 2) := by decide +kernel
theorem dL_run_25 : decode cL_run 25 = .ok (.iconst 2, 1) := by decide +kernel
theorem dL_run_26 : decode cL_run 26 = .ok (.ireturn, 1) := by decide +kernel
theorem dL_run_27 : decode cL_run 27 = .ok (.iconst 0, 1) := by decide +kernel
theorem dL_run_28 : decode cL_run 28 = .ok (.ireturn, 1) := by decide +kernel
theorem dL_told_0 : decode cL_told 0 = .ok (.aload_n 2, 1) := by decide +kernel
theorem dL_told_1 : decode cL_told 1 = .ok (.iconst 0, 1) := by decide +kernel
theorem dL_told_2 : decode cL_told 2 = .ok (.aload_n 0, 1) := by decide +kernel
theorem dL_told_3 : decode cL_told 3 = .ok (.iload_n 1, 1) := by decide +kernel
theorem dL_told_4 : decode cL_told 4 = .ok (.invokevirtual 46, 3) := by decide +kernel
theorem dL_told_7 : decode cL_told 7 = .ok (.i2l, 1) := by decide +kernel
theorem dL_told_8 : decode cL_told 8 = .ok (.lastore, 1) := by decide +kernel
theorem dL_told_9 : decode cL_told 9 = .ok (.goto 6, 3) := by decide +kernel
theorem dL_told_12 : decode cL_told 12 = .ok (.astore_n 3, 1) := by decide +kernel
theorem dL_told_13 : decode cL_told 13 = .ok (.iconst 1, 1) := by decide +kernel
theorem dL_told_14 : decode cL_told 14 = .ok (.ireturn, 1) := by decide +kernel
theorem dL_told_15 : decode cL_told 15 = .ok (.iconst 0, 1) := by decide +kernel
theorem dL_told_16 : decode cL_told 16 = .ok (.ireturn, 1) := by decide +kernel
theorem dL_said_0 : decode cL_said 0 = .ok (.aload_n 2, 1) := by decide +kernel
theorem dL_said_1 : decode cL_said 1 = .ok (.iconst 0, 1) := by decide +kernel
theorem dL_said_2 : decode cL_said 2 = .ok (.aload_n 0, 1) := by decide +kernel
theorem dL_said_3 : decode cL_said 3 = .ok (.iload_n 1, 1) := by decide +kernel
theorem dL_said_4 : decode cL_said 4 = .ok (.invokevirtual 49, 3) := by decide +kernel
theorem dL_said_7 : decode cL_said 7 = .ok (.i2l, 1) := by decide +kernel
theorem dL_said_8 : decode cL_said 8 = .ok (.lastore, 1) := by decide +kernel
theorem dL_said_9 : decode cL_said 9 = .ok (.goto 6, 3) := by decide +kernel
theorem dL_said_12 : decode cL_said 12 = .ok (.astore_n 3, 1) := by decide +kernel
theorem dL_said_13 : decode cL_said 13 = .ok (.iconst 1, 1) := by decide +kernel
theorem dL_said_14 : decode cL_said 14 = .ok (.ireturn, 1) := by decide +kernel
theorem dL_said_15 : decode cL_said 15 = .ok (.iconst 0, 1) := by decide +kernel
theorem dL_said_16 : decode cL_said 16 = .ok (.ireturn, 1) := by decide +kernel
theorem dL_law_0 : decode cL_law 0 = .ok (.new 8, 3) := by decide +kernel
theorem dL_law_3 : decode cL_law 3 = .ok (.dup, 1) := by decide +kernel
theorem dL_law_4 : decode cL_law 4 = .ok (.invokespecial 52, 3) := by decide +kernel
theorem dL_law_7 : decode cL_law 7 = .ok (.astore_n 1, 1) := by decide +kernel
theorem dL_law_8 : decode cL_law 8 = .ok (.new 53, 3) := by decide +kernel
theorem dL_law_11 : decode cL_law 11 = .ok (.dup, 1) := by decide +kernel
theorem dL_law_12 : decode cL_law 12 = .ok (.invokespecial 55, 3) := by decide +kernel
theorem dL_law_15 : decode cL_law 15 = .ok (.astore_n 2, 1) := by decide +kernel
theorem dL_law_16 : decode cL_law 16 = .ok (.iconst 1, 1) := by decide +kernel
theorem dL_law_17 : decode cL_law 17 = .ok (.newarray .long, 2) := by decide +kernel
theorem dL_law_19 : decode cL_law 19 = .ok (.astore_n 3, 1) := by decide +kernel
theorem dL_law_20 : decode cL_law 20 = .ok (.iconst 0, 1) := by decide +kernel
theorem dL_law_21 : decode cL_law 21 = .ok (.istore 4, 2) := by decide +kernel
theorem dL_law_23 : decode cL_law 23 = .ok (.iload 4, 2) := by decide +kernel
theorem dL_law_25 : decode cL_law 25 = .ok (.aload_n 0, 1) := by decide +kernel
theorem dL_law_26 : decode cL_law 26 = .ok (.arraylength, 1) := by decide +kernel
theorem dL_law_27 : decode cL_law 27 = .ok (.bipush 6, 2) := by decide +kernel
theorem dL_law_29 : decode cL_law 29 = .ok (.isub, 1) := by decide +kernel
theorem dL_law_30 : decode cL_law 30 = .ok (.if_icmp .gt 906, 3) := by decide +kernel
theorem dL_law_33 : decode cL_law 33 = .ok (.aload_n 0, 1) := by decide +kernel
theorem dL_law_34 : decode cL_law 34 = .ok (.iload 4, 2) := by decide +kernel
theorem dL_law_36 : decode cL_law 36 = .ok (.iaload, 1) := by decide +kernel
theorem dL_law_37 : decode cL_law 37 = .ok (.bipush 15, 2) := by decide +kernel
theorem dL_law_39 : decode cL_law 39 = .ok (.iand, 1) := by decide +kernel
theorem dL_law_40 : decode cL_law 40 = .ok (.tableswitch 890 0 12 #[68, 124, 216, 304, 317, 330, 386, 454, 534, 602, 658, 778, 834], 68) := by decide +kernel
theorem dL_law_108 : decode cL_law 108 = .ok (.aload_n 1, 1) := by decide +kernel
theorem dL_law_109 : decode cL_law 109 = .ok (.aload_n 0, 1) := by decide +kernel
theorem dL_law_110 : decode cL_law 110 = .ok (.iload 4, 2) := by decide +kernel
theorem dL_law_112 : decode cL_law 112 = .ok (.iconst 1, 1) := by decide +kernel
theorem dL_law_113 : decode cL_law 113 = .ok (.iadd, 1) := by decide +kernel
theorem dL_law_114 : decode cL_law 114 = .ok (.iaload, 1) := by decide +kernel
theorem dL_law_115 : decode cL_law 115 = .ok (.aload_n 3, 1) := by decide +kernel
theorem dL_law_116 : decode cL_law 116 = .ok (.invokestatic 56, 3) := by decide +kernel
theorem dL_law_119 : decode cL_law 119 = .ok (.istore 5, 2) := by decide +kernel
theorem dL_law_121 : decode cL_law 121 = .ok (.aload_n 2, 1) := by decide +kernel
theorem dL_law_122 : decode cL_law 122 = .ok (.aload_n 0, 1) := by decide +kernel
theorem dL_law_123 : decode cL_law 123 = .ok (.iload 4, 2) := by decide +kernel
theorem dL_law_125 : decode cL_law 125 = .ok (.iconst 1, 1) := by decide +kernel
theorem dL_law_126 : decode cL_law 126 = .ok (.iadd, 1) := by decide +kernel
theorem dL_law_127 : decode cL_law 127 = .ok (.iaload, 1) := by decide +kernel
theorem dL_law_128 : decode cL_law 128 = .ok (.invokevirtual 61, 3) := by decide +kernel
theorem dL_law_131 : decode cL_law 131 = .ok (.istore 6, 2) := by decide +kernel
theorem dL_law_133 : decode cL_law 133 = .ok (.aload_n 2, 1) := by decide +kernel
theorem dL_law_134 : decode cL_law 134 = .ok (.invokevirtual 62, 3) := by decide +kernel
theorem dL_law_137 : decode cL_law 137 = .ok (.iload 5, 2) := by decide +kernel
theorem dL_law_139 : decode cL_law 139 = .ok (.if_icmp .eq 5, 3) := by decide +kernel
theorem dL_law_142 : decode cL_law 142 = .ok (.iconst 0, 1) := by decide +kernel
theorem dL_law_143 : decode cL_law 143 = .ok (.ireturn, 1) := by decide +kernel
theorem dL_law_144 : decode cL_law 144 = .ok (.iload 5, 2) := by decide +kernel
theorem dL_law_146 : decode cL_law 146 = .ok (.ifCond .ne 15, 3) := by decide +kernel
theorem dL_law_149 : decode cL_law 149 = .ok (.aload_n 3, 1) := by decide +kernel
theorem dL_law_150 : decode cL_law 150 = .ok (.iconst 0, 1) := by decide +kernel
theorem dL_law_151 : decode cL_law 151 = .ok (.laload, 1) := by decide +kernel
theorem dL_law_152 : decode cL_law 152 = .ok (.iload 6, 2) := by decide +kernel
theorem dL_law_154 : decode cL_law 154 = .ok (.i2l, 1) := by decide +kernel
theorem dL_law_155 : decode cL_law 155 = .ok (.lcmp, 1) := by decide +kernel
theorem dL_law_156 : decode cL_law 156 = .ok (.ifCond .eq 5, 3) := by decide +kernel
theorem dL_law_159 : decode cL_law 159 = .ok (.iconst 0, 1) := by decide +kernel
theorem dL_law_160 : decode cL_law 160 = .ok (.ireturn, 1) := by decide +kernel
theorem dL_law_161 : decode cL_law 161 = .ok (.goto 769, 3) := by decide +kernel
theorem dL_law_164 : decode cL_law 164 = .ok (.aload_n 1, 1) := by decide +kernel
theorem dL_law_165 : decode cL_law 165 = .ok (.aload_n 0, 1) := by decide +kernel
theorem dL_law_166 : decode cL_law 166 = .ok (.iload 4, 2) := by decide +kernel
theorem dL_law_168 : decode cL_law 168 = .ok (.iconst 1, 1) := by decide +kernel
theorem dL_law_169 : decode cL_law 169 = .ok (.iadd, 1) := by decide +kernel
theorem dL_law_170 : decode cL_law 170 = .ok (.iaload, 1) := by decide +kernel
theorem dL_law_171 : decode cL_law 171 = .ok (.aload_n 0, 1) := by decide +kernel
theorem dL_law_172 : decode cL_law 172 = .ok (.iload 4, 2) := by decide +kernel
theorem dL_law_174 : decode cL_law 174 = .ok (.iconst 2, 1) := by decide +kernel
theorem dL_law_175 : decode cL_law 175 = .ok (.iadd, 1) := by decide +kernel
theorem dL_law_176 : decode cL_law 176 = .ok (.iaload, 1) := by decide +kernel
theorem dL_law_177 : decode cL_law 177 = .ok (.aload_n 0, 1) := by decide +kernel
theorem dL_law_178 : decode cL_law 178 = .ok (.iload 4, 2) := by decide +kernel
theorem dL_law_180 : decode cL_law 180 = .ok (.iconst 3, 1) := by decide +kernel
theorem dL_law_181 : decode cL_law 181 = .ok (.iadd, 1) := by decide +kernel
theorem dL_law_182 : decode cL_law 182 = .ok (.iaload, 1) := by decide +kernel
theorem dL_law_183 : decode cL_law 183 = .ok (.aload_n 0, 1) := by decide +kernel
theorem dL_law_184 : decode cL_law 184 = .ok (.iload 4, 2) := by decide +kernel
theorem dL_law_186 : decode cL_law 186 = .ok (.iconst 4, 1) := by decide +kernel
theorem dL_law_187 : decode cL_law 187 = .ok (.iadd, 1) := by decide +kernel
theorem dL_law_188 : decode cL_law 188 = .ok (.iaload, 1) := by decide +kernel
theorem dL_law_189 : decode cL_law 189 = .ok (.aload_n 3, 1) := by decide +kernel
theorem dL_law_190 : decode cL_law 190 = .ok (.invokestatic 66, 3) := by decide +kernel
theorem dL_law_193 : decode cL_law 193 = .ok (.istore 5, 2) := by decide +kernel
theorem dL_law_195 : decode cL_law 195 = .ok (.aload_n 2, 1) := by decide +kernel
theorem dL_law_196 : decode cL_law 196 = .ok (.aload_n 0, 1) := by decide +kernel
theorem dL_law_197 : decode cL_law 197 = .ok (.iload 4, 2) := by decide +kernel
theorem dL_law_199 : decode cL_law 199 = .ok (.iconst 1, 1) := by decide +kernel
theorem dL_law_200 : decode cL_law 200 = .ok (.iadd, 1) := by decide +kernel
theorem dL_law_201 : decode cL_law 201 = .ok (.iaload, 1) := by decide +kernel
theorem dL_law_202 : decode cL_law 202 = .ok (.aload_n 0, 1) := by decide +kernel
theorem dL_law_203 : decode cL_law 203 = .ok (.iload 4, 2) := by decide +kernel
theorem dL_law_205 : decode cL_law 205 = .ok (.iconst 2, 1) := by decide +kernel
theorem dL_law_206 : decode cL_law 206 = .ok (.iadd, 1) := by decide +kernel
theorem dL_law_207 : decode cL_law 207 = .ok (.iaload, 1) := by decide +kernel
theorem dL_law_208 : decode cL_law 208 = .ok (.aload_n 0, 1) := by decide +kernel
theorem dL_law_209 : decode cL_law 209 = .ok (.iload 4, 2) := by decide +kernel
theorem dL_law_211 : decode cL_law 211 = .ok (.iconst 3, 1) := by decide +kernel
theorem dL_law_212 : decode cL_law 212 = .ok (.iadd, 1) := by decide +kernel
theorem dL_law_213 : decode cL_law 213 = .ok (.iaload, 1) := by decide +kernel
theorem dL_law_214 : decode cL_law 214 = .ok (.aload_n 0, 1) := by decide +kernel
theorem dL_law_215 : decode cL_law 215 = .ok (.iload 4, 2) := by decide +kernel
theorem dL_law_217 : decode cL_law 217 = .ok (.iconst 4, 1) := by decide +kernel
theorem dL_law_218 : decode cL_law 218 = .ok (.iadd, 1) := by decide +kernel
theorem dL_law_219 : decode cL_law 219 = .ok (.iaload, 1) := by decide +kernel
theorem dL_law_220 : decode cL_law 220 = .ok (.invokevirtual 69, 3) := by decide +kernel
theorem dL_law_223 : decode cL_law 223 = .ok (.istore 6, 2) := by decide +kernel
theorem dL_law_225 : decode cL_law 225 = .ok (.aload_n 2, 1) := by decide +kernel
theorem dL_law_226 : decode cL_law 226 = .ok (.invokevirtual 62, 3) := by decide +kernel
theorem dL_law_229 : decode cL_law 229 = .ok (.iload 5, 2) := by decide +kernel
theorem dL_law_231 : decode cL_law 231 = .ok (.if_icmp .eq 5, 3) := by decide +kernel
theorem dL_law_234 : decode cL_law 234 = .ok (.iconst 0, 1) := by decide +kernel
theorem dL_law_235 : decode cL_law 235 = .ok (.ireturn, 1) := by decide +kernel
theorem dL_law_236 : decode cL_law 236 = .ok (.iload 5, 2) := by decide +kernel
theorem dL_law_238 : decode cL_law 238 = .ok (.ifCond .ne 15, 3) := by decide +kernel
theorem dL_law_241 : decode cL_law 241 = .ok (.aload_n 3, 1) := by decide +kernel
theorem dL_law_242 : decode cL_law 242 = .ok (.iconst 0, 1) := by decide +kernel
theorem dL_law_243 : decode cL_law 243 = .ok (.laload, 1) := by decide +kernel
theorem dL_law_244 : decode cL_law 244 = .ok (.iload 6, 2) := by decide +kernel
theorem dL_law_246 : decode cL_law 246 = .ok (.i2l, 1) := by decide +kernel
theorem dL_law_247 : decode cL_law 247 = .ok (.lcmp, 1) := by decide +kernel
theorem dL_law_248 : decode cL_law 248 = .ok (.ifCond .eq 5, 3) := by decide +kernel
theorem dL_law_251 : decode cL_law 251 = .ok (.iconst 0, 1) := by decide +kernel
theorem dL_law_252 : decode cL_law 252 = .ok (.ireturn, 1) := by decide +kernel
theorem dL_law_253 : decode cL_law 253 = .ok (.goto 677, 3) := by decide +kernel
theorem dL_law_256 : decode cL_law 256 = .ok (.aload_n 1, 1) := by decide +kernel
theorem dL_law_257 : decode cL_law 257 = .ok (.aload_n 0, 1) := by decide +kernel
theorem dL_law_258 : decode cL_law 258 = .ok (.iload 4, 2) := by decide +kernel
theorem dL_law_260 : decode cL_law 260 = .ok (.iconst 1, 1) := by decide +kernel
theorem dL_law_261 : decode cL_law 261 = .ok (.iadd, 1) := by decide +kernel
theorem dL_law_262 : decode cL_law 262 = .ok (.iaload, 1) := by decide +kernel
theorem dL_law_263 : decode cL_law 263 = .ok (.i2l, 1) := by decide +kernel
theorem dL_law_264 : decode cL_law 264 = .ok (.bipush 32, 2) := by decide +kernel
theorem dL_law_266 : decode cL_law 266 = .ok (.lshl, 1) := by decide +kernel
theorem dL_law_267 : decode cL_law 267 = .ok (.aload_n 0, 1) := by decide +kernel
theorem dL_law_268 : decode cL_law 268 = .ok (.iload 4, 2) := by decide +kernel
theorem dL_law_270 : decode cL_law 270 = .ok (.iconst 2, 1) := by decide +kernel
theorem dL_law_271 : decode cL_law 271 = .ok (.iadd, 1) := by decide +kernel
theorem dL_law_272 : decode cL_law 272 = .ok (.iaload, 1) := by decide +kernel
theorem dL_law_273 : decode cL_law 273 = .ok (.i2l, 1) := by decide +kernel
theorem dL_law_274 : decode cL_law 274 = .ok (.ldc2_w 70, 3) := by decide +kernel
theorem dL_law_277 : decode cL_law 277 = .ok (.land, 1) := by decide +kernel
theorem dL_law_278 : decode cL_law 278 = .ok (.lor, 1) := by decide +kernel
theorem dL_law_279 : decode cL_law 279 = .ok (.aload_n 3, 1) := by decide +kernel
theorem dL_law_280 : decode cL_law 280 = .ok (.invokestatic 72, 3) := by decide +kernel
theorem dL_law_283 : decode cL_law 283 = .ok (.istore 5, 2) := by decide +kernel
theorem dL_law_285 : decode cL_law 285 = .ok (.aload_n 2, 1) := by decide +kernel
theorem dL_law_286 : decode cL_law 286 = .ok (.aload_n 0, 1) := by decide +kernel
theorem dL_law_287 : decode cL_law 287 = .ok (.iload 4, 2) := by decide +kernel
theorem dL_law_289 : decode cL_law 289 = .ok (.iconst 1, 1) := by decide +kernel
theorem dL_law_290 : decode cL_law 290 = .ok (.iadd, 1) := by decide +kernel
theorem dL_law_291 : decode cL_law 291 = .ok (.iaload, 1) := by decide +kernel
theorem dL_law_292 : decode cL_law 292 = .ok (.i2l, 1) := by decide +kernel
theorem dL_law_293 : decode cL_law 293 = .ok (.bipush 32, 2) := by decide +kernel
theorem dL_law_295 : decode cL_law 295 = .ok (.lshl, 1) := by decide +kernel
theorem dL_law_296 : decode cL_law 296 = .ok (.aload_n 0, 1) := by decide +kernel
theorem dL_law_297 : decode cL_law 297 = .ok (.iload 4, 2) := by decide +kernel
theorem dL_law_299 : decode cL_law 299 = .ok (.iconst 2, 1) := by decide +kernel
theorem dL_law_300 : decode cL_law 300 = .ok (.iadd, 1) := by decide +kernel
theorem dL_law_301 : decode cL_law 301 = .ok (.iaload, 1) := by decide +kernel
theorem dL_law_302 : decode cL_law 302 = .ok (.i2l, 1) := by decide +kernel
theorem dL_law_303 : decode cL_law 303 = .ok (.ldc2_w 70, 3) := by decide +kernel
theorem dL_law_306 : decode cL_law 306 = .ok (.land, 1) := by decide +kernel
theorem dL_law_307 : decode cL_law 307 = .ok (.lor, 1) := by decide +kernel
theorem dL_law_308 : decode cL_law 308 = .ok (.invokevirtual 75, 3) := by decide +kernel
theorem dL_law_311 : decode cL_law 311 = .ok (.istore 6, 2) := by decide +kernel
theorem dL_law_313 : decode cL_law 313 = .ok (.aload_n 2, 1) := by decide +kernel
theorem dL_law_314 : decode cL_law 314 = .ok (.invokevirtual 62, 3) := by decide +kernel
theorem dL_law_317 : decode cL_law 317 = .ok (.iload 5, 2) := by decide +kernel
theorem dL_law_319 : decode cL_law 319 = .ok (.if_icmp .eq 5, 3) := by decide +kernel
theorem dL_law_322 : decode cL_law 322 = .ok (.iconst 0, 1) := by decide +kernel
theorem dL_law_323 : decode cL_law 323 = .ok (.ireturn, 1) := by decide +kernel
theorem dL_law_324 : decode cL_law 324 = .ok (.iload 5, 2) := by decide +kernel
theorem dL_law_326 : decode cL_law 326 = .ok (.ifCond .ne 15, 3) := by decide +kernel
theorem dL_law_329 : decode cL_law 329 = .ok (.aload_n 3, 1) := by decide +kernel
theorem dL_law_330 : decode cL_law 330 = .ok (.iconst 0, 1) := by decide +kernel
theorem dL_law_331 : decode cL_law 331 = .ok (.laload, 1) := by decide +kernel
theorem dL_law_332 : decode cL_law 332 = .ok (.iload 6, 2) := by decide +kernel
theorem dL_law_334 : decode cL_law 334 = .ok (.i2l, 1) := by decide +kernel
theorem dL_law_335 : decode cL_law 335 = .ok (.lcmp, 1) := by decide +kernel
theorem dL_law_336 : decode cL_law 336 = .ok (.ifCond .eq 5, 3) := by decide +kernel
theorem dL_law_339 : decode cL_law 339 = .ok (.iconst 0, 1) := by decide +kernel
theorem dL_law_340 : decode cL_law 340 = .ok (.ireturn, 1) := by decide +kernel
theorem dL_law_341 : decode cL_law 341 = .ok (.goto 589, 3) := by decide +kernel
theorem dL_law_344 : decode cL_law 344 = .ok (.aload_n 1, 1) := by decide +kernel
theorem dL_law_345 : decode cL_law 345 = .ok (.invokevirtual 76, 3) := by decide +kernel
theorem dL_law_348 : decode cL_law 348 = .ok (.aload_n 2, 1) := by decide +kernel
theorem dL_law_349 : decode cL_law 349 = .ok (.invokevirtual 79, 3) := by decide +kernel
theorem dL_law_352 : decode cL_law 352 = .ok (.if_icmp .eq 578, 3) := by decide +kernel
theorem dL_law_355 : decode cL_law 355 = .ok (.iconst 0, 1) := by decide +kernel
theorem dL_law_356 : decode cL_law 356 = .ok (.ireturn, 1) := by decide +kernel
theorem dL_law_357 : decode cL_law 357 = .ok (.aload_n 1, 1) := by decide +kernel
theorem dL_law_358 : decode cL_law 358 = .ok (.invokevirtual 80, 3) := by decide +kernel
theorem dL_law_361 : decode cL_law 361 = .ok (.aload_n 2, 1) := by decide +kernel
theorem dL_law_362 : decode cL_law 362 = .ok (.invokevirtual 83, 3) := by decide +kernel
theorem dL_law_365 : decode cL_law 365 = .ok (.if_icmp .eq 565, 3) := by decide +kernel
theorem dL_law_368 : decode cL_law 368 = .ok (.iconst 0, 1) := by decide +kernel
theorem dL_law_369 : decode cL_law 369 = .ok (.ireturn, 1) := by decide +kernel
theorem dL_law_370 : decode cL_law 370 = .ok (.aload_n 1, 1) := by decide +kernel
theorem dL_law_371 : decode cL_law 371 = .ok (.aload_n 0, 1) := by decide +kernel
theorem dL_law_372 : decode cL_law 372 = .ok (.iload 4, 2) := by decide +kernel
theorem dL_law_374 : decode cL_law 374 = .ok (.iconst 1, 1) := by decide +kernel
theorem dL_law_375 : decode cL_law 375 = .ok (.iadd, 1) := by decide +kernel
theorem dL_law_376 : decode cL_law 376 = .ok (.iaload, 1) := by decide +kernel
theorem dL_law_377 : decode cL_law 377 = .ok (.aload_n 3, 1) := by decide +kernel
theorem dL_law_378 : decode cL_law 378 = .ok (.invokestatic 84, 3) := by decide +kernel
theorem dL_law_381 : decode cL_law 381 = .ok (.istore 5, 2) := by decide +kernel
theorem dL_law_383 : decode cL_law 383 = .ok (.aload_n 2, 1) := by decide +kernel
theorem dL_law_384 : decode cL_law 384 = .ok (.aload_n 0, 1) := by decide +kernel
theorem dL_law_385 : decode cL_law 385 = .ok (.iload 4, 2) := by decide +kernel
theorem dL_law_387 : decode cL_law 387 = .ok (.iconst 1, 1) := by decide +kernel
theorem dL_law_388 : decode cL_law 388 = .ok (.iadd, 1) := by decide +kernel
theorem dL_law_389 : decode cL_law 389 = .ok (.iaload, 1) := by decide +kernel
theorem dL_law_390 : decode cL_law 390 = .ok (.invokevirtual 86, 3) := by decide +kernel
theorem dL_law_393 : decode cL_law 393 = .ok (.istore 6, 2) := by decide +kernel
theorem dL_law_395 : decode cL_law 395 = .ok (.aload_n 2, 1) := by decide +kernel
theorem dL_law_396 : decode cL_law 396 = .ok (.invokevirtual 62, 3) := by decide +kernel
theorem dL_law_399 : decode cL_law 399 = .ok (.iload 5, 2) := by decide +kernel
theorem dL_law_401 : decode cL_law 401 = .ok (.if_icmp .eq 5, 3) := by decide +kernel
theorem dL_law_404 : decode cL_law 404 = .ok (.iconst 0, 1) := by decide +kernel
theorem dL_law_405 : decode cL_law 405 = .ok (.ireturn, 1) := by decide +kernel
theorem dL_law_406 : decode cL_law 406 = .ok (.iload 5, 2) := by decide +kernel
theorem dL_law_408 : decode cL_law 408 = .ok (.ifCond .ne 15, 3) := by decide +kernel
theorem dL_law_411 : decode cL_law 411 = .ok (.aload_n 3, 1) := by decide +kernel
theorem dL_law_412 : decode cL_law 412 = .ok (.iconst 0, 1) := by decide +kernel
theorem dL_law_413 : decode cL_law 413 = .ok (.laload, 1) := by decide +kernel
theorem dL_law_414 : decode cL_law 414 = .ok (.iload 6, 2) := by decide +kernel
theorem dL_law_416 : decode cL_law 416 = .ok (.i2l, 1) := by decide +kernel
theorem dL_law_417 : decode cL_law 417 = .ok (.lcmp, 1) := by decide +kernel
theorem dL_law_418 : decode cL_law 418 = .ok (.ifCond .eq 5, 3) := by decide +kernel
theorem dL_law_421 : decode cL_law 421 = .ok (.iconst 0, 1) := by decide +kernel
theorem dL_law_422 : decode cL_law 422 = .ok (.ireturn, 1) := by decide +kernel
theorem dL_law_423 : decode cL_law 423 = .ok (.goto 507, 3) := by decide +kernel
theorem dL_law_426 : decode cL_law 426 = .ok (.aload_n 1, 1) := by decide +kernel
theorem dL_law_427 : decode cL_law 427 = .ok (.aload_n 0, 1) := by decide +kernel
theorem dL_law_428 : decode cL_law 428 = .ok (.iload 4, 2) := by decide +kernel
theorem dL_law_430 : decode cL_law 430 = .ok (.iconst 1, 1) := by decide +kernel
theorem dL_law_431 : decode cL_law 431 = .ok (.iadd, 1) := by decide +kernel
theorem dL_law_432 : decode cL_law 432 = .ok (.iaload, 1) := by decide +kernel
theorem dL_law_433 : decode cL_law 433 = .ok (.aload_n 0, 1) := by decide +kernel
theorem dL_law_434 : decode cL_law 434 = .ok (.iload 4, 2) := by decide +kernel
theorem dL_law_436 : decode cL_law 436 = .ok (.iconst 2, 1) := by decide +kernel
theorem dL_law_437 : decode cL_law 437 = .ok (.iadd, 1) := by decide +kernel
theorem dL_law_438 : decode cL_law 438 = .ok (.iaload, 1) := by decide +kernel
theorem dL_law_439 : decode cL_law 439 = .ok (.aload_n 3, 1) := by decide +kernel
theorem dL_law_440 : decode cL_law 440 = .ok (.invokestatic 87, 3) := by decide +kernel
theorem dL_law_443 : decode cL_law 443 = .ok (.istore 5, 2) := by decide +kernel
theorem dL_law_445 : decode cL_law 445 = .ok (.aload_n 2, 1) := by decide +kernel
theorem dL_law_446 : decode cL_law 446 = .ok (.aload_n 0, 1) := by decide +kernel
theorem dL_law_447 : decode cL_law 447 = .ok (.iload 4, 2) := by decide +kernel
theorem dL_law_449 : decode cL_law 449 = .ok (.iconst 1, 1) := by decide +kernel
theorem dL_law_450 : decode cL_law 450 = .ok (.iadd, 1) := by decide +kernel
theorem dL_law_451 : decode cL_law 451 = .ok (.iaload, 1) := by decide +kernel
theorem dL_law_452 : decode cL_law 452 = .ok (.aload_n 0, 1) := by decide +kernel
theorem dL_law_453 : decode cL_law 453 = .ok (.iload 4, 2) := by decide +kernel
theorem dL_law_455 : decode cL_law 455 = .ok (.iconst 2, 1) := by decide +kernel
theorem dL_law_456 : decode cL_law 456 = .ok (.iadd, 1) := by decide +kernel
theorem dL_law_457 : decode cL_law 457 = .ok (.iaload, 1) := by decide +kernel
theorem dL_law_458 : decode cL_law 458 = .ok (.invokevirtual 90, 3) := by decide +kernel
theorem dL_law_461 : decode cL_law 461 = .ok (.istore 6, 2) := by decide +kernel
theorem dL_law_463 : decode cL_law 463 = .ok (.aload_n 2, 1) := by decide +kernel
theorem dL_law_464 : decode cL_law 464 = .ok (.invokevirtual 62, 3) := by decide +kernel
theorem dL_law_467 : decode cL_law 467 = .ok (.iload 5, 2) := by decide +kernel
theorem dL_law_469 : decode cL_law 469 = .ok (.if_icmp .eq 5, 3) := by decide +kernel
theorem dL_law_472 : decode cL_law 472 = .ok (.iconst 0, 1) := by decide +kernel
theorem dL_law_473 : decode cL_law 473 = .ok (.ireturn, 1) := by decide +kernel
theorem dL_law_474 : decode cL_law 474 = .ok (.iload 5, 2) := by decide +kernel
theorem dL_law_476 : decode cL_law 476 = .ok (.ifCond .ne 15, 3) := by decide +kernel
theorem dL_law_479 : decode cL_law 479 = .ok (.aload_n 3, 1) := by decide +kernel
theorem dL_law_480 : decode cL_law 480 = .ok (.iconst 0, 1) := by decide +kernel
theorem dL_law_481 : decode cL_law 481 = .ok (.laload, 1) := by decide +kernel
theorem dL_law_482 : decode cL_law 482 = .ok (.iload 6, 2) := by decide +kernel
theorem dL_law_484 : decode cL_law 484 = .ok (.i2l, 1) := by decide +kernel
theorem dL_law_485 : decode cL_law 485 = .ok (.lcmp, 1) := by decide +kernel
theorem dL_law_486 : decode cL_law 486 = .ok (.ifCond .eq 5, 3) := by decide +kernel
theorem dL_law_489 : decode cL_law 489 = .ok (.iconst 0, 1) := by decide +kernel
theorem dL_law_490 : decode cL_law 490 = .ok (.ireturn, 1) := by decide +kernel
theorem dL_law_491 : decode cL_law 491 = .ok (.goto 439, 3) := by decide +kernel
theorem dL_law_494 : decode cL_law 494 = .ok (.aload_n 1, 1) := by decide +kernel
theorem dL_law_495 : decode cL_law 495 = .ok (.aload_n 0, 1) := by decide +kernel
theorem dL_law_496 : decode cL_law 496 = .ok (.iload 4, 2) := by decide +kernel
theorem dL_law_498 : decode cL_law 498 = .ok (.iconst 1, 1) := by decide +kernel
theorem dL_law_499 : decode cL_law 499 = .ok (.iadd, 1) := by decide +kernel
theorem dL_law_500 : decode cL_law 500 = .ok (.iaload, 1) := by decide +kernel
theorem dL_law_501 : decode cL_law 501 = .ok (.aload_n 0, 1) := by decide +kernel
theorem dL_law_502 : decode cL_law 502 = .ok (.iload 4, 2) := by decide +kernel
theorem dL_law_504 : decode cL_law 504 = .ok (.iconst 2, 1) := by decide +kernel
theorem dL_law_505 : decode cL_law 505 = .ok (.iadd, 1) := by decide +kernel
theorem dL_law_506 : decode cL_law 506 = .ok (.iaload, 1) := by decide +kernel
theorem dL_law_507 : decode cL_law 507 = .ok (.aload_n 0, 1) := by decide +kernel
theorem dL_law_508 : decode cL_law 508 = .ok (.iload 4, 2) := by decide +kernel
theorem dL_law_510 : decode cL_law 510 = .ok (.iconst 3, 1) := by decide +kernel
theorem dL_law_511 : decode cL_law 511 = .ok (.iadd, 1) := by decide +kernel
theorem dL_law_512 : decode cL_law 512 = .ok (.iaload, 1) := by decide +kernel
theorem dL_law_513 : decode cL_law 513 = .ok (.aload_n 3, 1) := by decide +kernel
theorem dL_law_514 : decode cL_law 514 = .ok (.invokestatic 91, 3) := by decide +kernel
theorem dL_law_517 : decode cL_law 517 = .ok (.istore 5, 2) := by decide +kernel
theorem dL_law_519 : decode cL_law 519 = .ok (.aload_n 2, 1) := by decide +kernel
theorem dL_law_520 : decode cL_law 520 = .ok (.aload_n 0, 1) := by decide +kernel
theorem dL_law_521 : decode cL_law 521 = .ok (.iload 4, 2) := by decide +kernel
theorem dL_law_523 : decode cL_law 523 = .ok (.iconst 1, 1) := by decide +kernel
theorem dL_law_524 : decode cL_law 524 = .ok (.iadd, 1) := by decide +kernel
theorem dL_law_525 : decode cL_law 525 = .ok (.iaload, 1) := by decide +kernel
theorem dL_law_526 : decode cL_law 526 = .ok (.aload_n 0, 1) := by decide +kernel
theorem dL_law_527 : decode cL_law 527 = .ok (.iload 4, 2) := by decide +kernel
theorem dL_law_529 : decode cL_law 529 = .ok (.iconst 2, 1) := by decide +kernel
theorem dL_law_530 : decode cL_law 530 = .ok (.iadd, 1) := by decide +kernel
theorem dL_law_531 : decode cL_law 531 = .ok (.iaload, 1) := by decide +kernel
theorem dL_law_532 : decode cL_law 532 = .ok (.aload_n 0, 1) := by decide +kernel
theorem dL_law_533 : decode cL_law 533 = .ok (.iload 4, 2) := by decide +kernel
theorem dL_law_535 : decode cL_law 535 = .ok (.iconst 3, 1) := by decide +kernel
theorem dL_law_536 : decode cL_law 536 = .ok (.iadd, 1) := by decide +kernel
theorem dL_law_537 : decode cL_law 537 = .ok (.iaload, 1) := by decide +kernel
theorem dL_law_538 : decode cL_law 538 = .ok (.invokevirtual 94, 3) := by decide +kernel
theorem dL_law_541 : decode cL_law 541 = .ok (.istore 6, 2) := by decide +kernel
theorem dL_law_543 : decode cL_law 543 = .ok (.aload_n 2, 1) := by decide +kernel
theorem dL_law_544 : decode cL_law 544 = .ok (.invokevirtual 62, 3) := by decide +kernel
theorem dL_law_547 : decode cL_law 547 = .ok (.iload 5, 2) := by decide +kernel
theorem dL_law_549 : decode cL_law 549 = .ok (.if_icmp .eq 5, 3) := by decide +kernel
theorem dL_law_552 : decode cL_law 552 = .ok (.iconst 0, 1) := by decide +kernel
theorem dL_law_553 : decode cL_law 553 = .ok (.ireturn, 1) := by decide +kernel
theorem dL_law_554 : decode cL_law 554 = .ok (.iload 5, 2) := by decide +kernel
theorem dL_law_556 : decode cL_law 556 = .ok (.ifCond .ne 15, 3) := by decide +kernel
theorem dL_law_559 : decode cL_law 559 = .ok (.aload_n 3, 1) := by decide +kernel
theorem dL_law_560 : decode cL_law 560 = .ok (.iconst 0, 1) := by decide +kernel
theorem dL_law_561 : decode cL_law 561 = .ok (.laload, 1) := by decide +kernel
theorem dL_law_562 : decode cL_law 562 = .ok (.iload 6, 2) := by decide +kernel
theorem dL_law_564 : decode cL_law 564 = .ok (.i2l, 1) := by decide +kernel
theorem dL_law_565 : decode cL_law 565 = .ok (.lcmp, 1) := by decide +kernel
theorem dL_law_566 : decode cL_law 566 = .ok (.ifCond .eq 5, 3) := by decide +kernel
theorem dL_law_569 : decode cL_law 569 = .ok (.iconst 0, 1) := by decide +kernel
theorem dL_law_570 : decode cL_law 570 = .ok (.ireturn, 1) := by decide +kernel
theorem dL_law_571 : decode cL_law 571 = .ok (.goto 359, 3) := by decide +kernel
theorem dL_law_574 : decode cL_law 574 = .ok (.aload_n 1, 1) := by decide +kernel
theorem dL_law_575 : decode cL_law 575 = .ok (.aload_n 0, 1) := by decide +kernel
theorem dL_law_576 : decode cL_law 576 = .ok (.iload 4, 2) := by decide +kernel
theorem dL_law_578 : decode cL_law 578 = .ok (.iconst 1, 1) := by decide +kernel
theorem dL_law_579 : decode cL_law 579 = .ok (.iadd, 1) := by decide +kernel
theorem dL_law_580 : decode cL_law 580 = .ok (.iaload, 1) := by decide +kernel
theorem dL_law_581 : decode cL_law 581 = .ok (.aload_n 0, 1) := by decide +kernel
theorem dL_law_582 : decode cL_law 582 = .ok (.iload 4, 2) := by decide +kernel
theorem dL_law_584 : decode cL_law 584 = .ok (.iconst 2, 1) := by decide +kernel
theorem dL_law_585 : decode cL_law 585 = .ok (.iadd, 1) := by decide +kernel
theorem dL_law_586 : decode cL_law 586 = .ok (.iaload, 1) := by decide +kernel
theorem dL_law_587 : decode cL_law 587 = .ok (.aload_n 3, 1) := by decide +kernel
theorem dL_law_588 : decode cL_law 588 = .ok (.invokestatic 95, 3) := by decide +kernel
theorem dL_law_591 : decode cL_law 591 = .ok (.istore 5, 2) := by decide +kernel
theorem dL_law_593 : decode cL_law 593 = .ok (.aload_n 2, 1) := by decide +kernel
theorem dL_law_594 : decode cL_law 594 = .ok (.aload_n 0, 1) := by decide +kernel
theorem dL_law_595 : decode cL_law 595 = .ok (.iload 4, 2) := by decide +kernel
theorem dL_law_597 : decode cL_law 597 = .ok (.iconst 1, 1) := by decide +kernel
theorem dL_law_598 : decode cL_law 598 = .ok (.iadd, 1) := by decide +kernel
theorem dL_law_599 : decode cL_law 599 = .ok (.iaload, 1) := by decide +kernel
theorem dL_law_600 : decode cL_law 600 = .ok (.aload_n 0, 1) := by decide +kernel
theorem dL_law_601 : decode cL_law 601 = .ok (.iload 4, 2) := by decide +kernel
theorem dL_law_603 : decode cL_law 603 = .ok (.iconst 2, 1) := by decide +kernel
theorem dL_law_604 : decode cL_law 604 = .ok (.iadd, 1) := by decide +kernel
theorem dL_law_605 : decode cL_law 605 = .ok (.iaload, 1) := by decide +kernel
theorem dL_law_606 : decode cL_law 606 = .ok (.invokevirtual 97, 3) := by decide +kernel
theorem dL_law_609 : decode cL_law 609 = .ok (.istore 6, 2) := by decide +kernel
theorem dL_law_611 : decode cL_law 611 = .ok (.aload_n 2, 1) := by decide +kernel
theorem dL_law_612 : decode cL_law 612 = .ok (.invokevirtual 62, 3) := by decide +kernel
theorem dL_law_615 : decode cL_law 615 = .ok (.iload 5, 2) := by decide +kernel
theorem dL_law_617 : decode cL_law 617 = .ok (.if_icmp .eq 5, 3) := by decide +kernel
theorem dL_law_620 : decode cL_law 620 = .ok (.iconst 0, 1) := by decide +kernel
theorem dL_law_621 : decode cL_law 621 = .ok (.ireturn, 1) := by decide +kernel
theorem dL_law_622 : decode cL_law 622 = .ok (.iload 5, 2) := by decide +kernel
theorem dL_law_624 : decode cL_law 624 = .ok (.ifCond .ne 15, 3) := by decide +kernel
theorem dL_law_627 : decode cL_law 627 = .ok (.aload_n 3, 1) := by decide +kernel
theorem dL_law_628 : decode cL_law 628 = .ok (.iconst 0, 1) := by decide +kernel
theorem dL_law_629 : decode cL_law 629 = .ok (.laload, 1) := by decide +kernel
theorem dL_law_630 : decode cL_law 630 = .ok (.iload 6, 2) := by decide +kernel
theorem dL_law_632 : decode cL_law 632 = .ok (.i2l, 1) := by decide +kernel
theorem dL_law_633 : decode cL_law 633 = .ok (.lcmp, 1) := by decide +kernel
theorem dL_law_634 : decode cL_law 634 = .ok (.ifCond .eq 5, 3) := by decide +kernel
theorem dL_law_637 : decode cL_law 637 = .ok (.iconst 0, 1) := by decide +kernel
theorem dL_law_638 : decode cL_law 638 = .ok (.ireturn, 1) := by decide +kernel
theorem dL_law_639 : decode cL_law 639 = .ok (.goto 291, 3) := by decide +kernel
theorem dL_law_642 : decode cL_law 642 = .ok (.aload_n 1, 1) := by decide +kernel
theorem dL_law_643 : decode cL_law 643 = .ok (.aload_n 0, 1) := by decide +kernel
theorem dL_law_644 : decode cL_law 644 = .ok (.iload 4, 2) := by decide +kernel
theorem dL_law_646 : decode cL_law 646 = .ok (.iconst 1, 1) := by decide +kernel
theorem dL_law_647 : decode cL_law 647 = .ok (.iadd, 1) := by decide +kernel
theorem dL_law_648 : decode cL_law 648 = .ok (.iaload, 1) := by decide +kernel
theorem dL_law_649 : decode cL_law 649 = .ok (.aload_n 3, 1) := by decide +kernel
theorem dL_law_650 : decode cL_law 650 = .ok (.invokestatic 98, 3) := by decide +kernel
theorem dL_law_653 : decode cL_law 653 = .ok (.istore 5, 2) := by decide +kernel
theorem dL_law_655 : decode cL_law 655 = .ok (.aload_n 2, 1) := by decide +kernel
theorem dL_law_656 : decode cL_law 656 = .ok (.aload_n 0, 1) := by decide +kernel
theorem dL_law_657 : decode cL_law 657 = .ok (.iload 4, 2) := by decide +kernel
theorem dL_law_659 : decode cL_law 659 = .ok (.iconst 1, 1) := by decide +kernel
theorem dL_law_660 : decode cL_law 660 = .ok (.iadd, 1) := by decide +kernel
theorem dL_law_661 : decode cL_law 661 = .ok (.iaload, 1) := by decide +kernel
theorem dL_law_662 : decode cL_law 662 = .ok (.invokevirtual 100, 3) := by decide +kernel
theorem dL_law_665 : decode cL_law 665 = .ok (.istore 6, 2) := by decide +kernel
theorem dL_law_667 : decode cL_law 667 = .ok (.aload_n 2, 1) := by decide +kernel
theorem dL_law_668 : decode cL_law 668 = .ok (.invokevirtual 62, 3) := by decide +kernel
theorem dL_law_671 : decode cL_law 671 = .ok (.iload 5, 2) := by decide +kernel
theorem dL_law_673 : decode cL_law 673 = .ok (.if_icmp .eq 5, 3) := by decide +kernel
theorem dL_law_676 : decode cL_law 676 = .ok (.iconst 0, 1) := by decide +kernel
theorem dL_law_677 : decode cL_law 677 = .ok (.ireturn, 1) := by decide +kernel
theorem dL_law_678 : decode cL_law 678 = .ok (.iload 5, 2) := by decide +kernel
theorem dL_law_680 : decode cL_law 680 = .ok (.ifCond .ne 15, 3) := by decide +kernel
theorem dL_law_683 : decode cL_law 683 = .ok (.aload_n 3, 1) := by decide +kernel
theorem dL_law_684 : decode cL_law 684 = .ok (.iconst 0, 1) := by decide +kernel
theorem dL_law_685 : decode cL_law 685 = .ok (.laload, 1) := by decide +kernel
theorem dL_law_686 : decode cL_law 686 = .ok (.iload 6, 2) := by decide +kernel
theorem dL_law_688 : decode cL_law 688 = .ok (.i2l, 1) := by decide +kernel
theorem dL_law_689 : decode cL_law 689 = .ok (.lcmp, 1) := by decide +kernel
theorem dL_law_690 : decode cL_law 690 = .ok (.ifCond .eq 5, 3) := by decide +kernel
theorem dL_law_693 : decode cL_law 693 = .ok (.iconst 0, 1) := by decide +kernel
theorem dL_law_694 : decode cL_law 694 = .ok (.ireturn, 1) := by decide +kernel
theorem dL_law_695 : decode cL_law 695 = .ok (.goto 235, 3) := by decide +kernel
theorem dL_law_698 : decode cL_law 698 = .ok (.aload_n 1, 1) := by decide +kernel
theorem dL_law_699 : decode cL_law 699 = .ok (.aload_n 0, 1) := by decide +kernel
theorem dL_law_700 : decode cL_law 700 = .ok (.iload 4, 2) := by decide +kernel
theorem dL_law_702 : decode cL_law 702 = .ok (.iconst 1, 1) := by decide +kernel
theorem dL_law_703 : decode cL_law 703 = .ok (.iadd, 1) := by decide +kernel
theorem dL_law_704 : decode cL_law 704 = .ok (.iaload, 1) := by decide +kernel
theorem dL_law_705 : decode cL_law 705 = .ok (.aload_n 0, 1) := by decide +kernel
theorem dL_law_706 : decode cL_law 706 = .ok (.iload 4, 2) := by decide +kernel
theorem dL_law_708 : decode cL_law 708 = .ok (.iconst 2, 1) := by decide +kernel
theorem dL_law_709 : decode cL_law 709 = .ok (.iadd, 1) := by decide +kernel
theorem dL_law_710 : decode cL_law 710 = .ok (.iaload, 1) := by decide +kernel
theorem dL_law_711 : decode cL_law 711 = .ok (.aload_n 0, 1) := by decide +kernel
theorem dL_law_712 : decode cL_law 712 = .ok (.iload 4, 2) := by decide +kernel
theorem dL_law_714 : decode cL_law 714 = .ok (.iconst 3, 1) := by decide +kernel
theorem dL_law_715 : decode cL_law 715 = .ok (.iadd, 1) := by decide +kernel
theorem dL_law_716 : decode cL_law 716 = .ok (.iaload, 1) := by decide +kernel
theorem dL_law_717 : decode cL_law 717 = .ok (.aload_n 0, 1) := by decide +kernel
theorem dL_law_718 : decode cL_law 718 = .ok (.iload 4, 2) := by decide +kernel
theorem dL_law_720 : decode cL_law 720 = .ok (.iconst 4, 1) := by decide +kernel
theorem dL_law_721 : decode cL_law 721 = .ok (.iadd, 1) := by decide +kernel
theorem dL_law_722 : decode cL_law 722 = .ok (.iaload, 1) := by decide +kernel
theorem dL_law_723 : decode cL_law 723 = .ok (.aload_n 0, 1) := by decide +kernel
theorem dL_law_724 : decode cL_law 724 = .ok (.iload 4, 2) := by decide +kernel
theorem dL_law_726 : decode cL_law 726 = .ok (.iconst 5, 1) := by decide +kernel
theorem dL_law_727 : decode cL_law 727 = .ok (.iadd, 1) := by decide +kernel
theorem dL_law_728 : decode cL_law 728 = .ok (.iaload, 1) := by decide +kernel
theorem dL_law_729 : decode cL_law 729 = .ok (.ifCond .eq 7, 3) := by decide +kernel
theorem dL_law_732 : decode cL_law 732 = .ok (.iconst 1, 1) := by decide +kernel
theorem dL_law_733 : decode cL_law 733 = .ok (.goto 4, 3) := by decide +kernel
theorem dL_law_736 : decode cL_law 736 = .ok (.iconst 0, 1) := by decide +kernel
theorem dL_law_737 : decode cL_law 737 = .ok (.aload_n 3, 1) := by decide +kernel
theorem dL_law_738 : decode cL_law 738 = .ok (.invokestatic 101, 3) := by decide +kernel
theorem dL_law_741 : decode cL_law 741 = .ok (.istore 5, 2) := by decide +kernel
theorem dL_law_743 : decode cL_law 743 = .ok (.aload_n 2, 1) := by decide +kernel
theorem dL_law_744 : decode cL_law 744 = .ok (.aload_n 0, 1) := by decide +kernel
theorem dL_law_745 : decode cL_law 745 = .ok (.iload 4, 2) := by decide +kernel
theorem dL_law_747 : decode cL_law 747 = .ok (.iconst 1, 1) := by decide +kernel
theorem dL_law_748 : decode cL_law 748 = .ok (.iadd, 1) := by decide +kernel
theorem dL_law_749 : decode cL_law 749 = .ok (.iaload, 1) := by decide +kernel
theorem dL_law_750 : decode cL_law 750 = .ok (.aload_n 0, 1) := by decide +kernel
theorem dL_law_751 : decode cL_law 751 = .ok (.iload 4, 2) := by decide +kernel
theorem dL_law_753 : decode cL_law 753 = .ok (.iconst 2, 1) := by decide +kernel
theorem dL_law_754 : decode cL_law 754 = .ok (.iadd, 1) := by decide +kernel
theorem dL_law_755 : decode cL_law 755 = .ok (.iaload, 1) := by decide +kernel
theorem dL_law_756 : decode cL_law 756 = .ok (.aload_n 0, 1) := by decide +kernel
theorem dL_law_757 : decode cL_law 757 = .ok (.iload 4, 2) := by decide +kernel
theorem dL_law_759 : decode cL_law 759 = .ok (.iconst 3, 1) := by decide +kernel
theorem dL_law_760 : decode cL_law 760 = .ok (.iadd, 1) := by decide +kernel
theorem dL_law_761 : decode cL_law 761 = .ok (.iaload, 1) := by decide +kernel
theorem dL_law_762 : decode cL_law 762 = .ok (.aload_n 0, 1) := by decide +kernel
theorem dL_law_763 : decode cL_law 763 = .ok (.iload 4, 2) := by decide +kernel
theorem dL_law_765 : decode cL_law 765 = .ok (.iconst 4, 1) := by decide +kernel
theorem dL_law_766 : decode cL_law 766 = .ok (.iadd, 1) := by decide +kernel
theorem dL_law_767 : decode cL_law 767 = .ok (.iaload, 1) := by decide +kernel
theorem dL_law_768 : decode cL_law 768 = .ok (.aload_n 0, 1) := by decide +kernel
theorem dL_law_769 : decode cL_law 769 = .ok (.iload 4, 2) := by decide +kernel
theorem dL_law_771 : decode cL_law 771 = .ok (.iconst 5, 1) := by decide +kernel
theorem dL_law_772 : decode cL_law 772 = .ok (.iadd, 1) := by decide +kernel
theorem dL_law_773 : decode cL_law 773 = .ok (.iaload, 1) := by decide +kernel
theorem dL_law_774 : decode cL_law 774 = .ok (.ifCond .eq 7, 3) := by decide +kernel
theorem dL_law_777 : decode cL_law 777 = .ok (.iconst 1, 1) := by decide +kernel
theorem dL_law_778 : decode cL_law 778 = .ok (.goto 4, 3) := by decide +kernel
theorem dL_law_781 : decode cL_law 781 = .ok (.iconst 0, 1) := by decide +kernel
theorem dL_law_782 : decode cL_law 782 = .ok (.invokevirtual 104, 3) := by decide +kernel
theorem dL_law_785 : decode cL_law 785 = .ok (.istore 6, 2) := by decide +kernel
theorem dL_law_787 : decode cL_law 787 = .ok (.aload_n 2, 1) := by decide +kernel
theorem dL_law_788 : decode cL_law 788 = .ok (.invokevirtual 62, 3) := by decide +kernel
theorem dL_law_791 : decode cL_law 791 = .ok (.iload 5, 2) := by decide +kernel
theorem dL_law_793 : decode cL_law 793 = .ok (.if_icmp .eq 5, 3) := by decide +kernel
theorem dL_law_796 : decode cL_law 796 = .ok (.iconst 0, 1) := by decide +kernel
theorem dL_law_797 : decode cL_law 797 = .ok (.ireturn, 1) := by decide +kernel
theorem dL_law_798 : decode cL_law 798 = .ok (.iload 5, 2) := by decide +kernel
theorem dL_law_800 : decode cL_law 800 = .ok (.ifCond .ne 15, 3) := by decide +kernel
theorem dL_law_803 : decode cL_law 803 = .ok (.aload_n 3, 1) := by decide +kernel
theorem dL_law_804 : decode cL_law 804 = .ok (.iconst 0, 1) := by decide +kernel
theorem dL_law_805 : decode cL_law 805 = .ok (.laload, 1) := by decide +kernel
theorem dL_law_806 : decode cL_law 806 = .ok (.iload 6, 2) := by decide +kernel
theorem dL_law_808 : decode cL_law 808 = .ok (.i2l, 1) := by decide +kernel
theorem dL_law_809 : decode cL_law 809 = .ok (.lcmp, 1) := by decide +kernel
theorem dL_law_810 : decode cL_law 810 = .ok (.ifCond .eq 5, 3) := by decide +kernel
theorem dL_law_813 : decode cL_law 813 = .ok (.iconst 0, 1) := by decide +kernel
theorem dL_law_814 : decode cL_law 814 = .ok (.ireturn, 1) := by decide +kernel
theorem dL_law_815 : decode cL_law 815 = .ok (.goto 115, 3) := by decide +kernel
theorem dL_law_818 : decode cL_law 818 = .ok (.aload_n 1, 1) := by decide +kernel
theorem dL_law_819 : decode cL_law 819 = .ok (.aload_n 0, 1) := by decide +kernel
theorem dL_law_820 : decode cL_law 820 = .ok (.iload 4, 2) := by decide +kernel
theorem dL_law_822 : decode cL_law 822 = .ok (.iconst 1, 1) := by decide +kernel
theorem dL_law_823 : decode cL_law 823 = .ok (.iadd, 1) := by decide +kernel
theorem dL_law_824 : decode cL_law 824 = .ok (.iaload, 1) := by decide +kernel
theorem dL_law_825 : decode cL_law 825 = .ok (.aload_n 3, 1) := by decide +kernel
theorem dL_law_826 : decode cL_law 826 = .ok (.invokestatic 105, 3) := by decide +kernel
theorem dL_law_829 : decode cL_law 829 = .ok (.istore 5, 2) := by decide +kernel
theorem dL_law_831 : decode cL_law 831 = .ok (.aload_n 2, 1) := by decide +kernel
theorem dL_law_832 : decode cL_law 832 = .ok (.aload_n 0, 1) := by decide +kernel
theorem dL_law_833 : decode cL_law 833 = .ok (.iload 4, 2) := by decide +kernel
theorem dL_law_835 : decode cL_law 835 = .ok (.iconst 1, 1) := by decide +kernel
theorem dL_law_836 : decode cL_law 836 = .ok (.iadd, 1) := by decide +kernel
theorem dL_law_837 : decode cL_law 837 = .ok (.iaload, 1) := by decide +kernel
theorem dL_law_838 : decode cL_law 838 = .ok (.invokevirtual 107, 3) := by decide +kernel
theorem dL_law_841 : decode cL_law 841 = .ok (.istore 6, 2) := by decide +kernel
theorem dL_law_843 : decode cL_law 843 = .ok (.aload_n 2, 1) := by decide +kernel
theorem dL_law_844 : decode cL_law 844 = .ok (.invokevirtual 62, 3) := by decide +kernel
theorem dL_law_847 : decode cL_law 847 = .ok (.iload 5, 2) := by decide +kernel
theorem dL_law_849 : decode cL_law 849 = .ok (.if_icmp .eq 5, 3) := by decide +kernel
theorem dL_law_852 : decode cL_law 852 = .ok (.iconst 0, 1) := by decide +kernel
theorem dL_law_853 : decode cL_law 853 = .ok (.ireturn, 1) := by decide +kernel
theorem dL_law_854 : decode cL_law 854 = .ok (.iload 5, 2) := by decide +kernel
theorem dL_law_856 : decode cL_law 856 = .ok (.ifCond .ne 15, 3) := by decide +kernel
theorem dL_law_859 : decode cL_law 859 = .ok (.aload_n 3, 1) := by decide +kernel
theorem dL_law_860 : decode cL_law 860 = .ok (.iconst 0, 1) := by decide +kernel
theorem dL_law_861 : decode cL_law 861 = .ok (.laload, 1) := by decide +kernel
theorem dL_law_862 : decode cL_law 862 = .ok (.iload 6, 2) := by decide +kernel
theorem dL_law_864 : decode cL_law 864 = .ok (.i2l, 1) := by decide +kernel
theorem dL_law_865 : decode cL_law 865 = .ok (.lcmp, 1) := by decide +kernel
theorem dL_law_866 : decode cL_law 866 = .ok (.ifCond .eq 5, 3) := by decide +kernel
theorem dL_law_869 : decode cL_law 869 = .ok (.iconst 0, 1) := by decide +kernel
theorem dL_law_870 : decode cL_law 870 = .ok (.ireturn, 1) := by decide +kernel
theorem dL_law_871 : decode cL_law 871 = .ok (.goto 59, 3) := by decide +kernel
theorem dL_law_874 : decode cL_law 874 = .ok (.aload_n 1, 1) := by decide +kernel
theorem dL_law_875 : decode cL_law 875 = .ok (.aload_n 0, 1) := by decide +kernel
theorem dL_law_876 : decode cL_law 876 = .ok (.iload 4, 2) := by decide +kernel
theorem dL_law_878 : decode cL_law 878 = .ok (.iconst 1, 1) := by decide +kernel
theorem dL_law_879 : decode cL_law 879 = .ok (.iadd, 1) := by decide +kernel
theorem dL_law_880 : decode cL_law 880 = .ok (.iaload, 1) := by decide +kernel
theorem dL_law_881 : decode cL_law 881 = .ok (.aload_n 3, 1) := by decide +kernel
theorem dL_law_882 : decode cL_law 882 = .ok (.invokestatic 108, 3) := by decide +kernel
theorem dL_law_885 : decode cL_law 885 = .ok (.istore 5, 2) := by decide +kernel
theorem dL_law_887 : decode cL_law 887 = .ok (.aload_n 2, 1) := by decide +kernel
theorem dL_law_888 : decode cL_law 888 = .ok (.aload_n 0, 1) := by decide +kernel
theorem dL_law_889 : decode cL_law 889 = .ok (.iload 4, 2) := by decide +kernel
theorem dL_law_891 : decode cL_law 891 = .ok (.iconst 1, 1) := by decide +kernel
theorem dL_law_892 : decode cL_law 892 = .ok (.iadd, 1) := by decide +kernel
theorem dL_law_893 : decode cL_law 893 = .ok (.iaload, 1) := by decide +kernel
theorem dL_law_894 : decode cL_law 894 = .ok (.invokevirtual 110, 3) := by decide +kernel
theorem dL_law_897 : decode cL_law 897 = .ok (.istore 6, 2) := by decide +kernel
theorem dL_law_899 : decode cL_law 899 = .ok (.aload_n 2, 1) := by decide +kernel
theorem dL_law_900 : decode cL_law 900 = .ok (.invokevirtual 62, 3) := by decide +kernel
theorem dL_law_903 : decode cL_law 903 = .ok (.iload 5, 2) := by decide +kernel
theorem dL_law_905 : decode cL_law 905 = .ok (.if_icmp .eq 5, 3) := by decide +kernel
theorem dL_law_908 : decode cL_law 908 = .ok (.iconst 0, 1) := by decide +kernel
theorem dL_law_909 : decode cL_law 909 = .ok (.ireturn, 1) := by decide +kernel
theorem dL_law_910 : decode cL_law 910 = .ok (.iload 5, 2) := by decide +kernel
theorem dL_law_912 : decode cL_law 912 = .ok (.ifCond .ne 15, 3) := by decide +kernel
theorem dL_law_915 : decode cL_law 915 = .ok (.aload_n 3, 1) := by decide +kernel
theorem dL_law_916 : decode cL_law 916 = .ok (.iconst 0, 1) := by decide +kernel
theorem dL_law_917 : decode cL_law 917 = .ok (.laload, 1) := by decide +kernel
theorem dL_law_918 : decode cL_law 918 = .ok (.iload 6, 2) := by decide +kernel
theorem dL_law_920 : decode cL_law 920 = .ok (.i2l, 1) := by decide +kernel
theorem dL_law_921 : decode cL_law 921 = .ok (.lcmp, 1) := by decide +kernel
theorem dL_law_922 : decode cL_law 922 = .ok (.ifCond .eq 5, 3) := by decide +kernel
theorem dL_law_925 : decode cL_law 925 = .ok (.iconst 0, 1) := by decide +kernel
theorem dL_law_926 : decode cL_law 926 = .ok (.ireturn, 1) := by decide +kernel
theorem dL_law_927 : decode cL_law 927 = .ok (.goto 3, 3) := by decide +kernel
theorem dL_law_930 : decode cL_law 930 = .ok (.iinc 4 6, 3) := by decide +kernel
theorem dL_law_933 : decode cL_law 933 = .ok (.goto (-910), 3) := by decide +kernel
theorem dL_law_936 : decode cL_law 936 = .ok (.iconst 1, 1) := by decide +kernel
theorem dL_law_937 : decode cL_law 937 = .ok (.ireturn, 1) := by decide +kernel
theorem dJ9_max_7cf53_0 : decode cJ9_max_7cf53 0 = .ok (.iload_n 0, 1) := by decide +kernel
theorem dJ9_max_7cf53_1 : decode cJ9_max_7cf53 1 = .ok (.iload_n 1, 1) := by decide +kernel
theorem dJ9_max_7cf53_2 : decode cJ9_max_7cf53 2 = .ok (.if_icmp .lt 7, 3) := by decide +kernel
theorem dJ9_max_7cf53_5 : decode cJ9_max_7cf53 5 = .ok (.iload_n 0, 1) := by decide +kernel
theorem dJ9_max_7cf53_6 : decode cJ9_max_7cf53 6 = .ok (.goto 4, 3) := by decide +kernel
theorem dJ9_max_7cf53_9 : decode cJ9_max_7cf53 9 = .ok (.iload_n 1, 1) := by decide +kernel
theorem dJ9_max_7cf53_10 : decode cJ9_max_7cf53 10 = .ok (.ireturn, 1) := by decide +kernel
theorem dJ9_min_7cf53_0 : decode cJ9_min_7cf53 0 = .ok (.iload_n 0, 1) := by decide +kernel
theorem dJ9_min_7cf53_1 : decode cJ9_min_7cf53 1 = .ok (.iload_n 1, 1) := by decide +kernel
theorem dJ9_min_7cf53_2 : decode cJ9_min_7cf53 2 = .ok (.if_icmp .gt 7, 3) := by decide +kernel
theorem dJ9_min_7cf53_5 : decode cJ9_min_7cf53 5 = .ok (.iload_n 0, 1) := by decide +kernel
theorem dJ9_min_7cf53_6 : decode cJ9_min_7cf53 6 = .ok (.goto 4, 3) := by decide +kernel
theorem dJ9_min_7cf53_9 : decode cJ9_min_7cf53 9 = .ok (.iload_n 1, 1) := by decide +kernel
theorem dJ9_min_7cf53_10 : decode cJ9_min_7cf53 10 = .ok (.ireturn, 1) := by decide +kernel
theorem dJ7_copyOf_9075b_0 : decode cJ7_copyOf_9075b 0 = .ok (.iload_n 1, 1) := by decide +kernel
theorem dJ7_copyOf_9075b_1 : decode cJ7_copyOf_9075b 1 = .ok (.aload_n 0, 1) := by decide +kernel
theorem dJ7_copyOf_9075b_2 : decode cJ7_copyOf_9075b 2 = .ok (.arraylength, 1) := by decide +kernel
theorem dJ7_copyOf_9075b_3 : decode cJ7_copyOf_9075b 3 = .ok (.if_icmp .ne 11, 3) := by decide +kernel
theorem dJ7_copyOf_9075b_6 : decode cJ7_copyOf_9075b 6 = .ok (.aload_n 0, 1) := by decide +kernel
theorem dJ7_copyOf_9075b_7 : decode cJ7_copyOf_9075b 7 = .ok (.invokevirtual 310, 3) := by decide +kernel
theorem dJ7_copyOf_9075b_10 : decode cJ7_copyOf_9075b 10 = .ok (.checkcast 311, 3) := by decide +kernel
theorem dJ7_copyOf_9075b_13 : decode cJ7_copyOf_9075b 13 = .ok (.areturn, 1) := by decide +kernel
theorem dJ7_copyOf_9075b_14 : decode cJ7_copyOf_9075b 14 = .ok (.iload_n 1, 1) := by decide +kernel
theorem dJ7_copyOf_9075b_15 : decode cJ7_copyOf_9075b 15 = .ok (.newarray .byte, 2) := by decide +kernel
theorem dJ7_copyOf_9075b_17 : decode cJ7_copyOf_9075b 17 = .ok (.astore_n 2, 1) := by decide +kernel
theorem dJ7_copyOf_9075b_18 : decode cJ7_copyOf_9075b 18 = .ok (.aload_n 0, 1) := by decide +kernel
theorem dJ7_copyOf_9075b_19 : decode cJ7_copyOf_9075b 19 = .ok (.iconst 0, 1) := by decide +kernel
theorem dJ7_copyOf_9075b_20 : decode cJ7_copyOf_9075b 20 = .ok (.aload_n 2, 1) := by decide +kernel
theorem dJ7_copyOf_9075b_21 : decode cJ7_copyOf_9075b 21 = .ok (.iconst 0, 1) := by decide +kernel
theorem dJ7_copyOf_9075b_22 : decode cJ7_copyOf_9075b 22 = .ok (.aload_n 0, 1) := by decide +kernel
theorem dJ7_copyOf_9075b_23 : decode cJ7_copyOf_9075b 23 = .ok (.arraylength, 1) := by decide +kernel
theorem dJ7_copyOf_9075b_24 : decode cJ7_copyOf_9075b 24 = .ok (.iload_n 1, 1) := by decide +kernel
theorem dJ7_copyOf_9075b_25 : decode cJ7_copyOf_9075b 25 = .ok (.invokestatic 304, 3) := by decide +kernel
theorem dJ7_copyOf_9075b_28 : decode cJ7_copyOf_9075b 28 = .ok (.invokestatic 150, 3) := by decide +kernel
theorem dJ7_copyOf_9075b_31 : decode cJ7_copyOf_9075b 31 = .ok (.aload_n 2, 1) := by decide +kernel
theorem dJ7_copyOf_9075b_32 : decode cJ7_copyOf_9075b 32 = .ok (.areturn, 1) := by decide +kernel
theorem dJ7_copyOf_59c91_0 : decode cJ7_copyOf_59c91 0 = .ok (.iload_n 1, 1) := by decide +kernel
theorem dJ7_copyOf_59c91_1 : decode cJ7_copyOf_59c91 1 = .ok (.aload_n 0, 1) := by decide +kernel
theorem dJ7_copyOf_59c91_2 : decode cJ7_copyOf_59c91 2 = .ok (.arraylength, 1) := by decide +kernel
theorem dJ7_copyOf_59c91_3 : decode cJ7_copyOf_59c91 3 = .ok (.if_icmp .ne 11, 3) := by decide +kernel
theorem dJ7_copyOf_59c91_6 : decode cJ7_copyOf_59c91 6 = .ok (.aload_n 0, 1) := by decide +kernel
theorem dJ7_copyOf_59c91_7 : decode cJ7_copyOf_59c91 7 = .ok (.invokevirtual 316, 3) := by decide +kernel
theorem dJ7_copyOf_59c91_10 : decode cJ7_copyOf_59c91 10 = .ok (.checkcast 317, 3) := by decide +kernel
theorem dJ7_copyOf_59c91_13 : decode cJ7_copyOf_59c91 13 = .ok (.areturn, 1) := by decide +kernel
theorem dJ7_copyOf_59c91_14 : decode cJ7_copyOf_59c91 14 = .ok (.iload_n 1, 1) := by decide +kernel
theorem dJ7_copyOf_59c91_15 : decode cJ7_copyOf_59c91 15 = .ok (.newarray .int, 2) := by decide +kernel
theorem dJ7_copyOf_59c91_17 : decode cJ7_copyOf_59c91 17 = .ok (.astore_n 2, 1) := by decide +kernel
theorem dJ7_copyOf_59c91_18 : decode cJ7_copyOf_59c91 18 = .ok (.aload_n 0, 1) := by decide +kernel
theorem dJ7_copyOf_59c91_19 : decode cJ7_copyOf_59c91 19 = .ok (.iconst 0, 1) := by decide +kernel
theorem dJ7_copyOf_59c91_20 : decode cJ7_copyOf_59c91 20 = .ok (.aload_n 2, 1) := by decide +kernel
theorem dJ7_copyOf_59c91_21 : decode cJ7_copyOf_59c91 21 = .ok (.iconst 0, 1) := by decide +kernel
theorem dJ7_copyOf_59c91_22 : decode cJ7_copyOf_59c91 22 = .ok (.aload_n 0, 1) := by decide +kernel
theorem dJ7_copyOf_59c91_23 : decode cJ7_copyOf_59c91 23 = .ok (.arraylength, 1) := by decide +kernel
theorem dJ7_copyOf_59c91_24 : decode cJ7_copyOf_59c91 24 = .ok (.iload_n 1, 1) := by decide +kernel
theorem dJ7_copyOf_59c91_25 : decode cJ7_copyOf_59c91 25 = .ok (.invokestatic 304, 3) := by decide +kernel
theorem dJ7_copyOf_59c91_28 : decode cJ7_copyOf_59c91 28 = .ok (.invokestatic 150, 3) := by decide +kernel
theorem dJ7_copyOf_59c91_31 : decode cJ7_copyOf_59c91 31 = .ok (.aload_n 2, 1) := by decide +kernel
theorem dJ7_copyOf_59c91_32 : decode cJ7_copyOf_59c91 32 = .ok (.areturn, 1) := by decide +kernel
end
section
theorem dX11_init_0 : decode cX11_init 0 = .ok (.aload_n 0, 1) := by decide +kernel
theorem dX11_init_1 : decode cX11_init 1 = .ok (.invokespecial 1, 3) := by decide +kernel
theorem dX11_init_4 : decode cX11_init 4 = .ok (.aload_n 0, 1) := by decide +kernel
theorem dX11_init_5 : decode cX11_init 5 = .ok (.bipush 12, 2) := by decide +kernel
theorem dX11_init_7 : decode cX11_init 7 = .ok (.newarray .int, 2) := by decide +kernel
theorem dX11_init_9 : decode cX11_init 9 = .ok (.putfield 7, 3) := by decide +kernel
theorem dX11_init_12 : decode cX11_init 12 = .ok (.aload_n 0, 1) := by decide +kernel
theorem dX11_init_13 : decode cX11_init 13 = .ok (.bipush 12, 2) := by decide +kernel
theorem dX11_init_15 : decode cX11_init 15 = .ok (.newarray .int, 2) := by decide +kernel
theorem dX11_init_17 : decode cX11_init 17 = .ok (.putfield 13, 3) := by decide +kernel
theorem dX11_init_20 : decode cX11_init 20 = .ok (.aload_n 0, 1) := by decide +kernel
theorem dX11_init_21 : decode cX11_init 21 = .ok (.sipush 480, 3) := by decide +kernel
theorem dX11_init_24 : decode cX11_init 24 = .ok (.newarray .int, 2) := by decide +kernel
theorem dX11_init_26 : decode cX11_init 26 = .ok (.putfield 16, 3) := by decide +kernel
theorem dX11_init_29 : decode cX11_init 29 = .ok (.aload_n 0, 1) := by decide +kernel
theorem dX11_init_30 : decode cX11_init 30 = .ok (.sipush 480, 3) := by decide +kernel
theorem dX11_init_33 : decode cX11_init 33 = .ok (.newarray .int, 2) := by decide +kernel
theorem dX11_init_35 : decode cX11_init 35 = .ok (.putfield 19, 3) := by decide +kernel
theorem dX11_init_38 : decode cX11_init 38 = .ok (.aload_n 0, 1) := by decide +kernel
theorem dX11_init_39 : decode cX11_init 39 = .ok (.sipush 480, 3) := by decide +kernel
theorem dX11_init_42 : decode cX11_init 42 = .ok (.newarray .int, 2) := by decide +kernel
theorem dX11_init_44 : decode cX11_init 44 = .ok (.putfield 22, 3) := by decide +kernel
theorem dX11_init_47 : decode cX11_init 47 = .ok (.aload_n 0, 1) := by decide +kernel
theorem dX11_init_48 : decode cX11_init 48 = .ok (.bipush 8, 2) := by decide +kernel
theorem dX11_init_50 : decode cX11_init 50 = .ok (.newarray .int, 2) := by decide +kernel
theorem dX11_init_52 : decode cX11_init 52 = .ok (.putfield 25, 3) := by decide +kernel
theorem dX11_init_55 : decode cX11_init 55 = .ok (.aload_n 0, 1) := by decide +kernel
theorem dX11_init_56 : decode cX11_init 56 = .ok (.bipush 96, 2) := by decide +kernel
theorem dX11_init_58 : decode cX11_init 58 = .ok (.newarray .int, 2) := by decide +kernel
theorem dX11_init_60 : decode cX11_init 60 = .ok (.putfield 28, 3) := by decide +kernel
theorem dX11_init_63 : decode cX11_init 63 = .ok (.aload_n 0, 1) := by decide +kernel
theorem dX11_init_64 : decode cX11_init 64 = .ok (.bipush 40, 2) := by decide +kernel
theorem dX11_init_66 : decode cX11_init 66 = .ok (.newarray .int, 2) := by decide +kernel
theorem dX11_init_68 : decode cX11_init 68 = .ok (.putfield 31, 3) := by decide +kernel
theorem dX11_init_71 : decode cX11_init 71 = .ok (.aload_n 0, 1) := by decide +kernel
theorem dX11_init_72 : decode cX11_init 72 = .ok (.bipush 40, 2) := by decide +kernel
theorem dX11_init_74 : decode cX11_init 74 = .ok (.newarray .boolean, 2) := by decide +kernel
theorem dX11_init_76 : decode cX11_init 76 = .ok (.putfield 34, 3) := by decide +kernel
theorem dX11_init_79 : decode cX11_init 79 = .ok (.aload_n 0, 1) := by decide +kernel
theorem dX11_init_80 : decode cX11_init 80 = .ok (.bipush 12, 2) := by decide +kernel
theorem dX11_init_82 : decode cX11_init 82 = .ok (.newarray .int, 2) := by decide +kernel
theorem dX11_init_84 : decode cX11_init 84 = .ok (.putfield 38, 3) := by decide +kernel
theorem dX11_init_87 : decode cX11_init 87 = .ok (.aload_n 0, 1) := by decide +kernel
theorem dX11_init_88 : decode cX11_init 88 = .ok (.bipush 12, 2) := by decide +kernel
theorem dX11_init_90 : decode cX11_init 90 = .ok (.newarray .int, 2) := by decide +kernel
theorem dX11_init_92 : decode cX11_init 92 = .ok (.putfield 41, 3) := by decide +kernel
theorem dX11_init_95 : decode cX11_init 95 = .ok (.aload_n 0, 1) := by decide +kernel
theorem dX11_init_96 : decode cX11_init 96 = .ok (.bipush 12, 2) := by decide +kernel
theorem dX11_init_98 : decode cX11_init 98 = .ok (.newarray .int, 2) := by decide +kernel
theorem dX11_init_100 : decode cX11_init 100 = .ok (.putfield 44, 3) := by decide +kernel
theorem dX11_init_103 : decode cX11_init 103 = .ok (.aload_n 0, 1) := by decide +kernel
theorem dX11_init_104 : decode cX11_init 104 = .ok (.sipush 18000, 3) := by decide +kernel
theorem dX11_init_107 : decode cX11_init 107 = .ok (.newarray .int, 2) := by decide +kernel
theorem dX11_init_109 : decode cX11_init 109 = .ok (.putfield 47, 3) := by decide +kernel
theorem dX11_init_112 : decode cX11_init 112 = .ok (.aload_n 0, 1) := by decide +kernel
theorem dX11_init_113 : decode cX11_init 113 = .ok (.sipush 18000, 3) := by decide +kernel
theorem dX11_init_116 : decode cX11_init 116 = .ok (.newarray .int, 2) := by decide +kernel
theorem dX11_init_118 : decode cX11_init 118 = .ok (.putfield 50, 3) := by decide +kernel
theorem dX11_init_121 : decode cX11_init 121 = .ok (.aload_n 0, 1) := by decide +kernel
theorem dX11_init_122 : decode cX11_init 122 = .ok (.sipush 18000, 3) := by decide +kernel
theorem dX11_init_125 : decode cX11_init 125 = .ok (.newarray .int, 2) := by decide +kernel
theorem dX11_init_127 : decode cX11_init 127 = .ok (.putfield 53, 3) := by decide +kernel
theorem dX11_init_130 : decode cX11_init 130 = .ok (.aload_n 0, 1) := by decide +kernel
theorem dX11_init_131 : decode cX11_init 131 = .ok (.bipush 40, 2) := by decide +kernel
theorem dX11_init_133 : decode cX11_init 133 = .ok (.newarray .int, 2) := by decide +kernel
theorem dX11_init_135 : decode cX11_init 135 = .ok (.putfield 56, 3) := by decide +kernel
theorem dX11_init_138 : decode cX11_init 138 = .ok (.aload_n 0, 1) := by decide +kernel
theorem dX11_init_139 : decode cX11_init 139 = .ok (.sipush 480, 3) := by decide +kernel
theorem dX11_init_142 : decode cX11_init 142 = .ok (.newarray .int, 2) := by decide +kernel
theorem dX11_init_144 : decode cX11_init 144 = .ok (.putfield 59, 3) := by decide +kernel
theorem dX11_init_147 : decode cX11_init 147 = .ok (.aload_n 0, 1) := by decide +kernel
theorem dX11_init_148 : decode cX11_init 148 = .ok (.sipush 480, 3) := by decide +kernel
theorem dX11_init_151 : decode cX11_init 151 = .ok (.newarray .int, 2) := by decide +kernel
theorem dX11_init_153 : decode cX11_init 153 = .ok (.putfield 62, 3) := by decide +kernel
theorem dX11_init_156 : decode cX11_init 156 = .ok (.aload_n 0, 1) := by decide +kernel
theorem dX11_init_157 : decode cX11_init 157 = .ok (.bipush 96, 2) := by decide +kernel
theorem dX11_init_159 : decode cX11_init 159 = .ok (.newarray .int, 2) := by decide +kernel
theorem dX11_init_161 : decode cX11_init 161 = .ok (.putfield 65, 3) := by decide +kernel
theorem dX11_init_164 : decode cX11_init 164 = .ok (.aload_n 0, 1) := by decide +kernel
theorem dX11_init_165 : decode cX11_init 165 = .ok (.bipush 8, 2) := by decide +kernel
theorem dX11_init_167 : decode cX11_init 167 = .ok (.newarray .int, 2) := by decide +kernel
theorem dX11_init_169 : decode cX11_init 169 = .ok (.putfield 68, 3) := by decide +kernel
theorem dX11_init_172 : decode cX11_init 172 = .ok (.aload_n 0, 1) := by decide +kernel
theorem dX11_init_173 : decode cX11_init 173 = .ok (.sipush 200, 3) := by decide +kernel
theorem dX11_init_176 : decode cX11_init 176 = .ok (.newarray .int, 2) := by decide +kernel
theorem dX11_init_178 : decode cX11_init 178 = .ok (.putfield 71, 3) := by decide +kernel
theorem dX11_init_181 : decode cX11_init 181 = .ok (.aload_n 0, 1) := by decide +kernel
theorem dX11_init_182 : decode cX11_init 182 = .ok (.sipush 500, 3) := by decide +kernel
theorem dX11_init_185 : decode cX11_init 185 = .ok (.newarray .int, 2) := by decide +kernel
theorem dX11_init_187 : decode cX11_init 187 = .ok (.putfield 74, 3) := by decide +kernel
theorem dX11_init_190 : decode cX11_init 190 = .ok (.aload_n 0, 1) := by decide +kernel
theorem dX11_init_191 : decode cX11_init 191 = .ok (.sipush 500, 3) := by decide +kernel
theorem dX11_init_194 : decode cX11_init 194 = .ok (.newarray .int, 2) := by decide +kernel
theorem dX11_init_196 : decode cX11_init 196 = .ok (.putfield 77, 3) := by decide +kernel
theorem dX11_init_199 : decode cX11_init 199 = .ok (.aload_n 0, 1) := by decide +kernel
theorem dX11_init_200 : decode cX11_init 200 = .ok (.bipush 32, 2) := by decide +kernel
theorem dX11_init_202 : decode cX11_init 202 = .ok (.newarray .int, 2) := by decide +kernel
theorem dX11_init_204 : decode cX11_init 204 = .ok (.putfield 80, 3) := by decide +kernel
theorem dX11_init_207 : decode cX11_init 207 = .ok (.aload_n 0, 1) := by decide +kernel
theorem dX11_init_208 : decode cX11_init 208 = .ok (.bipush 32, 2) := by decide +kernel
theorem dX11_init_210 : decode cX11_init 210 = .ok (.newarray .int, 2) := by decide +kernel
theorem dX11_init_212 : decode cX11_init 212 = .ok (.putfield 83, 3) := by decide +kernel
theorem dX11_init_215 : decode cX11_init 215 = .ok (.aload_n 0, 1) := by decide +kernel
theorem dX11_init_216 : decode cX11_init 216 = .ok (.bipush 32, 2) := by decide +kernel
theorem dX11_init_218 : decode cX11_init 218 = .ok (.newarray .int, 2) := by decide +kernel
theorem dX11_init_220 : decode cX11_init 220 = .ok (.putfield 86, 3) := by decide +kernel
theorem dX11_init_223 : decode cX11_init 223 = .ok (.aload_n 0, 1) := by decide +kernel
theorem dX11_init_224 : decode cX11_init 224 = .ok (.sipush 256, 3) := by decide +kernel
theorem dX11_init_227 : decode cX11_init 227 = .ok (.newarray .int, 2) := by decide +kernel
theorem dX11_init_229 : decode cX11_init 229 = .ok (.putfield 89, 3) := by decide +kernel
theorem dX11_init_232 : decode cX11_init 232 = .ok (.aload_n 0, 1) := by decide +kernel
theorem dX11_init_233 : decode cX11_init 233 = .ok (.sipush 256, 3) := by decide +kernel
theorem dX11_init_236 : decode cX11_init 236 = .ok (.newarray .int, 2) := by decide +kernel
theorem dX11_init_238 : decode cX11_init 238 = .ok (.putfield 92, 3) := by decide +kernel
theorem dX11_init_241 : decode cX11_init 241 = .ok (.aload_n 0, 1) := by decide +kernel
theorem dX11_init_242 : decode cX11_init 242 = .ok (.bipush 6, 2) := by decide +kernel
theorem dX11_init_244 : decode cX11_init 244 = .ok (.newarray .int, 2) := by decide +kernel
theorem dX11_init_246 : decode cX11_init 246 = .ok (.putfield 95, 3) := by decide +kernel
theorem dX11_init_249 : decode cX11_init 249 = .ok (.aload_n 0, 1) := by decide +kernel
theorem dX11_init_250 : decode cX11_init 250 = .ok (.bipush 6, 2) := by decide +kernel
theorem dX11_init_252 : decode cX11_init 252 = .ok (.newarray .int, 2) := by decide +kernel
theorem dX11_init_254 : decode cX11_init 254 = .ok (.putfield 98, 3) := by decide +kernel
theorem dX11_init_257 : decode cX11_init 257 = .ok (.aload_n 0, 1) := by decide +kernel
theorem dX11_init_258 : decode cX11_init 258 = .ok (.sipush 401, 3) := by decide +kernel
theorem dX11_init_261 : decode cX11_init 261 = .ok (.newarray .int, 2) := by decide +kernel
theorem dX11_init_263 : decode cX11_init 263 = .ok (.putfield 101, 3) := by decide +kernel
theorem dX11_init_266 : decode cX11_init 266 = .ok (.aload_n 0, 1) := by decide +kernel
theorem dX11_init_267 : decode cX11_init 267 = .ok (.ldc 104, 2) := by decide +kernel
theorem dX11_init_269 : decode cX11_init 269 = .ok (.newarray .int, 2) := by decide +kernel
theorem dX11_init_271 : decode cX11_init 271 = .ok (.putfield 105, 3) := by decide +kernel
theorem dX11_init_274 : decode cX11_init 274 = .ok (.aload_n 0, 1) := by decide +kernel
theorem dX11_init_275 : decode cX11_init 275 = .ok (.sipush 401, 3) := by decide +kernel
theorem dX11_init_278 : decode cX11_init 278 = .ok (.newarray .int, 2) := by decide +kernel
theorem dX11_init_280 : decode cX11_init 280 = .ok (.putfield 108, 3) := by decide +kernel
theorem dX11_init_283 : decode cX11_init 283 = .ok (.aload_n 0, 1) := by decide +kernel
theorem dX11_init_284 : decode cX11_init 284 = .ok (.sipush 401, 3) := by decide +kernel
theorem dX11_init_287 : decode cX11_init 287 = .ok (.newarray .int, 2) := by decide +kernel
theorem dX11_init_289 : decode cX11_init 289 = .ok (.putfield 111, 3) := by decide +kernel
theorem dX11_init_292 : decode cX11_init 292 = .ok (.aload_n 0, 1) := by decide +kernel
theorem dX11_init_293 : decode cX11_init 293 = .ok (.sipush 1203, 3) := by decide +kernel
theorem dX11_init_296 : decode cX11_init 296 = .ok (.newarray .int, 2) := by decide +kernel
theorem dX11_init_298 : decode cX11_init 298 = .ok (.putfield 114, 3) := by decide +kernel
theorem dX11_init_301 : decode cX11_init 301 = .ok (.aload_n 0, 1) := by decide +kernel
theorem dX11_init_302 : decode cX11_init 302 = .ok (.sipush 1203, 3) := by decide +kernel
theorem dX11_init_305 : decode cX11_init 305 = .ok (.newarray .int, 2) := by decide +kernel
theorem dX11_init_307 : decode cX11_init 307 = .ok (.putfield 117, 3) := by decide +kernel
theorem dX11_init_310 : decode cX11_init 310 = .ok (.aload_n 0, 1) := by decide +kernel
theorem dX11_init_311 : decode cX11_init 311 = .ok (.sipush 2500, 3) := by decide +kernel
theorem dX11_init_314 : decode cX11_init 314 = .ok (.newarray .int, 2) := by decide +kernel
theorem dX11_init_316 : decode cX11_init 316 = .ok (.putfield 120, 3) := by decide +kernel
theorem dX11_init_319 : decode cX11_init 319 = .ok (.return_, 1) := by decide +kernel
theorem dX11_thrown_0 : decode cX11_thrown 0 = .ok (.aload_n 0, 1) := by decide +kernel
theorem dX11_thrown_1 : decode cX11_thrown 1 = .ok (.getfield 123, 3) := by decide +kernel
theorem dX11_thrown_4 : decode cX11_thrown 4 = .ok (.ireturn, 1) := by decide +kernel
theorem dX11_goes_0 : decode cX11_goes 0 = .ok (.aload_n 0, 1) := by decide +kernel
theorem dX11_goes_1 : decode cX11_goes 1 = .ok (.iload_n 1, 1) := by decide +kernel
theorem dX11_goes_2 : decode cX11_goes 2 = .ok (.ifCond .ne 7, 3) := by decide +kernel
theorem dX11_goes_5 : decode cX11_goes 5 = .ok (.iconst 1, 1) := by decide +kernel
theorem dX11_goes_6 : decode cX11_goes 6 = .ok (.goto 12, 3) := by decide +kernel
theorem dX11_goes_9 : decode cX11_goes 9 = .ok (.iload_n 2, 1) := by decide +kernel
theorem dX11_goes_10 : decode cX11_goes 10 = .ok (.ifCond .ne 7, 3) := by decide +kernel
theorem dX11_goes_13 : decode cX11_goes 13 = .ok (.iconst 2, 1) := by decide +kernel
theorem dX11_goes_14 : decode cX11_goes 14 = .ok (.goto 4, 3) := by decide +kernel
theorem dX11_goes_17 : decode cX11_goes 17 = .ok (.iconst 0, 1) := by decide +kernel
theorem dX11_goes_18 : decode cX11_goes 18 = .ok (.putfield 123, 3) := by decide +kernel
theorem dX11_goes_21 : decode cX11_goes 21 = .ok (.aload_n 0, 1) := by decide +kernel
theorem dX11_goes_22 : decode cX11_goes 22 = .ok (.getfield 123, 3) := by decide +kernel
theorem dX11_goes_25 : decode cX11_goes 25 = .ok (.ifCond .ne 7, 3) := by decide +kernel
theorem dX11_goes_28 : decode cX11_goes 28 = .ok (.iconst 1, 1) := by decide +kernel
theorem dX11_goes_29 : decode cX11_goes 29 = .ok (.goto 4, 3) := by decide +kernel
theorem dX11_goes_32 : decode cX11_goes 32 = .ok (.iconst 0, 1) := by decide +kernel
theorem dX11_goes_33 : decode cX11_goes 33 = .ok (.ireturn, 1) := by decide +kernel
theorem dX11_function_0 : decode cX11_function 0 = .ok (.aload_n 0, 1) := by decide +kernel
theorem dX11_function_1 : decode cX11_function 1 = .ok (.iload_n 1, 1) := by decide +kernel
theorem dX11_function_2 : decode cX11_function 2 = .ok (.ifCond .lt 12, 3) := by decide +kernel
theorem dX11_function_5 : decode cX11_function 5 = .ok (.iload_n 1, 1) := by decide +kernel
theorem dX11_function_6 : decode cX11_function 6 = .ok (.iconst 3, 1) := by decide +kernel
theorem dX11_function_7 : decode cX11_function 7 = .ok (.if_icmp .gt 7, 3) := by decide +kernel
theorem dX11_function_10 : decode cX11_function 10 = .ok (.iconst 1, 1) := by decide +kernel
theorem dX11_function_11 : decode cX11_function 11 = .ok (.goto 4, 3) := by decide +kernel
theorem dX11_function_14 : decode cX11_function 14 = .ok (.iconst 0, 1) := by decide +kernel
theorem dX11_function_15 : decode cX11_function 15 = .ok (.aload_n 0, 1) := by decide +kernel
theorem dX11_function_16 : decode cX11_function 16 = .ok (.getfield 127, 3) := by decide +kernel
theorem dX11_function_19 : decode cX11_function 19 = .ok (.bipush 12, 2) := by decide +kernel
theorem dX11_function_21 : decode cX11_function 21 = .ok (.if_icmp .ge 7, 3) := by decide +kernel
theorem dX11_function_24 : decode cX11_function 24 = .ok (.iconst 1, 1) := by decide +kernel
theorem dX11_function_25 : decode cX11_function 25 = .ok (.goto 4, 3) := by decide +kernel
theorem dX11_function_28 : decode cX11_function 28 = .ok (.iconst 0, 1) := by decide +kernel
theorem dX11_function_29 : decode cX11_function 29 = .ok (.invokevirtual 130, 3) := by decide +kernel
theorem dX11_function_32 : decode cX11_function 32 = .ok (.ifCond .ne 5, 3) := by decide +kernel
theorem dX11_function_35 : decode cX11_function 35 = .ok (.iconst 0, 1) := by decide +kernel
theorem dX11_function_36 : decode cX11_function 36 = .ok (.ireturn, 1) := by decide +kernel
theorem dX11_function_37 : decode cX11_function 37 = .ok (.aload_n 0, 1) := by decide +kernel
theorem dX11_function_38 : decode cX11_function 38 = .ok (.iconst 0, 1) := by decide +kernel
theorem dX11_function_39 : decode cX11_function 39 = .ok (.putfield 134, 3) := by decide +kernel
theorem dX11_function_42 : decode cX11_function 42 = .ok (.aload_n 0, 1) := by decide +kernel
theorem dX11_function_43 : decode cX11_function 43 = .ok (.getfield 7, 3) := by decide +kernel
theorem dX11_function_46 : decode cX11_function 46 = .ok (.aload_n 0, 1) := by decide +kernel
theorem dX11_function_47 : decode cX11_function 47 = .ok (.getfield 127, 3) := by decide +kernel
theorem dX11_function_50 : decode cX11_function 50 = .ok (.iload_n 1, 1) := by decide +kernel
theorem dX11_function_51 : decode cX11_function 51 = .ok (.iastore, 1) := by decide +kernel
theorem dX11_function_52 : decode cX11_function 52 = .ok (.aload_n 0, 1) := by decide +kernel
theorem dX11_function_53 : decode cX11_function 53 = .ok (.dup, 1) := by decide +kernel
theorem dX11_function_54 : decode cX11_function 54 = .ok (.getfield 127, 3) := by decide +kernel
theorem dX11_function_57 : decode cX11_function 57 = .ok (.iconst 1, 1) := by decide +kernel
theorem dX11_function_58 : decode cX11_function 58 = .ok (.iadd, 1) := by decide +kernel
theorem dX11_function_59 : decode cX11_function 59 = .ok (.putfield 127, 3) := by decide +kernel
theorem dX11_function_62 : decode cX11_function 62 = .ok (.aload_n 0, 1) := by decide +kernel
theorem dX11_function_63 : decode cX11_function 63 = .ok (.getfield 127, 3) := by decide +kernel
theorem dX11_function_66 : decode cX11_function 66 = .ok (.iconst 1, 1) := by decide +kernel
theorem dX11_function_67 : decode cX11_function 67 = .ok (.isub, 1) := by decide +kernel
theorem dX11_function_68 : decode cX11_function 68 = .ok (.ireturn, 1) := by decide +kernel
theorem dX11_isFunction_0 : decode cX11_isFunction 0 = .ok (.iload_n 1, 1) := by decide +kernel
theorem dX11_isFunction_1 : decode cX11_isFunction 1 = .ok (.ifCond .lt 15, 3) := by decide +kernel
theorem dX11_isFunction_4 : decode cX11_isFunction 4 = .ok (.iload_n 1, 1) := by decide +kernel
theorem dX11_isFunction_5 : decode cX11_isFunction 5 = .ok (.aload_n 0, 1) := by decide +kernel
theorem dX11_isFunction_6 : decode cX11_isFunction 6 = .ok (.getfield 127, 3) := by decide +kernel
theorem dX11_isFunction_9 : decode cX11_isFunction 9 = .ok (.if_icmp .ge 7, 3) := by decide +kernel
theorem dX11_isFunction_12 : decode cX11_isFunction 12 = .ok (.iconst 1, 1) := by decide +kernel
theorem dX11_isFunction_13 : decode cX11_isFunction 13 = .ok (.goto 4, 3) := by decide +kernel
theorem dX11_isFunction_16 : decode cX11_isFunction 16 = .ok (.iconst 0, 1) := by decide +kernel
theorem dX11_isFunction_17 : decode cX11_isFunction 17 = .ok (.ireturn, 1) := by decide +kernel
theorem dX11_code_0 : decode cX11_code 0 = .ok (.aload_n 0, 1) := by decide +kernel
theorem dX11_code_1 : decode cX11_code 1 = .ok (.iload_n 1, 1) := by decide +kernel
theorem dX11_code_2 : decode cX11_code 2 = .ok (.invokevirtual 138, 3) := by decide +kernel
theorem dX11_code_5 : decode cX11_code 5 = .ok (.ifCond .eq 17, 3) := by decide +kernel
theorem dX11_code_8 : decode cX11_code 8 = .ok (.iload_n 2, 1) := by decide +kernel
theorem dX11_code_9 : decode cX11_code 9 = .ok (.ifCond .lt 13, 3) := by decide +kernel
theorem dX11_code_12 : decode cX11_code 12 = .ok (.iload_n 2, 1) := by decide +kernel
theorem dX11_code_13 : decode cX11_code 13 = .ok (.bipush 15, 2) := by decide +kernel
theorem dX11_code_15 : decode cX11_code 15 = .ok (.if_icmp .gt 7, 3) := by decide +kernel
theorem dX11_code_18 : decode cX11_code 18 = .ok (.iconst 1, 1) := by decide +kernel
theorem dX11_code_19 : decode cX11_code 19 = .ok (.goto 4, 3) := by decide +kernel
theorem dX11_code_22 : decode cX11_code 22 = .ok (.iconst 0, 1) := by decide +kernel
theorem dX11_code_23 : decode cX11_code 23 = .ok (.istore 5, 2) := by decide +kernel
theorem dX11_code_25 : decode cX11_code 25 = .ok (.aload_n 0, 1) := by decide +kernel
theorem dX11_code_26 : decode cX11_code 26 = .ok (.iload 5, 2) := by decide +kernel
theorem dX11_code_28 : decode cX11_code 28 = .ok (.iload 5, 2) := by decide +kernel
theorem dX11_code_30 : decode cX11_code 30 = .ok (.ifCond .eq 18, 3) := by decide +kernel
theorem dX11_code_33 : decode cX11_code 33 = .ok (.aload_n 0, 1) := by decide +kernel
theorem dX11_code_34 : decode cX11_code 34 = .ok (.getfield 13, 3) := by decide +kernel
theorem dX11_code_37 : decode cX11_code 37 = .ok (.iload_n 1, 1) := by decide +kernel
theorem dX11_code_38 : decode cX11_code 38 = .ok (.iaload, 1) := by decide +kernel
theorem dX11_code_39 : decode cX11_code 39 = .ok (.bipush 40, 2) := by decide +kernel
theorem dX11_code_41 : decode cX11_code 41 = .ok (.if_icmp .ge 7, 3) := by decide +kernel
theorem dX11_code_44 : decode cX11_code 44 = .ok (.iconst 1, 1) := by decide +kernel
theorem dX11_code_45 : decode cX11_code 45 = .ok (.goto 4, 3) := by decide +kernel
theorem dX11_code_48 : decode cX11_code 48 = .ok (.iconst 0, 1) := by decide +kernel
theorem dX11_code_49 : decode cX11_code 49 = .ok (.invokevirtual 130, 3) := by decide +kernel
theorem dX11_code_52 : decode cX11_code 52 = .ok (.ifCond .ne 5, 3) := by decide +kernel
theorem dX11_code_55 : decode cX11_code 55 = .ok (.iconst 0, 1) := by decide +kernel
theorem dX11_code_56 : decode cX11_code 56 = .ok (.ireturn, 1) := by decide +kernel
theorem dX11_code_57 : decode cX11_code 57 = .ok (.aload_n 0, 1) := by decide +kernel
theorem dX11_code_58 : decode cX11_code 58 = .ok (.iconst 0, 1) := by decide +kernel
theorem dX11_code_59 : decode cX11_code 59 = .ok (.putfield 134, 3) := by decide +kernel
theorem dX11_code_62 : decode cX11_code 62 = .ok (.bipush 40, 2) := by decide +kernel
theorem dX11_code_64 : decode cX11_code 64 = .ok (.iload_n 1, 1) := by decide +kernel
theorem dX11_code_65 : decode cX11_code 65 = .ok (.imul, 1) := by decide +kernel
theorem dX11_code_66 : decode cX11_code 66 = .ok (.aload_n 0, 1) := by decide +kernel
theorem dX11_code_67 : decode cX11_code 67 = .ok (.getfield 13, 3) := by decide +kernel
theorem dX11_code_70 : decode cX11_code 70 = .ok (.iload_n 1, 1) := by decide +kernel
theorem dX11_code_71 : decode cX11_code 71 = .ok (.iaload, 1) := by decide +kernel
theorem dX11_code_72 : decode cX11_code 72 = .ok (.iadd, 1) := by decide +kernel
theorem dX11_code_73 : decode cX11_code 73 = .ok (.istore 6, 2) := by decide +kernel
theorem dX11_code_75 : decode cX11_code 75 = .ok (.aload_n 0, 1) := by decide +kernel
theorem dX11_code_76 : decode cX11_code 76 = .ok (.getfield 16, 3) := by decide +kernel
theorem dX11_code_79 : decode cX11_code 79 = .ok (.iload 6, 2) := by decide +kernel
theorem dX11_code_81 : decode cX11_code 81 = .ok (.iload_n 2, 1) := by decide +kernel
theorem dX11_code_82 : decode cX11_code 82 = .ok (.iastore, 1) := by decide +kernel
theorem dX11_code_83 : decode cX11_code 83 = .ok (.aload_n 0, 1) := by decide +kernel
theorem dX11_code_84 : decode cX11_code 84 = .ok (.getfield 19, 3) := by decide +kernel
theorem dX11_code_87 : decode cX11_code 87 = .ok (.iload 6, 2) := by decide +kernel
theorem dX11_code_89 : decode cX11_code 89 = .ok (.iload_n 3, 1) := by decide +kernel
theorem dX11_code_90 : decode cX11_code 90 = .ok (.iastore, 1) := by decide +kernel
theorem dX11_code_91 : decode cX11_code 91 = .ok (.aload_n 0, 1) := by decide +kernel
theorem dX11_code_92 : decode cX11_code 92 = .ok (.getfield 22, 3) := by decide +kernel
theorem dX11_code_95 : decode cX11_code 95 = .ok (.iload 6, 2) := by decide +kernel
theorem dX11_code_97 : decode cX11_code 97 = .ok (.iload 4, 2) := by decide +kernel
theorem dX11_code_99 : decode cX11_code 99 = .ok (.iastore, 1) := by decide +kernel
theorem dX11_code_100 : decode cX11_code 100 = .ok (.aload_n 0, 1) := by decide +kernel
theorem dX11_code_101 : decode cX11_code 101 = .ok (.getfield 13, 3) := by decide +kernel
theorem dX11_code_104 : decode cX11_code 104 = .ok (.iload_n 1, 1) := by decide +kernel
theorem dX11_code_105 : decode cX11_code 105 = .ok (.dup2, 1) := by decide +kernel
theorem dX11_code_106 : decode cX11_code 106 = .ok (.iaload, 1) := by decide +kernel
theorem dX11_code_107 : decode cX11_code 107 = .ok (.iconst 1, 1) := by decide +kernel
theorem dX11_code_108 : decode cX11_code 108 = .ok (.iadd, 1) := by decide +kernel
theorem dX11_code_109 : decode cX11_code 109 = .ok (.iastore, 1) := by decide +kernel
theorem dX11_code_110 : decode cX11_code 110 = .ok (.aload_n 0, 1) := by decide +kernel
theorem dX11_code_111 : decode cX11_code 111 = .ok (.getfield 13, 3) := by decide +kernel
theorem dX11_code_114 : decode cX11_code 114 = .ok (.iload_n 1, 1) := by decide +kernel
theorem dX11_code_115 : decode cX11_code 115 = .ok (.iaload, 1) := by decide +kernel
theorem dX11_code_116 : decode cX11_code 116 = .ok (.iconst 1, 1) := by decide +kernel
theorem dX11_code_117 : decode cX11_code 117 = .ok (.isub, 1) := by decide +kernel
theorem dX11_code_118 : decode cX11_code 118 = .ok (.ireturn, 1) := by decide +kernel
theorem dX11_recipe_0 : decode cX11_recipe 0 = .ok (.iconst 0, 1) := by decide +kernel
theorem dX11_recipe_1 : decode cX11_recipe 1 = .ok (.istore_n 3, 1) := by decide +kernel
theorem dX11_recipe_2 : decode cX11_recipe 2 = .ok (.iload_n 3, 1) := by decide +kernel
theorem dX11_recipe_3 : decode cX11_recipe 3 = .ok (.bipush 12, 2) := by decide +kernel
theorem dX11_recipe_5 : decode cX11_recipe 5 = .ok (.if_icmp .ge 23, 3) := by decide +kernel
theorem dX11_recipe_8 : decode cX11_recipe 8 = .ok (.lload_n 1, 1) := by decide +kernel
theorem dX11_recipe_9 : decode cX11_recipe 9 = .ok (.iconst 5, 1) := by decide +kernel
theorem dX11_recipe_10 : decode cX11_recipe 10 = .ok (.iload_n 3, 1) := by decide +kernel
theorem dX11_recipe_11 : decode cX11_recipe 11 = .ok (.imul, 1) := by decide +kernel
theorem dX11_recipe_12 : decode cX11_recipe 12 = .ok (.lshr, 1) := by decide +kernel
theorem dX11_recipe_13 : decode cX11_recipe 13 = .ok (.ldc2_w 142, 3) := by decide +kernel
theorem dX11_recipe_16 : decode cX11_recipe 16 = .ok (.land, 1) := by decide +kernel
theorem dX11_recipe_17 : decode cX11_recipe 17 = .ok (.lconst 0, 1) := by decide +kernel
theorem dX11_recipe_18 : decode cX11_recipe 18 = .ok (.lcmp, 1) := by decide +kernel
theorem dX11_recipe_19 : decode cX11_recipe 19 = .ok (.ifCond .le 9, 3) := by decide +kernel
theorem dX11_recipe_22 : decode cX11_recipe 22 = .ok (.iinc 3 1, 3) := by decide +kernel
theorem dX11_recipe_25 : decode cX11_recipe 25 = .ok (.goto (-23), 3) := by decide +kernel
theorem dX11_recipe_28 : decode cX11_recipe 28 = .ok (.iload_n 3, 1) := by decide +kernel
theorem dX11_recipe_29 : decode cX11_recipe 29 = .ok (.ifCond .le 17, 3) := by decide +kernel
theorem dX11_recipe_32 : decode cX11_recipe 32 = .ok (.lload_n 1, 1) := by decide +kernel
theorem dX11_recipe_33 : decode cX11_recipe 33 = .ok (.iconst 5, 1) := by decide +kernel
theorem dX11_recipe_34 : decode cX11_recipe 34 = .ok (.iload_n 3, 1) := by decide +kernel
theorem dX11_recipe_35 : decode cX11_recipe 35 = .ok (.imul, 1) := by decide +kernel
theorem dX11_recipe_36 : decode cX11_recipe 36 = .ok (.lshr, 1) := by decide +kernel
theorem dX11_recipe_37 : decode cX11_recipe 37 = .ok (.lconst 0, 1) := by decide +kernel
theorem dX11_recipe_38 : decode cX11_recipe 38 = .ok (.lcmp, 1) := by decide +kernel
theorem dX11_recipe_39 : decode cX11_recipe 39 = .ok (.ifCond .ne 7, 3) := by decide +kernel
theorem dX11_recipe_42 : decode cX11_recipe 42 = .ok (.iconst 1, 1) := by decide +kernel
theorem dX11_recipe_43 : decode cX11_recipe 43 = .ok (.goto 4, 3) := by decide +kernel
theorem dX11_recipe_46 : decode cX11_recipe 46 = .ok (.iconst 0, 1) := by decide +kernel
theorem dX11_recipe_47 : decode cX11_recipe 47 = .ok (.istore 4, 2) := by decide +kernel
theorem dX11_recipe_49 : decode cX11_recipe 49 = .ok (.iconst 0, 1) := by decide +kernel
theorem dX11_recipe_50 : decode cX11_recipe 50 = .ok (.istore 5, 2) := by decide +kernel
theorem dX11_recipe_52 : decode cX11_recipe 52 = .ok (.iload 5, 2) := by decide +kernel
theorem dX11_recipe_54 : decode cX11_recipe 54 = .ok (.iload_n 3, 1) := by decide +kernel
theorem dX11_recipe_55 : decode cX11_recipe 55 = .ok (.if_icmp .ge 38, 3) := by decide +kernel
theorem dX11_recipe_58 : decode cX11_recipe 58 = .ok (.iload 4, 2) := by decide +kernel
theorem dX11_recipe_60 : decode cX11_recipe 60 = .ok (.ifCond .eq 24, 3) := by decide +kernel
theorem dX11_recipe_63 : decode cX11_recipe 63 = .ok (.lload_n 1, 1) := by decide +kernel
theorem dX11_recipe_64 : decode cX11_recipe 64 = .ok (.iconst 5, 1) := by decide +kernel
theorem dX11_recipe_65 : decode cX11_recipe 65 = .ok (.iload 5, 2) := by decide +kernel
theorem dX11_recipe_67 : decode cX11_recipe 67 = .ok (.imul, 1) := by decide +kernel
theorem dX11_recipe_68 : decode cX11_recipe 68 = .ok (.lshr, 1) := by decide +kernel
theorem dX11_recipe_69 : decode cX11_recipe 69 = .ok (.ldc2_w 142, 3) := by decide +kernel
theorem dX11_recipe_72 : decode cX11_recipe 72 = .ok (.land, 1) := by decide +kernel
theorem dX11_recipe_73 : decode cX11_recipe 73 = .ok (.ldc2_w 144, 3) := by decide +kernel
theorem dX11_recipe_76 : decode cX11_recipe 76 = .ok (.lcmp, 1) := by decide +kernel
theorem dX11_recipe_77 : decode cX11_recipe 77 = .ok (.ifCond .gt 7, 3) := by decide +kernel
theorem dX11_recipe_80 : decode cX11_recipe 80 = .ok (.iconst 1, 1) := by decide +kernel
theorem dX11_recipe_81 : decode cX11_recipe 81 = .ok (.goto 4, 3) := by decide +kernel
theorem dX11_recipe_84 : decode cX11_recipe 84 = .ok (.iconst 0, 1) := by decide +kernel
theorem dX11_recipe_85 : decode cX11_recipe 85 = .ok (.istore 4, 2) := by decide +kernel
theorem dX11_recipe_87 : decode cX11_recipe 87 = .ok (.iinc 5 1, 3) := by decide +kernel
theorem dX11_recipe_90 : decode cX11_recipe 90 = .ok (.goto (-38), 3) := by decide +kernel
theorem dX11_recipe_93 : decode cX11_recipe 93 = .ok (.aload_n 0, 1) := by decide +kernel
theorem dX11_recipe_94 : decode cX11_recipe 94 = .ok (.iload 4, 2) := by decide +kernel
theorem dX11_recipe_96 : decode cX11_recipe 96 = .ok (.aload_n 0, 1) := by decide +kernel
theorem dX11_recipe_97 : decode cX11_recipe 97 = .ok (.getfield 146, 3) := by decide +kernel
theorem dX11_recipe_100 : decode cX11_recipe 100 = .ok (.bipush 8, 2) := by decide +kernel
theorem dX11_recipe_102 : decode cX11_recipe 102 = .ok (.if_icmp .ge 7, 3) := by decide +kernel
theorem dX11_recipe_105 : decode cX11_recipe 105 = .ok (.iconst 1, 1) := by decide +kernel
theorem dX11_recipe_106 : decode cX11_recipe 106 = .ok (.goto 4, 3) := by decide +kernel
theorem dX11_recipe_109 : decode cX11_recipe 109 = .ok (.iconst 0, 1) := by decide +kernel
theorem dX11_recipe_110 : decode cX11_recipe 110 = .ok (.invokevirtual 130, 3) := by decide +kernel
theorem dX11_recipe_113 : decode cX11_recipe 113 = .ok (.ifCond .ne 5, 3) := by decide +kernel
theorem dX11_recipe_116 : decode cX11_recipe 116 = .ok (.iconst 0, 1) := by decide +kernel
theorem dX11_recipe_117 : decode cX11_recipe 117 = .ok (.ireturn, 1) := by decide +kernel
theorem dX11_recipe_118 : decode cX11_recipe 118 = .ok (.aload_n 0, 1) := by decide +kernel
theorem dX11_recipe_119 : decode cX11_recipe 119 = .ok (.iconst 0, 1) := by decide +kernel
theorem dX11_recipe_120 : decode cX11_recipe 120 = .ok (.putfield 134, 3) := by decide +kernel
theorem dX11_recipe_123 : decode cX11_recipe 123 = .ok (.iconst 0, 1) := by decide +kernel
theorem dX11_recipe_124 : decode cX11_recipe 124 = .ok (.istore 5, 2) := by decide +kernel
theorem dX11_recipe_126 : decode cX11_recipe 126 = .ok (.iload 5, 2) := by decide +kernel
theorem dX11_recipe_128 : decode cX11_recipe 128 = .ok (.iload_n 3, 1) := by decide +kernel
theorem dX11_recipe_129 : decode cX11_recipe 129 = .ok (.if_icmp .ge 35, 3) := by decide +kernel
theorem dX11_recipe_132 : decode cX11_recipe 132 = .ok (.aload_n 0, 1) := by decide +kernel
theorem dX11_recipe_133 : decode cX11_recipe 133 = .ok (.getfield 28, 3) := by decide +kernel
theorem dX11_recipe_136 : decode cX11_recipe 136 = .ok (.bipush 12, 2) := by decide +kernel
theorem dX11_recipe_138 : decode cX11_recipe 138 = .ok (.aload_n 0, 1) := by decide +kernel
theorem dX11_recipe_139 : decode cX11_recipe 139 = .ok (.getfield 146, 3) := by decide +kernel
theorem dX11_recipe_142 : decode cX11_recipe 142 = .ok (.imul, 1) := by decide +kernel
theorem dX11_recipe_143 : decode cX11_recipe 143 = .ok (.iload 5, 2) := by decide +kernel
theorem dX11_recipe_145 : decode cX11_recipe 145 = .ok (.iadd, 1) := by decide +kernel
theorem dX11_recipe_146 : decode cX11_recipe 146 = .ok (.lload_n 1, 1) := by decide +kernel
theorem dX11_recipe_147 : decode cX11_recipe 147 = .ok (.iconst 5, 1) := by decide +kernel
theorem dX11_recipe_148 : decode cX11_recipe 148 = .ok (.iload 5, 2) := by decide +kernel
theorem dX11_recipe_150 : decode cX11_recipe 150 = .ok (.imul, 1) := by decide +kernel
theorem dX11_recipe_151 : decode cX11_recipe 151 = .ok (.lshr, 1) := by decide +kernel
theorem dX11_recipe_152 : decode cX11_recipe 152 = .ok (.ldc2_w 142, 3) := by decide +kernel
theorem dX11_recipe_155 : decode cX11_recipe 155 = .ok (.land, 1) := by decide +kernel
theorem dX11_recipe_156 : decode cX11_recipe 156 = .ok (.l2i, 1) := by decide +kernel
theorem dX11_recipe_157 : decode cX11_recipe 157 = .ok (.iastore, 1) := by decide +kernel
theorem dX11_recipe_158 : decode cX11_recipe 158 = .ok (.iinc 5 1, 3) := by decide +kernel
theorem dX11_recipe_161 : decode cX11_recipe 161 = .ok (.goto (-35), 3) := by decide +kernel
theorem dX11_recipe_164 : decode cX11_recipe 164 = .ok (.aload_n 0, 1) := by decide +kernel
theorem dX11_recipe_165 : decode cX11_recipe 165 = .ok (.getfield 25, 3) := by decide +kernel
theorem dX11_recipe_168 : decode cX11_recipe 168 = .ok (.aload_n 0, 1) := by decide +kernel
theorem dX11_recipe_169 : decode cX11_recipe 169 = .ok (.getfield 146, 3) := by decide +kernel
theorem dX11_recipe_172 : decode cX11_recipe 172 = .ok (.iload_n 3, 1) := by decide +kernel
theorem dX11_recipe_173 : decode cX11_recipe 173 = .ok (.iastore, 1) := by decide +kernel
theorem dX11_recipe_174 : decode cX11_recipe 174 = .ok (.aload_n 0, 1) := by decide +kernel
theorem dX11_recipe_175 : decode cX11_recipe 175 = .ok (.dup, 1) := by decide +kernel
theorem dX11_recipe_176 : decode cX11_recipe 176 = .ok (.getfield 146, 3) := by decide +kernel
theorem dX11_recipe_179 : decode cX11_recipe 179 = .ok (.iconst 1, 1) := by decide +kernel
theorem dX11_recipe_180 : decode cX11_recipe 180 = .ok (.iadd, 1) := by decide +kernel
theorem dX11_recipe_181 : decode cX11_recipe 181 = .ok (.putfield 146, 3) := by decide +kernel
theorem dX11_recipe_184 : decode cX11_recipe 184 = .ok (.aload_n 0, 1) := by decide +kernel
theorem dX11_recipe_185 : decode cX11_recipe 185 = .ok (.getfield 146, 3) := by decide +kernel
theorem dX11_recipe_188 : decode cX11_recipe 188 = .ok (.iconst 1, 1) := by decide +kernel
theorem dX11_recipe_189 : decode cX11_recipe 189 = .ok (.isub, 1) := by decide +kernel
theorem dX11_recipe_190 : decode cX11_recipe 190 = .ok (.ireturn, 1) := by decide +kernel
theorem dX11_holes_0 : decode cX11_holes 0 = .ok (.iconst 0, 1) := by decide +kernel
theorem dX11_holes_1 : decode cX11_holes 1 = .ok (.istore_n 2, 1) := by decide +kernel
theorem dX11_holes_2 : decode cX11_holes 2 = .ok (.iconst 0, 1) := by decide +kernel
theorem dX11_holes_3 : decode cX11_holes 3 = .ok (.istore_n 3, 1) := by decide +kernel
theorem dX11_holes_4 : decode cX11_holes 4 = .ok (.iload_n 3, 1) := by decide +kernel
theorem dX11_holes_5 : decode cX11_holes 5 = .ok (.aload_n 0, 1) := by decide +kernel
theorem dX11_holes_6 : decode cX11_holes 6 = .ok (.getfield 25, 3) := by decide +kernel
theorem dX11_holes_9 : decode cX11_holes 9 = .ok (.iload_n 1, 1) := by decide +kernel
theorem dX11_holes_10 : decode cX11_holes 10 = .ok (.iaload, 1) := by decide +kernel
theorem dX11_holes_11 : decode cX11_holes 11 = .ok (.if_icmp .ge 33, 3) := by decide +kernel
theorem dX11_holes_14 : decode cX11_holes 14 = .ok (.iload_n 2, 1) := by decide +kernel
theorem dX11_holes_15 : decode cX11_holes 15 = .ok (.aload_n 0, 1) := by decide +kernel
theorem dX11_holes_16 : decode cX11_holes 16 = .ok (.getfield 28, 3) := by decide +kernel
theorem dX11_holes_19 : decode cX11_holes 19 = .ok (.bipush 12, 2) := by decide +kernel
theorem dX11_holes_21 : decode cX11_holes 21 = .ok (.iload_n 1, 1) := by decide +kernel
theorem dX11_holes_22 : decode cX11_holes 22 = .ok (.imul, 1) := by decide +kernel
theorem dX11_holes_23 : decode cX11_holes 23 = .ok (.iload_n 3, 1) := by decide +kernel
theorem dX11_holes_24 : decode cX11_holes 24 = .ok (.iadd, 1) := by decide +kernel
theorem dX11_holes_25 : decode cX11_holes 25 = .ok (.iaload, 1) := by decide +kernel
theorem dX11_holes_26 : decode cX11_holes 26 = .ok (.bipush 27, 2) := by decide +kernel
theorem dX11_holes_28 : decode cX11_holes 28 = .ok (.if_icmp .ne 7, 3) := by decide +kernel
theorem dX11_holes_31 : decode cX11_holes 31 = .ok (.iconst 1, 1) := by decide +kernel
theorem dX11_holes_32 : decode cX11_holes 32 = .ok (.goto 4, 3) := by decide +kernel
theorem dX11_holes_35 : decode cX11_holes 35 = .ok (.iconst 0, 1) := by decide +kernel
theorem dX11_holes_36 : decode cX11_holes 36 = .ok (.iadd, 1) := by decide +kernel
theorem dX11_holes_37 : decode cX11_holes 37 = .ok (.istore_n 2, 1) := by decide +kernel
theorem dX11_holes_38 : decode cX11_holes 38 = .ok (.iinc 3 1, 3) := by decide +kernel
theorem dX11_holes_41 : decode cX11_holes 41 = .ok (.goto (-37), 3) := by decide +kernel
theorem dX11_holes_44 : decode cX11_holes 44 = .ok (.iload_n 2, 1) := by decide +kernel
theorem dX11_holes_45 : decode cX11_holes 45 = .ok (.ireturn, 1) := by decide +kernel
theorem dX11_isBound_0 : decode cX11_isBound 0 = .ok (.aload_n 0, 1) := by decide +kernel
theorem dX11_isBound_1 : decode cX11_isBound 1 = .ok (.getfield 16, 3) := by decide +kernel
theorem dX11_isBound_4 : decode cX11_isBound 4 = .ok (.bipush 40, 2) := by decide +kernel
theorem dX11_isBound_6 : decode cX11_isBound 6 = .ok (.iload_n 1, 1) := by decide +kernel
theorem dX11_isBound_7 : decode cX11_isBound 7 = .ok (.imul, 1) := by decide +kernel
theorem dX11_isBound_8 : decode cX11_isBound 8 = .ok (.iload_n 2, 1) := by decide +kernel
theorem dX11_isBound_9 : decode cX11_isBound 9 = .ok (.iadd, 1) := by decide +kernel
theorem dX11_isBound_10 : decode cX11_isBound 10 = .ok (.iaload, 1) := by decide +kernel
theorem dX11_isBound_11 : decode cX11_isBound 11 = .ok (.istore_n 3, 1) := by decide +kernel
theorem dX11_isBound_12 : decode cX11_isBound 12 = .ok (.aload_n 0, 1) := by decide +kernel
theorem dX11_isBound_13 : decode cX11_isBound 13 = .ok (.getfield 19, 3) := by decide +kernel
theorem dX11_isBound_16 : decode cX11_isBound 16 = .ok (.bipush 40, 2) := by decide +kernel
theorem dX11_isBound_18 : decode cX11_isBound 18 = .ok (.iload_n 1, 1) := by decide +kernel
theorem dX11_isBound_19 : decode cX11_isBound 19 = .ok (.imul, 1) := by decide +kernel
theorem dX11_isBound_20 : decode cX11_isBound 20 = .ok (.iload_n 2, 1) := by decide +kernel
theorem dX11_isBound_21 : decode cX11_isBound 21 = .ok (.iadd, 1) := by decide +kernel
theorem dX11_isBound_22 : decode cX11_isBound 22 = .ok (.iaload, 1) := by decide +kernel
theorem dX11_isBound_23 : decode cX11_isBound 23 = .ok (.istore 4, 2) := by decide +kernel
theorem dX11_isBound_25 : decode cX11_isBound 25 = .ok (.aload_n 0, 1) := by decide +kernel
theorem dX11_isBound_26 : decode cX11_isBound 26 = .ok (.getfield 22, 3) := by decide +kernel
theorem dX11_isBound_29 : decode cX11_isBound 29 = .ok (.bipush 40, 2) := by decide +kernel
theorem dX11_isBound_31 : decode cX11_isBound 31 = .ok (.iload_n 1, 1) := by decide +kernel
theorem dX11_isBound_32 : decode cX11_isBound 32 = .ok (.imul, 1) := by decide +kernel
theorem dX11_isBound_33 : decode cX11_isBound 33 = .ok (.iload_n 2, 1) := by decide +kernel
theorem dX11_isBound_34 : decode cX11_isBound 34 = .ok (.iadd, 1) := by decide +kernel
theorem dX11_isBound_35 : decode cX11_isBound 35 = .ok (.iaload, 1) := by decide +kernel
theorem dX11_isBound_36 : decode cX11_isBound 36 = .ok (.istore 5, 2) := by decide +kernel
theorem dX11_isBound_38 : decode cX11_isBound 38 = .ok (.iload_n 3, 1) := by decide +kernel
theorem dX11_isBound_39 : decode cX11_isBound 39 = .ok (.tableswitch 189 1 15 #[73, 73, 189, 189, 189, 189, 189, 91, 91, 113, 189, 189, 120, 152, 169], 73) := by decide +kernel
theorem dX11_isBound_112 : decode cX11_isBound 112 = .ok (.iload 4, 2) := by decide +kernel
theorem dX11_isBound_114 : decode cX11_isBound 114 = .ok (.ifCond .lt 14, 3) := by decide +kernel
theorem dX11_isBound_117 : decode cX11_isBound 117 = .ok (.iload 4, 2) := by decide +kernel
theorem dX11_isBound_119 : decode cX11_isBound 119 = .ok (.bipush 8, 2) := by decide +kernel
theorem dX11_isBound_121 : decode cX11_isBound 121 = .ok (.if_icmp .ge 7, 3) := by decide +kernel
theorem dX11_isBound_124 : decode cX11_isBound 124 = .ok (.iconst 1, 1) := by decide +kernel
theorem dX11_isBound_125 : decode cX11_isBound 125 = .ok (.goto 4, 3) := by decide +kernel
theorem dX11_isBound_128 : decode cX11_isBound 128 = .ok (.iconst 0, 1) := by decide +kernel
theorem dX11_isBound_129 : decode cX11_isBound 129 = .ok (.ireturn, 1) := by decide +kernel
theorem dX11_isBound_130 : decode cX11_isBound 130 = .ok (.iload 4, 2) := by decide +kernel
theorem dX11_isBound_132 : decode cX11_isBound 132 = .ok (.ifCond .lt 18, 3) := by decide +kernel
theorem dX11_isBound_135 : decode cX11_isBound 135 = .ok (.iload 4, 2) := by decide +kernel
theorem dX11_isBound_137 : decode cX11_isBound 137 = .ok (.aload_n 0, 1) := by decide +kernel
theorem dX11_isBound_138 : decode cX11_isBound 138 = .ok (.getfield 13, 3) := by decide +kernel
theorem dX11_isBound_141 : decode cX11_isBound 141 = .ok (.iload_n 1, 1) := by decide +kernel
theorem dX11_isBound_142 : decode cX11_isBound 142 = .ok (.iaload, 1) := by decide +kernel
theorem dX11_isBound_143 : decode cX11_isBound 143 = .ok (.if_icmp .ge 7, 3) := by decide +kernel
theorem dX11_isBound_146 : decode cX11_isBound 146 = .ok (.iconst 1, 1) := by decide +kernel
theorem dX11_isBound_147 : decode cX11_isBound 147 = .ok (.goto 4, 3) := by decide +kernel
theorem dX11_isBound_150 : decode cX11_isBound 150 = .ok (.iconst 0, 1) := by decide +kernel
theorem dX11_isBound_151 : decode cX11_isBound 151 = .ok (.ireturn, 1) := by decide +kernel
theorem dX11_isBound_152 : decode cX11_isBound 152 = .ok (.aload_n 0, 1) := by decide +kernel
theorem dX11_isBound_153 : decode cX11_isBound 153 = .ok (.iload 4, 2) := by decide +kernel
theorem dX11_isBound_155 : decode cX11_isBound 155 = .ok (.invokevirtual 138, 3) := by decide +kernel
theorem dX11_isBound_158 : decode cX11_isBound 158 = .ok (.ireturn, 1) := by decide +kernel
theorem dX11_isBound_159 : decode cX11_isBound 159 = .ok (.aload_n 0, 1) := by decide +kernel
theorem dX11_isBound_160 : decode cX11_isBound 160 = .ok (.iload 4, 2) := by decide +kernel
theorem dX11_isBound_162 : decode cX11_isBound 162 = .ok (.invokevirtual 138, 3) := by decide +kernel
theorem dX11_isBound_165 : decode cX11_isBound 165 = .ok (.ifCond .eq 24, 3) := by decide +kernel
theorem dX11_isBound_168 : decode cX11_isBound 168 = .ok (.iload 5, 2) := by decide +kernel
theorem dX11_isBound_170 : decode cX11_isBound 170 = .ok (.ifCond .lt 19, 3) := by decide +kernel
theorem dX11_isBound_173 : decode cX11_isBound 173 = .ok (.iload 5, 2) := by decide +kernel
theorem dX11_isBound_175 : decode cX11_isBound 175 = .ok (.aload_n 0, 1) := by decide +kernel
theorem dX11_isBound_176 : decode cX11_isBound 176 = .ok (.getfield 7, 3) := by decide +kernel
theorem dX11_isBound_179 : decode cX11_isBound 179 = .ok (.iload 4, 2) := by decide +kernel
theorem dX11_isBound_181 : decode cX11_isBound 181 = .ok (.iaload, 1) := by decide +kernel
theorem dX11_isBound_182 : decode cX11_isBound 182 = .ok (.if_icmp .gt 7, 3) := by decide +kernel
theorem dX11_isBound_185 : decode cX11_isBound 185 = .ok (.iconst 1, 1) := by decide +kernel
theorem dX11_isBound_186 : decode cX11_isBound 186 = .ok (.goto 4, 3) := by decide +kernel
theorem dX11_isBound_189 : decode cX11_isBound 189 = .ok (.iconst 0, 1) := by decide +kernel
theorem dX11_isBound_190 : decode cX11_isBound 190 = .ok (.ireturn, 1) := by decide +kernel
theorem dX11_isBound_191 : decode cX11_isBound 191 = .ok (.iload 4, 2) := by decide +kernel
theorem dX11_isBound_193 : decode cX11_isBound 193 = .ok (.ifCond .lt 13, 3) := by decide +kernel
theorem dX11_isBound_196 : decode cX11_isBound 196 = .ok (.iload 4, 2) := by decide +kernel
theorem dX11_isBound_198 : decode cX11_isBound 198 = .ok (.iconst 3, 1) := by decide +kernel
theorem dX11_isBound_199 : decode cX11_isBound 199 = .ok (.if_icmp .gt 7, 3) := by decide +kernel
theorem dX11_isBound_202 : decode cX11_isBound 202 = .ok (.iconst 1, 1) := by decide +kernel
theorem dX11_isBound_203 : decode cX11_isBound 203 = .ok (.goto 4, 3) := by decide +kernel
theorem dX11_isBound_206 : decode cX11_isBound 206 = .ok (.iconst 0, 1) := by decide +kernel
theorem dX11_isBound_207 : decode cX11_isBound 207 = .ok (.ireturn, 1) := by decide +kernel
theorem dX11_isBound_208 : decode cX11_isBound 208 = .ok (.iload 4, 2) := by decide +kernel
theorem dX11_isBound_210 : decode cX11_isBound 210 = .ok (.ifCond .lt 16, 3) := by decide +kernel
theorem dX11_isBound_213 : decode cX11_isBound 213 = .ok (.iload 4, 2) := by decide +kernel
theorem dX11_isBound_215 : decode cX11_isBound 215 = .ok (.aload_n 0, 1) := by decide +kernel
theorem dX11_isBound_216 : decode cX11_isBound 216 = .ok (.getfield 146, 3) := by decide +kernel
theorem dX11_isBound_219 : decode cX11_isBound 219 = .ok (.if_icmp .ge 7, 3) := by decide +kernel
theorem dX11_isBound_222 : decode cX11_isBound 222 = .ok (.iconst 1, 1) := by decide +kernel
theorem dX11_isBound_223 : decode cX11_isBound 223 = .ok (.goto 4, 3) := by decide +kernel
theorem dX11_isBound_226 : decode cX11_isBound 226 = .ok (.iconst 0, 1) := by decide +kernel
theorem dX11_isBound_227 : decode cX11_isBound 227 = .ok (.ireturn, 1) := by decide +kernel
theorem dX11_isBound_228 : decode cX11_isBound 228 = .ok (.iconst 1, 1) := by decide +kernel
theorem dX11_isBound_229 : decode cX11_isBound 229 = .ok (.ireturn, 1) := by decide +kernel
theorem dX11_pops_0 : decode cX11_pops 0 = .ok (.aload_n 0, 1) := by decide +kernel
theorem dX11_pops_1 : decode cX11_pops 1 = .ok (.getfield 19, 3) := by decide +kernel
theorem dX11_pops_4 : decode cX11_pops 4 = .ok (.iload_n 1, 1) := by decide +kernel
theorem dX11_pops_5 : decode cX11_pops 5 = .ok (.iaload, 1) := by decide +kernel
theorem dX11_pops_6 : decode cX11_pops 6 = .ok (.istore_n 2, 1) := by decide +kernel
theorem dX11_pops_7 : decode cX11_pops 7 = .ok (.aload_n 0, 1) := by decide +kernel
theorem dX11_pops_8 : decode cX11_pops 8 = .ok (.getfield 16, 3) := by decide +kernel
theorem dX11_pops_11 : decode cX11_pops 11 = .ok (.iload_n 1, 1) := by decide +kernel
theorem dX11_pops_12 : decode cX11_pops 12 = .ok (.iaload, 1) := by decide +kernel
theorem dX11_pops_13 : decode cX11_pops 13 = .ok (.tableswitch 99 2 15 #[71, 73, 73, 73, 71, 71, 99, 71, 75, 71, 71, 82, 89, 93], 71) := by decide +kernel
theorem dX11_pops_84 : decode cX11_pops 84 = .ok (.iconst 1, 1) := by decide +kernel
theorem dX11_pops_85 : decode cX11_pops 85 = .ok (.ireturn, 1) := by decide +kernel
theorem dX11_pops_86 : decode cX11_pops 86 = .ok (.iconst 2, 1) := by decide +kernel
theorem dX11_pops_87 : decode cX11_pops 87 = .ok (.ireturn, 1) := by decide +kernel
theorem dX11_pops_88 : decode cX11_pops 88 = .ok (.aload_n 0, 1) := by decide +kernel
theorem dX11_pops_89 : decode cX11_pops 89 = .ok (.getfield 7, 3) := by decide +kernel
theorem dX11_pops_92 : decode cX11_pops 92 = .ok (.iload_n 2, 1) := by decide +kernel
theorem dX11_pops_93 : decode cX11_pops 93 = .ok (.iaload, 1) := by decide +kernel
theorem dX11_pops_94 : decode cX11_pops 94 = .ok (.ireturn, 1) := by decide +kernel
theorem dX11_pops_95 : decode cX11_pops 95 = .ok (.aload_n 0, 1) := by decide +kernel
theorem dX11_pops_96 : decode cX11_pops 96 = .ok (.getfield 22, 3) := by decide +kernel
theorem dX11_pops_99 : decode cX11_pops 99 = .ok (.iload_n 1, 1) := by decide +kernel
theorem dX11_pops_100 : decode cX11_pops 100 = .ok (.iaload, 1) := by decide +kernel
theorem dX11_pops_101 : decode cX11_pops 101 = .ok (.ireturn, 1) := by decide +kernel
theorem dX11_pops_102 : decode cX11_pops 102 = .ok (.iload_n 2, 1) := by decide +kernel
theorem dX11_pops_103 : decode cX11_pops 103 = .ok (.iconst 1, 1) := by decide +kernel
theorem dX11_pops_104 : decode cX11_pops 104 = .ok (.iadd, 1) := by decide +kernel
theorem dX11_pops_105 : decode cX11_pops 105 = .ok (.ireturn, 1) := by decide +kernel
theorem dX11_pops_106 : decode cX11_pops 106 = .ok (.aload_n 0, 1) := by decide +kernel
theorem dX11_pops_107 : decode cX11_pops 107 = .ok (.iload_n 2, 1) := by decide +kernel
theorem dX11_pops_108 : decode cX11_pops 108 = .ok (.invokevirtual 149, 3) := by decide +kernel
theorem dX11_pops_111 : decode cX11_pops 111 = .ok (.ireturn, 1) := by decide +kernel
theorem dX11_pops_112 : decode cX11_pops 112 = .ok (.iconst 0, 1) := by decide +kernel
theorem dX11_pops_113 : decode cX11_pops 113 = .ok (.ireturn, 1) := by decide +kernel
theorem dX11_pushes_0 : decode cX11_pushes 0 = .ok (.aload_n 0, 1) := by decide +kernel
theorem dX11_pushes_1 : decode cX11_pushes 1 = .ok (.getfield 16, 3) := by decide +kernel
theorem dX11_pushes_4 : decode cX11_pushes 4 = .ok (.iload_n 1, 1) := by decide +kernel
theorem dX11_pushes_5 : decode cX11_pushes 5 = .ok (.iaload, 1) := by decide +kernel
theorem dX11_pushes_6 : decode cX11_pushes 6 = .ok (.istore_n 2, 1) := by decide +kernel
theorem dX11_pushes_7 : decode cX11_pushes 7 = .ok (.iload_n 2, 1) := by decide +kernel
theorem dX11_pushes_8 : decode cX11_pushes 8 = .ok (.bipush 6, 2) := by decide +kernel
theorem dX11_pushes_10 : decode cX11_pushes 10 = .ok (.if_icmp .ne 5, 3) := by decide +kernel
theorem dX11_pushes_13 : decode cX11_pushes 13 = .ok (.iconst 2, 1) := by decide +kernel
theorem dX11_pushes_14 : decode cX11_pushes 14 = .ok (.ireturn, 1) := by decide +kernel
theorem dX11_pushes_15 : decode cX11_pushes 15 = .ok (.iload_n 2, 1) := by decide +kernel
theorem dX11_pushes_16 : decode cX11_pushes 16 = .ok (.iconst 2, 1) := by decide +kernel
theorem dX11_pushes_17 : decode cX11_pushes 17 = .ok (.if_icmp .eq 33, 3) := by decide +kernel
theorem dX11_pushes_20 : decode cX11_pushes 20 = .ok (.iload_n 2, 1) := by decide +kernel
theorem dX11_pushes_21 : decode cX11_pushes 21 = .ok (.bipush 7, 2) := by decide +kernel
theorem dX11_pushes_23 : decode cX11_pushes 23 = .ok (.if_icmp .eq 27, 3) := by decide +kernel
theorem dX11_pushes_26 : decode cX11_pushes 26 = .ok (.iload_n 2, 1) := by decide +kernel
theorem dX11_pushes_27 : decode cX11_pushes 27 = .ok (.bipush 8, 2) := by decide +kernel
theorem dX11_pushes_29 : decode cX11_pushes 29 = .ok (.if_icmp .eq 21, 3) := by decide +kernel
theorem dX11_pushes_32 : decode cX11_pushes 32 = .ok (.iload_n 2, 1) := by decide +kernel
theorem dX11_pushes_33 : decode cX11_pushes 33 = .ok (.bipush 9, 2) := by decide +kernel
theorem dX11_pushes_35 : decode cX11_pushes 35 = .ok (.if_icmp .eq 15, 3) := by decide +kernel
theorem dX11_pushes_38 : decode cX11_pushes 38 = .ok (.iload_n 2, 1) := by decide +kernel
theorem dX11_pushes_39 : decode cX11_pushes 39 = .ok (.bipush 11, 2) := by decide +kernel
theorem dX11_pushes_41 : decode cX11_pushes 41 = .ok (.if_icmp .eq 9, 3) := by decide +kernel
theorem dX11_pushes_44 : decode cX11_pushes 44 = .ok (.iload_n 2, 1) := by decide +kernel
theorem dX11_pushes_45 : decode cX11_pushes 45 = .ok (.bipush 12, 2) := by decide +kernel
theorem dX11_pushes_47 : decode cX11_pushes 47 = .ok (.if_icmp .ne 7, 3) := by decide +kernel
theorem dX11_pushes_50 : decode cX11_pushes 50 = .ok (.iconst 0, 1) := by decide +kernel
theorem dX11_pushes_51 : decode cX11_pushes 51 = .ok (.goto 4, 3) := by decide +kernel
theorem dX11_pushes_54 : decode cX11_pushes 54 = .ok (.iconst 1, 1) := by decide +kernel
theorem dX11_pushes_55 : decode cX11_pushes 55 = .ok (.ireturn, 1) := by decide +kernel
theorem dX11_meet_0 : decode cX11_meet 0 = .ok (.aload_n 0, 1) := by decide +kernel
theorem dX11_meet_1 : decode cX11_meet 1 = .ok (.getfield 31, 3) := by decide +kernel
theorem dX11_meet_4 : decode cX11_meet 4 = .ok (.iload_n 1, 1) := by decide +kernel
theorem dX11_meet_5 : decode cX11_meet 5 = .ok (.iaload, 1) := by decide +kernel
theorem dX11_meet_6 : decode cX11_meet 6 = .ok (.ifCond .ge 17, 3) := by decide +kernel
theorem dX11_meet_9 : decode cX11_meet 9 = .ok (.aload_n 0, 1) := by decide +kernel
theorem dX11_meet_10 : decode cX11_meet 10 = .ok (.getfield 31, 3) := by decide +kernel
theorem dX11_meet_13 : decode cX11_meet 13 = .ok (.iload_n 1, 1) := by decide +kernel
theorem dX11_meet_14 : decode cX11_meet 14 = .ok (.iload_n 2, 1) := by decide +kernel
theorem dX11_meet_15 : decode cX11_meet 15 = .ok (.iastore, 1) := by decide +kernel
theorem dX11_meet_16 : decode cX11_meet 16 = .ok (.aload_n 0, 1) := by decide +kernel
theorem dX11_meet_17 : decode cX11_meet 17 = .ok (.getfield 34, 3) := by decide +kernel
theorem dX11_meet_20 : decode cX11_meet 20 = .ok (.iload_n 1, 1) := by decide +kernel
theorem dX11_meet_21 : decode cX11_meet 21 = .ok (.iconst 1, 1) := by decide +kernel
theorem dX11_meet_22 : decode cX11_meet 22 = .ok (.bastore, 1) := by decide +kernel
theorem dX11_meet_23 : decode cX11_meet 23 = .ok (.aload_n 0, 1) := by decide +kernel
theorem dX11_meet_24 : decode cX11_meet 24 = .ok (.aload_n 0, 1) := by decide +kernel
theorem dX11_meet_25 : decode cX11_meet 25 = .ok (.getfield 31, 3) := by decide +kernel
theorem dX11_meet_28 : decode cX11_meet 28 = .ok (.iload_n 1, 1) := by decide +kernel
theorem dX11_meet_29 : decode cX11_meet 29 = .ok (.iaload, 1) := by decide +kernel
theorem dX11_meet_30 : decode cX11_meet 30 = .ok (.iload_n 2, 1) := by decide +kernel
theorem dX11_meet_31 : decode cX11_meet 31 = .ok (.if_icmp .eq 14, 3) := by decide +kernel
theorem dX11_meet_34 : decode cX11_meet 34 = .ok (.aload_n 0, 1) := by decide +kernel
theorem dX11_meet_35 : decode cX11_meet 35 = .ok (.getfield 153, 3) := by decide +kernel
theorem dX11_meet_38 : decode cX11_meet 38 = .ok (.ifCond .ge 7, 3) := by decide +kernel
theorem dX11_meet_41 : decode cX11_meet 41 = .ok (.iload_n 3, 1) := by decide +kernel
theorem dX11_meet_42 : decode cX11_meet 42 = .ok (.goto 7, 3) := by decide +kernel
theorem dX11_meet_45 : decode cX11_meet 45 = .ok (.aload_n 0, 1) := by decide +kernel
theorem dX11_meet_46 : decode cX11_meet 46 = .ok (.getfield 153, 3) := by decide +kernel
theorem dX11_meet_49 : decode cX11_meet 49 = .ok (.putfield 153, 3) := by decide +kernel
theorem dX11_meet_52 : decode cX11_meet 52 = .ok (.return_, 1) := by decide +kernel
theorem dX11_least_0 : decode cX11_least 0 = .ok (.iconst 0, 1) := by decide +kernel
theorem dX11_least_1 : decode cX11_least 1 = .ok (.istore_n 2, 1) := by decide +kernel
theorem dX11_least_2 : decode cX11_least 2 = .ok (.iload_n 2, 1) := by decide +kernel
theorem dX11_least_3 : decode cX11_least 3 = .ok (.iload_n 1, 1) := by decide +kernel
theorem dX11_least_4 : decode cX11_least 4 = .ok (.if_icmp .ge 20, 3) := by decide +kernel
theorem dX11_least_7 : decode cX11_least 7 = .ok (.aload_n 0, 1) := by decide +kernel
theorem dX11_least_8 : decode cX11_least 8 = .ok (.getfield 34, 3) := by decide +kernel
theorem dX11_least_11 : decode cX11_least 11 = .ok (.iload_n 2, 1) := by decide +kernel
theorem dX11_least_12 : decode cX11_least 12 = .ok (.baload, 1) := by decide +kernel
theorem dX11_least_13 : decode cX11_least 13 = .ok (.ifCond .eq 5, 3) := by decide +kernel
theorem dX11_least_16 : decode cX11_least 16 = .ok (.iload_n 2, 1) := by decide +kernel
theorem dX11_least_17 : decode cX11_least 17 = .ok (.ireturn, 1) := by decide +kernel
theorem dX11_least_18 : decode cX11_least 18 = .ok (.iinc 2 1, 3) := by decide +kernel
theorem dX11_least_21 : decode cX11_least 21 = .ok (.goto (-19), 3) := by decide +kernel
theorem dX11_least_24 : decode cX11_least 24 = .ok (.iconst (-1), 1) := by decide +kernel
theorem dX11_least_25 : decode cX11_least 25 = .ok (.ireturn, 1) := by decide +kernel
theorem dX11_walk_0 : decode cX11_walk 0 = .ok (.aload_n 0, 1) := by decide +kernel
theorem dX11_walk_1 : decode cX11_walk 1 = .ok (.getfield 13, 3) := by decide +kernel
theorem dX11_walk_4 : decode cX11_walk 4 = .ok (.iload_n 1, 1) := by decide +kernel
theorem dX11_walk_5 : decode cX11_walk 5 = .ok (.iaload, 1) := by decide +kernel
theorem dX11_walk_6 : decode cX11_walk 6 = .ok (.istore_n 2, 1) := by decide +kernel
theorem dX11_walk_7 : decode cX11_walk 7 = .ok (.iconst 0, 1) := by decide +kernel
theorem dX11_walk_8 : decode cX11_walk 8 = .ok (.istore_n 3, 1) := by decide +kernel
theorem dX11_walk_9 : decode cX11_walk 9 = .ok (.iload_n 3, 1) := by decide +kernel
theorem dX11_walk_10 : decode cX11_walk 10 = .ok (.iload_n 2, 1) := by decide +kernel
theorem dX11_walk_11 : decode cX11_walk 11 = .ok (.if_icmp .ge 39, 3) := by decide +kernel
theorem dX11_walk_14 : decode cX11_walk 14 = .ok (.aload_n 0, 1) := by decide +kernel
theorem dX11_walk_15 : decode cX11_walk 15 = .ok (.getfield 31, 3) := by decide +kernel
theorem dX11_walk_18 : decode cX11_walk 18 = .ok (.iload_n 3, 1) := by decide +kernel
theorem dX11_walk_19 : decode cX11_walk 19 = .ok (.iload_n 3, 1) := by decide +kernel
theorem dX11_walk_20 : decode cX11_walk 20 = .ok (.ifCond .ne 7, 3) := by decide +kernel
theorem dX11_walk_23 : decode cX11_walk 23 = .ok (.iconst 0, 1) := by decide +kernel
theorem dX11_walk_24 : decode cX11_walk 24 = .ok (.goto 4, 3) := by decide +kernel
theorem dX11_walk_27 : decode cX11_walk 27 = .ok (.iconst (-1), 1) := by decide +kernel
theorem dX11_walk_28 : decode cX11_walk 28 = .ok (.iastore, 1) := by decide +kernel
theorem dX11_walk_29 : decode cX11_walk 29 = .ok (.aload_n 0, 1) := by decide +kernel
theorem dX11_walk_30 : decode cX11_walk 30 = .ok (.getfield 34, 3) := by decide +kernel
theorem dX11_walk_33 : decode cX11_walk 33 = .ok (.iload_n 3, 1) := by decide +kernel
theorem dX11_walk_34 : decode cX11_walk 34 = .ok (.iload_n 3, 1) := by decide +kernel
theorem dX11_walk_35 : decode cX11_walk 35 = .ok (.ifCond .ne 7, 3) := by decide +kernel
theorem dX11_walk_38 : decode cX11_walk 38 = .ok (.iconst 1, 1) := by decide +kernel
theorem dX11_walk_39 : decode cX11_walk 39 = .ok (.goto 4, 3) := by decide +kernel
theorem dX11_walk_42 : decode cX11_walk 42 = .ok (.iconst 0, 1) := by decide +kernel
theorem dX11_walk_43 : decode cX11_walk 43 = .ok (.bastore, 1) := by decide +kernel
theorem dX11_walk_44 : decode cX11_walk 44 = .ok (.iinc 3 1, 3) := by decide +kernel
theorem dX11_walk_47 : decode cX11_walk 47 = .ok (.goto (-38), 3) := by decide +kernel
theorem dX11_walk_50 : decode cX11_walk 50 = .ok (.aload_n 0, 1) := by decide +kernel
theorem dX11_walk_51 : decode cX11_walk 51 = .ok (.getfield 38, 3) := by decide +kernel
theorem dX11_walk_54 : decode cX11_walk 54 = .ok (.iload_n 1, 1) := by decide +kernel
theorem dX11_walk_55 : decode cX11_walk 55 = .ok (.iconst 0, 1) := by decide +kernel
theorem dX11_walk_56 : decode cX11_walk 56 = .ok (.iastore, 1) := by decide +kernel
theorem dX11_walk_57 : decode cX11_walk 57 = .ok (.aload_n 0, 1) := by decide +kernel
theorem dX11_walk_58 : decode cX11_walk 58 = .ok (.iload_n 2, 1) := by decide +kernel
theorem dX11_walk_59 : decode cX11_walk 59 = .ok (.invokevirtual 156, 3) := by decide +kernel
theorem dX11_walk_62 : decode cX11_walk 62 = .ok (.istore_n 3, 1) := by decide +kernel
theorem dX11_walk_63 : decode cX11_walk 63 = .ok (.iload_n 3, 1) := by decide +kernel
theorem dX11_walk_64 : decode cX11_walk 64 = .ok (.ifCond .lt 225, 3) := by decide +kernel
theorem dX11_walk_67 : decode cX11_walk 67 = .ok (.aload_n 0, 1) := by decide +kernel
theorem dX11_walk_68 : decode cX11_walk 68 = .ok (.getfield 153, 3) := by decide +kernel
theorem dX11_walk_71 : decode cX11_walk 71 = .ok (.ifCond .ge 218, 3) := by decide +kernel
theorem dX11_walk_74 : decode cX11_walk 74 = .ok (.aload_n 0, 1) := by decide +kernel
theorem dX11_walk_75 : decode cX11_walk 75 = .ok (.getfield 34, 3) := by decide +kernel
theorem dX11_walk_78 : decode cX11_walk 78 = .ok (.iload_n 3, 1) := by decide +kernel
theorem dX11_walk_79 : decode cX11_walk 79 = .ok (.iconst 0, 1) := by decide +kernel
theorem dX11_walk_80 : decode cX11_walk 80 = .ok (.bastore, 1) := by decide +kernel
theorem dX11_walk_81 : decode cX11_walk 81 = .ok (.bipush 40, 2) := by decide +kernel
theorem dX11_walk_83 : decode cX11_walk 83 = .ok (.iload_n 1, 1) := by decide +kernel
theorem dX11_walk_84 : decode cX11_walk 84 = .ok (.imul, 1) := by decide +kernel
theorem dX11_walk_85 : decode cX11_walk 85 = .ok (.iload_n 3, 1) := by decide +kernel
theorem dX11_walk_86 : decode cX11_walk 86 = .ok (.iadd, 1) := by decide +kernel
theorem dX11_walk_87 : decode cX11_walk 87 = .ok (.istore 4, 2) := by decide +kernel
theorem dX11_walk_89 : decode cX11_walk 89 = .ok (.aload_n 0, 1) := by decide +kernel
theorem dX11_walk_90 : decode cX11_walk 90 = .ok (.getfield 31, 3) := by decide +kernel
theorem dX11_walk_93 : decode cX11_walk 93 = .ok (.iload_n 3, 1) := by decide +kernel
theorem dX11_walk_94 : decode cX11_walk 94 = .ok (.iaload, 1) := by decide +kernel
theorem dX11_walk_95 : decode cX11_walk 95 = .ok (.aload_n 0, 1) := by decide +kernel
theorem dX11_walk_96 : decode cX11_walk 96 = .ok (.iload 4, 2) := by decide +kernel
theorem dX11_walk_98 : decode cX11_walk 98 = .ok (.invokevirtual 159, 3) := by decide +kernel
theorem dX11_walk_101 : decode cX11_walk 101 = .ok (.isub, 1) := by decide +kernel
theorem dX11_walk_102 : decode cX11_walk 102 = .ok (.istore 5, 2) := by decide +kernel
theorem dX11_walk_104 : decode cX11_walk 104 = .ok (.iload 5, 2) := by decide +kernel
theorem dX11_walk_106 : decode cX11_walk 106 = .ok (.aload_n 0, 1) := by decide +kernel
theorem dX11_walk_107 : decode cX11_walk 107 = .ok (.iload 4, 2) := by decide +kernel
theorem dX11_walk_109 : decode cX11_walk 109 = .ok (.invokevirtual 162, 3) := by decide +kernel
theorem dX11_walk_112 : decode cX11_walk 112 = .ok (.iadd, 1) := by decide +kernel
theorem dX11_walk_113 : decode cX11_walk 113 = .ok (.istore 6, 2) := by decide +kernel
theorem dX11_walk_115 : decode cX11_walk 115 = .ok (.aload_n 0, 1) := by decide +kernel
theorem dX11_walk_116 : decode cX11_walk 116 = .ok (.iload 5, 2) := by decide +kernel
theorem dX11_walk_118 : decode cX11_walk 118 = .ok (.ifCond .lt 10, 3) := by decide +kernel
theorem dX11_walk_121 : decode cX11_walk 121 = .ok (.iload 6, 2) := by decide +kernel
theorem dX11_walk_123 : decode cX11_walk 123 = .ok (.bipush 12, 2) := by decide +kernel
theorem dX11_walk_125 : decode cX11_walk 125 = .ok (.if_icmp .le 7, 3) := by decide +kernel
theorem dX11_walk_128 : decode cX11_walk 128 = .ok (.iload_n 3, 1) := by decide +kernel
theorem dX11_walk_129 : decode cX11_walk 129 = .ok (.goto 7, 3) := by decide +kernel
theorem dX11_walk_132 : decode cX11_walk 132 = .ok (.aload_n 0, 1) := by decide +kernel
theorem dX11_walk_133 : decode cX11_walk 133 = .ok (.getfield 153, 3) := by decide +kernel
theorem dX11_walk_136 : decode cX11_walk 136 = .ok (.putfield 153, 3) := by decide +kernel
theorem dX11_walk_139 : decode cX11_walk 139 = .ok (.aload_n 0, 1) := by decide +kernel
theorem dX11_walk_140 : decode cX11_walk 140 = .ok (.getfield 38, 3) := by decide +kernel
theorem dX11_walk_143 : decode cX11_walk 143 = .ok (.iload_n 1, 1) := by decide +kernel
theorem dX11_walk_144 : decode cX11_walk 144 = .ok (.iload 6, 2) := by decide +kernel
theorem dX11_walk_146 : decode cX11_walk 146 = .ok (.aload_n 0, 1) := by decide +kernel
theorem dX11_walk_147 : decode cX11_walk 147 = .ok (.getfield 38, 3) := by decide +kernel
theorem dX11_walk_150 : decode cX11_walk 150 = .ok (.iload_n 1, 1) := by decide +kernel
theorem dX11_walk_151 : decode cX11_walk 151 = .ok (.iaload, 1) := by decide +kernel
theorem dX11_walk_152 : decode cX11_walk 152 = .ok (.if_icmp .le 8, 3) := by decide +kernel
theorem dX11_walk_155 : decode cX11_walk 155 = .ok (.iload 6, 2) := by decide +kernel
theorem dX11_walk_157 : decode cX11_walk 157 = .ok (.goto 9, 3) := by decide +kernel
theorem dX11_walk_160 : decode cX11_walk 160 = .ok (.aload_n 0, 1) := by decide +kernel
theorem dX11_walk_161 : decode cX11_walk 161 = .ok (.getfield 38, 3) := by decide +kernel
theorem dX11_walk_164 : decode cX11_walk 164 = .ok (.iload_n 1, 1) := by decide +kernel
theorem dX11_walk_165 : decode cX11_walk 165 = .ok (.iaload, 1) := by decide +kernel
theorem dX11_walk_166 : decode cX11_walk 166 = .ok (.iastore, 1) := by decide +kernel
theorem dX11_walk_167 : decode cX11_walk 167 = .ok (.aload_n 0, 1) := by decide +kernel
theorem dX11_walk_168 : decode cX11_walk 168 = .ok (.getfield 16, 3) := by decide +kernel
theorem dX11_walk_171 : decode cX11_walk 171 = .ok (.iload 4, 2) := by decide +kernel
theorem dX11_walk_173 : decode cX11_walk 173 = .ok (.iaload, 1) := by decide +kernel
theorem dX11_walk_174 : decode cX11_walk 174 = .ok (.bipush 8, 2) := by decide +kernel
theorem dX11_walk_176 : decode cX11_walk 176 = .ok (.if_icmp .eq 15, 3) := by decide +kernel
theorem dX11_walk_179 : decode cX11_walk 179 = .ok (.aload_n 0, 1) := by decide +kernel
theorem dX11_walk_180 : decode cX11_walk 180 = .ok (.getfield 16, 3) := by decide +kernel
theorem dX11_walk_183 : decode cX11_walk 183 = .ok (.iload 4, 2) := by decide +kernel
theorem dX11_walk_185 : decode cX11_walk 185 = .ok (.iaload, 1) := by decide +kernel
theorem dX11_walk_186 : decode cX11_walk 186 = .ok (.bipush 11, 2) := by decide +kernel
theorem dX11_walk_188 : decode cX11_walk 188 = .ok (.if_icmp .ne 7, 3) := by decide +kernel
theorem dX11_walk_191 : decode cX11_walk 191 = .ok (.iconst 1, 1) := by decide +kernel
theorem dX11_walk_192 : decode cX11_walk 192 = .ok (.goto 4, 3) := by decide +kernel
theorem dX11_walk_195 : decode cX11_walk 195 = .ok (.iconst 0, 1) := by decide +kernel
theorem dX11_walk_196 : decode cX11_walk 196 = .ok (.istore 7, 2) := by decide +kernel
theorem dX11_walk_198 : decode cX11_walk 198 = .ok (.aload_n 0, 1) := by decide +kernel
theorem dX11_walk_199 : decode cX11_walk 199 = .ok (.getfield 153, 3) := by decide +kernel
theorem dX11_walk_202 : decode cX11_walk 202 = .ok (.ifCond .ge 33, 3) := by decide +kernel
theorem dX11_walk_205 : decode cX11_walk 205 = .ok (.iload 7, 2) := by decide +kernel
theorem dX11_walk_207 : decode cX11_walk 207 = .ok (.ifCond .ne 28, 3) := by decide +kernel
theorem dX11_walk_210 : decode cX11_walk 210 = .ok (.iload_n 3, 1) := by decide +kernel
theorem dX11_walk_211 : decode cX11_walk 211 = .ok (.iconst 1, 1) := by decide +kernel
theorem dX11_walk_212 : decode cX11_walk 212 = .ok (.iadd, 1) := by decide +kernel
theorem dX11_walk_213 : decode cX11_walk 213 = .ok (.iload_n 2, 1) := by decide +kernel
theorem dX11_walk_214 : decode cX11_walk 214 = .ok (.if_icmp .ne 11, 3) := by decide +kernel
theorem dX11_walk_217 : decode cX11_walk 217 = .ok (.aload_n 0, 1) := by decide +kernel
theorem dX11_walk_218 : decode cX11_walk 218 = .ok (.iload_n 3, 1) := by decide +kernel
theorem dX11_walk_219 : decode cX11_walk 219 = .ok (.putfield 153, 3) := by decide +kernel
theorem dX11_walk_222 : decode cX11_walk 222 = .ok (.goto 13, 3) := by decide +kernel
theorem dX11_walk_225 : decode cX11_walk 225 = .ok (.aload_n 0, 1) := by decide +kernel
theorem dX11_walk_226 : decode cX11_walk 226 = .ok (.iload_n 3, 1) := by decide +kernel
theorem dX11_walk_227 : decode cX11_walk 227 = .ok (.iconst 1, 1) := by decide +kernel
theorem dX11_walk_228 : decode cX11_walk 228 = .ok (.iadd, 1) := by decide +kernel
theorem dX11_walk_229 : decode cX11_walk 229 = .ok (.iload 6, 2) := by decide +kernel
theorem dX11_walk_231 : decode cX11_walk 231 = .ok (.iload_n 3, 1) := by decide +kernel
theorem dX11_walk_232 : decode cX11_walk 232 = .ok (.invokevirtual 165, 3) := by decide +kernel
theorem dX11_walk_235 : decode cX11_walk 235 = .ok (.aload_n 0, 1) := by decide +kernel
theorem dX11_walk_236 : decode cX11_walk 236 = .ok (.getfield 153, 3) := by decide +kernel
theorem dX11_walk_239 : decode cX11_walk 239 = .ok (.ifCond .ge 41, 3) := by decide +kernel
theorem dX11_walk_242 : decode cX11_walk 242 = .ok (.aload_n 0, 1) := by decide +kernel
theorem dX11_walk_243 : decode cX11_walk 243 = .ok (.getfield 16, 3) := by decide +kernel
theorem dX11_walk_246 : decode cX11_walk 246 = .ok (.iload 4, 2) := by decide +kernel
theorem dX11_walk_248 : decode cX11_walk 248 = .ok (.iaload, 1) := by decide +kernel
theorem dX11_walk_249 : decode cX11_walk 249 = .ok (.bipush 8, 2) := by decide +kernel
theorem dX11_walk_251 : decode cX11_walk 251 = .ok (.if_icmp .eq 15, 3) := by decide +kernel
theorem dX11_walk_254 : decode cX11_walk 254 = .ok (.aload_n 0, 1) := by decide +kernel
theorem dX11_walk_255 : decode cX11_walk 255 = .ok (.getfield 16, 3) := by decide +kernel
theorem dX11_walk_258 : decode cX11_walk 258 = .ok (.iload 4, 2) := by decide +kernel
theorem dX11_walk_260 : decode cX11_walk 260 = .ok (.iaload, 1) := by decide +kernel
theorem dX11_walk_261 : decode cX11_walk 261 = .ok (.bipush 9, 2) := by decide +kernel
theorem dX11_walk_263 : decode cX11_walk 263 = .ok (.if_icmp .ne 17, 3) := by decide +kernel
theorem dX11_walk_266 : decode cX11_walk 266 = .ok (.aload_n 0, 1) := by decide +kernel
theorem dX11_walk_267 : decode cX11_walk 267 = .ok (.aload_n 0, 1) := by decide +kernel
theorem dX11_walk_268 : decode cX11_walk 268 = .ok (.getfield 19, 3) := by decide +kernel
theorem dX11_walk_271 : decode cX11_walk 271 = .ok (.iload 4, 2) := by decide +kernel
theorem dX11_walk_273 : decode cX11_walk 273 = .ok (.iaload, 1) := by decide +kernel
theorem dX11_walk_274 : decode cX11_walk 274 = .ok (.iload 6, 2) := by decide +kernel
theorem dX11_walk_276 : decode cX11_walk 276 = .ok (.iload_n 3, 1) := by decide +kernel
theorem dX11_walk_277 : decode cX11_walk 277 = .ok (.invokevirtual 165, 3) := by decide +kernel
theorem dX11_walk_280 : decode cX11_walk 280 = .ok (.aload_n 0, 1) := by decide +kernel
theorem dX11_walk_281 : decode cX11_walk 281 = .ok (.iload_n 2, 1) := by decide +kernel
theorem dX11_walk_282 : decode cX11_walk 282 = .ok (.invokevirtual 156, 3) := by decide +kernel
theorem dX11_walk_285 : decode cX11_walk 285 = .ok (.istore_n 3, 1) := by decide +kernel
theorem dX11_walk_286 : decode cX11_walk 286 = .ok (.goto (-223), 3) := by decide +kernel
theorem dX11_walk_289 : decode cX11_walk 289 = .ok (.return_, 1) := by decide +kernel
theorem dX11_checkOne_0 : decode cX11_checkOne 0 = .ok (.aload_n 0, 1) := by decide +kernel
theorem dX11_checkOne_1 : decode cX11_checkOne 1 = .ok (.aload_n 0, 1) := by decide +kernel
theorem dX11_checkOne_2 : decode cX11_checkOne 2 = .ok (.getfield 13, 3) := by decide +kernel
theorem dX11_checkOne_5 : decode cX11_checkOne 5 = .ok (.iload_n 1, 1) := by decide +kernel
theorem dX11_checkOne_6 : decode cX11_checkOne 6 = .ok (.iaload, 1) := by decide +kernel
theorem dX11_checkOne_7 : decode cX11_checkOne 7 = .ok (.ifCond .ne 7, 3) := by decide +kernel
theorem dX11_checkOne_10 : decode cX11_checkOne 10 = .ok (.iconst 0, 1) := by decide +kernel
theorem dX11_checkOne_11 : decode cX11_checkOne 11 = .ok (.goto 4, 3) := by decide +kernel
theorem dX11_checkOne_14 : decode cX11_checkOne 14 = .ok (.iconst (-1), 1) := by decide +kernel
theorem dX11_checkOne_15 : decode cX11_checkOne 15 = .ok (.putfield 153, 3) := by decide +kernel
theorem dX11_checkOne_18 : decode cX11_checkOne 18 = .ok (.aload_n 0, 1) := by decide +kernel
theorem dX11_checkOne_19 : decode cX11_checkOne 19 = .ok (.getfield 13, 3) := by decide +kernel
theorem dX11_checkOne_22 : decode cX11_checkOne 22 = .ok (.iload_n 1, 1) := by decide +kernel
theorem dX11_checkOne_23 : decode cX11_checkOne 23 = .ok (.iaload, 1) := by decide +kernel
theorem dX11_checkOne_24 : decode cX11_checkOne 24 = .ok (.iconst 1, 1) := by decide +kernel
theorem dX11_checkOne_25 : decode cX11_checkOne 25 = .ok (.isub, 1) := by decide +kernel
theorem dX11_checkOne_26 : decode cX11_checkOne 26 = .ok (.istore_n 2, 1) := by decide +kernel
theorem dX11_checkOne_27 : decode cX11_checkOne 27 = .ok (.iload_n 2, 1) := by decide +kernel
theorem dX11_checkOne_28 : decode cX11_checkOne 28 = .ok (.ifCond .lt 30, 3) := by decide +kernel
theorem dX11_checkOne_31 : decode cX11_checkOne 31 = .ok (.aload_n 0, 1) := by decide +kernel
theorem dX11_checkOne_32 : decode cX11_checkOne 32 = .ok (.aload_n 0, 1) := by decide +kernel
theorem dX11_checkOne_33 : decode cX11_checkOne 33 = .ok (.iload_n 1, 1) := by decide +kernel
theorem dX11_checkOne_34 : decode cX11_checkOne 34 = .ok (.iload_n 2, 1) := by decide +kernel
theorem dX11_checkOne_35 : decode cX11_checkOne 35 = .ok (.invokevirtual 169, 3) := by decide +kernel
theorem dX11_checkOne_38 : decode cX11_checkOne 38 = .ok (.ifCond .eq 10, 3) := by decide +kernel
theorem dX11_checkOne_41 : decode cX11_checkOne 41 = .ok (.aload_n 0, 1) := by decide +kernel
theorem dX11_checkOne_42 : decode cX11_checkOne 42 = .ok (.getfield 153, 3) := by decide +kernel
theorem dX11_checkOne_45 : decode cX11_checkOne 45 = .ok (.goto 4, 3) := by decide +kernel
theorem dX11_checkOne_48 : decode cX11_checkOne 48 = .ok (.iload_n 2, 1) := by decide +kernel
theorem dX11_checkOne_49 : decode cX11_checkOne 49 = .ok (.putfield 153, 3) := by decide +kernel
theorem dX11_checkOne_52 : decode cX11_checkOne 52 = .ok (.iinc 2 (-1), 3) := by decide +kernel
theorem dX11_checkOne_55 : decode cX11_checkOne 55 = .ok (.goto (-28), 3) := by decide +kernel
theorem dX11_checkOne_58 : decode cX11_checkOne 58 = .ok (.aload_n 0, 1) := by decide +kernel
theorem dX11_checkOne_59 : decode cX11_checkOne 59 = .ok (.getfield 153, 3) := by decide +kernel
theorem dX11_checkOne_62 : decode cX11_checkOne 62 = .ok (.ifCond .ge 8, 3) := by decide +kernel
theorem dX11_checkOne_65 : decode cX11_checkOne 65 = .ok (.aload_n 0, 1) := by decide +kernel
theorem dX11_checkOne_66 : decode cX11_checkOne 66 = .ok (.iload_n 1, 1) := by decide +kernel
theorem dX11_checkOne_67 : decode cX11_checkOne 67 = .ok (.invokevirtual 173, 3) := by decide +kernel
theorem dX11_checkOne_70 : decode cX11_checkOne 70 = .ok (.aload_n 0, 1) := by decide +kernel
theorem dX11_checkOne_71 : decode cX11_checkOne 71 = .ok (.getfield 153, 3) := by decide +kernel
theorem dX11_checkOne_74 : decode cX11_checkOne 74 = .ok (.ireturn, 1) := by decide +kernel
theorem dX11_checkAll_0 : decode cX11_checkAll 0 = .ok (.iconst 0, 1) := by decide +kernel
theorem dX11_checkAll_1 : decode cX11_checkAll 1 = .ok (.istore_n 1, 1) := by decide +kernel
theorem dX11_checkAll_2 : decode cX11_checkAll 2 = .ok (.iload_n 1, 1) := by decide +kernel
theorem dX11_checkAll_3 : decode cX11_checkAll 3 = .ok (.aload_n 0, 1) := by decide +kernel
theorem dX11_checkAll_4 : decode cX11_checkAll 4 = .ok (.getfield 127, 3) := by decide +kernel
theorem dX11_checkAll_7 : decode cX11_checkAll 7 = .ok (.if_icmp .ge 26, 3) := by decide +kernel
theorem dX11_checkAll_10 : decode cX11_checkAll 10 = .ok (.aload_n 0, 1) := by decide +kernel
theorem dX11_checkAll_11 : decode cX11_checkAll 11 = .ok (.iload_n 1, 1) := by decide +kernel
theorem dX11_checkAll_12 : decode cX11_checkAll 12 = .ok (.invokevirtual 177, 3) := by decide +kernel
theorem dX11_checkAll_15 : decode cX11_checkAll 15 = .ok (.istore_n 2, 1) := by decide +kernel
theorem dX11_checkAll_16 : decode cX11_checkAll 16 = .ok (.iload_n 2, 1) := by decide +kernel
theorem dX11_checkAll_17 : decode cX11_checkAll 17 = .ok (.ifCond .lt 10, 3) := by decide +kernel
theorem dX11_checkAll_20 : decode cX11_checkAll 20 = .ok (.bipush 64, 2) := by decide +kernel
theorem dX11_checkAll_22 : decode cX11_checkAll 22 = .ok (.iload_n 1, 1) := by decide +kernel
theorem dX11_checkAll_23 : decode cX11_checkAll 23 = .ok (.imul, 1) := by decide +kernel
theorem dX11_checkAll_24 : decode cX11_checkAll 24 = .ok (.iload_n 2, 1) := by decide +kernel
theorem dX11_checkAll_25 : decode cX11_checkAll 25 = .ok (.iadd, 1) := by decide +kernel
theorem dX11_checkAll_26 : decode cX11_checkAll 26 = .ok (.ireturn, 1) := by decide +kernel
theorem dX11_checkAll_27 : decode cX11_checkAll 27 = .ok (.iinc 1 1, 3) := by decide +kernel
theorem dX11_checkAll_30 : decode cX11_checkAll 30 = .ok (.goto (-28), 3) := by decide +kernel
theorem dX11_checkAll_33 : decode cX11_checkAll 33 = .ok (.iconst (-1), 1) := by decide +kernel
theorem dX11_checkAll_34 : decode cX11_checkAll 34 = .ok (.ireturn, 1) := by decide +kernel
theorem dX11_check_0 : decode cX11_check 0 = .ok (.aload_n 0, 1) := by decide +kernel
theorem dX11_check_1 : decode cX11_check 1 = .ok (.iconst 0, 1) := by decide +kernel
theorem dX11_check_2 : decode cX11_check 2 = .ok (.putfield 123, 3) := by decide +kernel
theorem dX11_check_5 : decode cX11_check 5 = .ok (.aload_n 0, 1) := by decide +kernel
theorem dX11_check_6 : decode cX11_check 6 = .ok (.invokevirtual 180, 3) := by decide +kernel
theorem dX11_check_9 : decode cX11_check 9 = .ok (.ireturn, 1) := by decide +kernel
theorem dX11_put_0 : decode cX11_put 0 = .ok (.sipush 1500, 3) := by decide +kernel
theorem dX11_put_3 : decode cX11_put 3 = .ok (.iload_n 1, 1) := by decide +kernel
theorem dX11_put_4 : decode cX11_put 4 = .ok (.imul, 1) := by decide +kernel
theorem dX11_put_5 : decode cX11_put 5 = .ok (.aload_n 0, 1) := by decide +kernel
theorem dX11_put_6 : decode cX11_put 6 = .ok (.getfield 44, 3) := by decide +kernel
theorem dX11_put_9 : decode cX11_put 9 = .ok (.iload_n 1, 1) := by decide +kernel
theorem dX11_put_10 : decode cX11_put 10 = .ok (.iaload, 1) := by decide +kernel
theorem dX11_put_11 : decode cX11_put 11 = .ok (.iadd, 1) := by decide +kernel
theorem dX11_put_12 : decode cX11_put 12 = .ok (.istore 5, 2) := by decide +kernel
theorem dX11_put_14 : decode cX11_put 14 = .ok (.aload_n 0, 1) := by decide +kernel
theorem dX11_put_15 : decode cX11_put 15 = .ok (.getfield 47, 3) := by decide +kernel
theorem dX11_put_18 : decode cX11_put 18 = .ok (.iload 5, 2) := by decide +kernel
theorem dX11_put_20 : decode cX11_put 20 = .ok (.iload_n 2, 1) := by decide +kernel
theorem dX11_put_21 : decode cX11_put 21 = .ok (.iastore, 1) := by decide +kernel
theorem dX11_put_22 : decode cX11_put 22 = .ok (.aload_n 0, 1) := by decide +kernel
theorem dX11_put_23 : decode cX11_put 23 = .ok (.getfield 50, 3) := by decide +kernel
theorem dX11_put_26 : decode cX11_put 26 = .ok (.iload 5, 2) := by decide +kernel
theorem dX11_put_28 : decode cX11_put 28 = .ok (.iload_n 3, 1) := by decide +kernel
theorem dX11_put_29 : decode cX11_put 29 = .ok (.iastore, 1) := by decide +kernel
theorem dX11_put_30 : decode cX11_put 30 = .ok (.aload_n 0, 1) := by decide +kernel
theorem dX11_put_31 : decode cX11_put 31 = .ok (.getfield 53, 3) := by decide +kernel
theorem dX11_put_34 : decode cX11_put 34 = .ok (.iload 5, 2) := by decide +kernel
theorem dX11_put_36 : decode cX11_put 36 = .ok (.iload 4, 2) := by decide +kernel
theorem dX11_put_38 : decode cX11_put 38 = .ok (.iastore, 1) := by decide +kernel
theorem dX11_put_39 : decode cX11_put 39 = .ok (.aload_n 0, 1) := by decide +kernel
theorem dX11_put_40 : decode cX11_put 40 = .ok (.getfield 44, 3) := by decide +kernel
theorem dX11_put_43 : decode cX11_put 43 = .ok (.iload_n 1, 1) := by decide +kernel
theorem dX11_put_44 : decode cX11_put 44 = .ok (.dup2, 1) := by decide +kernel
theorem dX11_put_45 : decode cX11_put 45 = .ok (.iaload, 1) := by decide +kernel
theorem dX11_put_46 : decode cX11_put 46 = .ok (.iconst 1, 1) := by decide +kernel
theorem dX11_put_47 : decode cX11_put 47 = .ok (.iadd, 1) := by decide +kernel
theorem dX11_put_48 : decode cX11_put 48 = .ok (.iastore, 1) := by decide +kernel
theorem dX11_put_49 : decode cX11_put 49 = .ok (.return_, 1) := by decide +kernel
theorem dX11_putFunction_0 : decode cX11_putFunction 0 = .ok (.aload_n 0, 1) := by decide +kernel
theorem dX11_putFunction_1 : decode cX11_putFunction 1 = .ok (.iload_n 1, 1) := by decide +kernel
theorem dX11_putFunction_2 : decode cX11_putFunction 2 = .ok (.bipush 20, 2) := by decide +kernel
theorem dX11_putFunction_4 : decode cX11_putFunction 4 = .ok (.aload_n 0, 1) := by decide +kernel
theorem dX11_putFunction_5 : decode cX11_putFunction 5 = .ok (.getfield 184, 3) := by decide +kernel
theorem dX11_putFunction_8 : decode cX11_putFunction 8 = .ok (.iconst 0, 1) := by decide +kernel
theorem dX11_putFunction_9 : decode cX11_putFunction 9 = .ok (.invokevirtual 187, 3) := by decide +kernel
theorem dX11_putFunction_12 : decode cX11_putFunction 12 = .ok (.aload_n 0, 1) := by decide +kernel
theorem dX11_putFunction_13 : decode cX11_putFunction 13 = .ok (.getfield 59, 3) := by decide +kernel
theorem dX11_putFunction_16 : decode cX11_putFunction 16 = .ok (.aload_n 0, 1) := by decide +kernel
theorem dX11_putFunction_17 : decode cX11_putFunction 17 = .ok (.getfield 184, 3) := by decide +kernel
theorem dX11_putFunction_20 : decode cX11_putFunction 20 = .ok (.iload_n 3, 1) := by decide +kernel
theorem dX11_putFunction_21 : decode cX11_putFunction 21 = .ok (.iastore, 1) := by decide +kernel
theorem dX11_putFunction_22 : decode cX11_putFunction 22 = .ok (.aload_n 0, 1) := by decide +kernel
theorem dX11_putFunction_23 : decode cX11_putFunction 23 = .ok (.getfield 62, 3) := by decide +kernel
theorem dX11_putFunction_26 : decode cX11_putFunction 26 = .ok (.aload_n 0, 1) := by decide +kernel
theorem dX11_putFunction_27 : decode cX11_putFunction 27 = .ok (.getfield 184, 3) := by decide +kernel
theorem dX11_putFunction_30 : decode cX11_putFunction 30 = .ok (.iload_n 2, 1) := by decide +kernel
theorem dX11_putFunction_31 : decode cX11_putFunction 31 = .ok (.iastore, 1) := by decide +kernel
theorem dX11_putFunction_32 : decode cX11_putFunction 32 = .ok (.aload_n 0, 1) := by decide +kernel
theorem dX11_putFunction_33 : decode cX11_putFunction 33 = .ok (.dup, 1) := by decide +kernel
theorem dX11_putFunction_34 : decode cX11_putFunction 34 = .ok (.getfield 184, 3) := by decide +kernel
theorem dX11_putFunction_37 : decode cX11_putFunction 37 = .ok (.iconst 1, 1) := by decide +kernel
theorem dX11_putFunction_38 : decode cX11_putFunction 38 = .ok (.iadd, 1) := by decide +kernel
theorem dX11_putFunction_39 : decode cX11_putFunction 39 = .ok (.putfield 184, 3) := by decide +kernel
theorem dX11_putFunction_42 : decode cX11_putFunction 42 = .ok (.iload_n 3, 1) := by decide +kernel
theorem dX11_putFunction_43 : decode cX11_putFunction 43 = .ok (.ifCond .ne 4, 3) := by decide +kernel
theorem dX11_putFunction_46 : decode cX11_putFunction 46 = .ok (.return_, 1) := by decide +kernel
theorem dX11_putFunction_47 : decode cX11_putFunction 47 = .ok (.aload_n 0, 1) := by decide +kernel
theorem dX11_putFunction_48 : decode cX11_putFunction 48 = .ok (.iload_n 1, 1) := by decide +kernel
theorem dX11_putFunction_49 : decode cX11_putFunction 49 = .ok (.iconst 2, 1) := by decide +kernel
theorem dX11_putFunction_50 : decode cX11_putFunction 50 = .ok (.bipush 8, 2) := by decide +kernel
theorem dX11_putFunction_52 : decode cX11_putFunction 52 = .ok (.iconst 0, 1) := by decide +kernel
theorem dX11_putFunction_53 : decode cX11_putFunction 53 = .ok (.invokevirtual 187, 3) := by decide +kernel
theorem dX11_putFunction_56 : decode cX11_putFunction 56 = .ok (.iload_n 3, 1) := by decide +kernel
theorem dX11_putFunction_57 : decode cX11_putFunction 57 = .ok (.istore 4, 2) := by decide +kernel
theorem dX11_putFunction_59 : decode cX11_putFunction 59 = .ok (.iload 4, 2) := by decide +kernel
theorem dX11_putFunction_61 : decode cX11_putFunction 61 = .ok (.iconst 1, 1) := by decide +kernel
theorem dX11_putFunction_62 : decode cX11_putFunction 62 = .ok (.if_icmp .lt 21, 3) := by decide +kernel
theorem dX11_putFunction_65 : decode cX11_putFunction 65 = .ok (.aload_n 0, 1) := by decide +kernel
theorem dX11_putFunction_66 : decode cX11_putFunction 66 = .ok (.iload_n 1, 1) := by decide +kernel
theorem dX11_putFunction_67 : decode cX11_putFunction 67 = .ok (.iconst 2, 1) := by decide +kernel
theorem dX11_putFunction_68 : decode cX11_putFunction 68 = .ok (.bipush 8, 2) := by decide +kernel
theorem dX11_putFunction_70 : decode cX11_putFunction 70 = .ok (.iload 4, 2) := by decide +kernel
theorem dX11_putFunction_72 : decode cX11_putFunction 72 = .ok (.iadd, 1) := by decide +kernel
theorem dX11_putFunction_73 : decode cX11_putFunction 73 = .ok (.iconst 0, 1) := by decide +kernel
theorem dX11_putFunction_74 : decode cX11_putFunction 74 = .ok (.invokevirtual 187, 3) := by decide +kernel
theorem dX11_putFunction_77 : decode cX11_putFunction 77 = .ok (.iinc 4 (-1), 3) := by decide +kernel
theorem dX11_putFunction_80 : decode cX11_putFunction 80 = .ok (.goto (-21), 3) := by decide +kernel
theorem dX11_putFunction_83 : decode cX11_putFunction 83 = .ok (.aload_n 0, 1) := by decide +kernel
theorem dX11_putFunction_84 : decode cX11_putFunction 84 = .ok (.iload_n 1, 1) := by decide +kernel
theorem dX11_putFunction_85 : decode cX11_putFunction 85 = .ok (.iconst 1, 1) := by decide +kernel
theorem dX11_putFunction_86 : decode cX11_putFunction 86 = .ok (.bipush 8, 2) := by decide +kernel
theorem dX11_putFunction_88 : decode cX11_putFunction 88 = .ok (.iconst 0, 1) := by decide +kernel
theorem dX11_putFunction_89 : decode cX11_putFunction 89 = .ok (.invokevirtual 187, 3) := by decide +kernel
theorem dX11_putFunction_92 : decode cX11_putFunction 92 = .ok (.iconst 0, 1) := by decide +kernel
theorem dX11_putFunction_93 : decode cX11_putFunction 93 = .ok (.istore 4, 2) := by decide +kernel
theorem dX11_putFunction_95 : decode cX11_putFunction 95 = .ok (.iload 4, 2) := by decide +kernel
theorem dX11_putFunction_97 : decode cX11_putFunction 97 = .ok (.iload_n 3, 1) := by decide +kernel
theorem dX11_putFunction_98 : decode cX11_putFunction 98 = .ok (.if_icmp .ge 31, 3) := by decide +kernel
theorem dX11_putFunction_101 : decode cX11_putFunction 101 = .ok (.aload_n 0, 1) := by decide +kernel
theorem dX11_putFunction_102 : decode cX11_putFunction 102 = .ok (.iload_n 1, 1) := by decide +kernel
theorem dX11_putFunction_103 : decode cX11_putFunction 103 = .ok (.iconst 1, 1) := by decide +kernel
theorem dX11_putFunction_104 : decode cX11_putFunction 104 = .ok (.bipush 9, 2) := by decide +kernel
theorem dX11_putFunction_106 : decode cX11_putFunction 106 = .ok (.iload 4, 2) := by decide +kernel
theorem dX11_putFunction_108 : decode cX11_putFunction 108 = .ok (.iadd, 1) := by decide +kernel
theorem dX11_putFunction_109 : decode cX11_putFunction 109 = .ok (.iconst 0, 1) := by decide +kernel
theorem dX11_putFunction_110 : decode cX11_putFunction 110 = .ok (.invokevirtual 187, 3) := by decide +kernel
theorem dX11_putFunction_113 : decode cX11_putFunction 113 = .ok (.aload_n 0, 1) := by decide +kernel
theorem dX11_putFunction_114 : decode cX11_putFunction 114 = .ok (.iload_n 1, 1) := by decide +kernel
theorem dX11_putFunction_115 : decode cX11_putFunction 115 = .ok (.bipush 21, 2) := by decide +kernel
theorem dX11_putFunction_117 : decode cX11_putFunction 117 = .ok (.iload 4, 2) := by decide +kernel
theorem dX11_putFunction_119 : decode cX11_putFunction 119 = .ok (.iconst 0, 1) := by decide +kernel
theorem dX11_putFunction_120 : decode cX11_putFunction 120 = .ok (.invokevirtual 187, 3) := by decide +kernel
theorem dX11_putFunction_123 : decode cX11_putFunction 123 = .ok (.iinc 4 1, 3) := by decide +kernel
theorem dX11_putFunction_126 : decode cX11_putFunction 126 = .ok (.goto (-31), 3) := by decide +kernel
theorem dX11_putFunction_129 : decode cX11_putFunction 129 = .ok (.return_, 1) := by decide +kernel
theorem dX11_putJoin_0 : decode cX11_putJoin 0 = .ok (.aload_n 0, 1) := by decide +kernel
theorem dX11_putJoin_1 : decode cX11_putJoin 1 = .ok (.iload_n 2, 1) := by decide +kernel
theorem dX11_putJoin_2 : decode cX11_putJoin 2 = .ok (.invokevirtual 149, 3) := by decide +kernel
theorem dX11_putJoin_5 : decode cX11_putJoin 5 = .ok (.iconst 1, 1) := by decide +kernel
theorem dX11_putJoin_6 : decode cX11_putJoin 6 = .ok (.isub, 1) := by decide +kernel
theorem dX11_putJoin_7 : decode cX11_putJoin 7 = .ok (.istore_n 3, 1) := by decide +kernel
theorem dX11_putJoin_8 : decode cX11_putJoin 8 = .ok (.iload_n 3, 1) := by decide +kernel
theorem dX11_putJoin_9 : decode cX11_putJoin 9 = .ok (.ifCond .lt 20, 3) := by decide +kernel
theorem dX11_putJoin_12 : decode cX11_putJoin 12 = .ok (.aload_n 0, 1) := by decide +kernel
theorem dX11_putJoin_13 : decode cX11_putJoin 13 = .ok (.iload_n 1, 1) := by decide +kernel
theorem dX11_putJoin_14 : decode cX11_putJoin 14 = .ok (.iconst 2, 1) := by decide +kernel
theorem dX11_putJoin_15 : decode cX11_putJoin 15 = .ok (.bipush 8, 2) := by decide +kernel
theorem dX11_putJoin_17 : decode cX11_putJoin 17 = .ok (.iload_n 3, 1) := by decide +kernel
theorem dX11_putJoin_18 : decode cX11_putJoin 18 = .ok (.iadd, 1) := by decide +kernel
theorem dX11_putJoin_19 : decode cX11_putJoin 19 = .ok (.iconst 0, 1) := by decide +kernel
theorem dX11_putJoin_20 : decode cX11_putJoin 20 = .ok (.invokevirtual 187, 3) := by decide +kernel
theorem dX11_putJoin_23 : decode cX11_putJoin 23 = .ok (.iinc 3 (-1), 3) := by decide +kernel
theorem dX11_putJoin_26 : decode cX11_putJoin 26 = .ok (.goto (-18), 3) := by decide +kernel
theorem dX11_putJoin_29 : decode cX11_putJoin 29 = .ok (.aload_n 0, 1) := by decide +kernel
theorem dX11_putJoin_30 : decode cX11_putJoin 30 = .ok (.iload_n 1, 1) := by decide +kernel
theorem dX11_putJoin_31 : decode cX11_putJoin 31 = .ok (.bipush 24, 2) := by decide +kernel
theorem dX11_putJoin_33 : decode cX11_putJoin 33 = .ok (.iconst 0, 1) := by decide +kernel
theorem dX11_putJoin_34 : decode cX11_putJoin 34 = .ok (.iconst 0, 1) := by decide +kernel
theorem dX11_putJoin_35 : decode cX11_putJoin 35 = .ok (.invokevirtual 187, 3) := by decide +kernel
theorem dX11_putJoin_38 : decode cX11_putJoin 38 = .ok (.aload_n 0, 1) := by decide +kernel
theorem dX11_putJoin_39 : decode cX11_putJoin 39 = .ok (.getfield 68, 3) := by decide +kernel
theorem dX11_putJoin_42 : decode cX11_putJoin 42 = .ok (.iload_n 2, 1) := by decide +kernel
theorem dX11_putJoin_43 : decode cX11_putJoin 43 = .ok (.iaload, 1) := by decide +kernel
theorem dX11_putJoin_44 : decode cX11_putJoin 44 = .ok (.istore_n 3, 1) := by decide +kernel
theorem dX11_putJoin_45 : decode cX11_putJoin 45 = .ok (.iconst 0, 1) := by decide +kernel
theorem dX11_putJoin_46 : decode cX11_putJoin 46 = .ok (.istore 4, 2) := by decide +kernel
theorem dX11_putJoin_48 : decode cX11_putJoin 48 = .ok (.iconst 0, 1) := by decide +kernel
theorem dX11_putJoin_49 : decode cX11_putJoin 49 = .ok (.istore 5, 2) := by decide +kernel
theorem dX11_putJoin_51 : decode cX11_putJoin 51 = .ok (.iload 5, 2) := by decide +kernel
theorem dX11_putJoin_53 : decode cX11_putJoin 53 = .ok (.aload_n 0, 1) := by decide +kernel
theorem dX11_putJoin_54 : decode cX11_putJoin 54 = .ok (.getfield 25, 3) := by decide +kernel
theorem dX11_putJoin_57 : decode cX11_putJoin 57 = .ok (.iload_n 2, 1) := by decide +kernel
theorem dX11_putJoin_58 : decode cX11_putJoin 58 = .ok (.iaload, 1) := by decide +kernel
theorem dX11_putJoin_59 : decode cX11_putJoin 59 = .ok (.if_icmp .ge 106, 3) := by decide +kernel
theorem dX11_putJoin_62 : decode cX11_putJoin 62 = .ok (.iconst 0, 1) := by decide +kernel
theorem dX11_putJoin_63 : decode cX11_putJoin 63 = .ok (.istore 6, 2) := by decide +kernel
theorem dX11_putJoin_65 : decode cX11_putJoin 65 = .ok (.iload 5, 2) := by decide +kernel
theorem dX11_putJoin_67 : decode cX11_putJoin 67 = .ok (.iload 6, 2) := by decide +kernel
theorem dX11_putJoin_69 : decode cX11_putJoin 69 = .ok (.iadd, 1) := by decide +kernel
theorem dX11_putJoin_70 : decode cX11_putJoin 70 = .ok (.aload_n 0, 1) := by decide +kernel
theorem dX11_putJoin_71 : decode cX11_putJoin 71 = .ok (.getfield 25, 3) := by decide +kernel
theorem dX11_putJoin_74 : decode cX11_putJoin 74 = .ok (.iload_n 2, 1) := by decide +kernel
theorem dX11_putJoin_75 : decode cX11_putJoin 75 = .ok (.iaload, 1) := by decide +kernel
theorem dX11_putJoin_76 : decode cX11_putJoin 76 = .ok (.if_icmp .ge 29, 3) := by decide +kernel
theorem dX11_putJoin_79 : decode cX11_putJoin 79 = .ok (.aload_n 0, 1) := by decide +kernel
theorem dX11_putJoin_80 : decode cX11_putJoin 80 = .ok (.getfield 28, 3) := by decide +kernel
theorem dX11_putJoin_83 : decode cX11_putJoin 83 = .ok (.bipush 12, 2) := by decide +kernel
theorem dX11_putJoin_85 : decode cX11_putJoin 85 = .ok (.iload_n 2, 1) := by decide +kernel
theorem dX11_putJoin_86 : decode cX11_putJoin 86 = .ok (.imul, 1) := by decide +kernel
theorem dX11_putJoin_87 : decode cX11_putJoin 87 = .ok (.iload 5, 2) := by decide +kernel
theorem dX11_putJoin_89 : decode cX11_putJoin 89 = .ok (.iadd, 1) := by decide +kernel
theorem dX11_putJoin_90 : decode cX11_putJoin 90 = .ok (.iload 6, 2) := by decide +kernel
theorem dX11_putJoin_92 : decode cX11_putJoin 92 = .ok (.iadd, 1) := by decide +kernel
theorem dX11_putJoin_93 : decode cX11_putJoin 93 = .ok (.iaload, 1) := by decide +kernel
theorem dX11_putJoin_94 : decode cX11_putJoin 94 = .ok (.bipush 27, 2) := by decide +kernel
theorem dX11_putJoin_96 : decode cX11_putJoin 96 = .ok (.if_icmp .ge 9, 3) := by decide +kernel
theorem dX11_putJoin_99 : decode cX11_putJoin 99 = .ok (.iinc 6 1, 3) := by decide +kernel
theorem dX11_putJoin_102 : decode cX11_putJoin 102 = .ok (.goto (-37), 3) := by decide +kernel
theorem dX11_putJoin_105 : decode cX11_putJoin 105 = .ok (.iload 6, 2) := by decide +kernel
theorem dX11_putJoin_107 : decode cX11_putJoin 107 = .ok (.ifCond .le 28, 3) := by decide +kernel
theorem dX11_putJoin_110 : decode cX11_putJoin 110 = .ok (.aload_n 0, 1) := by decide +kernel
theorem dX11_putJoin_111 : decode cX11_putJoin 111 = .ok (.iload_n 1, 1) := by decide +kernel
theorem dX11_putJoin_112 : decode cX11_putJoin 112 = .ok (.bipush 25, 2) := by decide +kernel
theorem dX11_putJoin_114 : decode cX11_putJoin 114 = .ok (.iload_n 3, 1) := by decide +kernel
theorem dX11_putJoin_115 : decode cX11_putJoin 115 = .ok (.iload 6, 2) := by decide +kernel
theorem dX11_putJoin_117 : decode cX11_putJoin 117 = .ok (.invokevirtual 187, 3) := by decide +kernel
theorem dX11_putJoin_120 : decode cX11_putJoin 120 = .ok (.iload_n 3, 1) := by decide +kernel
theorem dX11_putJoin_121 : decode cX11_putJoin 121 = .ok (.iload 6, 2) := by decide +kernel
theorem dX11_putJoin_123 : decode cX11_putJoin 123 = .ok (.iadd, 1) := by decide +kernel
theorem dX11_putJoin_124 : decode cX11_putJoin 124 = .ok (.istore_n 3, 1) := by decide +kernel
theorem dX11_putJoin_125 : decode cX11_putJoin 125 = .ok (.iload 5, 2) := by decide +kernel
theorem dX11_putJoin_127 : decode cX11_putJoin 127 = .ok (.iload 6, 2) := by decide +kernel
theorem dX11_putJoin_129 : decode cX11_putJoin 129 = .ok (.iadd, 1) := by decide +kernel
theorem dX11_putJoin_130 : decode cX11_putJoin 130 = .ok (.istore 5, 2) := by decide +kernel
theorem dX11_putJoin_132 : decode cX11_putJoin 132 = .ok (.goto 30, 3) := by decide +kernel
theorem dX11_putJoin_135 : decode cX11_putJoin 135 = .ok (.aload_n 0, 1) := by decide +kernel
theorem dX11_putJoin_136 : decode cX11_putJoin 136 = .ok (.iload_n 1, 1) := by decide +kernel
theorem dX11_putJoin_137 : decode cX11_putJoin 137 = .ok (.iconst 1, 1) := by decide +kernel
theorem dX11_putJoin_138 : decode cX11_putJoin 138 = .ok (.bipush 8, 2) := by decide +kernel
theorem dX11_putJoin_140 : decode cX11_putJoin 140 = .ok (.iload 4, 2) := by decide +kernel
theorem dX11_putJoin_142 : decode cX11_putJoin 142 = .ok (.iadd, 1) := by decide +kernel
theorem dX11_putJoin_143 : decode cX11_putJoin 143 = .ok (.iconst 0, 1) := by decide +kernel
theorem dX11_putJoin_144 : decode cX11_putJoin 144 = .ok (.invokevirtual 187, 3) := by decide +kernel
theorem dX11_putJoin_147 : decode cX11_putJoin 147 = .ok (.aload_n 0, 1) := by decide +kernel
theorem dX11_putJoin_148 : decode cX11_putJoin 148 = .ok (.iload_n 1, 1) := by decide +kernel
theorem dX11_putJoin_149 : decode cX11_putJoin 149 = .ok (.bipush 26, 2) := by decide +kernel
theorem dX11_putJoin_151 : decode cX11_putJoin 151 = .ok (.iconst 0, 1) := by decide +kernel
theorem dX11_putJoin_152 : decode cX11_putJoin 152 = .ok (.iconst 0, 1) := by decide +kernel
theorem dX11_putJoin_153 : decode cX11_putJoin 153 = .ok (.invokevirtual 187, 3) := by decide +kernel
theorem dX11_putJoin_156 : decode cX11_putJoin 156 = .ok (.iinc 4 1, 3) := by decide +kernel
theorem dX11_putJoin_159 : decode cX11_putJoin 159 = .ok (.iinc 5 1, 3) := by decide +kernel
theorem dX11_putJoin_162 : decode cX11_putJoin 162 = .ok (.goto (-111), 3) := by decide +kernel
theorem dX11_putJoin_165 : decode cX11_putJoin 165 = .ok (.return_, 1) := by decide +kernel
theorem dX11_within_0 : decode cX11_within 0 = .ok (.aload_n 0, 1) := by decide +kernel
theorem dX11_within_1 : decode cX11_within 1 = .ok (.getfield 16, 3) := by decide +kernel
theorem dX11_within_4 : decode cX11_within 4 = .ok (.iload_n 1, 1) := by decide +kernel
theorem dX11_within_5 : decode cX11_within 5 = .ok (.iaload, 1) := by decide +kernel
theorem dX11_within_6 : decode cX11_within 6 = .ok (.bipush 13, 2) := by decide +kernel
theorem dX11_within_8 : decode cX11_within 8 = .ok (.if_icmp .ne 7, 3) := by decide +kernel
theorem dX11_within_11 : decode cX11_within 11 = .ok (.iload_n 2, 1) := by decide +kernel
theorem dX11_within_12 : decode cX11_within 12 = .ok (.iconst 1, 1) := by decide +kernel
theorem dX11_within_13 : decode cX11_within 13 = .ok (.iadd, 1) := by decide +kernel
theorem dX11_within_14 : decode cX11_within 14 = .ok (.ireturn, 1) := by decide +kernel
theorem dX11_within_15 : decode cX11_within 15 = .ok (.aload_n 0, 1) := by decide +kernel
theorem dX11_within_16 : decode cX11_within 16 = .ok (.getfield 16, 3) := by decide +kernel
theorem dX11_within_19 : decode cX11_within 19 = .ok (.iload_n 1, 1) := by decide +kernel
theorem dX11_within_20 : decode cX11_within 20 = .ok (.iaload, 1) := by decide +kernel
theorem dX11_within_21 : decode cX11_within 21 = .ok (.bipush 15, 2) := by decide +kernel
theorem dX11_within_23 : decode cX11_within 23 = .ok (.if_icmp .ne 52, 3) := by decide +kernel
theorem dX11_within_26 : decode cX11_within 26 = .ok (.aload_n 0, 1) := by decide +kernel
theorem dX11_within_27 : decode cX11_within 27 = .ok (.aload_n 0, 1) := by decide +kernel
theorem dX11_within_28 : decode cX11_within 28 = .ok (.getfield 19, 3) := by decide +kernel
theorem dX11_within_31 : decode cX11_within 31 = .ok (.iload_n 1, 1) := by decide +kernel
theorem dX11_within_32 : decode cX11_within 32 = .ok (.iaload, 1) := by decide +kernel
theorem dX11_within_33 : decode cX11_within 33 = .ok (.invokevirtual 149, 3) := by decide +kernel
theorem dX11_within_36 : decode cX11_within 36 = .ok (.istore_n 3, 1) := by decide +kernel
theorem dX11_within_37 : decode cX11_within 37 = .ok (.iload_n 3, 1) := by decide +kernel
theorem dX11_within_38 : decode cX11_within 38 = .ok (.ifCond .ne 9, 3) := by decide +kernel
theorem dX11_within_41 : decode cX11_within 41 = .ok (.iload_n 2, 1) := by decide +kernel
theorem dX11_within_42 : decode cX11_within 42 = .ok (.iconst 1, 1) := by decide +kernel
theorem dX11_within_43 : decode cX11_within 43 = .ok (.iadd, 1) := by decide +kernel
theorem dX11_within_44 : decode cX11_within 44 = .ok (.goto 8, 3) := by decide +kernel
theorem dX11_within_47 : decode cX11_within 47 = .ok (.iload_n 2, 1) := by decide +kernel
theorem dX11_within_48 : decode cX11_within 48 = .ok (.iload_n 3, 1) := by decide +kernel
theorem dX11_within_49 : decode cX11_within 49 = .ok (.isub, 1) := by decide +kernel
theorem dX11_within_50 : decode cX11_within 50 = .ok (.iconst 2, 1) := by decide +kernel
theorem dX11_within_51 : decode cX11_within 51 = .ok (.iadd, 1) := by decide +kernel
theorem dX11_within_52 : decode cX11_within 52 = .ok (.istore 4, 2) := by decide +kernel
theorem dX11_within_54 : decode cX11_within 54 = .ok (.iload_n 3, 1) := by decide +kernel
theorem dX11_within_55 : decode cX11_within 55 = .ok (.ifCond .le 17, 3) := by decide +kernel
theorem dX11_within_58 : decode cX11_within 58 = .ok (.iload_n 2, 1) := by decide +kernel
theorem dX11_within_59 : decode cX11_within 59 = .ok (.iconst 1, 1) := by decide +kernel
theorem dX11_within_60 : decode cX11_within 60 = .ok (.isub, 1) := by decide +kernel
theorem dX11_within_61 : decode cX11_within 61 = .ok (.iload 4, 2) := by decide +kernel
theorem dX11_within_63 : decode cX11_within 63 = .ok (.if_icmp .le 9, 3) := by decide +kernel
theorem dX11_within_66 : decode cX11_within 66 = .ok (.iload_n 2, 1) := by decide +kernel
theorem dX11_within_67 : decode cX11_within 67 = .ok (.iconst 1, 1) := by decide +kernel
theorem dX11_within_68 : decode cX11_within 68 = .ok (.isub, 1) := by decide +kernel
theorem dX11_within_69 : decode cX11_within 69 = .ok (.goto 5, 3) := by decide +kernel
theorem dX11_within_72 : decode cX11_within 72 = .ok (.iload 4, 2) := by decide +kernel
theorem dX11_within_74 : decode cX11_within 74 = .ok (.ireturn, 1) := by decide +kernel
theorem dX11_within_75 : decode cX11_within 75 = .ok (.iload_n 2, 1) := by decide +kernel
theorem dX11_within_76 : decode cX11_within 76 = .ok (.aload_n 0, 1) := by decide +kernel
theorem dX11_within_77 : decode cX11_within 77 = .ok (.iload_n 1, 1) := by decide +kernel
theorem dX11_within_78 : decode cX11_within 78 = .ok (.invokevirtual 159, 3) := by decide +kernel
theorem dX11_within_81 : decode cX11_within 81 = .ok (.isub, 1) := by decide +kernel
theorem dX11_within_82 : decode cX11_within 82 = .ok (.aload_n 0, 1) := by decide +kernel
theorem dX11_within_83 : decode cX11_within 83 = .ok (.iload_n 1, 1) := by decide +kernel
theorem dX11_within_84 : decode cX11_within 84 = .ok (.invokevirtual 162, 3) := by decide +kernel
theorem dX11_within_87 : decode cX11_within 87 = .ok (.iadd, 1) := by decide +kernel
theorem dX11_within_88 : decode cX11_within 88 = .ok (.ireturn, 1) := by decide +kernel
theorem dX11_lowerOne_0 : decode cX11_lowerOne 0 = .ok (.aload_n 0, 1) := by decide +kernel
theorem dX11_lowerOne_1 : decode cX11_lowerOne 1 = .ok (.getfield 44, 3) := by decide +kernel
theorem dX11_lowerOne_4 : decode cX11_lowerOne 4 = .ok (.iload_n 1, 1) := by decide +kernel
theorem dX11_lowerOne_5 : decode cX11_lowerOne 5 = .ok (.iconst 0, 1) := by decide +kernel
theorem dX11_lowerOne_6 : decode cX11_lowerOne 6 = .ok (.iastore, 1) := by decide +kernel
theorem dX11_lowerOne_7 : decode cX11_lowerOne 7 = .ok (.aload_n 0, 1) := by decide +kernel
theorem dX11_lowerOne_8 : decode cX11_lowerOne 8 = .ok (.getfield 41, 3) := by decide +kernel
theorem dX11_lowerOne_11 : decode cX11_lowerOne 11 = .ok (.iload_n 1, 1) := by decide +kernel
theorem dX11_lowerOne_12 : decode cX11_lowerOne 12 = .ok (.iconst 0, 1) := by decide +kernel
theorem dX11_lowerOne_13 : decode cX11_lowerOne 13 = .ok (.iastore, 1) := by decide +kernel
theorem dX11_lowerOne_14 : decode cX11_lowerOne 14 = .ok (.aload_n 0, 1) := by decide +kernel
theorem dX11_lowerOne_15 : decode cX11_lowerOne 15 = .ok (.iconst (-1), 1) := by decide +kernel
theorem dX11_lowerOne_16 : decode cX11_lowerOne 16 = .ok (.putfield 153, 3) := by decide +kernel
theorem dX11_lowerOne_19 : decode cX11_lowerOne 19 = .ok (.aload_n 0, 1) := by decide +kernel
theorem dX11_lowerOne_20 : decode cX11_lowerOne 20 = .ok (.iload_n 1, 1) := by decide +kernel
theorem dX11_lowerOne_21 : decode cX11_lowerOne 21 = .ok (.invokevirtual 173, 3) := by decide +kernel
theorem dX11_lowerOne_24 : decode cX11_lowerOne 24 = .ok (.iconst 0, 1) := by decide +kernel
theorem dX11_lowerOne_25 : decode cX11_lowerOne 25 = .ok (.istore_n 2, 1) := by decide +kernel
theorem dX11_lowerOne_26 : decode cX11_lowerOne 26 = .ok (.iload_n 2, 1) := by decide +kernel
theorem dX11_lowerOne_27 : decode cX11_lowerOne 27 = .ok (.aload_n 0, 1) := by decide +kernel
theorem dX11_lowerOne_28 : decode cX11_lowerOne 28 = .ok (.getfield 13, 3) := by decide +kernel
theorem dX11_lowerOne_31 : decode cX11_lowerOne 31 = .ok (.iload_n 1, 1) := by decide +kernel
theorem dX11_lowerOne_32 : decode cX11_lowerOne 32 = .ok (.iaload, 1) := by decide +kernel
theorem dX11_lowerOne_33 : decode cX11_lowerOne 33 = .ok (.if_icmp .ge 212, 3) := by decide +kernel
theorem dX11_lowerOne_36 : decode cX11_lowerOne 36 = .ok (.bipush 40, 2) := by decide +kernel
theorem dX11_lowerOne_38 : decode cX11_lowerOne 38 = .ok (.iload_n 1, 1) := by decide +kernel
theorem dX11_lowerOne_39 : decode cX11_lowerOne 39 = .ok (.imul, 1) := by decide +kernel
theorem dX11_lowerOne_40 : decode cX11_lowerOne 40 = .ok (.iload_n 2, 1) := by decide +kernel
theorem dX11_lowerOne_41 : decode cX11_lowerOne 41 = .ok (.iadd, 1) := by decide +kernel
theorem dX11_lowerOne_42 : decode cX11_lowerOne 42 = .ok (.istore_n 3, 1) := by decide +kernel
theorem dX11_lowerOne_43 : decode cX11_lowerOne 43 = .ok (.aload_n 0, 1) := by decide +kernel
theorem dX11_lowerOne_44 : decode cX11_lowerOne 44 = .ok (.getfield 56, 3) := by decide +kernel
theorem dX11_lowerOne_47 : decode cX11_lowerOne 47 = .ok (.iload_n 2, 1) := by decide +kernel
theorem dX11_lowerOne_48 : decode cX11_lowerOne 48 = .ok (.aload_n 0, 1) := by decide +kernel
theorem dX11_lowerOne_49 : decode cX11_lowerOne 49 = .ok (.getfield 44, 3) := by decide +kernel
theorem dX11_lowerOne_52 : decode cX11_lowerOne 52 = .ok (.iload_n 1, 1) := by decide +kernel
theorem dX11_lowerOne_53 : decode cX11_lowerOne 53 = .ok (.iaload, 1) := by decide +kernel
theorem dX11_lowerOne_54 : decode cX11_lowerOne 54 = .ok (.iastore, 1) := by decide +kernel
theorem dX11_lowerOne_55 : decode cX11_lowerOne 55 = .ok (.aload_n 0, 1) := by decide +kernel
theorem dX11_lowerOne_56 : decode cX11_lowerOne 56 = .ok (.getfield 31, 3) := by decide +kernel
theorem dX11_lowerOne_59 : decode cX11_lowerOne 59 = .ok (.iload_n 2, 1) := by decide +kernel
theorem dX11_lowerOne_60 : decode cX11_lowerOne 60 = .ok (.iaload, 1) := by decide +kernel
theorem dX11_lowerOne_61 : decode cX11_lowerOne 61 = .ok (.ifCond .ge 7, 3) := by decide +kernel
theorem dX11_lowerOne_64 : decode cX11_lowerOne 64 = .ok (.iconst 0, 1) := by decide +kernel
theorem dX11_lowerOne_65 : decode cX11_lowerOne 65 = .ok (.goto 14, 3) := by decide +kernel
theorem dX11_lowerOne_68 : decode cX11_lowerOne 68 = .ok (.aload_n 0, 1) := by decide +kernel
theorem dX11_lowerOne_69 : decode cX11_lowerOne 69 = .ok (.iload_n 3, 1) := by decide +kernel
theorem dX11_lowerOne_70 : decode cX11_lowerOne 70 = .ok (.aload_n 0, 1) := by decide +kernel
theorem dX11_lowerOne_71 : decode cX11_lowerOne 71 = .ok (.getfield 31, 3) := by decide +kernel
theorem dX11_lowerOne_74 : decode cX11_lowerOne 74 = .ok (.iload_n 2, 1) := by decide +kernel
theorem dX11_lowerOne_75 : decode cX11_lowerOne 75 = .ok (.iaload, 1) := by decide +kernel
theorem dX11_lowerOne_76 : decode cX11_lowerOne 76 = .ok (.invokevirtual 191, 3) := by decide +kernel
theorem dX11_lowerOne_79 : decode cX11_lowerOne 79 = .ok (.istore 4, 2) := by decide +kernel
theorem dX11_lowerOne_81 : decode cX11_lowerOne 81 = .ok (.aload_n 0, 1) := by decide +kernel
theorem dX11_lowerOne_82 : decode cX11_lowerOne 82 = .ok (.getfield 41, 3) := by decide +kernel
theorem dX11_lowerOne_85 : decode cX11_lowerOne 85 = .ok (.iload_n 1, 1) := by decide +kernel
theorem dX11_lowerOne_86 : decode cX11_lowerOne 86 = .ok (.iload 4, 2) := by decide +kernel
theorem dX11_lowerOne_88 : decode cX11_lowerOne 88 = .ok (.aload_n 0, 1) := by decide +kernel
theorem dX11_lowerOne_89 : decode cX11_lowerOne 89 = .ok (.getfield 41, 3) := by decide +kernel
theorem dX11_lowerOne_92 : decode cX11_lowerOne 92 = .ok (.iload_n 1, 1) := by decide +kernel
theorem dX11_lowerOne_93 : decode cX11_lowerOne 93 = .ok (.iaload, 1) := by decide +kernel
theorem dX11_lowerOne_94 : decode cX11_lowerOne 94 = .ok (.if_icmp .le 8, 3) := by decide +kernel
theorem dX11_lowerOne_97 : decode cX11_lowerOne 97 = .ok (.iload 4, 2) := by decide +kernel
theorem dX11_lowerOne_99 : decode cX11_lowerOne 99 = .ok (.goto 9, 3) := by decide +kernel
theorem dX11_lowerOne_102 : decode cX11_lowerOne 102 = .ok (.aload_n 0, 1) := by decide +kernel
theorem dX11_lowerOne_103 : decode cX11_lowerOne 103 = .ok (.getfield 41, 3) := by decide +kernel
theorem dX11_lowerOne_106 : decode cX11_lowerOne 106 = .ok (.iload_n 1, 1) := by decide +kernel
theorem dX11_lowerOne_107 : decode cX11_lowerOne 107 = .ok (.iaload, 1) := by decide +kernel
theorem dX11_lowerOne_108 : decode cX11_lowerOne 108 = .ok (.iastore, 1) := by decide +kernel
theorem dX11_lowerOne_109 : decode cX11_lowerOne 109 = .ok (.aload_n 0, 1) := by decide +kernel
theorem dX11_lowerOne_110 : decode cX11_lowerOne 110 = .ok (.getfield 16, 3) := by decide +kernel
theorem dX11_lowerOne_113 : decode cX11_lowerOne 113 = .ok (.iload_n 3, 1) := by decide +kernel
theorem dX11_lowerOne_114 : decode cX11_lowerOne 114 = .ok (.iaload, 1) := by decide +kernel
theorem dX11_lowerOne_115 : decode cX11_lowerOne 115 = .ok (.istore 5, 2) := by decide +kernel
theorem dX11_lowerOne_117 : decode cX11_lowerOne 117 = .ok (.iload 5, 2) := by decide +kernel
theorem dX11_lowerOne_119 : decode cX11_lowerOne 119 = .ok (.bipush 13, 2) := by decide +kernel
theorem dX11_lowerOne_121 : decode cX11_lowerOne 121 = .ok (.if_icmp .ne 23, 3) := by decide +kernel
theorem dX11_lowerOne_124 : decode cX11_lowerOne 124 = .ok (.aload_n 0, 1) := by decide +kernel
theorem dX11_lowerOne_125 : decode cX11_lowerOne 125 = .ok (.iload_n 1, 1) := by decide +kernel
theorem dX11_lowerOne_126 : decode cX11_lowerOne 126 = .ok (.aload_n 0, 1) := by decide +kernel
theorem dX11_lowerOne_127 : decode cX11_lowerOne 127 = .ok (.getfield 19, 3) := by decide +kernel
theorem dX11_lowerOne_130 : decode cX11_lowerOne 130 = .ok (.iload_n 3, 1) := by decide +kernel
theorem dX11_lowerOne_131 : decode cX11_lowerOne 131 = .ok (.iaload, 1) := by decide +kernel
theorem dX11_lowerOne_132 : decode cX11_lowerOne 132 = .ok (.aload_n 0, 1) := by decide +kernel
theorem dX11_lowerOne_133 : decode cX11_lowerOne 133 = .ok (.getfield 22, 3) := by decide +kernel
theorem dX11_lowerOne_136 : decode cX11_lowerOne 136 = .ok (.iload_n 3, 1) := by decide +kernel
theorem dX11_lowerOne_137 : decode cX11_lowerOne 137 = .ok (.iaload, 1) := by decide +kernel
theorem dX11_lowerOne_138 : decode cX11_lowerOne 138 = .ok (.invokevirtual 195, 3) := by decide +kernel
theorem dX11_lowerOne_141 : decode cX11_lowerOne 141 = .ok (.goto 98, 3) := by decide +kernel
theorem dX11_lowerOne_144 : decode cX11_lowerOne 144 = .ok (.iload 5, 2) := by decide +kernel
theorem dX11_lowerOne_146 : decode cX11_lowerOne 146 = .ok (.bipush 14, 2) := by decide +kernel
theorem dX11_lowerOne_148 : decode cX11_lowerOne 148 = .ok (.if_icmp .ne 20, 3) := by decide +kernel
theorem dX11_lowerOne_151 : decode cX11_lowerOne 151 = .ok (.aload_n 0, 1) := by decide +kernel
theorem dX11_lowerOne_152 : decode cX11_lowerOne 152 = .ok (.iload_n 1, 1) := by decide +kernel
theorem dX11_lowerOne_153 : decode cX11_lowerOne 153 = .ok (.bipush 22, 2) := by decide +kernel
theorem dX11_lowerOne_155 : decode cX11_lowerOne 155 = .ok (.aload_n 0, 1) := by decide +kernel
theorem dX11_lowerOne_156 : decode cX11_lowerOne 156 = .ok (.getfield 19, 3) := by decide +kernel
theorem dX11_lowerOne_159 : decode cX11_lowerOne 159 = .ok (.iload_n 3, 1) := by decide +kernel
theorem dX11_lowerOne_160 : decode cX11_lowerOne 160 = .ok (.iaload, 1) := by decide +kernel
theorem dX11_lowerOne_161 : decode cX11_lowerOne 161 = .ok (.iconst 0, 1) := by decide +kernel
theorem dX11_lowerOne_162 : decode cX11_lowerOne 162 = .ok (.invokevirtual 187, 3) := by decide +kernel
theorem dX11_lowerOne_165 : decode cX11_lowerOne 165 = .ok (.goto 74, 3) := by decide +kernel
theorem dX11_lowerOne_168 : decode cX11_lowerOne 168 = .ok (.iload 5, 2) := by decide +kernel
theorem dX11_lowerOne_170 : decode cX11_lowerOne 170 = .ok (.bipush 15, 2) := by decide +kernel
theorem dX11_lowerOne_172 : decode cX11_lowerOne 172 = .ok (.if_icmp .ne 17, 3) := by decide +kernel
theorem dX11_lowerOne_175 : decode cX11_lowerOne 175 = .ok (.aload_n 0, 1) := by decide +kernel
theorem dX11_lowerOne_176 : decode cX11_lowerOne 176 = .ok (.iload_n 1, 1) := by decide +kernel
theorem dX11_lowerOne_177 : decode cX11_lowerOne 177 = .ok (.aload_n 0, 1) := by decide +kernel
theorem dX11_lowerOne_178 : decode cX11_lowerOne 178 = .ok (.getfield 19, 3) := by decide +kernel
theorem dX11_lowerOne_181 : decode cX11_lowerOne 181 = .ok (.iload_n 3, 1) := by decide +kernel
theorem dX11_lowerOne_182 : decode cX11_lowerOne 182 = .ok (.iaload, 1) := by decide +kernel
theorem dX11_lowerOne_183 : decode cX11_lowerOne 183 = .ok (.invokevirtual 198, 3) := by decide +kernel
theorem dX11_lowerOne_186 : decode cX11_lowerOne 186 = .ok (.goto 53, 3) := by decide +kernel
theorem dX11_lowerOne_189 : decode cX11_lowerOne 189 = .ok (.iload 5, 2) := by decide +kernel
theorem dX11_lowerOne_191 : decode cX11_lowerOne 191 = .ok (.iconst 3, 1) := by decide +kernel
theorem dX11_lowerOne_192 : decode cX11_lowerOne 192 = .ok (.if_icmp .lt 17, 3) := by decide +kernel
theorem dX11_lowerOne_195 : decode cX11_lowerOne 195 = .ok (.iload 5, 2) := by decide +kernel
theorem dX11_lowerOne_197 : decode cX11_lowerOne 197 = .ok (.bipush 7, 2) := by decide +kernel
theorem dX11_lowerOne_199 : decode cX11_lowerOne 199 = .ok (.if_icmp .le 14, 3) := by decide +kernel
theorem dX11_lowerOne_202 : decode cX11_lowerOne 202 = .ok (.iload 5, 2) := by decide +kernel
theorem dX11_lowerOne_204 : decode cX11_lowerOne 204 = .ok (.bipush 11, 2) := by decide +kernel
theorem dX11_lowerOne_206 : decode cX11_lowerOne 206 = .ok (.if_icmp .ge 7, 3) := by decide +kernel
theorem dX11_lowerOne_209 : decode cX11_lowerOne 209 = .ok (.iconst 1, 1) := by decide +kernel
theorem dX11_lowerOne_210 : decode cX11_lowerOne 210 = .ok (.goto 4, 3) := by decide +kernel
theorem dX11_lowerOne_213 : decode cX11_lowerOne 213 = .ok (.iconst 0, 1) := by decide +kernel
theorem dX11_lowerOne_214 : decode cX11_lowerOne 214 = .ok (.istore 6, 2) := by decide +kernel
theorem dX11_lowerOne_216 : decode cX11_lowerOne 216 = .ok (.aload_n 0, 1) := by decide +kernel
theorem dX11_lowerOne_217 : decode cX11_lowerOne 217 = .ok (.iload_n 1, 1) := by decide +kernel
theorem dX11_lowerOne_218 : decode cX11_lowerOne 218 = .ok (.iload 5, 2) := by decide +kernel
theorem dX11_lowerOne_220 : decode cX11_lowerOne 220 = .ok (.iload 6, 2) := by decide +kernel
theorem dX11_lowerOne_222 : decode cX11_lowerOne 222 = .ok (.ifCond .eq 12, 3) := by decide +kernel
theorem dX11_lowerOne_225 : decode cX11_lowerOne 225 = .ok (.aload_n 0, 1) := by decide +kernel
theorem dX11_lowerOne_226 : decode cX11_lowerOne 226 = .ok (.getfield 19, 3) := by decide +kernel
theorem dX11_lowerOne_229 : decode cX11_lowerOne 229 = .ok (.iload_n 3, 1) := by decide +kernel
theorem dX11_lowerOne_230 : decode cX11_lowerOne 230 = .ok (.iaload, 1) := by decide +kernel
theorem dX11_lowerOne_231 : decode cX11_lowerOne 231 = .ok (.goto 4, 3) := by decide +kernel
theorem dX11_lowerOne_234 : decode cX11_lowerOne 234 = .ok (.iconst 0, 1) := by decide +kernel
theorem dX11_lowerOne_235 : decode cX11_lowerOne 235 = .ok (.iconst 0, 1) := by decide +kernel
theorem dX11_lowerOne_236 : decode cX11_lowerOne 236 = .ok (.invokevirtual 187, 3) := by decide +kernel
theorem dX11_lowerOne_239 : decode cX11_lowerOne 239 = .ok (.iinc 2 1, 3) := by decide +kernel
theorem dX11_lowerOne_242 : decode cX11_lowerOne 242 = .ok (.goto (-216), 3) := by decide +kernel
theorem dX11_lowerOne_245 : decode cX11_lowerOne 245 = .ok (.iconst 0, 1) := by decide +kernel
theorem dX11_lowerOne_246 : decode cX11_lowerOne 246 = .ok (.istore_n 2, 1) := by decide +kernel
theorem dX11_lowerOne_247 : decode cX11_lowerOne 247 = .ok (.iload_n 2, 1) := by decide +kernel
theorem dX11_lowerOne_248 : decode cX11_lowerOne 248 = .ok (.aload_n 0, 1) := by decide +kernel
theorem dX11_lowerOne_249 : decode cX11_lowerOne 249 = .ok (.getfield 44, 3) := by decide +kernel
theorem dX11_lowerOne_252 : decode cX11_lowerOne 252 = .ok (.iload_n 1, 1) := by decide +kernel
theorem dX11_lowerOne_253 : decode cX11_lowerOne 253 = .ok (.iaload, 1) := by decide +kernel
theorem dX11_lowerOne_254 : decode cX11_lowerOne 254 = .ok (.if_icmp .ge 65, 3) := by decide +kernel
theorem dX11_lowerOne_257 : decode cX11_lowerOne 257 = .ok (.sipush 1500, 3) := by decide +kernel
theorem dX11_lowerOne_260 : decode cX11_lowerOne 260 = .ok (.iload_n 1, 1) := by decide +kernel
theorem dX11_lowerOne_261 : decode cX11_lowerOne 261 = .ok (.imul, 1) := by decide +kernel
theorem dX11_lowerOne_262 : decode cX11_lowerOne 262 = .ok (.iload_n 2, 1) := by decide +kernel
theorem dX11_lowerOne_263 : decode cX11_lowerOne 263 = .ok (.iadd, 1) := by decide +kernel
theorem dX11_lowerOne_264 : decode cX11_lowerOne 264 = .ok (.istore_n 3, 1) := by decide +kernel
theorem dX11_lowerOne_265 : decode cX11_lowerOne 265 = .ok (.aload_n 0, 1) := by decide +kernel
theorem dX11_lowerOne_266 : decode cX11_lowerOne 266 = .ok (.getfield 50, 3) := by decide +kernel
theorem dX11_lowerOne_269 : decode cX11_lowerOne 269 = .ok (.iload_n 3, 1) := by decide +kernel
theorem dX11_lowerOne_270 : decode cX11_lowerOne 270 = .ok (.aload_n 0, 1) := by decide +kernel
theorem dX11_lowerOne_271 : decode cX11_lowerOne 271 = .ok (.getfield 47, 3) := by decide +kernel
theorem dX11_lowerOne_274 : decode cX11_lowerOne 274 = .ok (.iload_n 3, 1) := by decide +kernel
theorem dX11_lowerOne_275 : decode cX11_lowerOne 275 = .ok (.iaload, 1) := by decide +kernel
theorem dX11_lowerOne_276 : decode cX11_lowerOne 276 = .ok (.bipush 8, 2) := by decide +kernel
theorem dX11_lowerOne_278 : decode cX11_lowerOne 278 = .ok (.if_icmp .eq 14, 3) := by decide +kernel
theorem dX11_lowerOne_281 : decode cX11_lowerOne 281 = .ok (.aload_n 0, 1) := by decide +kernel
theorem dX11_lowerOne_282 : decode cX11_lowerOne 282 = .ok (.getfield 47, 3) := by decide +kernel
theorem dX11_lowerOne_285 : decode cX11_lowerOne 285 = .ok (.iload_n 3, 1) := by decide +kernel
theorem dX11_lowerOne_286 : decode cX11_lowerOne 286 = .ok (.iaload, 1) := by decide +kernel
theorem dX11_lowerOne_287 : decode cX11_lowerOne 287 = .ok (.bipush 9, 2) := by decide +kernel
theorem dX11_lowerOne_289 : decode cX11_lowerOne 289 = .ok (.if_icmp .ne 17, 3) := by decide +kernel
theorem dX11_lowerOne_292 : decode cX11_lowerOne 292 = .ok (.aload_n 0, 1) := by decide +kernel
theorem dX11_lowerOne_293 : decode cX11_lowerOne 293 = .ok (.getfield 56, 3) := by decide +kernel
theorem dX11_lowerOne_296 : decode cX11_lowerOne 296 = .ok (.aload_n 0, 1) := by decide +kernel
theorem dX11_lowerOne_297 : decode cX11_lowerOne 297 = .ok (.getfield 50, 3) := by decide +kernel
theorem dX11_lowerOne_300 : decode cX11_lowerOne 300 = .ok (.iload_n 3, 1) := by decide +kernel
theorem dX11_lowerOne_301 : decode cX11_lowerOne 301 = .ok (.iaload, 1) := by decide +kernel
theorem dX11_lowerOne_302 : decode cX11_lowerOne 302 = .ok (.iaload, 1) := by decide +kernel
theorem dX11_lowerOne_303 : decode cX11_lowerOne 303 = .ok (.goto 9, 3) := by decide +kernel
theorem dX11_lowerOne_306 : decode cX11_lowerOne 306 = .ok (.aload_n 0, 1) := by decide +kernel
theorem dX11_lowerOne_307 : decode cX11_lowerOne 307 = .ok (.getfield 50, 3) := by decide +kernel
theorem dX11_lowerOne_310 : decode cX11_lowerOne 310 = .ok (.iload_n 3, 1) := by decide +kernel
theorem dX11_lowerOne_311 : decode cX11_lowerOne 311 = .ok (.iaload, 1) := by decide +kernel
theorem dX11_lowerOne_312 : decode cX11_lowerOne 312 = .ok (.iastore, 1) := by decide +kernel
theorem dX11_lowerOne_313 : decode cX11_lowerOne 313 = .ok (.iinc 2 1, 3) := by decide +kernel
theorem dX11_lowerOne_316 : decode cX11_lowerOne 316 = .ok (.goto (-69), 3) := by decide +kernel
theorem dX11_lowerOne_319 : decode cX11_lowerOne 319 = .ok (.return_, 1) := by decide +kernel
theorem dX11_lower_0 : decode cX11_lower 0 = .ok (.aload_n 0, 1) := by decide +kernel
theorem dX11_lower_1 : decode cX11_lower 1 = .ok (.iconst 0, 1) := by decide +kernel
theorem dX11_lower_2 : decode cX11_lower 2 = .ok (.putfield 123, 3) := by decide +kernel
theorem dX11_lower_5 : decode cX11_lower 5 = .ok (.aload_n 0, 1) := by decide +kernel
theorem dX11_lower_6 : decode cX11_lower 6 = .ok (.invokevirtual 180, 3) := by decide +kernel
theorem dX11_lower_9 : decode cX11_lower 9 = .ok (.ifCond .lt 5, 3) := by decide +kernel
theorem dX11_lower_12 : decode cX11_lower 12 = .ok (.iconst (-1), 1) := by decide +kernel
theorem dX11_lower_13 : decode cX11_lower 13 = .ok (.ireturn, 1) := by decide +kernel
theorem dX11_lower_14 : decode cX11_lower 14 = .ok (.aload_n 0, 1) := by decide +kernel
theorem dX11_lower_15 : decode cX11_lower 15 = .ok (.iconst 0, 1) := by decide +kernel
theorem dX11_lower_16 : decode cX11_lower 16 = .ok (.putfield 184, 3) := by decide +kernel
theorem dX11_lower_19 : decode cX11_lower 19 = .ok (.aload_n 0, 1) := by decide +kernel
theorem dX11_lower_20 : decode cX11_lower 20 = .ok (.iconst 0, 1) := by decide +kernel
theorem dX11_lower_21 : decode cX11_lower 21 = .ok (.putfield 202, 3) := by decide +kernel
theorem dX11_lower_24 : decode cX11_lower 24 = .ok (.iconst 0, 1) := by decide +kernel
theorem dX11_lower_25 : decode cX11_lower 25 = .ok (.istore_n 1, 1) := by decide +kernel
theorem dX11_lower_26 : decode cX11_lower 26 = .ok (.iload_n 1, 1) := by decide +kernel
theorem dX11_lower_27 : decode cX11_lower 27 = .ok (.aload_n 0, 1) := by decide +kernel
theorem dX11_lower_28 : decode cX11_lower 28 = .ok (.getfield 146, 3) := by decide +kernel
theorem dX11_lower_31 : decode cX11_lower 31 = .ok (.if_icmp .ge 85, 3) := by decide +kernel
theorem dX11_lower_34 : decode cX11_lower 34 = .ok (.aload_n 0, 1) := by decide +kernel
theorem dX11_lower_35 : decode cX11_lower 35 = .ok (.getfield 68, 3) := by decide +kernel
theorem dX11_lower_38 : decode cX11_lower 38 = .ok (.iload_n 1, 1) := by decide +kernel
theorem dX11_lower_39 : decode cX11_lower 39 = .ok (.aload_n 0, 1) := by decide +kernel
theorem dX11_lower_40 : decode cX11_lower 40 = .ok (.getfield 202, 3) := by decide +kernel
theorem dX11_lower_43 : decode cX11_lower 43 = .ok (.iastore, 1) := by decide +kernel
theorem dX11_lower_44 : decode cX11_lower 44 = .ok (.iconst 0, 1) := by decide +kernel
theorem dX11_lower_45 : decode cX11_lower 45 = .ok (.istore_n 2, 1) := by decide +kernel
theorem dX11_lower_46 : decode cX11_lower 46 = .ok (.iload_n 2, 1) := by decide +kernel
theorem dX11_lower_47 : decode cX11_lower 47 = .ok (.aload_n 0, 1) := by decide +kernel
theorem dX11_lower_48 : decode cX11_lower 48 = .ok (.getfield 25, 3) := by decide +kernel
theorem dX11_lower_51 : decode cX11_lower 51 = .ok (.iload_n 1, 1) := by decide +kernel
theorem dX11_lower_52 : decode cX11_lower 52 = .ok (.iaload, 1) := by decide +kernel
theorem dX11_lower_53 : decode cX11_lower 53 = .ok (.if_icmp .ge 57, 3) := by decide +kernel
theorem dX11_lower_56 : decode cX11_lower 56 = .ok (.aload_n 0, 1) := by decide +kernel
theorem dX11_lower_57 : decode cX11_lower 57 = .ok (.getfield 28, 3) := by decide +kernel
theorem dX11_lower_60 : decode cX11_lower 60 = .ok (.bipush 12, 2) := by decide +kernel
theorem dX11_lower_62 : decode cX11_lower 62 = .ok (.iload_n 1, 1) := by decide +kernel
theorem dX11_lower_63 : decode cX11_lower 63 = .ok (.imul, 1) := by decide +kernel
theorem dX11_lower_64 : decode cX11_lower 64 = .ok (.iload_n 2, 1) := by decide +kernel
theorem dX11_lower_65 : decode cX11_lower 65 = .ok (.iadd, 1) := by decide +kernel
theorem dX11_lower_66 : decode cX11_lower 66 = .ok (.iaload, 1) := by decide +kernel
theorem dX11_lower_67 : decode cX11_lower 67 = .ok (.bipush 27, 2) := by decide +kernel
theorem dX11_lower_69 : decode cX11_lower 69 = .ok (.if_icmp .ge 35, 3) := by decide +kernel
theorem dX11_lower_72 : decode cX11_lower 72 = .ok (.aload_n 0, 1) := by decide +kernel
theorem dX11_lower_73 : decode cX11_lower 73 = .ok (.getfield 65, 3) := by decide +kernel
theorem dX11_lower_76 : decode cX11_lower 76 = .ok (.aload_n 0, 1) := by decide +kernel
theorem dX11_lower_77 : decode cX11_lower 77 = .ok (.getfield 202, 3) := by decide +kernel
theorem dX11_lower_80 : decode cX11_lower 80 = .ok (.aload_n 0, 1) := by decide +kernel
theorem dX11_lower_81 : decode cX11_lower 81 = .ok (.getfield 28, 3) := by decide +kernel
theorem dX11_lower_84 : decode cX11_lower 84 = .ok (.bipush 12, 2) := by decide +kernel
theorem dX11_lower_86 : decode cX11_lower 86 = .ok (.iload_n 1, 1) := by decide +kernel
theorem dX11_lower_87 : decode cX11_lower 87 = .ok (.imul, 1) := by decide +kernel
theorem dX11_lower_88 : decode cX11_lower 88 = .ok (.iload_n 2, 1) := by decide +kernel
theorem dX11_lower_89 : decode cX11_lower 89 = .ok (.iadd, 1) := by decide +kernel
theorem dX11_lower_90 : decode cX11_lower 90 = .ok (.iaload, 1) := by decide +kernel
theorem dX11_lower_91 : decode cX11_lower 91 = .ok (.iconst 1, 1) := by decide +kernel
theorem dX11_lower_92 : decode cX11_lower 92 = .ok (.isub, 1) := by decide +kernel
theorem dX11_lower_93 : decode cX11_lower 93 = .ok (.iastore, 1) := by decide +kernel
theorem dX11_lower_94 : decode cX11_lower 94 = .ok (.aload_n 0, 1) := by decide +kernel
theorem dX11_lower_95 : decode cX11_lower 95 = .ok (.dup, 1) := by decide +kernel
theorem dX11_lower_96 : decode cX11_lower 96 = .ok (.getfield 202, 3) := by decide +kernel
theorem dX11_lower_99 : decode cX11_lower 99 = .ok (.iconst 1, 1) := by decide +kernel
theorem dX11_lower_100 : decode cX11_lower 100 = .ok (.iadd, 1) := by decide +kernel
theorem dX11_lower_101 : decode cX11_lower 101 = .ok (.putfield 202, 3) := by decide +kernel
theorem dX11_lower_104 : decode cX11_lower 104 = .ok (.iinc 2 1, 3) := by decide +kernel
theorem dX11_lower_107 : decode cX11_lower 107 = .ok (.goto (-61), 3) := by decide +kernel
theorem dX11_lower_110 : decode cX11_lower 110 = .ok (.iinc 1 1, 3) := by decide +kernel
theorem dX11_lower_113 : decode cX11_lower 113 = .ok (.goto (-87), 3) := by decide +kernel
theorem dX11_lower_116 : decode cX11_lower 116 = .ok (.iconst 0, 1) := by decide +kernel
theorem dX11_lower_117 : decode cX11_lower 117 = .ok (.istore_n 1, 1) := by decide +kernel
theorem dX11_lower_118 : decode cX11_lower 118 = .ok (.iconst 0, 1) := by decide +kernel
theorem dX11_lower_119 : decode cX11_lower 119 = .ok (.istore_n 2, 1) := by decide +kernel
theorem dX11_lower_120 : decode cX11_lower 120 = .ok (.iload_n 2, 1) := by decide +kernel
theorem dX11_lower_121 : decode cX11_lower 121 = .ok (.aload_n 0, 1) := by decide +kernel
theorem dX11_lower_122 : decode cX11_lower 122 = .ok (.getfield 127, 3) := by decide +kernel
theorem dX11_lower_125 : decode cX11_lower 125 = .ok (.if_icmp .ge 23, 3) := by decide +kernel
theorem dX11_lower_128 : decode cX11_lower 128 = .ok (.aload_n 0, 1) := by decide +kernel
theorem dX11_lower_129 : decode cX11_lower 129 = .ok (.iload_n 2, 1) := by decide +kernel
theorem dX11_lower_130 : decode cX11_lower 130 = .ok (.invokevirtual 205, 3) := by decide +kernel
theorem dX11_lower_133 : decode cX11_lower 133 = .ok (.iload_n 1, 1) := by decide +kernel
theorem dX11_lower_134 : decode cX11_lower 134 = .ok (.aload_n 0, 1) := by decide +kernel
theorem dX11_lower_135 : decode cX11_lower 135 = .ok (.getfield 44, 3) := by decide +kernel
theorem dX11_lower_138 : decode cX11_lower 138 = .ok (.iload_n 2, 1) := by decide +kernel
theorem dX11_lower_139 : decode cX11_lower 139 = .ok (.iaload, 1) := by decide +kernel
theorem dX11_lower_140 : decode cX11_lower 140 = .ok (.iadd, 1) := by decide +kernel
theorem dX11_lower_141 : decode cX11_lower 141 = .ok (.istore_n 1, 1) := by decide +kernel
theorem dX11_lower_142 : decode cX11_lower 142 = .ok (.iinc 2 1, 3) := by decide +kernel
theorem dX11_lower_145 : decode cX11_lower 145 = .ok (.goto (-25), 3) := by decide +kernel
theorem dX11_lower_148 : decode cX11_lower 148 = .ok (.aload_n 0, 1) := by decide +kernel
theorem dX11_lower_149 : decode cX11_lower 149 = .ok (.iconst 1, 1) := by decide +kernel
theorem dX11_lower_150 : decode cX11_lower 150 = .ok (.putfield 134, 3) := by decide +kernel
theorem dX11_lower_153 : decode cX11_lower 153 = .ok (.iload_n 1, 1) := by decide +kernel
theorem dX11_lower_154 : decode cX11_lower 154 = .ok (.ireturn, 1) := by decide +kernel
theorem dX11_count_0 : decode cX11_count 0 = .ok (.aload_n 0, 1) := by decide +kernel
theorem dX11_count_1 : decode cX11_count 1 = .ok (.iload_n 1, 1) := by decide +kernel
theorem dX11_count_2 : decode cX11_count 2 = .ok (.ifCond .lt 12, 3) := by decide +kernel
theorem dX11_count_5 : decode cX11_count 5 = .ok (.iload_n 1, 1) := by decide +kernel
theorem dX11_count_6 : decode cX11_count 6 = .ok (.iconst 3, 1) := by decide +kernel
theorem dX11_count_7 : decode cX11_count 7 = .ok (.if_icmp .gt 7, 3) := by decide +kernel
theorem dX11_count_10 : decode cX11_count 10 = .ok (.iconst 1, 1) := by decide +kernel
theorem dX11_count_11 : decode cX11_count 11 = .ok (.goto 4, 3) := by decide +kernel
theorem dX11_count_14 : decode cX11_count 14 = .ok (.iconst 0, 1) := by decide +kernel
theorem dX11_count_15 : decode cX11_count 15 = .ok (.iload_n 1, 1) := by decide +kernel
theorem dX11_count_16 : decode cX11_count 16 = .ok (.iconst 2, 1) := by decide +kernel
theorem dX11_count_17 : decode cX11_count 17 = .ok (.if_icmp .lt 10, 3) := by decide +kernel
theorem dX11_count_20 : decode cX11_count 20 = .ok (.aload_n 0, 1) := by decide +kernel
theorem dX11_count_21 : decode cX11_count 21 = .ok (.getfield 134, 3) := by decide +kernel
theorem dX11_count_24 : decode cX11_count 24 = .ok (.ifCond .eq 7, 3) := by decide +kernel
theorem dX11_count_27 : decode cX11_count 27 = .ok (.iconst 1, 1) := by decide +kernel
theorem dX11_count_28 : decode cX11_count 28 = .ok (.goto 4, 3) := by decide +kernel
theorem dX11_count_31 : decode cX11_count 31 = .ok (.iconst 0, 1) := by decide +kernel
theorem dX11_count_32 : decode cX11_count 32 = .ok (.invokevirtual 130, 3) := by decide +kernel
theorem dX11_count_35 : decode cX11_count 35 = .ok (.ifCond .ne 5, 3) := by decide +kernel
theorem dX11_count_38 : decode cX11_count 38 = .ok (.iconst 0, 1) := by decide +kernel
theorem dX11_count_39 : decode cX11_count 39 = .ok (.ireturn, 1) := by decide +kernel
theorem dX11_count_40 : decode cX11_count 40 = .ok (.iload_n 1, 1) := by decide +kernel
theorem dX11_count_41 : decode cX11_count 41 = .ok (.ifCond .ne 10, 3) := by decide +kernel
theorem dX11_count_44 : decode cX11_count 44 = .ok (.aload_n 0, 1) := by decide +kernel
theorem dX11_count_45 : decode cX11_count 45 = .ok (.getfield 127, 3) := by decide +kernel
theorem dX11_count_48 : decode cX11_count 48 = .ok (.goto 31, 3) := by decide +kernel
theorem dX11_count_51 : decode cX11_count 51 = .ok (.iload_n 1, 1) := by decide +kernel
theorem dX11_count_52 : decode cX11_count 52 = .ok (.iconst 1, 1) := by decide +kernel
theorem dX11_count_53 : decode cX11_count 53 = .ok (.if_icmp .ne 10, 3) := by decide +kernel
theorem dX11_count_56 : decode cX11_count 56 = .ok (.aload_n 0, 1) := by decide +kernel
theorem dX11_count_57 : decode cX11_count 57 = .ok (.getfield 146, 3) := by decide +kernel
theorem dX11_count_60 : decode cX11_count 60 = .ok (.goto 19, 3) := by decide +kernel
theorem dX11_count_63 : decode cX11_count 63 = .ok (.iload_n 1, 1) := by decide +kernel
theorem dX11_count_64 : decode cX11_count 64 = .ok (.iconst 2, 1) := by decide +kernel
theorem dX11_count_65 : decode cX11_count 65 = .ok (.if_icmp .ne 10, 3) := by decide +kernel
theorem dX11_count_68 : decode cX11_count 68 = .ok (.aload_n 0, 1) := by decide +kernel
theorem dX11_count_69 : decode cX11_count 69 = .ok (.getfield 184, 3) := by decide +kernel
theorem dX11_count_72 : decode cX11_count 72 = .ok (.goto 7, 3) := by decide +kernel
theorem dX11_count_75 : decode cX11_count 75 = .ok (.aload_n 0, 1) := by decide +kernel
theorem dX11_count_76 : decode cX11_count 76 = .ok (.getfield 202, 3) := by decide +kernel
theorem dX11_count_79 : decode cX11_count 79 = .ok (.ireturn, 1) := by decide +kernel
theorem dX11_size_0 : decode cX11_size 0 = .ok (.aload_n 0, 1) := by decide +kernel
theorem dX11_size_1 : decode cX11_size 1 = .ok (.aload_n 0, 1) := by decide +kernel
theorem dX11_size_2 : decode cX11_size 2 = .ok (.iload_n 1, 1) := by decide +kernel
theorem dX11_size_3 : decode cX11_size 3 = .ok (.invokevirtual 138, 3) := by decide +kernel
theorem dX11_size_6 : decode cX11_size 6 = .ok (.ifCond .eq 16, 3) := by decide +kernel
theorem dX11_size_9 : decode cX11_size 9 = .ok (.iload_n 2, 1) := by decide +kernel
theorem dX11_size_10 : decode cX11_size 10 = .ok (.ifCond .lt 12, 3) := by decide +kernel
theorem dX11_size_13 : decode cX11_size 13 = .ok (.iload_n 2, 1) := by decide +kernel
theorem dX11_size_14 : decode cX11_size 14 = .ok (.iconst 3, 1) := by decide +kernel
theorem dX11_size_15 : decode cX11_size 15 = .ok (.if_icmp .gt 7, 3) := by decide +kernel
theorem dX11_size_18 : decode cX11_size 18 = .ok (.iconst 1, 1) := by decide +kernel
theorem dX11_size_19 : decode cX11_size 19 = .ok (.goto 4, 3) := by decide +kernel
theorem dX11_size_22 : decode cX11_size 22 = .ok (.iconst 0, 1) := by decide +kernel
theorem dX11_size_23 : decode cX11_size 23 = .ok (.iload_n 2, 1) := by decide +kernel
theorem dX11_size_24 : decode cX11_size 24 = .ok (.ifCond .eq 10, 3) := by decide +kernel
theorem dX11_size_27 : decode cX11_size 27 = .ok (.aload_n 0, 1) := by decide +kernel
theorem dX11_size_28 : decode cX11_size 28 = .ok (.getfield 134, 3) := by decide +kernel
theorem dX11_size_31 : decode cX11_size 31 = .ok (.ifCond .eq 7, 3) := by decide +kernel
theorem dX11_size_34 : decode cX11_size 34 = .ok (.iconst 1, 1) := by decide +kernel
theorem dX11_size_35 : decode cX11_size 35 = .ok (.goto 4, 3) := by decide +kernel
theorem dX11_size_38 : decode cX11_size 38 = .ok (.iconst 0, 1) := by decide +kernel
theorem dX11_size_39 : decode cX11_size 39 = .ok (.invokevirtual 130, 3) := by decide +kernel
theorem dX11_size_42 : decode cX11_size 42 = .ok (.ifCond .ne 5, 3) := by decide +kernel
theorem dX11_size_45 : decode cX11_size 45 = .ok (.iconst 0, 1) := by decide +kernel
theorem dX11_size_46 : decode cX11_size 46 = .ok (.ireturn, 1) := by decide +kernel
theorem dX11_size_47 : decode cX11_size 47 = .ok (.iload_n 2, 1) := by decide +kernel
theorem dX11_size_48 : decode cX11_size 48 = .ok (.ifCond .ne 12, 3) := by decide +kernel
theorem dX11_size_51 : decode cX11_size 51 = .ok (.aload_n 0, 1) := by decide +kernel
theorem dX11_size_52 : decode cX11_size 52 = .ok (.getfield 13, 3) := by decide +kernel
theorem dX11_size_55 : decode cX11_size 55 = .ok (.iload_n 1, 1) := by decide +kernel
theorem dX11_size_56 : decode cX11_size 56 = .ok (.iaload, 1) := by decide +kernel
theorem dX11_size_57 : decode cX11_size 57 = .ok (.goto 37, 3) := by decide +kernel
theorem dX11_size_60 : decode cX11_size 60 = .ok (.iload_n 2, 1) := by decide +kernel
theorem dX11_size_61 : decode cX11_size 61 = .ok (.iconst 1, 1) := by decide +kernel
theorem dX11_size_62 : decode cX11_size 62 = .ok (.if_icmp .ne 12, 3) := by decide +kernel
theorem dX11_size_65 : decode cX11_size 65 = .ok (.aload_n 0, 1) := by decide +kernel
theorem dX11_size_66 : decode cX11_size 66 = .ok (.getfield 44, 3) := by decide +kernel
theorem dX11_size_69 : decode cX11_size 69 = .ok (.iload_n 1, 1) := by decide +kernel
theorem dX11_size_70 : decode cX11_size 70 = .ok (.iaload, 1) := by decide +kernel
theorem dX11_size_71 : decode cX11_size 71 = .ok (.goto 23, 3) := by decide +kernel
theorem dX11_size_74 : decode cX11_size 74 = .ok (.iload_n 2, 1) := by decide +kernel
theorem dX11_size_75 : decode cX11_size 75 = .ok (.iconst 2, 1) := by decide +kernel
theorem dX11_size_76 : decode cX11_size 76 = .ok (.if_icmp .ne 12, 3) := by decide +kernel
theorem dX11_size_79 : decode cX11_size 79 = .ok (.aload_n 0, 1) := by decide +kernel
theorem dX11_size_80 : decode cX11_size 80 = .ok (.getfield 38, 3) := by decide +kernel
theorem dX11_size_83 : decode cX11_size 83 = .ok (.iload_n 1, 1) := by decide +kernel
theorem dX11_size_84 : decode cX11_size 84 = .ok (.iaload, 1) := by decide +kernel
theorem dX11_size_85 : decode cX11_size 85 = .ok (.goto 9, 3) := by decide +kernel
theorem dX11_size_88 : decode cX11_size 88 = .ok (.aload_n 0, 1) := by decide +kernel
theorem dX11_size_89 : decode cX11_size 89 = .ok (.getfield 41, 3) := by decide +kernel
theorem dX11_size_92 : decode cX11_size 92 = .ok (.iload_n 1, 1) := by decide +kernel
theorem dX11_size_93 : decode cX11_size 93 = .ok (.iaload, 1) := by decide +kernel
theorem dX11_size_94 : decode cX11_size 94 = .ok (.ireturn, 1) := by decide +kernel
theorem dX11_plain_0 : decode cX11_plain 0 = .ok (.aload_n 0, 1) := by decide +kernel
theorem dX11_plain_1 : decode cX11_plain 1 = .ok (.iload_n 1, 1) := by decide +kernel
theorem dX11_plain_2 : decode cX11_plain 2 = .ok (.invokevirtual 138, 3) := by decide +kernel
theorem dX11_plain_5 : decode cX11_plain 5 = .ok (.ifCond .eq 20, 3) := by decide +kernel
theorem dX11_plain_8 : decode cX11_plain 8 = .ok (.iload_n 3, 1) := by decide +kernel
theorem dX11_plain_9 : decode cX11_plain 9 = .ok (.ifCond .lt 16, 3) := by decide +kernel
theorem dX11_plain_12 : decode cX11_plain 12 = .ok (.iload_n 3, 1) := by decide +kernel
theorem dX11_plain_13 : decode cX11_plain 13 = .ok (.iconst 2, 1) := by decide +kernel
theorem dX11_plain_14 : decode cX11_plain 14 = .ok (.if_icmp .gt 11, 3) := by decide +kernel
theorem dX11_plain_17 : decode cX11_plain 17 = .ok (.iload_n 2, 1) := by decide +kernel
theorem dX11_plain_18 : decode cX11_plain 18 = .ok (.ifCond .lt 7, 3) := by decide +kernel
theorem dX11_plain_21 : decode cX11_plain 21 = .ok (.iconst 1, 1) := by decide +kernel
theorem dX11_plain_22 : decode cX11_plain 22 = .ok (.goto 4, 3) := by decide +kernel
theorem dX11_plain_25 : decode cX11_plain 25 = .ok (.iconst 0, 1) := by decide +kernel
theorem dX11_plain_26 : decode cX11_plain 26 = .ok (.istore 4, 2) := by decide +kernel
theorem dX11_plain_28 : decode cX11_plain 28 = .ok (.aload_n 0, 1) := by decide +kernel
theorem dX11_plain_29 : decode cX11_plain 29 = .ok (.iload 4, 2) := by decide +kernel
theorem dX11_plain_31 : decode cX11_plain 31 = .ok (.ifCond .eq 24, 3) := by decide +kernel
theorem dX11_plain_34 : decode cX11_plain 34 = .ok (.aload_n 0, 1) := by decide +kernel
theorem dX11_plain_35 : decode cX11_plain 35 = .ok (.getfield 134, 3) := by decide +kernel
theorem dX11_plain_38 : decode cX11_plain 38 = .ok (.ifCond .eq 13, 3) := by decide +kernel
theorem dX11_plain_41 : decode cX11_plain 41 = .ok (.iload_n 2, 1) := by decide +kernel
theorem dX11_plain_42 : decode cX11_plain 42 = .ok (.aload_n 0, 1) := by decide +kernel
theorem dX11_plain_43 : decode cX11_plain 43 = .ok (.getfield 44, 3) := by decide +kernel
theorem dX11_plain_46 : decode cX11_plain 46 = .ok (.iload_n 1, 1) := by decide +kernel
theorem dX11_plain_47 : decode cX11_plain 47 = .ok (.iaload, 1) := by decide +kernel
theorem dX11_plain_48 : decode cX11_plain 48 = .ok (.if_icmp .ge 7, 3) := by decide +kernel
theorem dX11_plain_51 : decode cX11_plain 51 = .ok (.iconst 1, 1) := by decide +kernel
theorem dX11_plain_52 : decode cX11_plain 52 = .ok (.goto 4, 3) := by decide +kernel
theorem dX11_plain_55 : decode cX11_plain 55 = .ok (.iconst 0, 1) := by decide +kernel
theorem dX11_plain_56 : decode cX11_plain 56 = .ok (.aload_n 0, 1) := by decide +kernel
theorem dX11_plain_57 : decode cX11_plain 57 = .ok (.getfield 134, 3) := by decide +kernel
theorem dX11_plain_60 : decode cX11_plain 60 = .ok (.invokevirtual 130, 3) := by decide +kernel
theorem dX11_plain_63 : decode cX11_plain 63 = .ok (.ifCond .ne 5, 3) := by decide +kernel
theorem dX11_plain_66 : decode cX11_plain 66 = .ok (.iconst 0, 1) := by decide +kernel
theorem dX11_plain_67 : decode cX11_plain 67 = .ok (.ireturn, 1) := by decide +kernel
theorem dX11_plain_68 : decode cX11_plain 68 = .ok (.sipush 1500, 3) := by decide +kernel
theorem dX11_plain_71 : decode cX11_plain 71 = .ok (.iload_n 1, 1) := by decide +kernel
theorem dX11_plain_72 : decode cX11_plain 72 = .ok (.imul, 1) := by decide +kernel
theorem dX11_plain_73 : decode cX11_plain 73 = .ok (.iload_n 2, 1) := by decide +kernel
theorem dX11_plain_74 : decode cX11_plain 74 = .ok (.iadd, 1) := by decide +kernel
theorem dX11_plain_75 : decode cX11_plain 75 = .ok (.istore 5, 2) := by decide +kernel
theorem dX11_plain_77 : decode cX11_plain 77 = .ok (.iload_n 3, 1) := by decide +kernel
theorem dX11_plain_78 : decode cX11_plain 78 = .ok (.ifCond .ne 13, 3) := by decide +kernel
theorem dX11_plain_81 : decode cX11_plain 81 = .ok (.aload_n 0, 1) := by decide +kernel
theorem dX11_plain_82 : decode cX11_plain 82 = .ok (.getfield 47, 3) := by decide +kernel
theorem dX11_plain_85 : decode cX11_plain 85 = .ok (.iload 5, 2) := by decide +kernel
theorem dX11_plain_87 : decode cX11_plain 87 = .ok (.iaload, 1) := by decide +kernel
theorem dX11_plain_88 : decode cX11_plain 88 = .ok (.goto 25, 3) := by decide +kernel
theorem dX11_plain_91 : decode cX11_plain 91 = .ok (.iload_n 3, 1) := by decide +kernel
theorem dX11_plain_92 : decode cX11_plain 92 = .ok (.iconst 1, 1) := by decide +kernel
theorem dX11_plain_93 : decode cX11_plain 93 = .ok (.if_icmp .ne 13, 3) := by decide +kernel
theorem dX11_plain_96 : decode cX11_plain 96 = .ok (.aload_n 0, 1) := by decide +kernel
theorem dX11_plain_97 : decode cX11_plain 97 = .ok (.getfield 50, 3) := by decide +kernel
theorem dX11_plain_100 : decode cX11_plain 100 = .ok (.iload 5, 2) := by decide +kernel
theorem dX11_plain_102 : decode cX11_plain 102 = .ok (.iaload, 1) := by decide +kernel
theorem dX11_plain_103 : decode cX11_plain 103 = .ok (.goto 10, 3) := by decide +kernel
theorem dX11_plain_106 : decode cX11_plain 106 = .ok (.aload_n 0, 1) := by decide +kernel
theorem dX11_plain_107 : decode cX11_plain 107 = .ok (.getfield 53, 3) := by decide +kernel
theorem dX11_plain_110 : decode cX11_plain 110 = .ok (.iload 5, 2) := by decide +kernel
theorem dX11_plain_112 : decode cX11_plain 112 = .ok (.iaload, 1) := by decide +kernel
theorem dX11_plain_113 : decode cX11_plain 113 = .ok (.ireturn, 1) := by decide +kernel
theorem dX11_made_0 : decode cX11_made 0 = .ok (.aload_n 0, 1) := by decide +kernel
theorem dX11_made_1 : decode cX11_made 1 = .ok (.iload_n 1, 1) := by decide +kernel
theorem dX11_made_2 : decode cX11_made 2 = .ok (.ifCond .lt 31, 3) := by decide +kernel
theorem dX11_made_5 : decode cX11_made 5 = .ok (.iload_n 2, 1) := by decide +kernel
theorem dX11_made_6 : decode cX11_made 6 = .ok (.ifCond .lt 27, 3) := by decide +kernel
theorem dX11_made_9 : decode cX11_made 9 = .ok (.iload_n 2, 1) := by decide +kernel
theorem dX11_made_10 : decode cX11_made 10 = .ok (.iconst 2, 1) := by decide +kernel
theorem dX11_made_11 : decode cX11_made 11 = .ok (.if_icmp .gt 22, 3) := by decide +kernel
theorem dX11_made_14 : decode cX11_made 14 = .ok (.aload_n 0, 1) := by decide +kernel
theorem dX11_made_15 : decode cX11_made 15 = .ok (.getfield 134, 3) := by decide +kernel
theorem dX11_made_18 : decode cX11_made 18 = .ok (.ifCond .eq 11, 3) := by decide +kernel
theorem dX11_made_21 : decode cX11_made 21 = .ok (.iload_n 1, 1) := by decide +kernel
theorem dX11_made_22 : decode cX11_made 22 = .ok (.aload_n 0, 1) := by decide +kernel
theorem dX11_made_23 : decode cX11_made 23 = .ok (.getfield 184, 3) := by decide +kernel
theorem dX11_made_26 : decode cX11_made 26 = .ok (.if_icmp .ge 7, 3) := by decide +kernel
theorem dX11_made_29 : decode cX11_made 29 = .ok (.iconst 1, 1) := by decide +kernel
theorem dX11_made_30 : decode cX11_made 30 = .ok (.goto 4, 3) := by decide +kernel
theorem dX11_made_33 : decode cX11_made 33 = .ok (.iconst 0, 1) := by decide +kernel
theorem dX11_made_34 : decode cX11_made 34 = .ok (.aload_n 0, 1) := by decide +kernel
theorem dX11_made_35 : decode cX11_made 35 = .ok (.getfield 134, 3) := by decide +kernel
theorem dX11_made_38 : decode cX11_made 38 = .ok (.invokevirtual 130, 3) := by decide +kernel
theorem dX11_made_41 : decode cX11_made 41 = .ok (.ifCond .ne 5, 3) := by decide +kernel
theorem dX11_made_44 : decode cX11_made 44 = .ok (.iconst 0, 1) := by decide +kernel
theorem dX11_made_45 : decode cX11_made 45 = .ok (.ireturn, 1) := by decide +kernel
theorem dX11_made_46 : decode cX11_made 46 = .ok (.iload_n 2, 1) := by decide +kernel
theorem dX11_made_47 : decode cX11_made 47 = .ok (.ifCond .ne 12, 3) := by decide +kernel
theorem dX11_made_50 : decode cX11_made 50 = .ok (.aload_n 0, 1) := by decide +kernel
theorem dX11_made_51 : decode cX11_made 51 = .ok (.getfield 59, 3) := by decide +kernel
theorem dX11_made_54 : decode cX11_made 54 = .ok (.iload_n 1, 1) := by decide +kernel
theorem dX11_made_55 : decode cX11_made 55 = .ok (.iaload, 1) := by decide +kernel
theorem dX11_made_56 : decode cX11_made 56 = .ok (.goto 30, 3) := by decide +kernel
theorem dX11_made_59 : decode cX11_made 59 = .ok (.iload_n 2, 1) := by decide +kernel
theorem dX11_made_60 : decode cX11_made 60 = .ok (.iconst 1, 1) := by decide +kernel
theorem dX11_made_61 : decode cX11_made 61 = .ok (.if_icmp .ne 12, 3) := by decide +kernel
theorem dX11_made_64 : decode cX11_made 64 = .ok (.aload_n 0, 1) := by decide +kernel
theorem dX11_made_65 : decode cX11_made 65 = .ok (.getfield 62, 3) := by decide +kernel
theorem dX11_made_68 : decode cX11_made 68 = .ok (.iload_n 1, 1) := by decide +kernel
theorem dX11_made_69 : decode cX11_made 69 = .ok (.iaload, 1) := by decide +kernel
theorem dX11_made_70 : decode cX11_made 70 = .ok (.goto 16, 3) := by decide +kernel
theorem dX11_made_73 : decode cX11_made 73 = .ok (.aload_n 0, 1) := by decide +kernel
theorem dX11_made_74 : decode cX11_made 74 = .ok (.getfield 7, 3) := by decide +kernel
theorem dX11_made_77 : decode cX11_made 77 = .ok (.aload_n 0, 1) := by decide +kernel
theorem dX11_made_78 : decode cX11_made 78 = .ok (.getfield 62, 3) := by decide +kernel
theorem dX11_made_81 : decode cX11_made 81 = .ok (.iload_n 1, 1) := by decide +kernel
theorem dX11_made_82 : decode cX11_made 82 = .ok (.iaload, 1) := by decide +kernel
theorem dX11_made_83 : decode cX11_made 83 = .ok (.iaload, 1) := by decide +kernel
theorem dX11_made_84 : decode cX11_made 84 = .ok (.iconst 2, 1) := by decide +kernel
theorem dX11_made_85 : decode cX11_made 85 = .ok (.iadd, 1) := by decide +kernel
theorem dX11_made_86 : decode cX11_made 86 = .ok (.ireturn, 1) := by decide +kernel
theorem dX11_character_0 : decode cX11_character 0 = .ok (.aload_n 0, 1) := by decide +kernel
theorem dX11_character_1 : decode cX11_character 1 = .ok (.iload_n 1, 1) := by decide +kernel
theorem dX11_character_2 : decode cX11_character 2 = .ok (.ifCond .lt 22, 3) := by decide +kernel
theorem dX11_character_5 : decode cX11_character 5 = .ok (.aload_n 0, 1) := by decide +kernel
theorem dX11_character_6 : decode cX11_character 6 = .ok (.getfield 134, 3) := by decide +kernel
theorem dX11_character_9 : decode cX11_character 9 = .ok (.ifCond .eq 11, 3) := by decide +kernel
theorem dX11_character_12 : decode cX11_character 12 = .ok (.iload_n 1, 1) := by decide +kernel
theorem dX11_character_13 : decode cX11_character 13 = .ok (.aload_n 0, 1) := by decide +kernel
theorem dX11_character_14 : decode cX11_character 14 = .ok (.getfield 202, 3) := by decide +kernel
theorem dX11_character_17 : decode cX11_character 17 = .ok (.if_icmp .ge 7, 3) := by decide +kernel
theorem dX11_character_20 : decode cX11_character 20 = .ok (.iconst 1, 1) := by decide +kernel
theorem dX11_character_21 : decode cX11_character 21 = .ok (.goto 4, 3) := by decide +kernel
theorem dX11_character_24 : decode cX11_character 24 = .ok (.iconst 0, 1) := by decide +kernel
theorem dX11_character_25 : decode cX11_character 25 = .ok (.aload_n 0, 1) := by decide +kernel
theorem dX11_character_26 : decode cX11_character 26 = .ok (.getfield 134, 3) := by decide +kernel
theorem dX11_character_29 : decode cX11_character 29 = .ok (.invokevirtual 130, 3) := by decide +kernel
theorem dX11_character_32 : decode cX11_character 32 = .ok (.ifCond .eq 12, 3) := by decide +kernel
theorem dX11_character_35 : decode cX11_character 35 = .ok (.aload_n 0, 1) := by decide +kernel
theorem dX11_character_36 : decode cX11_character 36 = .ok (.getfield 65, 3) := by decide +kernel
theorem dX11_character_39 : decode cX11_character 39 = .ok (.iload_n 1, 1) := by decide +kernel
theorem dX11_character_40 : decode cX11_character 40 = .ok (.iaload, 1) := by decide +kernel
theorem dX11_character_41 : decode cX11_character 41 = .ok (.goto 4, 3) := by decide +kernel
theorem dX11_character_44 : decode cX11_character 44 = .ok (.iconst 0, 1) := by decide +kernel
theorem dX11_character_45 : decode cX11_character 45 = .ok (.ireturn, 1) := by decide +kernel
theorem dX11_push_0 : decode cX11_push 0 = .ok (.aload_n 0, 1) := by decide +kernel
theorem dX11_push_1 : decode cX11_push 1 = .ok (.getfield 74, 3) := by decide +kernel
theorem dX11_push_4 : decode cX11_push 4 = .ok (.aload_n 0, 1) := by decide +kernel
theorem dX11_push_5 : decode cX11_push 5 = .ok (.getfield 208, 3) := by decide +kernel
theorem dX11_push_8 : decode cX11_push 8 = .ok (.iload_n 1, 1) := by decide +kernel
theorem dX11_push_9 : decode cX11_push 9 = .ok (.iastore, 1) := by decide +kernel
theorem dX11_push_10 : decode cX11_push 10 = .ok (.aload_n 0, 1) := by decide +kernel
theorem dX11_push_11 : decode cX11_push 11 = .ok (.getfield 77, 3) := by decide +kernel
theorem dX11_push_14 : decode cX11_push 14 = .ok (.aload_n 0, 1) := by decide +kernel
theorem dX11_push_15 : decode cX11_push 15 = .ok (.getfield 208, 3) := by decide +kernel
theorem dX11_push_18 : decode cX11_push 18 = .ok (.iload_n 2, 1) := by decide +kernel
theorem dX11_push_19 : decode cX11_push 19 = .ok (.iastore, 1) := by decide +kernel
theorem dX11_push_20 : decode cX11_push 20 = .ok (.aload_n 0, 1) := by decide +kernel
theorem dX11_push_21 : decode cX11_push 21 = .ok (.dup, 1) := by decide +kernel
theorem dX11_push_22 : decode cX11_push 22 = .ok (.getfield 208, 3) := by decide +kernel
theorem dX11_push_25 : decode cX11_push 25 = .ok (.iconst 1, 1) := by decide +kernel
theorem dX11_push_26 : decode cX11_push 26 = .ok (.iadd, 1) := by decide +kernel
theorem dX11_push_27 : decode cX11_push 27 = .ok (.putfield 208, 3) := by decide +kernel
theorem dX11_push_30 : decode cX11_push 30 = .ok (.return_, 1) := by decide +kernel
theorem dX11_begin_0 : decode cX11_begin 0 = .ok (.aload_n 0, 1) := by decide +kernel
theorem dX11_begin_1 : decode cX11_begin 1 = .ok (.getfield 211, 3) := by decide +kernel
theorem dX11_begin_4 : decode cX11_begin 4 = .ok (.bipush 30, 2) := by decide +kernel
theorem dX11_begin_6 : decode cX11_begin 6 = .ok (.if_icmp .ne 9, 3) := by decide +kernel
theorem dX11_begin_9 : decode cX11_begin 9 = .ok (.aload_n 0, 1) := by decide +kernel
theorem dX11_begin_10 : decode cX11_begin 10 = .ok (.iconst 3, 1) := by decide +kernel
theorem dX11_begin_11 : decode cX11_begin 11 = .ok (.putfield 214, 3) := by decide +kernel
theorem dX11_begin_14 : decode cX11_begin 14 = .ok (.return_, 1) := by decide +kernel
theorem dX11_begin_15 : decode cX11_begin 15 = .ok (.aload_n 0, 1) := by decide +kernel
theorem dX11_begin_16 : decode cX11_begin 16 = .ok (.dup, 1) := by decide +kernel
theorem dX11_begin_17 : decode cX11_begin 17 = .ok (.getfield 211, 3) := by decide +kernel
theorem dX11_begin_20 : decode cX11_begin 20 = .ok (.iconst 1, 1) := by decide +kernel
theorem dX11_begin_21 : decode cX11_begin 21 = .ok (.iadd, 1) := by decide +kernel
theorem dX11_begin_22 : decode cX11_begin 22 = .ok (.putfield 211, 3) := by decide +kernel
theorem dX11_begin_25 : decode cX11_begin 25 = .ok (.aload_n 0, 1) := by decide +kernel
theorem dX11_begin_26 : decode cX11_begin 26 = .ok (.getfield 80, 3) := by decide +kernel
theorem dX11_begin_29 : decode cX11_begin 29 = .ok (.aload_n 0, 1) := by decide +kernel
theorem dX11_begin_30 : decode cX11_begin 30 = .ok (.getfield 211, 3) := by decide +kernel
theorem dX11_begin_33 : decode cX11_begin 33 = .ok (.iload_n 1, 1) := by decide +kernel
theorem dX11_begin_34 : decode cX11_begin 34 = .ok (.iastore, 1) := by decide +kernel
theorem dX11_begin_35 : decode cX11_begin 35 = .ok (.aload_n 0, 1) := by decide +kernel
theorem dX11_begin_36 : decode cX11_begin 36 = .ok (.getfield 83, 3) := by decide +kernel
theorem dX11_begin_39 : decode cX11_begin 39 = .ok (.aload_n 0, 1) := by decide +kernel
theorem dX11_begin_40 : decode cX11_begin 40 = .ok (.getfield 211, 3) := by decide +kernel
theorem dX11_begin_43 : decode cX11_begin 43 = .ok (.iconst 0, 1) := by decide +kernel
theorem dX11_begin_44 : decode cX11_begin 44 = .ok (.iastore, 1) := by decide +kernel
theorem dX11_begin_45 : decode cX11_begin 45 = .ok (.aload_n 0, 1) := by decide +kernel
theorem dX11_begin_46 : decode cX11_begin 46 = .ok (.getfield 86, 3) := by decide +kernel
theorem dX11_begin_49 : decode cX11_begin 49 = .ok (.aload_n 0, 1) := by decide +kernel
theorem dX11_begin_50 : decode cX11_begin 50 = .ok (.getfield 211, 3) := by decide +kernel
theorem dX11_begin_53 : decode cX11_begin 53 = .ok (.aload_n 0, 1) := by decide +kernel
theorem dX11_begin_54 : decode cX11_begin 54 = .ok (.getfield 208, 3) := by decide +kernel
theorem dX11_begin_57 : decode cX11_begin 57 = .ok (.iastore, 1) := by decide +kernel
theorem dX11_begin_58 : decode cX11_begin 58 = .ok (.iconst 0, 1) := by decide +kernel
theorem dX11_begin_59 : decode cX11_begin 59 = .ok (.istore_n 3, 1) := by decide +kernel
theorem dX11_begin_60 : decode cX11_begin 60 = .ok (.iload_n 3, 1) := by decide +kernel
theorem dX11_begin_61 : decode cX11_begin 61 = .ok (.bipush 8, 2) := by decide +kernel
theorem dX11_begin_63 : decode cX11_begin 63 = .ok (.if_icmp .ge 67, 3) := by decide +kernel
theorem dX11_begin_66 : decode cX11_begin 66 = .ok (.aload_n 0, 1) := by decide +kernel
theorem dX11_begin_67 : decode cX11_begin 67 = .ok (.getfield 89, 3) := by decide +kernel
theorem dX11_begin_70 : decode cX11_begin 70 = .ok (.bipush 8, 2) := by decide +kernel
theorem dX11_begin_72 : decode cX11_begin 72 = .ok (.aload_n 0, 1) := by decide +kernel
theorem dX11_begin_73 : decode cX11_begin 73 = .ok (.getfield 211, 3) := by decide +kernel
theorem dX11_begin_76 : decode cX11_begin 76 = .ok (.imul, 1) := by decide +kernel
theorem dX11_begin_77 : decode cX11_begin 77 = .ok (.iload_n 3, 1) := by decide +kernel
theorem dX11_begin_78 : decode cX11_begin 78 = .ok (.iadd, 1) := by decide +kernel
theorem dX11_begin_79 : decode cX11_begin 79 = .ok (.iload_n 3, 1) := by decide +kernel
theorem dX11_begin_80 : decode cX11_begin 80 = .ok (.iload_n 2, 1) := by decide +kernel
theorem dX11_begin_81 : decode cX11_begin 81 = .ok (.if_icmp .ge 12, 3) := by decide +kernel
theorem dX11_begin_84 : decode cX11_begin 84 = .ok (.aload_n 0, 1) := by decide +kernel
theorem dX11_begin_85 : decode cX11_begin 85 = .ok (.getfield 95, 3) := by decide +kernel
theorem dX11_begin_88 : decode cX11_begin 88 = .ok (.iload_n 3, 1) := by decide +kernel
theorem dX11_begin_89 : decode cX11_begin 89 = .ok (.iaload, 1) := by decide +kernel
theorem dX11_begin_90 : decode cX11_begin 90 = .ok (.goto 4, 3) := by decide +kernel
theorem dX11_begin_93 : decode cX11_begin 93 = .ok (.iconst 1, 1) := by decide +kernel
theorem dX11_begin_94 : decode cX11_begin 94 = .ok (.iastore, 1) := by decide +kernel
theorem dX11_begin_95 : decode cX11_begin 95 = .ok (.aload_n 0, 1) := by decide +kernel
theorem dX11_begin_96 : decode cX11_begin 96 = .ok (.getfield 92, 3) := by decide +kernel
theorem dX11_begin_99 : decode cX11_begin 99 = .ok (.bipush 8, 2) := by decide +kernel
theorem dX11_begin_101 : decode cX11_begin 101 = .ok (.aload_n 0, 1) := by decide +kernel
theorem dX11_begin_102 : decode cX11_begin 102 = .ok (.getfield 211, 3) := by decide +kernel
theorem dX11_begin_105 : decode cX11_begin 105 = .ok (.imul, 1) := by decide +kernel
theorem dX11_begin_106 : decode cX11_begin 106 = .ok (.iload_n 3, 1) := by decide +kernel
theorem dX11_begin_107 : decode cX11_begin 107 = .ok (.iadd, 1) := by decide +kernel
theorem dX11_begin_108 : decode cX11_begin 108 = .ok (.iload_n 3, 1) := by decide +kernel
theorem dX11_begin_109 : decode cX11_begin 109 = .ok (.iload_n 2, 1) := by decide +kernel
theorem dX11_begin_110 : decode cX11_begin 110 = .ok (.if_icmp .ge 12, 3) := by decide +kernel
theorem dX11_begin_113 : decode cX11_begin 113 = .ok (.aload_n 0, 1) := by decide +kernel
theorem dX11_begin_114 : decode cX11_begin 114 = .ok (.getfield 98, 3) := by decide +kernel
theorem dX11_begin_117 : decode cX11_begin 117 = .ok (.iload_n 3, 1) := by decide +kernel
theorem dX11_begin_118 : decode cX11_begin 118 = .ok (.iaload, 1) := by decide +kernel
theorem dX11_begin_119 : decode cX11_begin 119 = .ok (.goto 4, 3) := by decide +kernel
theorem dX11_begin_122 : decode cX11_begin 122 = .ok (.iconst 0, 1) := by decide +kernel
theorem dX11_begin_123 : decode cX11_begin 123 = .ok (.iastore, 1) := by decide +kernel
theorem dX11_begin_124 : decode cX11_begin 124 = .ok (.iinc 3 1, 3) := by decide +kernel
theorem dX11_begin_127 : decode cX11_begin 127 = .ok (.goto (-67), 3) := by decide +kernel
theorem dX11_begin_130 : decode cX11_begin 130 = .ok (.return_, 1) := by decide +kernel
theorem dX11_take_0 : decode cX11_take 0 = .ok (.aload_n 0, 1) := by decide +kernel
theorem dX11_take_1 : decode cX11_take 1 = .ok (.dup, 1) := by decide +kernel
theorem dX11_take_2 : decode cX11_take 2 = .ok (.getfield 208, 3) := by decide +kernel
theorem dX11_take_5 : decode cX11_take 5 = .ok (.iload_n 1, 1) := by decide +kernel
theorem dX11_take_6 : decode cX11_take 6 = .ok (.isub, 1) := by decide +kernel
theorem dX11_take_7 : decode cX11_take 7 = .ok (.putfield 208, 3) := by decide +kernel
theorem dX11_take_10 : decode cX11_take 10 = .ok (.iconst 0, 1) := by decide +kernel
theorem dX11_take_11 : decode cX11_take 11 = .ok (.istore_n 3, 1) := by decide +kernel
theorem dX11_take_12 : decode cX11_take 12 = .ok (.iload_n 3, 1) := by decide +kernel
theorem dX11_take_13 : decode cX11_take 13 = .ok (.iload_n 1, 1) := by decide +kernel
theorem dX11_take_14 : decode cX11_take 14 = .ok (.if_icmp .ge 47, 3) := by decide +kernel
theorem dX11_take_17 : decode cX11_take 17 = .ok (.aload_n 0, 1) := by decide +kernel
theorem dX11_take_18 : decode cX11_take 18 = .ok (.getfield 95, 3) := by decide +kernel
theorem dX11_take_21 : decode cX11_take 21 = .ok (.iload_n 2, 1) := by decide +kernel
theorem dX11_take_22 : decode cX11_take 22 = .ok (.iload_n 3, 1) := by decide +kernel
theorem dX11_take_23 : decode cX11_take 23 = .ok (.iadd, 1) := by decide +kernel
theorem dX11_take_24 : decode cX11_take 24 = .ok (.aload_n 0, 1) := by decide +kernel
theorem dX11_take_25 : decode cX11_take 25 = .ok (.getfield 74, 3) := by decide +kernel
theorem dX11_take_28 : decode cX11_take 28 = .ok (.aload_n 0, 1) := by decide +kernel
theorem dX11_take_29 : decode cX11_take 29 = .ok (.getfield 208, 3) := by decide +kernel
theorem dX11_take_32 : decode cX11_take 32 = .ok (.iload_n 3, 1) := by decide +kernel
theorem dX11_take_33 : decode cX11_take 33 = .ok (.iadd, 1) := by decide +kernel
theorem dX11_take_34 : decode cX11_take 34 = .ok (.iaload, 1) := by decide +kernel
theorem dX11_take_35 : decode cX11_take 35 = .ok (.iastore, 1) := by decide +kernel
theorem dX11_take_36 : decode cX11_take 36 = .ok (.aload_n 0, 1) := by decide +kernel
theorem dX11_take_37 : decode cX11_take 37 = .ok (.getfield 98, 3) := by decide +kernel
theorem dX11_take_40 : decode cX11_take 40 = .ok (.iload_n 2, 1) := by decide +kernel
theorem dX11_take_41 : decode cX11_take 41 = .ok (.iload_n 3, 1) := by decide +kernel
theorem dX11_take_42 : decode cX11_take 42 = .ok (.iadd, 1) := by decide +kernel
theorem dX11_take_43 : decode cX11_take 43 = .ok (.aload_n 0, 1) := by decide +kernel
theorem dX11_take_44 : decode cX11_take 44 = .ok (.getfield 77, 3) := by decide +kernel
theorem dX11_take_47 : decode cX11_take 47 = .ok (.aload_n 0, 1) := by decide +kernel
theorem dX11_take_48 : decode cX11_take 48 = .ok (.getfield 208, 3) := by decide +kernel
theorem dX11_take_51 : decode cX11_take 51 = .ok (.iload_n 3, 1) := by decide +kernel
theorem dX11_take_52 : decode cX11_take 52 = .ok (.iadd, 1) := by decide +kernel
theorem dX11_take_53 : decode cX11_take 53 = .ok (.iaload, 1) := by decide +kernel
theorem dX11_take_54 : decode cX11_take 54 = .ok (.iastore, 1) := by decide +kernel
theorem dX11_take_55 : decode cX11_take 55 = .ok (.iinc 3 1, 3) := by decide +kernel
theorem dX11_take_58 : decode cX11_take 58 = .ok (.goto (-46), 3) := by decide +kernel
theorem dX11_take_61 : decode cX11_take 61 = .ok (.return_, 1) := by decide +kernel
theorem dX11_letter_0 : decode cX11_letter 0 = .ok (.aload_n 0, 1) := by decide +kernel
theorem dX11_letter_1 : decode cX11_letter 1 = .ok (.getfield 217, 3) := by decide +kernel
theorem dX11_letter_4 : decode cX11_letter 4 = .ok (.sipush 2500, 3) := by decide +kernel
theorem dX11_letter_7 : decode cX11_letter 7 = .ok (.if_icmp .ge 13, 3) := by decide +kernel
theorem dX11_letter_10 : decode cX11_letter 10 = .ok (.aload_n 0, 1) := by decide +kernel
theorem dX11_letter_11 : decode cX11_letter 11 = .ok (.getfield 120, 3) := by decide +kernel
theorem dX11_letter_14 : decode cX11_letter 14 = .ok (.aload_n 0, 1) := by decide +kernel
theorem dX11_letter_15 : decode cX11_letter 15 = .ok (.getfield 217, 3) := by decide +kernel
theorem dX11_letter_18 : decode cX11_letter 18 = .ok (.iload_n 1, 1) := by decide +kernel
theorem dX11_letter_19 : decode cX11_letter 19 = .ok (.iastore, 1) := by decide +kernel
theorem dX11_letter_20 : decode cX11_letter 20 = .ok (.aload_n 0, 1) := by decide +kernel
theorem dX11_letter_21 : decode cX11_letter 21 = .ok (.dup, 1) := by decide +kernel
theorem dX11_letter_22 : decode cX11_letter 22 = .ok (.getfield 217, 3) := by decide +kernel
theorem dX11_letter_25 : decode cX11_letter 25 = .ok (.iconst 1, 1) := by decide +kernel
theorem dX11_letter_26 : decode cX11_letter 26 = .ok (.iadd, 1) := by decide +kernel
theorem dX11_letter_27 : decode cX11_letter 27 = .ok (.putfield 217, 3) := by decide +kernel
theorem dX11_letter_30 : decode cX11_letter 30 = .ok (.return_, 1) := by decide +kernel
theorem dX11_write_0 : decode cX11_write 0 = .ok (.iload_n 1, 1) := by decide +kernel
theorem dX11_write_1 : decode cX11_write 1 = .ok (.iconst 3, 1) := by decide +kernel
theorem dX11_write_2 : decode cX11_write 2 = .ok (.if_icmp .ne 10, 3) := by decide +kernel
theorem dX11_write_5 : decode cX11_write 5 = .ok (.aload_n 0, 1) := by decide +kernel
theorem dX11_write_6 : decode cX11_write 6 = .ok (.bipush 102, 2) := by decide +kernel
theorem dX11_write_8 : decode cX11_write 8 = .ok (.invokevirtual 220, 3) := by decide +kernel
theorem dX11_write_11 : decode cX11_write 11 = .ok (.return_, 1) := by decide +kernel
theorem dX11_write_12 : decode cX11_write 12 = .ok (.iload_n 1, 1) := by decide +kernel
theorem dX11_write_13 : decode cX11_write 13 = .ok (.iconst 2, 1) := by decide +kernel
theorem dX11_write_14 : decode cX11_write 14 = .ok (.if_icmp .ne 38, 3) := by decide +kernel
theorem dX11_write_17 : decode cX11_write 17 = .ok (.iconst 0, 1) := by decide +kernel
theorem dX11_write_18 : decode cX11_write 18 = .ok (.istore_n 3, 1) := by decide +kernel
theorem dX11_write_19 : decode cX11_write 19 = .ok (.iload_n 3, 1) := by decide +kernel
theorem dX11_write_20 : decode cX11_write 20 = .ok (.aload_n 0, 1) := by decide +kernel
theorem dX11_write_21 : decode cX11_write 21 = .ok (.getfield 101, 3) := by decide +kernel
theorem dX11_write_24 : decode cX11_write 24 = .ok (.iload_n 2, 1) := by decide +kernel
theorem dX11_write_25 : decode cX11_write 25 = .ok (.iaload, 1) := by decide +kernel
theorem dX11_write_26 : decode cX11_write 26 = .ok (.if_icmp .ge 25, 3) := by decide +kernel
theorem dX11_write_29 : decode cX11_write 29 = .ok (.aload_n 0, 1) := by decide +kernel
theorem dX11_write_30 : decode cX11_write 30 = .ok (.aload_n 0, 1) := by decide +kernel
theorem dX11_write_31 : decode cX11_write 31 = .ok (.getfield 105, 3) := by decide +kernel
theorem dX11_write_34 : decode cX11_write 34 = .ok (.sipush 200, 3) := by decide +kernel
theorem dX11_write_37 : decode cX11_write 37 = .ok (.iload_n 2, 1) := by decide +kernel
theorem dX11_write_38 : decode cX11_write 38 = .ok (.imul, 1) := by decide +kernel
theorem dX11_write_39 : decode cX11_write 39 = .ok (.iload_n 3, 1) := by decide +kernel
theorem dX11_write_40 : decode cX11_write 40 = .ok (.iadd, 1) := by decide +kernel
theorem dX11_write_41 : decode cX11_write 41 = .ok (.iaload, 1) := by decide +kernel
theorem dX11_write_42 : decode cX11_write 42 = .ok (.invokevirtual 220, 3) := by decide +kernel
theorem dX11_write_45 : decode cX11_write 45 = .ok (.iinc 3 1, 3) := by decide +kernel
theorem dX11_write_48 : decode cX11_write 48 = .ok (.goto (-29), 3) := by decide +kernel
theorem dX11_write_51 : decode cX11_write 51 = .ok (.return_, 1) := by decide +kernel
theorem dX11_write_52 : decode cX11_write 52 = .ok (.iload_n 2, 1) := by decide +kernel
theorem dX11_write_53 : decode cX11_write 53 = .ok (.ifCond .ge 9, 3) := by decide +kernel
theorem dX11_write_56 : decode cX11_write 56 = .ok (.aload_n 0, 1) := by decide +kernel
theorem dX11_write_57 : decode cX11_write 57 = .ok (.bipush 45, 2) := by decide +kernel
theorem dX11_write_59 : decode cX11_write 59 = .ok (.invokevirtual 220, 3) := by decide +kernel
theorem dX11_write_62 : decode cX11_write 62 = .ok (.iload_n 2, 1) := by decide +kernel
theorem dX11_write_63 : decode cX11_write 63 = .ok (.ifCond .ge 9, 3) := by decide +kernel
theorem dX11_write_66 : decode cX11_write 66 = .ok (.iload_n 2, 1) := by decide +kernel
theorem dX11_write_67 : decode cX11_write 67 = .ok (.i2l, 1) := by decide +kernel
theorem dX11_write_68 : decode cX11_write 68 = .ok (.lneg, 1) := by decide +kernel
theorem dX11_write_69 : decode cX11_write 69 = .ok (.goto 5, 3) := by decide +kernel
theorem dX11_write_72 : decode cX11_write 72 = .ok (.iload_n 2, 1) := by decide +kernel
theorem dX11_write_73 : decode cX11_write 73 = .ok (.i2l, 1) := by decide +kernel
theorem dX11_write_74 : decode cX11_write 74 = .ok (.lstore_n 3, 1) := by decide +kernel
theorem dX11_write_75 : decode cX11_write 75 = .ok (.lconst 1, 1) := by decide +kernel
theorem dX11_write_76 : decode cX11_write 76 = .ok (.lstore 5, 2) := by decide +kernel
theorem dX11_write_78 : decode cX11_write 78 = .ok (.lload_n 3, 1) := by decide +kernel
theorem dX11_write_79 : decode cX11_write 79 = .ok (.lload 5, 2) := by decide +kernel
theorem dX11_write_81 : decode cX11_write 81 = .ok (.ldiv, 1) := by decide +kernel
theorem dX11_write_82 : decode cX11_write 82 = .ok (.ldc2_w 222, 3) := by decide +kernel
theorem dX11_write_85 : decode cX11_write 85 = .ok (.lcmp, 1) := by decide +kernel
theorem dX11_write_86 : decode cX11_write 86 = .ok (.ifCond .le 14, 3) := by decide +kernel
theorem dX11_write_89 : decode cX11_write 89 = .ok (.lload 5, 2) := by decide +kernel
theorem dX11_write_91 : decode cX11_write 91 = .ok (.ldc2_w 224, 3) := by decide +kernel
theorem dX11_write_94 : decode cX11_write 94 = .ok (.lmul, 1) := by decide +kernel
theorem dX11_write_95 : decode cX11_write 95 = .ok (.lstore 5, 2) := by decide +kernel
theorem dX11_write_97 : decode cX11_write 97 = .ok (.goto (-19), 3) := by decide +kernel
theorem dX11_write_100 : decode cX11_write 100 = .ok (.lload 5, 2) := by decide +kernel
theorem dX11_write_102 : decode cX11_write 102 = .ok (.lconst 0, 1) := by decide +kernel
theorem dX11_write_103 : decode cX11_write 103 = .ok (.lcmp, 1) := by decide +kernel
theorem dX11_write_104 : decode cX11_write 104 = .ok (.ifCond .le 30, 3) := by decide +kernel
theorem dX11_write_107 : decode cX11_write 107 = .ok (.aload_n 0, 1) := by decide +kernel
theorem dX11_write_108 : decode cX11_write 108 = .ok (.bipush 48, 2) := by decide +kernel
theorem dX11_write_110 : decode cX11_write 110 = .ok (.lload_n 3, 1) := by decide +kernel
theorem dX11_write_111 : decode cX11_write 111 = .ok (.lload 5, 2) := by decide +kernel
theorem dX11_write_113 : decode cX11_write 113 = .ok (.ldiv, 1) := by decide +kernel
theorem dX11_write_114 : decode cX11_write 114 = .ok (.ldc2_w 224, 3) := by decide +kernel
theorem dX11_write_117 : decode cX11_write 117 = .ok (.lrem, 1) := by decide +kernel
theorem dX11_write_118 : decode cX11_write 118 = .ok (.l2i, 1) := by decide +kernel
theorem dX11_write_119 : decode cX11_write 119 = .ok (.iadd, 1) := by decide +kernel
theorem dX11_write_120 : decode cX11_write 120 = .ok (.invokevirtual 220, 3) := by decide +kernel
theorem dX11_write_123 : decode cX11_write 123 = .ok (.lload 5, 2) := by decide +kernel
theorem dX11_write_125 : decode cX11_write 125 = .ok (.ldc2_w 224, 3) := by decide +kernel
theorem dX11_write_128 : decode cX11_write 128 = .ok (.ldiv, 1) := by decide +kernel
theorem dX11_write_129 : decode cX11_write 129 = .ok (.lstore 5, 2) := by decide +kernel
theorem dX11_write_131 : decode cX11_write 131 = .ok (.goto (-31), 3) := by decide +kernel
theorem dX11_write_134 : decode cX11_write 134 = .ok (.return_, 1) := by decide +kernel
theorem dX11_say_0 : decode cX11_say 0 = .ok (.aload_n 0, 1) := by decide +kernel
theorem dX11_say_1 : decode cX11_say 1 = .ok (.iconst 0, 1) := by decide +kernel
theorem dX11_say_2 : decode cX11_say 2 = .ok (.putfield 217, 3) := by decide +kernel
theorem dX11_say_5 : decode cX11_say 5 = .ok (.aload_n 0, 1) := by decide +kernel
theorem dX11_say_6 : decode cX11_say 6 = .ok (.dup, 1) := by decide +kernel
theorem dX11_say_7 : decode cX11_say 7 = .ok (.getfield 208, 3) := by decide +kernel
theorem dX11_say_10 : decode cX11_say 10 = .ok (.iconst 1, 1) := by decide +kernel
theorem dX11_say_11 : decode cX11_say 11 = .ok (.isub, 1) := by decide +kernel
theorem dX11_say_12 : decode cX11_say 12 = .ok (.putfield 208, 3) := by decide +kernel
theorem dX11_say_15 : decode cX11_say 15 = .ok (.aload_n 0, 1) := by decide +kernel
theorem dX11_say_16 : decode cX11_say 16 = .ok (.aload_n 0, 1) := by decide +kernel
theorem dX11_say_17 : decode cX11_say 17 = .ok (.getfield 74, 3) := by decide +kernel
theorem dX11_say_20 : decode cX11_say 20 = .ok (.aload_n 0, 1) := by decide +kernel
theorem dX11_say_21 : decode cX11_say 21 = .ok (.getfield 208, 3) := by decide +kernel
theorem dX11_say_24 : decode cX11_say 24 = .ok (.iaload, 1) := by decide +kernel
theorem dX11_say_25 : decode cX11_say 25 = .ok (.aload_n 0, 1) := by decide +kernel
theorem dX11_say_26 : decode cX11_say 26 = .ok (.getfield 77, 3) := by decide +kernel
theorem dX11_say_29 : decode cX11_say 29 = .ok (.aload_n 0, 1) := by decide +kernel
theorem dX11_say_30 : decode cX11_say 30 = .ok (.getfield 208, 3) := by decide +kernel
theorem dX11_say_33 : decode cX11_say 33 = .ok (.iaload, 1) := by decide +kernel
theorem dX11_say_34 : decode cX11_say 34 = .ok (.invokevirtual 226, 3) := by decide +kernel
theorem dX11_say_37 : decode cX11_say 37 = .ok (.aload_n 0, 1) := by decide +kernel
theorem dX11_say_38 : decode cX11_say 38 = .ok (.getfield 229, 3) := by decide +kernel
theorem dX11_say_41 : decode cX11_say 41 = .ok (.aload_n 0, 1) := by decide +kernel
theorem dX11_say_42 : decode cX11_say 42 = .ok (.getfield 217, 3) := by decide +kernel
theorem dX11_say_45 : decode cX11_say 45 = .ok (.iadd, 1) := by decide +kernel
theorem dX11_say_46 : decode cX11_say 46 = .ok (.sipush 200, 3) := by decide +kernel
theorem dX11_say_49 : decode cX11_say 49 = .ok (.if_icmp .le 9, 3) := by decide +kernel
theorem dX11_say_52 : decode cX11_say 52 = .ok (.aload_n 0, 1) := by decide +kernel
theorem dX11_say_53 : decode cX11_say 53 = .ok (.iconst 5, 1) := by decide +kernel
theorem dX11_say_54 : decode cX11_say 54 = .ok (.putfield 214, 3) := by decide +kernel
theorem dX11_say_57 : decode cX11_say 57 = .ok (.return_, 1) := by decide +kernel
theorem dX11_say_58 : decode cX11_say 58 = .ok (.iconst 0, 1) := by decide +kernel
theorem dX11_say_59 : decode cX11_say 59 = .ok (.istore_n 1, 1) := by decide +kernel
theorem dX11_say_60 : decode cX11_say 60 = .ok (.iload_n 1, 1) := by decide +kernel
theorem dX11_say_61 : decode cX11_say 61 = .ok (.aload_n 0, 1) := by decide +kernel
theorem dX11_say_62 : decode cX11_say 62 = .ok (.getfield 217, 3) := by decide +kernel
theorem dX11_say_65 : decode cX11_say 65 = .ok (.if_icmp .ge 26, 3) := by decide +kernel
theorem dX11_say_68 : decode cX11_say 68 = .ok (.aload_n 0, 1) := by decide +kernel
theorem dX11_say_69 : decode cX11_say 69 = .ok (.getfield 71, 3) := by decide +kernel
theorem dX11_say_72 : decode cX11_say 72 = .ok (.aload_n 0, 1) := by decide +kernel
theorem dX11_say_73 : decode cX11_say 73 = .ok (.getfield 229, 3) := by decide +kernel
theorem dX11_say_76 : decode cX11_say 76 = .ok (.iload_n 1, 1) := by decide +kernel
theorem dX11_say_77 : decode cX11_say 77 = .ok (.iadd, 1) := by decide +kernel
theorem dX11_say_78 : decode cX11_say 78 = .ok (.aload_n 0, 1) := by decide +kernel
theorem dX11_say_79 : decode cX11_say 79 = .ok (.getfield 120, 3) := by decide +kernel
theorem dX11_say_82 : decode cX11_say 82 = .ok (.iload_n 1, 1) := by decide +kernel
theorem dX11_say_83 : decode cX11_say 83 = .ok (.iaload, 1) := by decide +kernel
theorem dX11_say_84 : decode cX11_say 84 = .ok (.iastore, 1) := by decide +kernel
theorem dX11_say_85 : decode cX11_say 85 = .ok (.iinc 1 1, 3) := by decide +kernel
theorem dX11_say_88 : decode cX11_say 88 = .ok (.goto (-28), 3) := by decide +kernel
theorem dX11_say_91 : decode cX11_say 91 = .ok (.aload_n 0, 1) := by decide +kernel
theorem dX11_say_92 : decode cX11_say 92 = .ok (.dup, 1) := by decide +kernel
theorem dX11_say_93 : decode cX11_say 93 = .ok (.getfield 229, 3) := by decide +kernel
theorem dX11_say_96 : decode cX11_say 96 = .ok (.aload_n 0, 1) := by decide +kernel
theorem dX11_say_97 : decode cX11_say 97 = .ok (.getfield 217, 3) := by decide +kernel
theorem dX11_say_100 : decode cX11_say 100 = .ok (.iadd, 1) := by decide +kernel
theorem dX11_say_101 : decode cX11_say 101 = .ok (.putfield 229, 3) := by decide +kernel
theorem dX11_say_104 : decode cX11_say 104 = .ok (.return_, 1) := by decide +kernel
theorem dX11_join_0 : decode cX11_join 0 = .ok (.aload_n 0, 1) := by decide +kernel
theorem dX11_join_1 : decode cX11_join 1 = .ok (.iconst 0, 1) := by decide +kernel
theorem dX11_join_2 : decode cX11_join 2 = .ok (.putfield 217, 3) := by decide +kernel
theorem dX11_join_5 : decode cX11_join 5 = .ok (.aload_n 0, 1) := by decide +kernel
theorem dX11_join_6 : decode cX11_join 6 = .ok (.iload_n 1, 1) := by decide +kernel
theorem dX11_join_7 : decode cX11_join 7 = .ok (.invokevirtual 149, 3) := by decide +kernel
theorem dX11_join_10 : decode cX11_join 10 = .ok (.istore_n 2, 1) := by decide +kernel
theorem dX11_join_11 : decode cX11_join 11 = .ok (.aload_n 0, 1) := by decide +kernel
theorem dX11_join_12 : decode cX11_join 12 = .ok (.dup, 1) := by decide +kernel
theorem dX11_join_13 : decode cX11_join 13 = .ok (.getfield 208, 3) := by decide +kernel
theorem dX11_join_16 : decode cX11_join 16 = .ok (.iload_n 2, 1) := by decide +kernel
theorem dX11_join_17 : decode cX11_join 17 = .ok (.isub, 1) := by decide +kernel
theorem dX11_join_18 : decode cX11_join 18 = .ok (.putfield 208, 3) := by decide +kernel
theorem dX11_join_21 : decode cX11_join 21 = .ok (.iconst 0, 1) := by decide +kernel
theorem dX11_join_22 : decode cX11_join 22 = .ok (.istore_n 3, 1) := by decide +kernel
theorem dX11_join_23 : decode cX11_join 23 = .ok (.iconst 0, 1) := by decide +kernel
theorem dX11_join_24 : decode cX11_join 24 = .ok (.istore 4, 2) := by decide +kernel
theorem dX11_join_26 : decode cX11_join 26 = .ok (.iload 4, 2) := by decide +kernel
theorem dX11_join_28 : decode cX11_join 28 = .ok (.aload_n 0, 1) := by decide +kernel
theorem dX11_join_29 : decode cX11_join 29 = .ok (.getfield 25, 3) := by decide +kernel
theorem dX11_join_32 : decode cX11_join 32 = .ok (.iload_n 1, 1) := by decide +kernel
theorem dX11_join_33 : decode cX11_join 33 = .ok (.iaload, 1) := by decide +kernel
theorem dX11_join_34 : decode cX11_join 34 = .ok (.if_icmp .ge 71, 3) := by decide +kernel
theorem dX11_join_37 : decode cX11_join 37 = .ok (.aload_n 0, 1) := by decide +kernel
theorem dX11_join_38 : decode cX11_join 38 = .ok (.getfield 28, 3) := by decide +kernel
theorem dX11_join_41 : decode cX11_join 41 = .ok (.bipush 12, 2) := by decide +kernel
theorem dX11_join_43 : decode cX11_join 43 = .ok (.iload_n 1, 1) := by decide +kernel
theorem dX11_join_44 : decode cX11_join 44 = .ok (.imul, 1) := by decide +kernel
theorem dX11_join_45 : decode cX11_join 45 = .ok (.iload 4, 2) := by decide +kernel
theorem dX11_join_47 : decode cX11_join 47 = .ok (.iadd, 1) := by decide +kernel
theorem dX11_join_48 : decode cX11_join 48 = .ok (.iaload, 1) := by decide +kernel
theorem dX11_join_49 : decode cX11_join 49 = .ok (.istore 5, 2) := by decide +kernel
theorem dX11_join_51 : decode cX11_join 51 = .ok (.iload 5, 2) := by decide +kernel
theorem dX11_join_53 : decode cX11_join 53 = .ok (.bipush 27, 2) := by decide +kernel
theorem dX11_join_55 : decode cX11_join 55 = .ok (.if_icmp .ne 35, 3) := by decide +kernel
theorem dX11_join_58 : decode cX11_join 58 = .ok (.aload_n 0, 1) := by decide +kernel
theorem dX11_join_59 : decode cX11_join 59 = .ok (.aload_n 0, 1) := by decide +kernel
theorem dX11_join_60 : decode cX11_join 60 = .ok (.getfield 74, 3) := by decide +kernel
theorem dX11_join_63 : decode cX11_join 63 = .ok (.aload_n 0, 1) := by decide +kernel
theorem dX11_join_64 : decode cX11_join 64 = .ok (.getfield 208, 3) := by decide +kernel
theorem dX11_join_67 : decode cX11_join 67 = .ok (.iload_n 3, 1) := by decide +kernel
theorem dX11_join_68 : decode cX11_join 68 = .ok (.iadd, 1) := by decide +kernel
theorem dX11_join_69 : decode cX11_join 69 = .ok (.iaload, 1) := by decide +kernel
theorem dX11_join_70 : decode cX11_join 70 = .ok (.aload_n 0, 1) := by decide +kernel
theorem dX11_join_71 : decode cX11_join 71 = .ok (.getfield 77, 3) := by decide +kernel
theorem dX11_join_74 : decode cX11_join 74 = .ok (.aload_n 0, 1) := by decide +kernel
theorem dX11_join_75 : decode cX11_join 75 = .ok (.getfield 208, 3) := by decide +kernel
theorem dX11_join_78 : decode cX11_join 78 = .ok (.iload_n 3, 1) := by decide +kernel
theorem dX11_join_79 : decode cX11_join 79 = .ok (.iadd, 1) := by decide +kernel
theorem dX11_join_80 : decode cX11_join 80 = .ok (.iaload, 1) := by decide +kernel
theorem dX11_join_81 : decode cX11_join 81 = .ok (.invokevirtual 226, 3) := by decide +kernel
theorem dX11_join_84 : decode cX11_join 84 = .ok (.iinc 3 1, 3) := by decide +kernel
theorem dX11_join_87 : decode cX11_join 87 = .ok (.goto 12, 3) := by decide +kernel
theorem dX11_join_90 : decode cX11_join 90 = .ok (.aload_n 0, 1) := by decide +kernel
theorem dX11_join_91 : decode cX11_join 91 = .ok (.bipush 96, 2) := by decide +kernel
theorem dX11_join_93 : decode cX11_join 93 = .ok (.iload 5, 2) := by decide +kernel
theorem dX11_join_95 : decode cX11_join 95 = .ok (.iadd, 1) := by decide +kernel
theorem dX11_join_96 : decode cX11_join 96 = .ok (.invokevirtual 220, 3) := by decide +kernel
theorem dX11_join_99 : decode cX11_join 99 = .ok (.iinc 4 1, 3) := by decide +kernel
theorem dX11_join_102 : decode cX11_join 102 = .ok (.goto (-76), 3) := by decide +kernel
theorem dX11_join_105 : decode cX11_join 105 = .ok (.aload_n 0, 1) := by decide +kernel
theorem dX11_join_106 : decode cX11_join 106 = .ok (.getfield 217, 3) := by decide +kernel
theorem dX11_join_109 : decode cX11_join 109 = .ok (.sipush 200, 3) := by decide +kernel
theorem dX11_join_112 : decode cX11_join 112 = .ok (.if_icmp .le 9, 3) := by decide +kernel
theorem dX11_join_115 : decode cX11_join 115 = .ok (.aload_n 0, 1) := by decide +kernel
theorem dX11_join_116 : decode cX11_join 116 = .ok (.iconst 5, 1) := by decide +kernel
theorem dX11_join_117 : decode cX11_join 117 = .ok (.putfield 214, 3) := by decide +kernel
theorem dX11_join_120 : decode cX11_join 120 = .ok (.return_, 1) := by decide +kernel
theorem dX11_join_121 : decode cX11_join 121 = .ok (.iconst 0, 1) := by decide +kernel
theorem dX11_join_122 : decode cX11_join 122 = .ok (.istore 4, 2) := by decide +kernel
theorem dX11_join_124 : decode cX11_join 124 = .ok (.iload 4, 2) := by decide +kernel
theorem dX11_join_126 : decode cX11_join 126 = .ok (.aload_n 0, 1) := by decide +kernel
theorem dX11_join_127 : decode cX11_join 127 = .ok (.getfield 217, 3) := by decide +kernel
theorem dX11_join_130 : decode cX11_join 130 = .ok (.if_icmp .ge 32, 3) := by decide +kernel
theorem dX11_join_133 : decode cX11_join 133 = .ok (.aload_n 0, 1) := by decide +kernel
theorem dX11_join_134 : decode cX11_join 134 = .ok (.getfield 105, 3) := by decide +kernel
theorem dX11_join_137 : decode cX11_join 137 = .ok (.sipush 200, 3) := by decide +kernel
theorem dX11_join_140 : decode cX11_join 140 = .ok (.aload_n 0, 1) := by decide +kernel
theorem dX11_join_141 : decode cX11_join 141 = .ok (.getfield 232, 3) := by decide +kernel
theorem dX11_join_144 : decode cX11_join 144 = .ok (.imul, 1) := by decide +kernel
theorem dX11_join_145 : decode cX11_join 145 = .ok (.iload 4, 2) := by decide +kernel
theorem dX11_join_147 : decode cX11_join 147 = .ok (.iadd, 1) := by decide +kernel
theorem dX11_join_148 : decode cX11_join 148 = .ok (.aload_n 0, 1) := by decide +kernel
theorem dX11_join_149 : decode cX11_join 149 = .ok (.getfield 120, 3) := by decide +kernel
theorem dX11_join_152 : decode cX11_join 152 = .ok (.iload 4, 2) := by decide +kernel
theorem dX11_join_154 : decode cX11_join 154 = .ok (.iaload, 1) := by decide +kernel
theorem dX11_join_155 : decode cX11_join 155 = .ok (.iastore, 1) := by decide +kernel
theorem dX11_join_156 : decode cX11_join 156 = .ok (.iinc 4 1, 3) := by decide +kernel
theorem dX11_join_159 : decode cX11_join 159 = .ok (.goto (-35), 3) := by decide +kernel
theorem dX11_join_162 : decode cX11_join 162 = .ok (.aload_n 0, 1) := by decide +kernel
theorem dX11_join_163 : decode cX11_join 163 = .ok (.getfield 101, 3) := by decide +kernel
theorem dX11_join_166 : decode cX11_join 166 = .ok (.aload_n 0, 1) := by decide +kernel
theorem dX11_join_167 : decode cX11_join 167 = .ok (.getfield 232, 3) := by decide +kernel
theorem dX11_join_170 : decode cX11_join 170 = .ok (.aload_n 0, 1) := by decide +kernel
theorem dX11_join_171 : decode cX11_join 171 = .ok (.getfield 217, 3) := by decide +kernel
theorem dX11_join_174 : decode cX11_join 174 = .ok (.iastore, 1) := by decide +kernel
theorem dX11_join_175 : decode cX11_join 175 = .ok (.aload_n 0, 1) := by decide +kernel
theorem dX11_join_176 : decode cX11_join 176 = .ok (.dup, 1) := by decide +kernel
theorem dX11_join_177 : decode cX11_join 177 = .ok (.getfield 232, 3) := by decide +kernel
theorem dX11_join_180 : decode cX11_join 180 = .ok (.iconst 1, 1) := by decide +kernel
theorem dX11_join_181 : decode cX11_join 181 = .ok (.iadd, 1) := by decide +kernel
theorem dX11_join_182 : decode cX11_join 182 = .ok (.putfield 232, 3) := by decide +kernel
theorem dX11_join_185 : decode cX11_join 185 = .ok (.aload_n 0, 1) := by decide +kernel
theorem dX11_join_186 : decode cX11_join 186 = .ok (.iconst 2, 1) := by decide +kernel
theorem dX11_join_187 : decode cX11_join 187 = .ok (.aload_n 0, 1) := by decide +kernel
theorem dX11_join_188 : decode cX11_join 188 = .ok (.getfield 232, 3) := by decide +kernel
theorem dX11_join_191 : decode cX11_join 191 = .ok (.iconst 1, 1) := by decide +kernel
theorem dX11_join_192 : decode cX11_join 192 = .ok (.isub, 1) := by decide +kernel
theorem dX11_join_193 : decode cX11_join 193 = .ok (.invokevirtual 235, 3) := by decide +kernel
theorem dX11_join_196 : decode cX11_join 196 = .ok (.return_, 1) := by decide +kernel
theorem dX11_close_0 : decode cX11_close 0 = .ok (.aload_n 0, 1) := by decide +kernel
theorem dX11_close_1 : decode cX11_close 1 = .ok (.dup, 1) := by decide +kernel
theorem dX11_close_2 : decode cX11_close 2 = .ok (.getfield 208, 3) := by decide +kernel
theorem dX11_close_5 : decode cX11_close 5 = .ok (.iload_n 2, 1) := by decide +kernel
theorem dX11_close_6 : decode cX11_close 6 = .ok (.isub, 1) := by decide +kernel
theorem dX11_close_7 : decode cX11_close 7 = .ok (.putfield 208, 3) := by decide +kernel
theorem dX11_close_10 : decode cX11_close 10 = .ok (.iconst 0, 1) := by decide +kernel
theorem dX11_close_11 : decode cX11_close 11 = .ok (.istore_n 3, 1) := by decide +kernel
theorem dX11_close_12 : decode cX11_close 12 = .ok (.iload_n 3, 1) := by decide +kernel
theorem dX11_close_13 : decode cX11_close 13 = .ok (.iload_n 2, 1) := by decide +kernel
theorem dX11_close_14 : decode cX11_close 14 = .ok (.if_icmp .ge 57, 3) := by decide +kernel
theorem dX11_close_17 : decode cX11_close 17 = .ok (.aload_n 0, 1) := by decide +kernel
theorem dX11_close_18 : decode cX11_close 18 = .ok (.getfield 114, 3) := by decide +kernel
theorem dX11_close_21 : decode cX11_close 21 = .ok (.iconst 3, 1) := by decide +kernel
theorem dX11_close_22 : decode cX11_close 22 = .ok (.aload_n 0, 1) := by decide +kernel
theorem dX11_close_23 : decode cX11_close 23 = .ok (.getfield 238, 3) := by decide +kernel
theorem dX11_close_26 : decode cX11_close 26 = .ok (.imul, 1) := by decide +kernel
theorem dX11_close_27 : decode cX11_close 27 = .ok (.iload_n 3, 1) := by decide +kernel
theorem dX11_close_28 : decode cX11_close 28 = .ok (.iadd, 1) := by decide +kernel
theorem dX11_close_29 : decode cX11_close 29 = .ok (.aload_n 0, 1) := by decide +kernel
theorem dX11_close_30 : decode cX11_close 30 = .ok (.getfield 74, 3) := by decide +kernel
theorem dX11_close_33 : decode cX11_close 33 = .ok (.aload_n 0, 1) := by decide +kernel
theorem dX11_close_34 : decode cX11_close 34 = .ok (.getfield 208, 3) := by decide +kernel
theorem dX11_close_37 : decode cX11_close 37 = .ok (.iload_n 3, 1) := by decide +kernel
theorem dX11_close_38 : decode cX11_close 38 = .ok (.iadd, 1) := by decide +kernel
theorem dX11_close_39 : decode cX11_close 39 = .ok (.iaload, 1) := by decide +kernel
theorem dX11_close_40 : decode cX11_close 40 = .ok (.iastore, 1) := by decide +kernel
theorem dX11_close_41 : decode cX11_close 41 = .ok (.aload_n 0, 1) := by decide +kernel
theorem dX11_close_42 : decode cX11_close 42 = .ok (.getfield 117, 3) := by decide +kernel
theorem dX11_close_45 : decode cX11_close 45 = .ok (.iconst 3, 1) := by decide +kernel
theorem dX11_close_46 : decode cX11_close 46 = .ok (.aload_n 0, 1) := by decide +kernel
theorem dX11_close_47 : decode cX11_close 47 = .ok (.getfield 238, 3) := by decide +kernel
theorem dX11_close_50 : decode cX11_close 50 = .ok (.imul, 1) := by decide +kernel
theorem dX11_close_51 : decode cX11_close 51 = .ok (.iload_n 3, 1) := by decide +kernel
theorem dX11_close_52 : decode cX11_close 52 = .ok (.iadd, 1) := by decide +kernel
theorem dX11_close_53 : decode cX11_close 53 = .ok (.aload_n 0, 1) := by decide +kernel
theorem dX11_close_54 : decode cX11_close 54 = .ok (.getfield 77, 3) := by decide +kernel
theorem dX11_close_57 : decode cX11_close 57 = .ok (.aload_n 0, 1) := by decide +kernel
theorem dX11_close_58 : decode cX11_close 58 = .ok (.getfield 208, 3) := by decide +kernel
theorem dX11_close_61 : decode cX11_close 61 = .ok (.iload_n 3, 1) := by decide +kernel
theorem dX11_close_62 : decode cX11_close 62 = .ok (.iadd, 1) := by decide +kernel
theorem dX11_close_63 : decode cX11_close 63 = .ok (.iaload, 1) := by decide +kernel
theorem dX11_close_64 : decode cX11_close 64 = .ok (.iastore, 1) := by decide +kernel
theorem dX11_close_65 : decode cX11_close 65 = .ok (.iinc 3 1, 3) := by decide +kernel
theorem dX11_close_68 : decode cX11_close 68 = .ok (.goto (-56), 3) := by decide +kernel
theorem dX11_close_71 : decode cX11_close 71 = .ok (.aload_n 0, 1) := by decide +kernel
theorem dX11_close_72 : decode cX11_close 72 = .ok (.getfield 108, 3) := by decide +kernel
theorem dX11_close_75 : decode cX11_close 75 = .ok (.aload_n 0, 1) := by decide +kernel
theorem dX11_close_76 : decode cX11_close 76 = .ok (.getfield 238, 3) := by decide +kernel
theorem dX11_close_79 : decode cX11_close 79 = .ok (.iload_n 1, 1) := by decide +kernel
theorem dX11_close_80 : decode cX11_close 80 = .ok (.iastore, 1) := by decide +kernel
theorem dX11_close_81 : decode cX11_close 81 = .ok (.aload_n 0, 1) := by decide +kernel
theorem dX11_close_82 : decode cX11_close 82 = .ok (.getfield 111, 3) := by decide +kernel
theorem dX11_close_85 : decode cX11_close 85 = .ok (.aload_n 0, 1) := by decide +kernel
theorem dX11_close_86 : decode cX11_close 86 = .ok (.getfield 238, 3) := by decide +kernel
theorem dX11_close_89 : decode cX11_close 89 = .ok (.iload_n 2, 1) := by decide +kernel
theorem dX11_close_90 : decode cX11_close 90 = .ok (.iastore, 1) := by decide +kernel
theorem dX11_close_91 : decode cX11_close 91 = .ok (.aload_n 0, 1) := by decide +kernel
theorem dX11_close_92 : decode cX11_close 92 = .ok (.dup, 1) := by decide +kernel
theorem dX11_close_93 : decode cX11_close 93 = .ok (.getfield 238, 3) := by decide +kernel
theorem dX11_close_96 : decode cX11_close 96 = .ok (.iconst 1, 1) := by decide +kernel
theorem dX11_close_97 : decode cX11_close 97 = .ok (.iadd, 1) := by decide +kernel
theorem dX11_close_98 : decode cX11_close 98 = .ok (.putfield 238, 3) := by decide +kernel
theorem dX11_close_101 : decode cX11_close 101 = .ok (.aload_n 0, 1) := by decide +kernel
theorem dX11_close_102 : decode cX11_close 102 = .ok (.iconst 3, 1) := by decide +kernel
theorem dX11_close_103 : decode cX11_close 103 = .ok (.aload_n 0, 1) := by decide +kernel
theorem dX11_close_104 : decode cX11_close 104 = .ok (.getfield 238, 3) := by decide +kernel
theorem dX11_close_107 : decode cX11_close 107 = .ok (.iconst 1, 1) := by decide +kernel
theorem dX11_close_108 : decode cX11_close 108 = .ok (.isub, 1) := by decide +kernel
theorem dX11_close_109 : decode cX11_close 109 = .ok (.invokevirtual 235, 3) := by decide +kernel
theorem dX11_close_112 : decode cX11_close 112 = .ok (.return_, 1) := by decide +kernel
theorem dX11_apply_0 : decode cX11_apply 0 = .ok (.aload_n 0, 1) := by decide +kernel
theorem dX11_apply_1 : decode cX11_apply 1 = .ok (.getfield 208, 3) := by decide +kernel
theorem dX11_apply_4 : decode cX11_apply 4 = .ok (.iload_n 1, 1) := by decide +kernel
theorem dX11_apply_5 : decode cX11_apply 5 = .ok (.isub, 1) := by decide +kernel
theorem dX11_apply_6 : decode cX11_apply 6 = .ok (.iconst 1, 1) := by decide +kernel
theorem dX11_apply_7 : decode cX11_apply 7 = .ok (.isub, 1) := by decide +kernel
theorem dX11_apply_8 : decode cX11_apply 8 = .ok (.istore_n 2, 1) := by decide +kernel
theorem dX11_apply_9 : decode cX11_apply 9 = .ok (.aload_n 0, 1) := by decide +kernel
theorem dX11_apply_10 : decode cX11_apply 10 = .ok (.getfield 74, 3) := by decide +kernel
theorem dX11_apply_13 : decode cX11_apply 13 = .ok (.iload_n 2, 1) := by decide +kernel
theorem dX11_apply_14 : decode cX11_apply 14 = .ok (.iaload, 1) := by decide +kernel
theorem dX11_apply_15 : decode cX11_apply 15 = .ok (.iconst 3, 1) := by decide +kernel
theorem dX11_apply_16 : decode cX11_apply 16 = .ok (.if_icmp .eq 9, 3) := by decide +kernel
theorem dX11_apply_19 : decode cX11_apply 19 = .ok (.aload_n 0, 1) := by decide +kernel
theorem dX11_apply_20 : decode cX11_apply 20 = .ok (.iconst 1, 1) := by decide +kernel
theorem dX11_apply_21 : decode cX11_apply 21 = .ok (.putfield 214, 3) := by decide +kernel
theorem dX11_apply_24 : decode cX11_apply 24 = .ok (.return_, 1) := by decide +kernel
theorem dX11_apply_25 : decode cX11_apply 25 = .ok (.aload_n 0, 1) := by decide +kernel
theorem dX11_apply_26 : decode cX11_apply 26 = .ok (.getfield 77, 3) := by decide +kernel
theorem dX11_apply_29 : decode cX11_apply 29 = .ok (.iload_n 2, 1) := by decide +kernel
theorem dX11_apply_30 : decode cX11_apply 30 = .ok (.iaload, 1) := by decide +kernel
theorem dX11_apply_31 : decode cX11_apply 31 = .ok (.istore_n 3, 1) := by decide +kernel
theorem dX11_apply_32 : decode cX11_apply 32 = .ok (.aload_n 0, 1) := by decide +kernel
theorem dX11_apply_33 : decode cX11_apply 33 = .ok (.getfield 111, 3) := by decide +kernel
theorem dX11_apply_36 : decode cX11_apply 36 = .ok (.iload_n 3, 1) := by decide +kernel
theorem dX11_apply_37 : decode cX11_apply 37 = .ok (.iaload, 1) := by decide +kernel
theorem dX11_apply_38 : decode cX11_apply 38 = .ok (.istore 4, 2) := by decide +kernel
theorem dX11_apply_40 : decode cX11_apply 40 = .ok (.iload 4, 2) := by decide +kernel
theorem dX11_apply_42 : decode cX11_apply 42 = .ok (.iload_n 1, 1) := by decide +kernel
theorem dX11_apply_43 : decode cX11_apply 43 = .ok (.iadd, 1) := by decide +kernel
theorem dX11_apply_44 : decode cX11_apply 44 = .ok (.aload_n 0, 1) := by decide +kernel
theorem dX11_apply_45 : decode cX11_apply 45 = .ok (.getfield 7, 3) := by decide +kernel
theorem dX11_apply_48 : decode cX11_apply 48 = .ok (.aload_n 0, 1) := by decide +kernel
theorem dX11_apply_49 : decode cX11_apply 49 = .ok (.getfield 108, 3) := by decide +kernel
theorem dX11_apply_52 : decode cX11_apply 52 = .ok (.iload_n 3, 1) := by decide +kernel
theorem dX11_apply_53 : decode cX11_apply 53 = .ok (.iaload, 1) := by decide +kernel
theorem dX11_apply_54 : decode cX11_apply 54 = .ok (.iaload, 1) := by decide +kernel
theorem dX11_apply_55 : decode cX11_apply 55 = .ok (.if_icmp .eq 9, 3) := by decide +kernel
theorem dX11_apply_58 : decode cX11_apply 58 = .ok (.aload_n 0, 1) := by decide +kernel
theorem dX11_apply_59 : decode cX11_apply 59 = .ok (.iconst 2, 1) := by decide +kernel
theorem dX11_apply_60 : decode cX11_apply 60 = .ok (.putfield 214, 3) := by decide +kernel
theorem dX11_apply_63 : decode cX11_apply 63 = .ok (.return_, 1) := by decide +kernel
theorem dX11_apply_64 : decode cX11_apply 64 = .ok (.aload_n 0, 1) := by decide +kernel
theorem dX11_apply_65 : decode cX11_apply 65 = .ok (.iload_n 1, 1) := by decide +kernel
theorem dX11_apply_66 : decode cX11_apply 66 = .ok (.iload 4, 2) := by decide +kernel
theorem dX11_apply_68 : decode cX11_apply 68 = .ok (.invokevirtual 241, 3) := by decide +kernel
theorem dX11_apply_71 : decode cX11_apply 71 = .ok (.aload_n 0, 1) := by decide +kernel
theorem dX11_apply_72 : decode cX11_apply 72 = .ok (.dup, 1) := by decide +kernel
theorem dX11_apply_73 : decode cX11_apply 73 = .ok (.getfield 208, 3) := by decide +kernel
theorem dX11_apply_76 : decode cX11_apply 76 = .ok (.iconst 1, 1) := by decide +kernel
theorem dX11_apply_77 : decode cX11_apply 77 = .ok (.isub, 1) := by decide +kernel
theorem dX11_apply_78 : decode cX11_apply 78 = .ok (.putfield 208, 3) := by decide +kernel
theorem dX11_apply_81 : decode cX11_apply 81 = .ok (.iconst 0, 1) := by decide +kernel
theorem dX11_apply_82 : decode cX11_apply 82 = .ok (.istore 5, 2) := by decide +kernel
theorem dX11_apply_84 : decode cX11_apply 84 = .ok (.iload 5, 2) := by decide +kernel
theorem dX11_apply_86 : decode cX11_apply 86 = .ok (.iload 4, 2) := by decide +kernel
theorem dX11_apply_88 : decode cX11_apply 88 = .ok (.if_icmp .ge 45, 3) := by decide +kernel
theorem dX11_apply_91 : decode cX11_apply 91 = .ok (.aload_n 0, 1) := by decide +kernel
theorem dX11_apply_92 : decode cX11_apply 92 = .ok (.getfield 95, 3) := by decide +kernel
theorem dX11_apply_95 : decode cX11_apply 95 = .ok (.iload 5, 2) := by decide +kernel
theorem dX11_apply_97 : decode cX11_apply 97 = .ok (.aload_n 0, 1) := by decide +kernel
theorem dX11_apply_98 : decode cX11_apply 98 = .ok (.getfield 114, 3) := by decide +kernel
theorem dX11_apply_101 : decode cX11_apply 101 = .ok (.iconst 3, 1) := by decide +kernel
theorem dX11_apply_102 : decode cX11_apply 102 = .ok (.iload_n 3, 1) := by decide +kernel
theorem dX11_apply_103 : decode cX11_apply 103 = .ok (.imul, 1) := by decide +kernel
theorem dX11_apply_104 : decode cX11_apply 104 = .ok (.iload 5, 2) := by decide +kernel
theorem dX11_apply_106 : decode cX11_apply 106 = .ok (.iadd, 1) := by decide +kernel
theorem dX11_apply_107 : decode cX11_apply 107 = .ok (.iaload, 1) := by decide +kernel
theorem dX11_apply_108 : decode cX11_apply 108 = .ok (.iastore, 1) := by decide +kernel
theorem dX11_apply_109 : decode cX11_apply 109 = .ok (.aload_n 0, 1) := by decide +kernel
theorem dX11_apply_110 : decode cX11_apply 110 = .ok (.getfield 98, 3) := by decide +kernel
theorem dX11_apply_113 : decode cX11_apply 113 = .ok (.iload 5, 2) := by decide +kernel
theorem dX11_apply_115 : decode cX11_apply 115 = .ok (.aload_n 0, 1) := by decide +kernel
theorem dX11_apply_116 : decode cX11_apply 116 = .ok (.getfield 117, 3) := by decide +kernel
theorem dX11_apply_119 : decode cX11_apply 119 = .ok (.iconst 3, 1) := by decide +kernel
theorem dX11_apply_120 : decode cX11_apply 120 = .ok (.iload_n 3, 1) := by decide +kernel
theorem dX11_apply_121 : decode cX11_apply 121 = .ok (.imul, 1) := by decide +kernel
theorem dX11_apply_122 : decode cX11_apply 122 = .ok (.iload 5, 2) := by decide +kernel
theorem dX11_apply_124 : decode cX11_apply 124 = .ok (.iadd, 1) := by decide +kernel
theorem dX11_apply_125 : decode cX11_apply 125 = .ok (.iaload, 1) := by decide +kernel
theorem dX11_apply_126 : decode cX11_apply 126 = .ok (.iastore, 1) := by decide +kernel
theorem dX11_apply_127 : decode cX11_apply 127 = .ok (.iinc 5 1, 3) := by decide +kernel
theorem dX11_apply_130 : decode cX11_apply 130 = .ok (.goto (-46), 3) := by decide +kernel
theorem dX11_apply_133 : decode cX11_apply 133 = .ok (.aload_n 0, 1) := by decide +kernel
theorem dX11_apply_134 : decode cX11_apply 134 = .ok (.aload_n 0, 1) := by decide +kernel
theorem dX11_apply_135 : decode cX11_apply 135 = .ok (.getfield 108, 3) := by decide +kernel
theorem dX11_apply_138 : decode cX11_apply 138 = .ok (.iload_n 3, 1) := by decide +kernel
theorem dX11_apply_139 : decode cX11_apply 139 = .ok (.iaload, 1) := by decide +kernel
theorem dX11_apply_140 : decode cX11_apply 140 = .ok (.iload 4, 2) := by decide +kernel
theorem dX11_apply_142 : decode cX11_apply 142 = .ok (.iload_n 1, 1) := by decide +kernel
theorem dX11_apply_143 : decode cX11_apply 143 = .ok (.iadd, 1) := by decide +kernel
theorem dX11_apply_144 : decode cX11_apply 144 = .ok (.invokevirtual 244, 3) := by decide +kernel
theorem dX11_apply_147 : decode cX11_apply 147 = .ok (.return_, 1) := by decide +kernel
theorem dX11_reckon_0 : decode cX11_reckon 0 = .ok (.aload_n 0, 1) := by decide +kernel
theorem dX11_reckon_1 : decode cX11_reckon 1 = .ok (.dup, 1) := by decide +kernel
theorem dX11_reckon_2 : decode cX11_reckon 2 = .ok (.getfield 208, 3) := by decide +kernel
theorem dX11_reckon_5 : decode cX11_reckon 5 = .ok (.iconst 2, 1) := by decide +kernel
theorem dX11_reckon_6 : decode cX11_reckon 6 = .ok (.isub, 1) := by decide +kernel
theorem dX11_reckon_7 : decode cX11_reckon 7 = .ok (.putfield 208, 3) := by decide +kernel
theorem dX11_reckon_10 : decode cX11_reckon 10 = .ok (.aload_n 0, 1) := by decide +kernel
theorem dX11_reckon_11 : decode cX11_reckon 11 = .ok (.getfield 74, 3) := by decide +kernel
theorem dX11_reckon_14 : decode cX11_reckon 14 = .ok (.aload_n 0, 1) := by decide +kernel
theorem dX11_reckon_15 : decode cX11_reckon 15 = .ok (.getfield 208, 3) := by decide +kernel
theorem dX11_reckon_18 : decode cX11_reckon 18 = .ok (.iaload, 1) := by decide +kernel
theorem dX11_reckon_19 : decode cX11_reckon 19 = .ok (.iconst 1, 1) := by decide +kernel
theorem dX11_reckon_20 : decode cX11_reckon 20 = .ok (.if_icmp .ne 18, 3) := by decide +kernel
theorem dX11_reckon_23 : decode cX11_reckon 23 = .ok (.aload_n 0, 1) := by decide +kernel
theorem dX11_reckon_24 : decode cX11_reckon 24 = .ok (.getfield 74, 3) := by decide +kernel
theorem dX11_reckon_27 : decode cX11_reckon 27 = .ok (.aload_n 0, 1) := by decide +kernel
theorem dX11_reckon_28 : decode cX11_reckon 28 = .ok (.getfield 208, 3) := by decide +kernel
theorem dX11_reckon_31 : decode cX11_reckon 31 = .ok (.iconst 1, 1) := by decide +kernel
theorem dX11_reckon_32 : decode cX11_reckon 32 = .ok (.iadd, 1) := by decide +kernel
theorem dX11_reckon_33 : decode cX11_reckon 33 = .ok (.iaload, 1) := by decide +kernel
theorem dX11_reckon_34 : decode cX11_reckon 34 = .ok (.iconst 1, 1) := by decide +kernel
theorem dX11_reckon_35 : decode cX11_reckon 35 = .ok (.if_icmp .eq 9, 3) := by decide +kernel
theorem dX11_reckon_38 : decode cX11_reckon 38 = .ok (.aload_n 0, 1) := by decide +kernel
theorem dX11_reckon_39 : decode cX11_reckon 39 = .ok (.iconst 1, 1) := by decide +kernel
theorem dX11_reckon_40 : decode cX11_reckon 40 = .ok (.putfield 214, 3) := by decide +kernel
theorem dX11_reckon_43 : decode cX11_reckon 43 = .ok (.return_, 1) := by decide +kernel
theorem dX11_reckon_44 : decode cX11_reckon 44 = .ok (.aload_n 0, 1) := by decide +kernel
theorem dX11_reckon_45 : decode cX11_reckon 45 = .ok (.getfield 77, 3) := by decide +kernel
theorem dX11_reckon_48 : decode cX11_reckon 48 = .ok (.aload_n 0, 1) := by decide +kernel
theorem dX11_reckon_49 : decode cX11_reckon 49 = .ok (.getfield 208, 3) := by decide +kernel
theorem dX11_reckon_52 : decode cX11_reckon 52 = .ok (.iaload, 1) := by decide +kernel
theorem dX11_reckon_53 : decode cX11_reckon 53 = .ok (.istore_n 2, 1) := by decide +kernel
theorem dX11_reckon_54 : decode cX11_reckon 54 = .ok (.aload_n 0, 1) := by decide +kernel
theorem dX11_reckon_55 : decode cX11_reckon 55 = .ok (.getfield 77, 3) := by decide +kernel
theorem dX11_reckon_58 : decode cX11_reckon 58 = .ok (.aload_n 0, 1) := by decide +kernel
theorem dX11_reckon_59 : decode cX11_reckon 59 = .ok (.getfield 208, 3) := by decide +kernel
theorem dX11_reckon_62 : decode cX11_reckon 62 = .ok (.iconst 1, 1) := by decide +kernel
theorem dX11_reckon_63 : decode cX11_reckon 63 = .ok (.iadd, 1) := by decide +kernel
theorem dX11_reckon_64 : decode cX11_reckon 64 = .ok (.iaload, 1) := by decide +kernel
theorem dX11_reckon_65 : decode cX11_reckon 65 = .ok (.istore_n 3, 1) := by decide +kernel
theorem dX11_reckon_66 : decode cX11_reckon 66 = .ok (.aload_n 0, 1) := by decide +kernel
theorem dX11_reckon_67 : decode cX11_reckon 67 = .ok (.iconst 1, 1) := by decide +kernel
theorem dX11_reckon_68 : decode cX11_reckon 68 = .ok (.iload_n 1, 1) := by decide +kernel
theorem dX11_reckon_69 : decode cX11_reckon 69 = .ok (.iconst 3, 1) := by decide +kernel
theorem dX11_reckon_70 : decode cX11_reckon 70 = .ok (.if_icmp .ne 9, 3) := by decide +kernel
theorem dX11_reckon_73 : decode cX11_reckon 73 = .ok (.iload_n 2, 1) := by decide +kernel
theorem dX11_reckon_74 : decode cX11_reckon 74 = .ok (.iload_n 3, 1) := by decide +kernel
theorem dX11_reckon_75 : decode cX11_reckon 75 = .ok (.iadd, 1) := by decide +kernel
theorem dX11_reckon_76 : decode cX11_reckon 76 = .ok (.goto 17, 3) := by decide +kernel
theorem dX11_reckon_79 : decode cX11_reckon 79 = .ok (.iload_n 1, 1) := by decide +kernel
theorem dX11_reckon_80 : decode cX11_reckon 80 = .ok (.iconst 4, 1) := by decide +kernel
theorem dX11_reckon_81 : decode cX11_reckon 81 = .ok (.if_icmp .ne 9, 3) := by decide +kernel
theorem dX11_reckon_84 : decode cX11_reckon 84 = .ok (.iload_n 2, 1) := by decide +kernel
theorem dX11_reckon_85 : decode cX11_reckon 85 = .ok (.iload_n 3, 1) := by decide +kernel
theorem dX11_reckon_86 : decode cX11_reckon 86 = .ok (.isub, 1) := by decide +kernel
theorem dX11_reckon_87 : decode cX11_reckon 87 = .ok (.goto 6, 3) := by decide +kernel
theorem dX11_reckon_90 : decode cX11_reckon 90 = .ok (.iload_n 2, 1) := by decide +kernel
theorem dX11_reckon_91 : decode cX11_reckon 91 = .ok (.iload_n 3, 1) := by decide +kernel
theorem dX11_reckon_92 : decode cX11_reckon 92 = .ok (.imul, 1) := by decide +kernel
theorem dX11_reckon_93 : decode cX11_reckon 93 = .ok (.invokevirtual 235, 3) := by decide +kernel
theorem dX11_reckon_96 : decode cX11_reckon 96 = .ok (.return_, 1) := by decide +kernel
theorem dX11_leave_0 : decode cX11_leave 0 = .ok (.aload_n 0, 1) := by decide +kernel
theorem dX11_leave_1 : decode cX11_leave 1 = .ok (.dup, 1) := by decide +kernel
theorem dX11_leave_2 : decode cX11_leave 2 = .ok (.getfield 208, 3) := by decide +kernel
theorem dX11_leave_5 : decode cX11_leave 5 = .ok (.iconst 1, 1) := by decide +kernel
theorem dX11_leave_6 : decode cX11_leave 6 = .ok (.isub, 1) := by decide +kernel
theorem dX11_leave_7 : decode cX11_leave 7 = .ok (.putfield 208, 3) := by decide +kernel
theorem dX11_leave_10 : decode cX11_leave 10 = .ok (.aload_n 0, 1) := by decide +kernel
theorem dX11_leave_11 : decode cX11_leave 11 = .ok (.getfield 74, 3) := by decide +kernel
theorem dX11_leave_14 : decode cX11_leave 14 = .ok (.aload_n 0, 1) := by decide +kernel
theorem dX11_leave_15 : decode cX11_leave 15 = .ok (.getfield 208, 3) := by decide +kernel
theorem dX11_leave_18 : decode cX11_leave 18 = .ok (.iaload, 1) := by decide +kernel
theorem dX11_leave_19 : decode cX11_leave 19 = .ok (.istore_n 1, 1) := by decide +kernel
theorem dX11_leave_20 : decode cX11_leave 20 = .ok (.aload_n 0, 1) := by decide +kernel
theorem dX11_leave_21 : decode cX11_leave 21 = .ok (.getfield 77, 3) := by decide +kernel
theorem dX11_leave_24 : decode cX11_leave 24 = .ok (.aload_n 0, 1) := by decide +kernel
theorem dX11_leave_25 : decode cX11_leave 25 = .ok (.getfield 208, 3) := by decide +kernel
theorem dX11_leave_28 : decode cX11_leave 28 = .ok (.iaload, 1) := by decide +kernel
theorem dX11_leave_29 : decode cX11_leave 29 = .ok (.istore_n 2, 1) := by decide +kernel
theorem dX11_leave_30 : decode cX11_leave 30 = .ok (.aload_n 0, 1) := by decide +kernel
theorem dX11_leave_31 : decode cX11_leave 31 = .ok (.aload_n 0, 1) := by decide +kernel
theorem dX11_leave_32 : decode cX11_leave 32 = .ok (.getfield 86, 3) := by decide +kernel
theorem dX11_leave_35 : decode cX11_leave 35 = .ok (.aload_n 0, 1) := by decide +kernel
theorem dX11_leave_36 : decode cX11_leave 36 = .ok (.getfield 211, 3) := by decide +kernel
theorem dX11_leave_39 : decode cX11_leave 39 = .ok (.iaload, 1) := by decide +kernel
theorem dX11_leave_40 : decode cX11_leave 40 = .ok (.putfield 208, 3) := by decide +kernel
theorem dX11_leave_43 : decode cX11_leave 43 = .ok (.aload_n 0, 1) := by decide +kernel
theorem dX11_leave_44 : decode cX11_leave 44 = .ok (.dup, 1) := by decide +kernel
theorem dX11_leave_45 : decode cX11_leave 45 = .ok (.getfield 211, 3) := by decide +kernel
theorem dX11_leave_48 : decode cX11_leave 48 = .ok (.iconst 1, 1) := by decide +kernel
theorem dX11_leave_49 : decode cX11_leave 49 = .ok (.isub, 1) := by decide +kernel
theorem dX11_leave_50 : decode cX11_leave 50 = .ok (.putfield 211, 3) := by decide +kernel
theorem dX11_leave_53 : decode cX11_leave 53 = .ok (.aload_n 0, 1) := by decide +kernel
theorem dX11_leave_54 : decode cX11_leave 54 = .ok (.getfield 211, 3) := by decide +kernel
theorem dX11_leave_57 : decode cX11_leave 57 = .ok (.ifCond .ne 16, 3) := by decide +kernel
theorem dX11_leave_60 : decode cX11_leave 60 = .ok (.aload_n 0, 1) := by decide +kernel
theorem dX11_leave_61 : decode cX11_leave 61 = .ok (.iload_n 1, 1) := by decide +kernel
theorem dX11_leave_62 : decode cX11_leave 62 = .ok (.putfield 247, 3) := by decide +kernel
theorem dX11_leave_65 : decode cX11_leave 65 = .ok (.aload_n 0, 1) := by decide +kernel
theorem dX11_leave_66 : decode cX11_leave 66 = .ok (.iload_n 2, 1) := by decide +kernel
theorem dX11_leave_67 : decode cX11_leave 67 = .ok (.putfield 250, 3) := by decide +kernel
theorem dX11_leave_70 : decode cX11_leave 70 = .ok (.goto 9, 3) := by decide +kernel
theorem dX11_leave_73 : decode cX11_leave 73 = .ok (.aload_n 0, 1) := by decide +kernel
theorem dX11_leave_74 : decode cX11_leave 74 = .ok (.iload_n 1, 1) := by decide +kernel
theorem dX11_leave_75 : decode cX11_leave 75 = .ok (.iload_n 2, 1) := by decide +kernel
theorem dX11_leave_76 : decode cX11_leave 76 = .ok (.invokevirtual 235, 3) := by decide +kernel
theorem dX11_leave_79 : decode cX11_leave 79 = .ok (.return_, 1) := by decide +kernel
theorem dX11_step_0 : decode cX11_step 0 = .ok (.bipush 40, 2) := by decide +kernel
theorem dX11_step_2 : decode cX11_step 2 = .ok (.aload_n 0, 1) := by decide +kernel
theorem dX11_step_3 : decode cX11_step 3 = .ok (.getfield 80, 3) := by decide +kernel
theorem dX11_step_6 : decode cX11_step 6 = .ok (.aload_n 0, 1) := by decide +kernel
theorem dX11_step_7 : decode cX11_step 7 = .ok (.getfield 211, 3) := by decide +kernel
theorem dX11_step_10 : decode cX11_step 10 = .ok (.iaload, 1) := by decide +kernel
theorem dX11_step_11 : decode cX11_step 11 = .ok (.imul, 1) := by decide +kernel
theorem dX11_step_12 : decode cX11_step 12 = .ok (.aload_n 0, 1) := by decide +kernel
theorem dX11_step_13 : decode cX11_step 13 = .ok (.getfield 83, 3) := by decide +kernel
theorem dX11_step_16 : decode cX11_step 16 = .ok (.aload_n 0, 1) := by decide +kernel
theorem dX11_step_17 : decode cX11_step 17 = .ok (.getfield 211, 3) := by decide +kernel
theorem dX11_step_20 : decode cX11_step 20 = .ok (.iaload, 1) := by decide +kernel
theorem dX11_step_21 : decode cX11_step 21 = .ok (.iadd, 1) := by decide +kernel
theorem dX11_step_22 : decode cX11_step 22 = .ok (.istore_n 1, 1) := by decide +kernel
theorem dX11_step_23 : decode cX11_step 23 = .ok (.aload_n 0, 1) := by decide +kernel
theorem dX11_step_24 : decode cX11_step 24 = .ok (.getfield 19, 3) := by decide +kernel
theorem dX11_step_27 : decode cX11_step 27 = .ok (.iload_n 1, 1) := by decide +kernel
theorem dX11_step_28 : decode cX11_step 28 = .ok (.iaload, 1) := by decide +kernel
theorem dX11_step_29 : decode cX11_step 29 = .ok (.istore_n 2, 1) := by decide +kernel
theorem dX11_step_30 : decode cX11_step 30 = .ok (.aload_n 0, 1) := by decide +kernel
theorem dX11_step_31 : decode cX11_step 31 = .ok (.getfield 83, 3) := by decide +kernel
theorem dX11_step_34 : decode cX11_step 34 = .ok (.aload_n 0, 1) := by decide +kernel
theorem dX11_step_35 : decode cX11_step 35 = .ok (.getfield 211, 3) := by decide +kernel
theorem dX11_step_38 : decode cX11_step 38 = .ok (.dup2, 1) := by decide +kernel
theorem dX11_step_39 : decode cX11_step 39 = .ok (.iaload, 1) := by decide +kernel
theorem dX11_step_40 : decode cX11_step 40 = .ok (.iconst 1, 1) := by decide +kernel
theorem dX11_step_41 : decode cX11_step 41 = .ok (.iadd, 1) := by decide +kernel
theorem dX11_step_42 : decode cX11_step 42 = .ok (.iastore, 1) := by decide +kernel
theorem dX11_step_43 : decode cX11_step 43 = .ok (.aload_n 0, 1) := by decide +kernel
theorem dX11_step_44 : decode cX11_step 44 = .ok (.getfield 16, 3) := by decide +kernel
theorem dX11_step_47 : decode cX11_step 47 = .ok (.iload_n 1, 1) := by decide +kernel
theorem dX11_step_48 : decode cX11_step 48 = .ok (.iaload, 1) := by decide +kernel
theorem dX11_step_49 : decode cX11_step 49 = .ok (.tableswitch 383 0 14 #[75, 84, 119, 178, 178, 178, 191, 220, 233, 246, 322, 347, 354, 361, 375], 75) := by decide +kernel
theorem dX11_step_124 : decode cX11_step 124 = .ok (.aload_n 0, 1) := by decide +kernel
theorem dX11_step_125 : decode cX11_step 125 = .ok (.iconst 1, 1) := by decide +kernel
theorem dX11_step_126 : decode cX11_step 126 = .ok (.iload_n 2, 1) := by decide +kernel
theorem dX11_step_127 : decode cX11_step 127 = .ok (.invokevirtual 235, 3) := by decide +kernel
theorem dX11_step_130 : decode cX11_step 130 = .ok (.goto 307, 3) := by decide +kernel
theorem dX11_step_133 : decode cX11_step 133 = .ok (.aload_n 0, 1) := by decide +kernel
theorem dX11_step_134 : decode cX11_step 134 = .ok (.aload_n 0, 1) := by decide +kernel
theorem dX11_step_135 : decode cX11_step 135 = .ok (.getfield 89, 3) := by decide +kernel
theorem dX11_step_138 : decode cX11_step 138 = .ok (.bipush 8, 2) := by decide +kernel
theorem dX11_step_140 : decode cX11_step 140 = .ok (.aload_n 0, 1) := by decide +kernel
theorem dX11_step_141 : decode cX11_step 141 = .ok (.getfield 211, 3) := by decide +kernel
theorem dX11_step_144 : decode cX11_step 144 = .ok (.imul, 1) := by decide +kernel
theorem dX11_step_145 : decode cX11_step 145 = .ok (.iload_n 2, 1) := by decide +kernel
theorem dX11_step_146 : decode cX11_step 146 = .ok (.iadd, 1) := by decide +kernel
theorem dX11_step_147 : decode cX11_step 147 = .ok (.iaload, 1) := by decide +kernel
theorem dX11_step_148 : decode cX11_step 148 = .ok (.aload_n 0, 1) := by decide +kernel
theorem dX11_step_149 : decode cX11_step 149 = .ok (.getfield 92, 3) := by decide +kernel
theorem dX11_step_152 : decode cX11_step 152 = .ok (.bipush 8, 2) := by decide +kernel
theorem dX11_step_154 : decode cX11_step 154 = .ok (.aload_n 0, 1) := by decide +kernel
theorem dX11_step_155 : decode cX11_step 155 = .ok (.getfield 211, 3) := by decide +kernel
theorem dX11_step_158 : decode cX11_step 158 = .ok (.imul, 1) := by decide +kernel
theorem dX11_step_159 : decode cX11_step 159 = .ok (.iload_n 2, 1) := by decide +kernel
theorem dX11_step_160 : decode cX11_step 160 = .ok (.iadd, 1) := by decide +kernel
theorem dX11_step_161 : decode cX11_step 161 = .ok (.iaload, 1) := by decide +kernel
theorem dX11_step_162 : decode cX11_step 162 = .ok (.invokevirtual 235, 3) := by decide +kernel
theorem dX11_step_165 : decode cX11_step 165 = .ok (.goto 272, 3) := by decide +kernel
theorem dX11_step_168 : decode cX11_step 168 = .ok (.aload_n 0, 1) := by decide +kernel
theorem dX11_step_169 : decode cX11_step 169 = .ok (.dup, 1) := by decide +kernel
theorem dX11_step_170 : decode cX11_step 170 = .ok (.getfield 208, 3) := by decide +kernel
theorem dX11_step_173 : decode cX11_step 173 = .ok (.iconst 1, 1) := by decide +kernel
theorem dX11_step_174 : decode cX11_step 174 = .ok (.isub, 1) := by decide +kernel
theorem dX11_step_175 : decode cX11_step 175 = .ok (.putfield 208, 3) := by decide +kernel
theorem dX11_step_178 : decode cX11_step 178 = .ok (.aload_n 0, 1) := by decide +kernel
theorem dX11_step_179 : decode cX11_step 179 = .ok (.getfield 89, 3) := by decide +kernel
theorem dX11_step_182 : decode cX11_step 182 = .ok (.bipush 8, 2) := by decide +kernel
theorem dX11_step_184 : decode cX11_step 184 = .ok (.aload_n 0, 1) := by decide +kernel
theorem dX11_step_185 : decode cX11_step 185 = .ok (.getfield 211, 3) := by decide +kernel
theorem dX11_step_188 : decode cX11_step 188 = .ok (.imul, 1) := by decide +kernel
theorem dX11_step_189 : decode cX11_step 189 = .ok (.iload_n 2, 1) := by decide +kernel
theorem dX11_step_190 : decode cX11_step 190 = .ok (.iadd, 1) := by decide +kernel
theorem dX11_step_191 : decode cX11_step 191 = .ok (.aload_n 0, 1) := by decide +kernel
theorem dX11_step_192 : decode cX11_step 192 = .ok (.getfield 74, 3) := by decide +kernel
theorem dX11_step_195 : decode cX11_step 195 = .ok (.aload_n 0, 1) := by decide +kernel
theorem dX11_step_196 : decode cX11_step 196 = .ok (.getfield 208, 3) := by decide +kernel
theorem dX11_step_199 : decode cX11_step 199 = .ok (.iaload, 1) := by decide +kernel
theorem dX11_step_200 : decode cX11_step 200 = .ok (.iastore, 1) := by decide +kernel
theorem dX11_step_201 : decode cX11_step 201 = .ok (.aload_n 0, 1) := by decide +kernel
theorem dX11_step_202 : decode cX11_step 202 = .ok (.getfield 92, 3) := by decide +kernel
theorem dX11_step_205 : decode cX11_step 205 = .ok (.bipush 8, 2) := by decide +kernel
theorem dX11_step_207 : decode cX11_step 207 = .ok (.aload_n 0, 1) := by decide +kernel
theorem dX11_step_208 : decode cX11_step 208 = .ok (.getfield 211, 3) := by decide +kernel
theorem dX11_step_211 : decode cX11_step 211 = .ok (.imul, 1) := by decide +kernel
theorem dX11_step_212 : decode cX11_step 212 = .ok (.iload_n 2, 1) := by decide +kernel
theorem dX11_step_213 : decode cX11_step 213 = .ok (.iadd, 1) := by decide +kernel
theorem dX11_step_214 : decode cX11_step 214 = .ok (.aload_n 0, 1) := by decide +kernel
theorem dX11_step_215 : decode cX11_step 215 = .ok (.getfield 77, 3) := by decide +kernel
theorem dX11_step_218 : decode cX11_step 218 = .ok (.aload_n 0, 1) := by decide +kernel
theorem dX11_step_219 : decode cX11_step 219 = .ok (.getfield 208, 3) := by decide +kernel
theorem dX11_step_222 : decode cX11_step 222 = .ok (.iaload, 1) := by decide +kernel
theorem dX11_step_223 : decode cX11_step 223 = .ok (.iastore, 1) := by decide +kernel
theorem dX11_step_224 : decode cX11_step 224 = .ok (.goto 213, 3) := by decide +kernel
theorem dX11_step_227 : decode cX11_step 227 = .ok (.aload_n 0, 1) := by decide +kernel
theorem dX11_step_228 : decode cX11_step 228 = .ok (.aload_n 0, 1) := by decide +kernel
theorem dX11_step_229 : decode cX11_step 229 = .ok (.getfield 16, 3) := by decide +kernel
theorem dX11_step_232 : decode cX11_step 232 = .ok (.iload_n 1, 1) := by decide +kernel
theorem dX11_step_233 : decode cX11_step 233 = .ok (.iaload, 1) := by decide +kernel
theorem dX11_step_234 : decode cX11_step 234 = .ok (.invokevirtual 253, 3) := by decide +kernel
theorem dX11_step_237 : decode cX11_step 237 = .ok (.goto 200, 3) := by decide +kernel
theorem dX11_step_240 : decode cX11_step 240 = .ok (.aload_n 0, 1) := by decide +kernel
theorem dX11_step_241 : decode cX11_step 241 = .ok (.aload_n 0, 1) := by decide +kernel
theorem dX11_step_242 : decode cX11_step 242 = .ok (.getfield 74, 3) := by decide +kernel
theorem dX11_step_245 : decode cX11_step 245 = .ok (.aload_n 0, 1) := by decide +kernel
theorem dX11_step_246 : decode cX11_step 246 = .ok (.getfield 208, 3) := by decide +kernel
theorem dX11_step_249 : decode cX11_step 249 = .ok (.iconst 1, 1) := by decide +kernel
theorem dX11_step_250 : decode cX11_step 250 = .ok (.isub, 1) := by decide +kernel
theorem dX11_step_251 : decode cX11_step 251 = .ok (.iaload, 1) := by decide +kernel
theorem dX11_step_252 : decode cX11_step 252 = .ok (.aload_n 0, 1) := by decide +kernel
theorem dX11_step_253 : decode cX11_step 253 = .ok (.getfield 77, 3) := by decide +kernel
theorem dX11_step_256 : decode cX11_step 256 = .ok (.aload_n 0, 1) := by decide +kernel
theorem dX11_step_257 : decode cX11_step 257 = .ok (.getfield 208, 3) := by decide +kernel
theorem dX11_step_260 : decode cX11_step 260 = .ok (.iconst 1, 1) := by decide +kernel
theorem dX11_step_261 : decode cX11_step 261 = .ok (.isub, 1) := by decide +kernel
theorem dX11_step_262 : decode cX11_step 262 = .ok (.iaload, 1) := by decide +kernel
theorem dX11_step_263 : decode cX11_step 263 = .ok (.invokevirtual 235, 3) := by decide +kernel
theorem dX11_step_266 : decode cX11_step 266 = .ok (.goto 171, 3) := by decide +kernel
theorem dX11_step_269 : decode cX11_step 269 = .ok (.aload_n 0, 1) := by decide +kernel
theorem dX11_step_270 : decode cX11_step 270 = .ok (.dup, 1) := by decide +kernel
theorem dX11_step_271 : decode cX11_step 271 = .ok (.getfield 208, 3) := by decide +kernel
theorem dX11_step_274 : decode cX11_step 274 = .ok (.iconst 1, 1) := by decide +kernel
theorem dX11_step_275 : decode cX11_step 275 = .ok (.isub, 1) := by decide +kernel
theorem dX11_step_276 : decode cX11_step 276 = .ok (.putfield 208, 3) := by decide +kernel
theorem dX11_step_279 : decode cX11_step 279 = .ok (.goto 158, 3) := by decide +kernel
theorem dX11_step_282 : decode cX11_step 282 = .ok (.aload_n 0, 1) := by decide +kernel
theorem dX11_step_283 : decode cX11_step 283 = .ok (.getfield 83, 3) := by decide +kernel
theorem dX11_step_286 : decode cX11_step 286 = .ok (.aload_n 0, 1) := by decide +kernel
theorem dX11_step_287 : decode cX11_step 287 = .ok (.getfield 211, 3) := by decide +kernel
theorem dX11_step_290 : decode cX11_step 290 = .ok (.iload_n 2, 1) := by decide +kernel
theorem dX11_step_291 : decode cX11_step 291 = .ok (.iastore, 1) := by decide +kernel
theorem dX11_step_292 : decode cX11_step 292 = .ok (.goto 145, 3) := by decide +kernel
theorem dX11_step_295 : decode cX11_step 295 = .ok (.aload_n 0, 1) := by decide +kernel
theorem dX11_step_296 : decode cX11_step 296 = .ok (.dup, 1) := by decide +kernel
theorem dX11_step_297 : decode cX11_step 297 = .ok (.getfield 208, 3) := by decide +kernel
theorem dX11_step_300 : decode cX11_step 300 = .ok (.iconst 1, 1) := by decide +kernel
theorem dX11_step_301 : decode cX11_step 301 = .ok (.isub, 1) := by decide +kernel
theorem dX11_step_302 : decode cX11_step 302 = .ok (.putfield 208, 3) := by decide +kernel
theorem dX11_step_305 : decode cX11_step 305 = .ok (.aload_n 0, 1) := by decide +kernel
theorem dX11_step_306 : decode cX11_step 306 = .ok (.aload_n 0, 1) := by decide +kernel
theorem dX11_step_307 : decode cX11_step 307 = .ok (.getfield 74, 3) := by decide +kernel
theorem dX11_step_310 : decode cX11_step 310 = .ok (.aload_n 0, 1) := by decide +kernel
theorem dX11_step_311 : decode cX11_step 311 = .ok (.getfield 208, 3) := by decide +kernel
theorem dX11_step_314 : decode cX11_step 314 = .ok (.iaload, 1) := by decide +kernel
theorem dX11_step_315 : decode cX11_step 315 = .ok (.iconst 1, 1) := by decide +kernel
theorem dX11_step_316 : decode cX11_step 316 = .ok (.if_icmp .ne 7, 3) := by decide +kernel
theorem dX11_step_319 : decode cX11_step 319 = .ok (.iconst 0, 1) := by decide +kernel
theorem dX11_step_320 : decode cX11_step 320 = .ok (.goto 4, 3) := by decide +kernel
theorem dX11_step_323 : decode cX11_step 323 = .ok (.iconst 1, 1) := by decide +kernel
theorem dX11_step_324 : decode cX11_step 324 = .ok (.putfield 214, 3) := by decide +kernel
theorem dX11_step_327 : decode cX11_step 327 = .ok (.aload_n 0, 1) := by decide +kernel
theorem dX11_step_328 : decode cX11_step 328 = .ok (.getfield 83, 3) := by decide +kernel
theorem dX11_step_331 : decode cX11_step 331 = .ok (.aload_n 0, 1) := by decide +kernel
theorem dX11_step_332 : decode cX11_step 332 = .ok (.getfield 211, 3) := by decide +kernel
theorem dX11_step_335 : decode cX11_step 335 = .ok (.aload_n 0, 1) := by decide +kernel
theorem dX11_step_336 : decode cX11_step 336 = .ok (.getfield 77, 3) := by decide +kernel
theorem dX11_step_339 : decode cX11_step 339 = .ok (.aload_n 0, 1) := by decide +kernel
theorem dX11_step_340 : decode cX11_step 340 = .ok (.getfield 208, 3) := by decide +kernel
theorem dX11_step_343 : decode cX11_step 343 = .ok (.iaload, 1) := by decide +kernel
theorem dX11_step_344 : decode cX11_step 344 = .ok (.ifCond .ne 14, 3) := by decide +kernel
theorem dX11_step_347 : decode cX11_step 347 = .ok (.aload_n 0, 1) := by decide +kernel
theorem dX11_step_348 : decode cX11_step 348 = .ok (.getfield 214, 3) := by decide +kernel
theorem dX11_step_351 : decode cX11_step 351 = .ok (.ifCond .ne 7, 3) := by decide +kernel
theorem dX11_step_354 : decode cX11_step 354 = .ok (.iload_n 2, 1) := by decide +kernel
theorem dX11_step_355 : decode cX11_step 355 = .ok (.goto 12, 3) := by decide +kernel
theorem dX11_step_358 : decode cX11_step 358 = .ok (.aload_n 0, 1) := by decide +kernel
theorem dX11_step_359 : decode cX11_step 359 = .ok (.getfield 83, 3) := by decide +kernel
theorem dX11_step_362 : decode cX11_step 362 = .ok (.aload_n 0, 1) := by decide +kernel
theorem dX11_step_363 : decode cX11_step 363 = .ok (.getfield 211, 3) := by decide +kernel
theorem dX11_step_366 : decode cX11_step 366 = .ok (.iaload, 1) := by decide +kernel
theorem dX11_step_367 : decode cX11_step 367 = .ok (.iastore, 1) := by decide +kernel
theorem dX11_step_368 : decode cX11_step 368 = .ok (.goto 69, 3) := by decide +kernel
theorem dX11_step_371 : decode cX11_step 371 = .ok (.aload_n 0, 1) := by decide +kernel
theorem dX11_step_372 : decode cX11_step 372 = .ok (.aload_n 0, 1) := by decide +kernel
theorem dX11_step_373 : decode cX11_step 373 = .ok (.getfield 7, 3) := by decide +kernel
theorem dX11_step_376 : decode cX11_step 376 = .ok (.iload_n 2, 1) := by decide +kernel
theorem dX11_step_377 : decode cX11_step 377 = .ok (.iaload, 1) := by decide +kernel
theorem dX11_step_378 : decode cX11_step 378 = .ok (.iconst 0, 1) := by decide +kernel
theorem dX11_step_379 : decode cX11_step 379 = .ok (.invokevirtual 241, 3) := by decide +kernel
theorem dX11_step_382 : decode cX11_step 382 = .ok (.aload_n 0, 1) := by decide +kernel
theorem dX11_step_383 : decode cX11_step 383 = .ok (.iload_n 2, 1) := by decide +kernel
theorem dX11_step_384 : decode cX11_step 384 = .ok (.aload_n 0, 1) := by decide +kernel
theorem dX11_step_385 : decode cX11_step 385 = .ok (.getfield 7, 3) := by decide +kernel
theorem dX11_step_388 : decode cX11_step 388 = .ok (.iload_n 2, 1) := by decide +kernel
theorem dX11_step_389 : decode cX11_step 389 = .ok (.iaload, 1) := by decide +kernel
theorem dX11_step_390 : decode cX11_step 390 = .ok (.invokevirtual 244, 3) := by decide +kernel
theorem dX11_step_393 : decode cX11_step 393 = .ok (.goto 44, 3) := by decide +kernel
theorem dX11_step_396 : decode cX11_step 396 = .ok (.aload_n 0, 1) := by decide +kernel
theorem dX11_step_397 : decode cX11_step 397 = .ok (.invokevirtual 256, 3) := by decide +kernel
theorem dX11_step_400 : decode cX11_step 400 = .ok (.goto 37, 3) := by decide +kernel
theorem dX11_step_403 : decode cX11_step 403 = .ok (.aload_n 0, 1) := by decide +kernel
theorem dX11_step_404 : decode cX11_step 404 = .ok (.invokevirtual 259, 3) := by decide +kernel
theorem dX11_step_407 : decode cX11_step 407 = .ok (.goto 30, 3) := by decide +kernel
theorem dX11_step_410 : decode cX11_step 410 = .ok (.aload_n 0, 1) := by decide +kernel
theorem dX11_step_411 : decode cX11_step 411 = .ok (.iload_n 2, 1) := by decide +kernel
theorem dX11_step_412 : decode cX11_step 412 = .ok (.aload_n 0, 1) := by decide +kernel
theorem dX11_step_413 : decode cX11_step 413 = .ok (.getfield 22, 3) := by decide +kernel
theorem dX11_step_416 : decode cX11_step 416 = .ok (.iload_n 1, 1) := by decide +kernel
theorem dX11_step_417 : decode cX11_step 417 = .ok (.iaload, 1) := by decide +kernel
theorem dX11_step_418 : decode cX11_step 418 = .ok (.invokevirtual 262, 3) := by decide +kernel
theorem dX11_step_421 : decode cX11_step 421 = .ok (.goto 16, 3) := by decide +kernel
theorem dX11_step_424 : decode cX11_step 424 = .ok (.aload_n 0, 1) := by decide +kernel
theorem dX11_step_425 : decode cX11_step 425 = .ok (.iload_n 2, 1) := by decide +kernel
theorem dX11_step_426 : decode cX11_step 426 = .ok (.invokevirtual 265, 3) := by decide +kernel
theorem dX11_step_429 : decode cX11_step 429 = .ok (.goto 8, 3) := by decide +kernel
theorem dX11_step_432 : decode cX11_step 432 = .ok (.aload_n 0, 1) := by decide +kernel
theorem dX11_step_433 : decode cX11_step 433 = .ok (.iload_n 2, 1) := by decide +kernel
theorem dX11_step_434 : decode cX11_step 434 = .ok (.invokevirtual 268, 3) := by decide +kernel
theorem dX11_step_437 : decode cX11_step 437 = .ok (.return_, 1) := by decide +kernel
theorem dX11_run_0 : decode cX11_run 0 = .ok (.aload_n 0, 1) := by decide +kernel
theorem dX11_run_1 : decode cX11_run 1 = .ok (.aload_n 0, 1) := by decide +kernel
theorem dX11_run_2 : decode cX11_run 2 = .ok (.iload_n 1, 1) := by decide +kernel
theorem dX11_run_3 : decode cX11_run 3 = .ok (.invokevirtual 138, 3) := by decide +kernel
theorem dX11_run_6 : decode cX11_run 6 = .ok (.aload_n 0, 1) := by decide +kernel
theorem dX11_run_7 : decode cX11_run 7 = .ok (.getfield 134, 3) := by decide +kernel
theorem dX11_run_10 : decode cX11_run 10 = .ok (.invokevirtual 130, 3) := by decide +kernel
theorem dX11_run_13 : decode cX11_run 13 = .ok (.ifCond .ne 5, 3) := by decide +kernel
theorem dX11_run_16 : decode cX11_run 16 = .ok (.iconst 0, 1) := by decide +kernel
theorem dX11_run_17 : decode cX11_run 17 = .ok (.ireturn, 1) := by decide +kernel
theorem dX11_run_18 : decode cX11_run 18 = .ok (.aload_n 0, 1) := by decide +kernel
theorem dX11_run_19 : decode cX11_run 19 = .ok (.iconst 0, 1) := by decide +kernel
theorem dX11_run_20 : decode cX11_run 20 = .ok (.putfield 271, 3) := by decide +kernel
theorem dX11_run_23 : decode cX11_run 23 = .ok (.aload_n 0, 1) := by decide +kernel
theorem dX11_run_24 : decode cX11_run 24 = .ok (.iconst 0, 1) := by decide +kernel
theorem dX11_run_25 : decode cX11_run 25 = .ok (.putfield 214, 3) := by decide +kernel
theorem dX11_run_28 : decode cX11_run 28 = .ok (.aload_n 0, 1) := by decide +kernel
theorem dX11_run_29 : decode cX11_run 29 = .ok (.iconst 0, 1) := by decide +kernel
theorem dX11_run_30 : decode cX11_run 30 = .ok (.putfield 247, 3) := by decide +kernel
theorem dX11_run_33 : decode cX11_run 33 = .ok (.aload_n 0, 1) := by decide +kernel
theorem dX11_run_34 : decode cX11_run 34 = .ok (.iconst 0, 1) := by decide +kernel
theorem dX11_run_35 : decode cX11_run 35 = .ok (.putfield 250, 3) := by decide +kernel
theorem dX11_run_38 : decode cX11_run 38 = .ok (.aload_n 0, 1) := by decide +kernel
theorem dX11_run_39 : decode cX11_run 39 = .ok (.iconst 0, 1) := by decide +kernel
theorem dX11_run_40 : decode cX11_run 40 = .ok (.putfield 229, 3) := by decide +kernel
theorem dX11_run_43 : decode cX11_run 43 = .ok (.aload_n 0, 1) := by decide +kernel
theorem dX11_run_44 : decode cX11_run 44 = .ok (.iconst 0, 1) := by decide +kernel
theorem dX11_run_45 : decode cX11_run 45 = .ok (.putfield 208, 3) := by decide +kernel
theorem dX11_run_48 : decode cX11_run 48 = .ok (.aload_n 0, 1) := by decide +kernel
theorem dX11_run_49 : decode cX11_run 49 = .ok (.iconst 0, 1) := by decide +kernel
theorem dX11_run_50 : decode cX11_run 50 = .ok (.putfield 211, 3) := by decide +kernel
theorem dX11_run_53 : decode cX11_run 53 = .ok (.aload_n 0, 1) := by decide +kernel
theorem dX11_run_54 : decode cX11_run 54 = .ok (.iconst 0, 1) := by decide +kernel
theorem dX11_run_55 : decode cX11_run 55 = .ok (.putfield 232, 3) := by decide +kernel
theorem dX11_run_58 : decode cX11_run 58 = .ok (.aload_n 0, 1) := by decide +kernel
theorem dX11_run_59 : decode cX11_run 59 = .ok (.iconst 0, 1) := by decide +kernel
theorem dX11_run_60 : decode cX11_run 60 = .ok (.putfield 238, 3) := by decide +kernel
theorem dX11_run_63 : decode cX11_run 63 = .ok (.iconst 0, 1) := by decide +kernel
theorem dX11_run_64 : decode cX11_run 64 = .ok (.istore 6, 2) := by decide +kernel
theorem dX11_run_66 : decode cX11_run 66 = .ok (.iload 6, 2) := by decide +kernel
theorem dX11_run_68 : decode cX11_run 68 = .ok (.iconst 3, 1) := by decide +kernel
theorem dX11_run_69 : decode cX11_run 69 = .ok (.if_icmp .ge 45, 3) := by decide +kernel
theorem dX11_run_72 : decode cX11_run 72 = .ok (.aload_n 0, 1) := by decide +kernel
theorem dX11_run_73 : decode cX11_run 73 = .ok (.getfield 95, 3) := by decide +kernel
theorem dX11_run_76 : decode cX11_run 76 = .ok (.iload 6, 2) := by decide +kernel
theorem dX11_run_78 : decode cX11_run 78 = .ok (.iconst 1, 1) := by decide +kernel
theorem dX11_run_79 : decode cX11_run 79 = .ok (.iastore, 1) := by decide +kernel
theorem dX11_run_80 : decode cX11_run 80 = .ok (.aload_n 0, 1) := by decide +kernel
theorem dX11_run_81 : decode cX11_run 81 = .ok (.getfield 98, 3) := by decide +kernel
theorem dX11_run_84 : decode cX11_run 84 = .ok (.iload 6, 2) := by decide +kernel
theorem dX11_run_86 : decode cX11_run 86 = .ok (.iload 6, 2) := by decide +kernel
theorem dX11_run_88 : decode cX11_run 88 = .ok (.ifCond .ne 7, 3) := by decide +kernel
theorem dX11_run_91 : decode cX11_run 91 = .ok (.iload_n 2, 1) := by decide +kernel
theorem dX11_run_92 : decode cX11_run 92 = .ok (.goto 15, 3) := by decide +kernel
theorem dX11_run_95 : decode cX11_run 95 = .ok (.iload 6, 2) := by decide +kernel
theorem dX11_run_97 : decode cX11_run 97 = .ok (.iconst 1, 1) := by decide +kernel
theorem dX11_run_98 : decode cX11_run 98 = .ok (.if_icmp .ne 7, 3) := by decide +kernel
theorem dX11_run_101 : decode cX11_run 101 = .ok (.iload_n 3, 1) := by decide +kernel
theorem dX11_run_102 : decode cX11_run 102 = .ok (.goto 5, 3) := by decide +kernel
theorem dX11_run_105 : decode cX11_run 105 = .ok (.iload 4, 2) := by decide +kernel
theorem dX11_run_107 : decode cX11_run 107 = .ok (.iastore, 1) := by decide +kernel
theorem dX11_run_108 : decode cX11_run 108 = .ok (.iinc 6 1, 3) := by decide +kernel
theorem dX11_run_111 : decode cX11_run 111 = .ok (.goto (-45), 3) := by decide +kernel
theorem dX11_run_114 : decode cX11_run 114 = .ok (.aload_n 0, 1) := by decide +kernel
theorem dX11_run_115 : decode cX11_run 115 = .ok (.iload_n 1, 1) := by decide +kernel
theorem dX11_run_116 : decode cX11_run 116 = .ok (.aload_n 0, 1) := by decide +kernel
theorem dX11_run_117 : decode cX11_run 117 = .ok (.getfield 7, 3) := by decide +kernel
theorem dX11_run_120 : decode cX11_run 120 = .ok (.iload_n 1, 1) := by decide +kernel
theorem dX11_run_121 : decode cX11_run 121 = .ok (.iaload, 1) := by decide +kernel
theorem dX11_run_122 : decode cX11_run 122 = .ok (.invokevirtual 244, 3) := by decide +kernel
theorem dX11_run_125 : decode cX11_run 125 = .ok (.aload_n 0, 1) := by decide +kernel
theorem dX11_run_126 : decode cX11_run 126 = .ok (.getfield 211, 3) := by decide +kernel
theorem dX11_run_129 : decode cX11_run 129 = .ok (.ifCond .le 45, 3) := by decide +kernel
theorem dX11_run_132 : decode cX11_run 132 = .ok (.aload_n 0, 1) := by decide +kernel
theorem dX11_run_133 : decode cX11_run 133 = .ok (.getfield 214, 3) := by decide +kernel
theorem dX11_run_136 : decode cX11_run 136 = .ok (.ifCond .ne 38, 3) := by decide +kernel
theorem dX11_run_139 : decode cX11_run 139 = .ok (.aload_n 0, 1) := by decide +kernel
theorem dX11_run_140 : decode cX11_run 140 = .ok (.getfield 271, 3) := by decide +kernel
theorem dX11_run_143 : decode cX11_run 143 = .ok (.sipush 400, 3) := by decide +kernel
theorem dX11_run_146 : decode cX11_run 146 = .ok (.if_icmp .ne 11, 3) := by decide +kernel
theorem dX11_run_149 : decode cX11_run 149 = .ok (.aload_n 0, 1) := by decide +kernel
theorem dX11_run_150 : decode cX11_run 150 = .ok (.iconst 4, 1) := by decide +kernel
theorem dX11_run_151 : decode cX11_run 151 = .ok (.putfield 214, 3) := by decide +kernel
theorem dX11_run_154 : decode cX11_run 154 = .ok (.goto (-29), 3) := by decide +kernel
theorem dX11_run_157 : decode cX11_run 157 = .ok (.aload_n 0, 1) := by decide +kernel
theorem dX11_run_158 : decode cX11_run 158 = .ok (.dup, 1) := by decide +kernel
theorem dX11_run_159 : decode cX11_run 159 = .ok (.getfield 271, 3) := by decide +kernel
theorem dX11_run_162 : decode cX11_run 162 = .ok (.iconst 1, 1) := by decide +kernel
theorem dX11_run_163 : decode cX11_run 163 = .ok (.iadd, 1) := by decide +kernel
theorem dX11_run_164 : decode cX11_run 164 = .ok (.putfield 271, 3) := by decide +kernel
theorem dX11_run_167 : decode cX11_run 167 = .ok (.aload_n 0, 1) := by decide +kernel
theorem dX11_run_168 : decode cX11_run 168 = .ok (.invokevirtual 274, 3) := by decide +kernel
theorem dX11_run_171 : decode cX11_run 171 = .ok (.goto (-46), 3) := by decide +kernel
theorem dX11_run_174 : decode cX11_run 174 = .ok (.aload_n 0, 1) := by decide +kernel
theorem dX11_run_175 : decode cX11_run 175 = .ok (.getfield 214, 3) := by decide +kernel
theorem dX11_run_178 : decode cX11_run 178 = .ok (.ireturn, 1) := by decide +kernel
theorem dX11_told_0 : decode cX11_told 0 = .ok (.aload_n 0, 1) := by decide +kernel
theorem dX11_told_1 : decode cX11_told 1 = .ok (.iload_n 1, 1) := by decide +kernel
theorem dX11_told_2 : decode cX11_told 2 = .ok (.ifCond .lt 12, 3) := by decide +kernel
theorem dX11_told_5 : decode cX11_told 5 = .ok (.iload_n 1, 1) := by decide +kernel
theorem dX11_told_6 : decode cX11_told 6 = .ok (.iconst 3, 1) := by decide +kernel
theorem dX11_told_7 : decode cX11_told 7 = .ok (.if_icmp .gt 7, 3) := by decide +kernel
theorem dX11_told_10 : decode cX11_told 10 = .ok (.iconst 1, 1) := by decide +kernel
theorem dX11_told_11 : decode cX11_told 11 = .ok (.goto 4, 3) := by decide +kernel
theorem dX11_told_14 : decode cX11_told 14 = .ok (.iconst 0, 1) := by decide +kernel
theorem dX11_told_15 : decode cX11_told 15 = .ok (.iconst 1, 1) := by decide +kernel
theorem dX11_told_16 : decode cX11_told 16 = .ok (.invokevirtual 130, 3) := by decide +kernel
theorem dX11_told_19 : decode cX11_told 19 = .ok (.ifCond .ne 5, 3) := by decide +kernel
theorem dX11_told_22 : decode cX11_told 22 = .ok (.iconst 0, 1) := by decide +kernel
theorem dX11_told_23 : decode cX11_told 23 = .ok (.ireturn, 1) := by decide +kernel
theorem dX11_told_24 : decode cX11_told 24 = .ok (.iload_n 1, 1) := by decide +kernel
theorem dX11_told_25 : decode cX11_told 25 = .ok (.ifCond .ne 10, 3) := by decide +kernel
theorem dX11_told_28 : decode cX11_told 28 = .ok (.aload_n 0, 1) := by decide +kernel
theorem dX11_told_29 : decode cX11_told 29 = .ok (.getfield 229, 3) := by decide +kernel
theorem dX11_told_32 : decode cX11_told 32 = .ok (.goto 43, 3) := by decide +kernel
theorem dX11_told_35 : decode cX11_told 35 = .ok (.iload_n 1, 1) := by decide +kernel
theorem dX11_told_36 : decode cX11_told 36 = .ok (.iconst 1, 1) := by decide +kernel
theorem dX11_told_37 : decode cX11_told 37 = .ok (.if_icmp .ne 10, 3) := by decide +kernel
theorem dX11_told_40 : decode cX11_told 40 = .ok (.aload_n 0, 1) := by decide +kernel
theorem dX11_told_41 : decode cX11_told 41 = .ok (.getfield 271, 3) := by decide +kernel
theorem dX11_told_44 : decode cX11_told 44 = .ok (.goto 31, 3) := by decide +kernel
theorem dX11_told_47 : decode cX11_told 47 = .ok (.iload_n 1, 1) := by decide +kernel
theorem dX11_told_48 : decode cX11_told 48 = .ok (.iconst 3, 1) := by decide +kernel
theorem dX11_told_49 : decode cX11_told 49 = .ok (.if_icmp .ne 10, 3) := by decide +kernel
theorem dX11_told_52 : decode cX11_told 52 = .ok (.aload_n 0, 1) := by decide +kernel
theorem dX11_told_53 : decode cX11_told 53 = .ok (.getfield 247, 3) := by decide +kernel
theorem dX11_told_56 : decode cX11_told 56 = .ok (.goto 19, 3) := by decide +kernel
theorem dX11_told_59 : decode cX11_told 59 = .ok (.aload_n 0, 1) := by decide +kernel
theorem dX11_told_60 : decode cX11_told 60 = .ok (.getfield 247, 3) := by decide +kernel
theorem dX11_told_63 : decode cX11_told 63 = .ok (.iconst 1, 1) := by decide +kernel
theorem dX11_told_64 : decode cX11_told 64 = .ok (.if_icmp .ne 10, 3) := by decide +kernel
theorem dX11_told_67 : decode cX11_told 67 = .ok (.aload_n 0, 1) := by decide +kernel
theorem dX11_told_68 : decode cX11_told 68 = .ok (.getfield 250, 3) := by decide +kernel
theorem dX11_told_71 : decode cX11_told 71 = .ok (.goto 4, 3) := by decide +kernel
theorem dX11_told_74 : decode cX11_told 74 = .ok (.iconst 0, 1) := by decide +kernel
theorem dX11_told_75 : decode cX11_told 75 = .ok (.ireturn, 1) := by decide +kernel
theorem dX11_said_0 : decode cX11_said 0 = .ok (.aload_n 0, 1) := by decide +kernel
theorem dX11_said_1 : decode cX11_said 1 = .ok (.iload_n 1, 1) := by decide +kernel
theorem dX11_said_2 : decode cX11_said 2 = .ok (.ifCond .lt 15, 3) := by decide +kernel
theorem dX11_said_5 : decode cX11_said 5 = .ok (.iload_n 1, 1) := by decide +kernel
theorem dX11_said_6 : decode cX11_said 6 = .ok (.aload_n 0, 1) := by decide +kernel
theorem dX11_said_7 : decode cX11_said 7 = .ok (.getfield 229, 3) := by decide +kernel
theorem dX11_said_10 : decode cX11_said 10 = .ok (.if_icmp .ge 7, 3) := by decide +kernel
theorem dX11_said_13 : decode cX11_said 13 = .ok (.iconst 1, 1) := by decide +kernel
theorem dX11_said_14 : decode cX11_said 14 = .ok (.goto 4, 3) := by decide +kernel
theorem dX11_said_17 : decode cX11_said 17 = .ok (.iconst 0, 1) := by decide +kernel
theorem dX11_said_18 : decode cX11_said 18 = .ok (.iconst 1, 1) := by decide +kernel
theorem dX11_said_19 : decode cX11_said 19 = .ok (.invokevirtual 130, 3) := by decide +kernel
theorem dX11_said_22 : decode cX11_said 22 = .ok (.ifCond .eq 12, 3) := by decide +kernel
theorem dX11_said_25 : decode cX11_said 25 = .ok (.aload_n 0, 1) := by decide +kernel
theorem dX11_said_26 : decode cX11_said 26 = .ok (.getfield 71, 3) := by decide +kernel
theorem dX11_said_29 : decode cX11_said 29 = .ok (.iload_n 1, 1) := by decide +kernel
theorem dX11_said_30 : decode cX11_said 30 = .ok (.iaload, 1) := by decide +kernel
theorem dX11_said_31 : decode cX11_said 31 = .ok (.goto 4, 3) := by decide +kernel
theorem dX11_said_34 : decode cX11_said 34 = .ok (.iconst 0, 1) := by decide +kernel
theorem dX11_said_35 : decode cX11_said 35 = .ok (.ireturn, 1) := by decide +kernel
end
