abbrev sIA : String := "java/lang/IllegalArgumentException"
abbrev sIS : String := "java/lang/IllegalStateException"
theorem tf_IA : Bundle.fit sIA = true := by decide +kernel
theorem tf_IS : Bundle.fit sIS = true := by decide +kernel
theorem tn_IA : ∀ n ∈ ["java/lang/RuntimeException", "java/lang/Exception"], Bundle.fit n = true := by decide +kernel
theorem tn_IS : ∀ n ∈ ["java/lang/RuntimeException", "java/lang/Exception"], Bundle.fit n = true := tn_IA
theorem tw_IA0 : ∀ w ∈ Cond.classLink RX10 43 sIA :: Cond.initialized sIA :: vx_at0 RX10 45 sIA ["java/lang/RuntimeException", "java/lang/Exception"], w ∈ lw_tbl := by decide +kernel
theorem tw_IA1 : ∀ w ∈ Cond.classLink RX10 43 sIA :: Cond.initialized sIA :: vx_at0 RX10 45 sIA ["java/lang/RuntimeException", "java/lang/Exception"], (w.onTables && w.keepsFace) = true := by decide +kernel
theorem tw_IA : ∀ w ∈ Cond.classLink RX10 43 sIA :: Cond.initialized sIA :: vx_at0 RX10 45 sIA ["java/lang/RuntimeException", "java/lang/Exception"], w ∈ lw_face := fun w h => lw_face_in (tw_IA0 w h) (tw_IA1 w h)
theorem tw_IS0 : ∀ w ∈ Cond.classLink RX10 50 sIS :: Cond.initialized sIS :: vx_at0 RX10 52 sIS ["java/lang/RuntimeException", "java/lang/Exception"], w ∈ lw_tbl := by decide +kernel
theorem tw_IS1 : ∀ w ∈ Cond.classLink RX10 50 sIS :: Cond.initialized sIS :: vx_at0 RX10 52 sIS ["java/lang/RuntimeException", "java/lang/Exception"], (w.onTables && w.keepsFace) = true := by decide +kernel
theorem tw_IS : ∀ w ∈ Cond.classLink RX10 50 sIS :: Cond.initialized sIS :: vx_at0 RX10 52 sIS ["java/lang/RuntimeException", "java/lang/Exception"], w ∈ lw_face := fun w h => lw_face_in (tw_IS0 w h) (tw_IS1 w h)
