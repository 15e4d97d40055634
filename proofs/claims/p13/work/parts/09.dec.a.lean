theorem dX1_init_0 : decode cX1_init 0 = .ok (.aload_n 0, 1) := by decide +kernel
theorem dX1_init_1 : decode cX1_init 1 = .ok (.invokespecial 3, 3) := by decide +kernel
theorem dX1_init_4 : decode cX1_init 4 = .ok (.aload_n 0, 1) := by decide +kernel
theorem dX1_init_5 : decode cX1_init 5 = .ok (.sipush 1980, 3) := by decide +kernel
theorem dX1_init_8 : decode cX1_init 8 = .ok (.newarray .long, 2) := by decide +kernel
theorem dX1_init_10 : decode cX1_init 10 = .ok (.putfield 11, 3) := by decide +kernel
theorem dX1_init_13 : decode cX1_init 13 = .ok (.aload_n 0, 1) := by decide +kernel
theorem dX1_init_14 : decode cX1_init 14 = .ok (.bipush 60, 2) := by decide +kernel
theorem dX1_init_16 : decode cX1_init 16 = .ok (.newarray .int, 2) := by decide +kernel
theorem dX1_init_18 : decode cX1_init 18 = .ok (.putfield 15, 3) := by decide +kernel
theorem dX1_init_21 : decode cX1_init 21 = .ok (.aload_n 0, 1) := by decide +kernel
theorem dX1_init_22 : decode cX1_init 22 = .ok (.bipush 60, 2) := by decide +kernel
theorem dX1_init_24 : decode cX1_init 24 = .ok (.newarray .int, 2) := by decide +kernel
theorem dX1_init_26 : decode cX1_init 26 = .ok (.putfield 19, 3) := by decide +kernel
theorem dX1_init_29 : decode cX1_init 29 = .ok (.aload_n 0, 1) := by decide +kernel
theorem dX1_init_30 : decode cX1_init 30 = .ok (.bipush 60, 2) := by decide +kernel
theorem dX1_init_32 : decode cX1_init 32 = .ok (.newarray .int, 2) := by decide +kernel
theorem dX1_init_34 : decode cX1_init 34 = .ok (.putfield 22, 3) := by decide +kernel
theorem dX1_init_37 : decode cX1_init 37 = .ok (.aload_n 0, 1) := by decide +kernel
theorem dX1_init_38 : decode cX1_init 38 = .ok (.bipush 12, 2) := by decide +kernel
theorem dX1_init_40 : decode cX1_init 40 = .ok (.newarray .long, 2) := by decide +kernel
theorem dX1_init_42 : decode cX1_init 42 = .ok (.putfield 25, 3) := by decide +kernel
theorem dX1_init_45 : decode cX1_init 45 = .ok (.return_, 1) := by decide +kernel
theorem dX1_clear_0 : decode cX1_clear 0 = .ok (.aload_n 0, 1) := by decide +kernel
theorem dX1_clear_1 : decode cX1_clear 1 = .ok (.iconst 0, 1) := by decide +kernel
theorem dX1_clear_2 : decode cX1_clear 2 = .ok (.putfield 28, 3) := by decide +kernel
theorem dX1_clear_5 : decode cX1_clear 5 = .ok (.aload_n 0, 1) := by decide +kernel
theorem dX1_clear_6 : decode cX1_clear 6 = .ok (.iconst 0, 1) := by decide +kernel
theorem dX1_clear_7 : decode cX1_clear 7 = .ok (.putfield 32, 3) := by decide +kernel
theorem dX1_clear_10 : decode cX1_clear 10 = .ok (.return_, 1) := by decide +kernel
theorem dX1_areOpen_0 : decode cX1_areOpen 0 = .ok (.aload_n 0, 1) := by decide +kernel
theorem dX1_areOpen_1 : decode cX1_areOpen 1 = .ok (.getfield 28, 3) := by decide +kernel
theorem dX1_areOpen_4 : decode cX1_areOpen 4 = .ok (.ifCond .le 7, 3) := by decide +kernel
theorem dX1_areOpen_7 : decode cX1_areOpen 7 = .ok (.iconst 1, 1) := by decide +kernel
theorem dX1_areOpen_8 : decode cX1_areOpen 8 = .ok (.goto 4, 3) := by decide +kernel
theorem dX1_areOpen_11 : decode cX1_areOpen 11 = .ok (.iconst 0, 1) := by decide +kernel
theorem dX1_areOpen_12 : decode cX1_areOpen 12 = .ok (.ireturn, 1) := by decide +kernel
theorem dX1_open_0 : decode cX1_open 0 = .ok (.aload_n 0, 1) := by decide +kernel
theorem dX1_open_1 : decode cX1_open 1 = .ok (.getfield 28, 3) := by decide +kernel
theorem dX1_open_4 : decode cX1_open 4 = .ok (.bipush 60, 2) := by decide +kernel
theorem dX1_open_6 : decode cX1_open 6 = .ok (.if_icmp .ge 87, 3) := by decide +kernel
theorem dX1_open_9 : decode cX1_open 9 = .ok (.aload_n 0, 1) := by decide +kernel
theorem dX1_open_10 : decode cX1_open 10 = .ok (.aload_n 0, 1) := by decide +kernel
theorem dX1_open_11 : decode cX1_open 11 = .ok (.getfield 28, 3) := by decide +kernel
theorem dX1_open_14 : decode cX1_open 14 = .ok (.putfield 32, 3) := by decide +kernel
theorem dX1_open_17 : decode cX1_open 17 = .ok (.aload_n 0, 1) := by decide +kernel
theorem dX1_open_18 : decode cX1_open 18 = .ok (.dup, 1) := by decide +kernel
theorem dX1_open_19 : decode cX1_open 19 = .ok (.getfield 28, 3) := by decide +kernel
theorem dX1_open_22 : decode cX1_open 22 = .ok (.iconst 1, 1) := by decide +kernel
theorem dX1_open_23 : decode cX1_open 23 = .ok (.iadd, 1) := by decide +kernel
theorem dX1_open_24 : decode cX1_open 24 = .ok (.putfield 28, 3) := by decide +kernel
theorem dX1_open_27 : decode cX1_open 27 = .ok (.aload_n 0, 1) := by decide +kernel
theorem dX1_open_28 : decode cX1_open 28 = .ok (.getfield 15, 3) := by decide +kernel
theorem dX1_open_31 : decode cX1_open 31 = .ok (.aload_n 0, 1) := by decide +kernel
theorem dX1_open_32 : decode cX1_open 32 = .ok (.getfield 32, 3) := by decide +kernel
theorem dX1_open_35 : decode cX1_open 35 = .ok (.iload_n 1, 1) := by decide +kernel
theorem dX1_open_36 : decode cX1_open 36 = .ok (.iastore, 1) := by decide +kernel
theorem dX1_open_37 : decode cX1_open 37 = .ok (.aload_n 0, 1) := by decide +kernel
theorem dX1_open_38 : decode cX1_open 38 = .ok (.getfield 19, 3) := by decide +kernel
theorem dX1_open_41 : decode cX1_open 41 = .ok (.aload_n 0, 1) := by decide +kernel
theorem dX1_open_42 : decode cX1_open 42 = .ok (.getfield 32, 3) := by decide +kernel
theorem dX1_open_45 : decode cX1_open 45 = .ok (.iconst 0, 1) := by decide +kernel
theorem dX1_open_46 : decode cX1_open 46 = .ok (.iastore, 1) := by decide +kernel
theorem dX1_open_47 : decode cX1_open 47 = .ok (.aload_n 0, 1) := by decide +kernel
theorem dX1_open_48 : decode cX1_open 48 = .ok (.getfield 32, 3) := by decide +kernel
theorem dX1_open_51 : decode cX1_open 51 = .ok (.bipush 33, 2) := by decide +kernel
theorem dX1_open_53 : decode cX1_open 53 = .ok (.imul, 1) := by decide +kernel
theorem dX1_open_54 : decode cX1_open 54 = .ok (.istore_n 2, 1) := by decide +kernel
theorem dX1_open_55 : decode cX1_open 55 = .ok (.iconst 0, 1) := by decide +kernel
theorem dX1_open_56 : decode cX1_open 56 = .ok (.istore_n 3, 1) := by decide +kernel
theorem dX1_open_57 : decode cX1_open 57 = .ok (.iload_n 3, 1) := by decide +kernel
theorem dX1_open_58 : decode cX1_open 58 = .ok (.bipush 20, 2) := by decide +kernel
theorem dX1_open_60 : decode cX1_open 60 = .ok (.if_icmp .ge 20, 3) := by decide +kernel
theorem dX1_open_63 : decode cX1_open 63 = .ok (.aload_n 0, 1) := by decide +kernel
theorem dX1_open_64 : decode cX1_open 64 = .ok (.getfield 11, 3) := by decide +kernel
theorem dX1_open_67 : decode cX1_open 67 = .ok (.iload_n 2, 1) := by decide +kernel
theorem dX1_open_68 : decode cX1_open 68 = .ok (.iload_n 3, 1) := by decide +kernel
theorem dX1_open_69 : decode cX1_open 69 = .ok (.iadd, 1) := by decide +kernel
theorem dX1_open_70 : decode cX1_open 70 = .ok (.ldc2_w 35, 3) := by decide +kernel
theorem dX1_open_73 : decode cX1_open 73 = .ok (.lastore, 1) := by decide +kernel
theorem dX1_open_74 : decode cX1_open 74 = .ok (.iinc 3 1, 3) := by decide +kernel
theorem dX1_open_77 : decode cX1_open 77 = .ok (.goto (-20), 3) := by decide +kernel
theorem dX1_open_80 : decode cX1_open 80 = .ok (.aload_n 0, 1) := by decide +kernel
theorem dX1_open_81 : decode cX1_open 81 = .ok (.getfield 22, 3) := by decide +kernel
theorem dX1_open_84 : decode cX1_open 84 = .ok (.aload_n 0, 1) := by decide +kernel
theorem dX1_open_85 : decode cX1_open 85 = .ok (.getfield 32, 3) := by decide +kernel
theorem dX1_open_88 : decode cX1_open 88 = .ok (.iload_n 2, 1) := by decide +kernel
theorem dX1_open_89 : decode cX1_open 89 = .ok (.bipush 20, 2) := by decide +kernel
theorem dX1_open_91 : decode cX1_open 91 = .ok (.iadd, 1) := by decide +kernel
theorem dX1_open_92 : decode cX1_open 92 = .ok (.iastore, 1) := by decide +kernel
theorem dX1_open_93 : decode cX1_open 93 = .ok (.return_, 1) := by decide +kernel
theorem dX1_close_0 : decode cX1_close 0 = .ok (.aload_n 0, 1) := by decide +kernel
theorem dX1_close_1 : decode cX1_close 1 = .ok (.dup, 1) := by decide +kernel
theorem dX1_close_2 : decode cX1_close 2 = .ok (.getfield 28, 3) := by decide +kernel
theorem dX1_close_5 : decode cX1_close 5 = .ok (.iconst 1, 1) := by decide +kernel
theorem dX1_close_6 : decode cX1_close 6 = .ok (.isub, 1) := by decide +kernel
theorem dX1_close_7 : decode cX1_close 7 = .ok (.putfield 28, 3) := by decide +kernel
theorem dX1_close_10 : decode cX1_close 10 = .ok (.aload_n 0, 1) := by decide +kernel
theorem dX1_close_11 : decode cX1_close 11 = .ok (.aload_n 0, 1) := by decide +kernel
theorem dX1_close_12 : decode cX1_close 12 = .ok (.getfield 28, 3) := by decide +kernel
theorem dX1_close_15 : decode cX1_close 15 = .ok (.iconst 1, 1) := by decide +kernel
theorem dX1_close_16 : decode cX1_close 16 = .ok (.isub, 1) := by decide +kernel
theorem dX1_close_17 : decode cX1_close 17 = .ok (.iconst 0, 1) := by decide +kernel
theorem dX1_close_18 : decode cX1_close 18 = .ok (.invokestatic 37, 3) := by decide +kernel
theorem dX1_close_21 : decode cX1_close 21 = .ok (.putfield 32, 3) := by decide +kernel
theorem dX1_close_24 : decode cX1_close 24 = .ok (.return_, 1) := by decide +kernel
theorem dX1_unit_0 : decode cX1_unit 0 = .ok (.aload_n 0, 1) := by decide +kernel
theorem dX1_unit_1 : decode cX1_unit 1 = .ok (.getfield 15, 3) := by decide +kernel
theorem dX1_unit_4 : decode cX1_unit 4 = .ok (.aload_n 0, 1) := by decide +kernel
theorem dX1_unit_5 : decode cX1_unit 5 = .ok (.getfield 32, 3) := by decide +kernel
theorem dX1_unit_8 : decode cX1_unit 8 = .ok (.iaload, 1) := by decide +kernel
theorem dX1_unit_9 : decode cX1_unit 9 = .ok (.ireturn, 1) := by decide +kernel
theorem dX1_place_0 : decode cX1_place 0 = .ok (.aload_n 0, 1) := by decide +kernel
theorem dX1_place_1 : decode cX1_place 1 = .ok (.getfield 19, 3) := by decide +kernel
theorem dX1_place_4 : decode cX1_place 4 = .ok (.aload_n 0, 1) := by decide +kernel
theorem dX1_place_5 : decode cX1_place 5 = .ok (.getfield 32, 3) := by decide +kernel
theorem dX1_place_8 : decode cX1_place 8 = .ok (.iaload, 1) := by decide +kernel
theorem dX1_place_9 : decode cX1_place 9 = .ok (.ireturn, 1) := by decide +kernel
theorem dX1_goTo_0 : decode cX1_goTo 0 = .ok (.aload_n 0, 1) := by decide +kernel
theorem dX1_goTo_1 : decode cX1_goTo 1 = .ok (.getfield 19, 3) := by decide +kernel
theorem dX1_goTo_4 : decode cX1_goTo 4 = .ok (.aload_n 0, 1) := by decide +kernel
theorem dX1_goTo_5 : decode cX1_goTo 5 = .ok (.getfield 32, 3) := by decide +kernel
theorem dX1_goTo_8 : decode cX1_goTo 8 = .ok (.iload_n 1, 1) := by decide +kernel
theorem dX1_goTo_9 : decode cX1_goTo 9 = .ok (.iastore, 1) := by decide +kernel
theorem dX1_goTo_10 : decode cX1_goTo 10 = .ok (.return_, 1) := by decide +kernel
theorem dX1_local_0 : decode cX1_local 0 = .ok (.aload_n 0, 1) := by decide +kernel
theorem dX1_local_1 : decode cX1_local 1 = .ok (.getfield 11, 3) := by decide +kernel
theorem dX1_local_4 : decode cX1_local 4 = .ok (.aload_n 0, 1) := by decide +kernel
theorem dX1_local_5 : decode cX1_local 5 = .ok (.getfield 32, 3) := by decide +kernel
theorem dX1_local_8 : decode cX1_local 8 = .ok (.bipush 33, 2) := by decide +kernel
theorem dX1_local_10 : decode cX1_local 10 = .ok (.imul, 1) := by decide +kernel
theorem dX1_local_11 : decode cX1_local 11 = .ok (.iload_n 1, 1) := by decide +kernel
theorem dX1_local_12 : decode cX1_local 12 = .ok (.iadd, 1) := by decide +kernel
theorem dX1_local_13 : decode cX1_local 13 = .ok (.laload, 1) := by decide +kernel
theorem dX1_local_14 : decode cX1_local 14 = .ok (.lreturn, 1) := by decide +kernel
theorem dX1_setLocal_0 : decode cX1_setLocal 0 = .ok (.aload_n 0, 1) := by decide +kernel
theorem dX1_setLocal_1 : decode cX1_setLocal 1 = .ok (.getfield 11, 3) := by decide +kernel
theorem dX1_setLocal_4 : decode cX1_setLocal 4 = .ok (.aload_n 0, 1) := by decide +kernel
theorem dX1_setLocal_5 : decode cX1_setLocal 5 = .ok (.getfield 32, 3) := by decide +kernel
theorem dX1_setLocal_8 : decode cX1_setLocal 8 = .ok (.bipush 33, 2) := by decide +kernel
theorem dX1_setLocal_10 : decode cX1_setLocal 10 = .ok (.imul, 1) := by decide +kernel
theorem dX1_setLocal_11 : decode cX1_setLocal 11 = .ok (.iload_n 1, 1) := by decide +kernel
theorem dX1_setLocal_12 : decode cX1_setLocal 12 = .ok (.iadd, 1) := by decide +kernel
theorem dX1_setLocal_13 : decode cX1_setLocal 13 = .ok (.lload_n 2, 1) := by decide +kernel
theorem dX1_setLocal_14 : decode cX1_setLocal 14 = .ok (.lastore, 1) := by decide +kernel
theorem dX1_setLocal_15 : decode cX1_setLocal 15 = .ok (.return_, 1) := by decide +kernel
theorem dX1_push_0 : decode cX1_push 0 = .ok (.aload_n 0, 1) := by decide +kernel
theorem dX1_push_1 : decode cX1_push 1 = .ok (.getfield 22, 3) := by decide +kernel
theorem dX1_push_4 : decode cX1_push 4 = .ok (.aload_n 0, 1) := by decide +kernel
theorem dX1_push_5 : decode cX1_push 5 = .ok (.getfield 32, 3) := by decide +kernel
theorem dX1_push_8 : decode cX1_push 8 = .ok (.iaload, 1) := by decide +kernel
theorem dX1_push_9 : decode cX1_push 9 = .ok (.aload_n 0, 1) := by decide +kernel
theorem dX1_push_10 : decode cX1_push 10 = .ok (.getfield 32, 3) := by decide +kernel
theorem dX1_push_13 : decode cX1_push 13 = .ok (.iconst 1, 1) := by decide +kernel
theorem dX1_push_14 : decode cX1_push 14 = .ok (.iadd, 1) := by decide +kernel
theorem dX1_push_15 : decode cX1_push 15 = .ok (.bipush 33, 2) := by decide +kernel
theorem dX1_push_17 : decode cX1_push 17 = .ok (.imul, 1) := by decide +kernel
theorem dX1_push_18 : decode cX1_push 18 = .ok (.if_icmp .ge 31, 3) := by decide +kernel
theorem dX1_push_21 : decode cX1_push 21 = .ok (.aload_n 0, 1) := by decide +kernel
theorem dX1_push_22 : decode cX1_push 22 = .ok (.getfield 11, 3) := by decide +kernel
theorem dX1_push_25 : decode cX1_push 25 = .ok (.aload_n 0, 1) := by decide +kernel
theorem dX1_push_26 : decode cX1_push 26 = .ok (.getfield 22, 3) := by decide +kernel
theorem dX1_push_29 : decode cX1_push 29 = .ok (.aload_n 0, 1) := by decide +kernel
theorem dX1_push_30 : decode cX1_push 30 = .ok (.getfield 32, 3) := by decide +kernel
theorem dX1_push_33 : decode cX1_push 33 = .ok (.iaload, 1) := by decide +kernel
theorem dX1_push_34 : decode cX1_push 34 = .ok (.lload_n 1, 1) := by decide +kernel
theorem dX1_push_35 : decode cX1_push 35 = .ok (.lastore, 1) := by decide +kernel
theorem dX1_push_36 : decode cX1_push 36 = .ok (.aload_n 0, 1) := by decide +kernel
theorem dX1_push_37 : decode cX1_push 37 = .ok (.getfield 22, 3) := by decide +kernel
theorem dX1_push_40 : decode cX1_push 40 = .ok (.aload_n 0, 1) := by decide +kernel
theorem dX1_push_41 : decode cX1_push 41 = .ok (.getfield 32, 3) := by decide +kernel
theorem dX1_push_44 : decode cX1_push 44 = .ok (.dup2, 1) := by decide +kernel
theorem dX1_push_45 : decode cX1_push 45 = .ok (.iaload, 1) := by decide +kernel
theorem dX1_push_46 : decode cX1_push 46 = .ok (.iconst 1, 1) := by decide +kernel
theorem dX1_push_47 : decode cX1_push 47 = .ok (.iadd, 1) := by decide +kernel
theorem dX1_push_48 : decode cX1_push 48 = .ok (.iastore, 1) := by decide +kernel
theorem dX1_push_49 : decode cX1_push 49 = .ok (.return_, 1) := by decide +kernel
theorem dX1_pop_0 : decode cX1_pop 0 = .ok (.aload_n 0, 1) := by decide +kernel
theorem dX1_pop_1 : decode cX1_pop 1 = .ok (.getfield 22, 3) := by decide +kernel
theorem dX1_pop_4 : decode cX1_pop 4 = .ok (.aload_n 0, 1) := by decide +kernel
theorem dX1_pop_5 : decode cX1_pop 5 = .ok (.getfield 32, 3) := by decide +kernel
theorem dX1_pop_8 : decode cX1_pop 8 = .ok (.iaload, 1) := by decide +kernel
theorem dX1_pop_9 : decode cX1_pop 9 = .ok (.aload_n 0, 1) := by decide +kernel
theorem dX1_pop_10 : decode cX1_pop 10 = .ok (.getfield 32, 3) := by decide +kernel
theorem dX1_pop_13 : decode cX1_pop 13 = .ok (.bipush 33, 2) := by decide +kernel
theorem dX1_pop_15 : decode cX1_pop 15 = .ok (.imul, 1) := by decide +kernel
theorem dX1_pop_16 : decode cX1_pop 16 = .ok (.bipush 20, 2) := by decide +kernel
theorem dX1_pop_18 : decode cX1_pop 18 = .ok (.iadd, 1) := by decide +kernel
theorem dX1_pop_19 : decode cX1_pop 19 = .ok (.if_icmp .ne 7, 3) := by decide +kernel
theorem dX1_pop_22 : decode cX1_pop 22 = .ok (.ldc2_w 35, 3) := by decide +kernel
theorem dX1_pop_25 : decode cX1_pop 25 = .ok (.lreturn, 1) := by decide +kernel
theorem dX1_pop_26 : decode cX1_pop 26 = .ok (.aload_n 0, 1) := by decide +kernel
theorem dX1_pop_27 : decode cX1_pop 27 = .ok (.getfield 22, 3) := by decide +kernel
theorem dX1_pop_30 : decode cX1_pop 30 = .ok (.aload_n 0, 1) := by decide +kernel
theorem dX1_pop_31 : decode cX1_pop 31 = .ok (.getfield 32, 3) := by decide +kernel
theorem dX1_pop_34 : decode cX1_pop 34 = .ok (.dup2, 1) := by decide +kernel
theorem dX1_pop_35 : decode cX1_pop 35 = .ok (.iaload, 1) := by decide +kernel
theorem dX1_pop_36 : decode cX1_pop 36 = .ok (.iconst 1, 1) := by decide +kernel
theorem dX1_pop_37 : decode cX1_pop 37 = .ok (.isub, 1) := by decide +kernel
theorem dX1_pop_38 : decode cX1_pop 38 = .ok (.iastore, 1) := by decide +kernel
theorem dX1_pop_39 : decode cX1_pop 39 = .ok (.aload_n 0, 1) := by decide +kernel
theorem dX1_pop_40 : decode cX1_pop 40 = .ok (.getfield 11, 3) := by decide +kernel
theorem dX1_pop_43 : decode cX1_pop 43 = .ok (.aload_n 0, 1) := by decide +kernel
theorem dX1_pop_44 : decode cX1_pop 44 = .ok (.getfield 22, 3) := by decide +kernel
theorem dX1_pop_47 : decode cX1_pop 47 = .ok (.aload_n 0, 1) := by decide +kernel
theorem dX1_pop_48 : decode cX1_pop 48 = .ok (.getfield 32, 3) := by decide +kernel
theorem dX1_pop_51 : decode cX1_pop 51 = .ok (.iaload, 1) := by decide +kernel
theorem dX1_pop_52 : decode cX1_pop 52 = .ok (.laload, 1) := by decide +kernel
theorem dX1_pop_53 : decode cX1_pop 53 = .ok (.lreturn, 1) := by decide +kernel
theorem dX1_take_0 : decode cX1_take 0 = .ok (.iload_n 1, 1) := by decide +kernel
theorem dX1_take_1 : decode cX1_take 1 = .ok (.iconst 1, 1) := by decide +kernel
theorem dX1_take_2 : decode cX1_take 2 = .ok (.isub, 1) := by decide +kernel
theorem dX1_take_3 : decode cX1_take 3 = .ok (.istore_n 2, 1) := by decide +kernel
theorem dX1_take_4 : decode cX1_take 4 = .ok (.iload_n 2, 1) := by decide +kernel
theorem dX1_take_5 : decode cX1_take 5 = .ok (.ifCond .lt 19, 3) := by decide +kernel
theorem dX1_take_8 : decode cX1_take 8 = .ok (.aload_n 0, 1) := by decide +kernel
theorem dX1_take_9 : decode cX1_take 9 = .ok (.getfield 25, 3) := by decide +kernel
theorem dX1_take_12 : decode cX1_take 12 = .ok (.iload_n 2, 1) := by decide +kernel
theorem dX1_take_13 : decode cX1_take 13 = .ok (.aload_n 0, 1) := by decide +kernel
theorem dX1_take_14 : decode cX1_take 14 = .ok (.invokevirtual 43, 3) := by decide +kernel
theorem dX1_take_17 : decode cX1_take 17 = .ok (.lastore, 1) := by decide +kernel
theorem dX1_take_18 : decode cX1_take 18 = .ok (.iinc 2 (-1), 3) := by decide +kernel
theorem dX1_take_21 : decode cX1_take 21 = .ok (.goto (-17), 3) := by decide +kernel
theorem dX1_take_24 : decode cX1_take 24 = .ok (.return_, 1) := by decide +kernel
theorem dX1_takenAt_0 : decode cX1_takenAt 0 = .ok (.aload_n 0, 1) := by decide +kernel
theorem dX1_takenAt_1 : decode cX1_takenAt 1 = .ok (.getfield 25, 3) := by decide +kernel
theorem dX1_takenAt_4 : decode cX1_takenAt 4 = .ok (.iload_n 1, 1) := by decide +kernel
theorem dX1_takenAt_5 : decode cX1_takenAt 5 = .ok (.laload, 1) := by decide +kernel
theorem dX1_takenAt_6 : decode cX1_takenAt 6 = .ok (.lreturn, 1) := by decide +kernel
theorem dX1_setLocalsToTaken_0 : decode cX1_setLocalsToTaken 0 = .ok (.iconst 0, 1) := by decide +kernel
theorem dX1_setLocalsToTaken_1 : decode cX1_setLocalsToTaken 1 = .ok (.istore_n 3, 1) := by decide +kernel
theorem dX1_setLocalsToTaken_2 : decode cX1_setLocalsToTaken 2 = .ok (.iload_n 3, 1) := by decide +kernel
theorem dX1_setLocalsToTaken_3 : decode cX1_setLocalsToTaken 3 = .ok (.iload_n 2, 1) := by decide +kernel
theorem dX1_setLocalsToTaken_4 : decode cX1_setLocalsToTaken 4 = .ok (.if_icmp .ge 22, 3) := by decide +kernel
theorem dX1_setLocalsToTaken_7 : decode cX1_setLocalsToTaken 7 = .ok (.aload_n 0, 1) := by decide +kernel
theorem dX1_setLocalsToTaken_8 : decode cX1_setLocalsToTaken 8 = .ok (.iload_n 1, 1) := by decide +kernel
theorem dX1_setLocalsToTaken_9 : decode cX1_setLocalsToTaken 9 = .ok (.iload_n 3, 1) := by decide +kernel
theorem dX1_setLocalsToTaken_10 : decode cX1_setLocalsToTaken 10 = .ok (.iadd, 1) := by decide +kernel
theorem dX1_setLocalsToTaken_11 : decode cX1_setLocalsToTaken 11 = .ok (.aload_n 0, 1) := by decide +kernel
theorem dX1_setLocalsToTaken_12 : decode cX1_setLocalsToTaken 12 = .ok (.getfield 25, 3) := by decide +kernel
theorem dX1_setLocalsToTaken_15 : decode cX1_setLocalsToTaken 15 = .ok (.iload_n 3, 1) := by decide +kernel
theorem dX1_setLocalsToTaken_16 : decode cX1_setLocalsToTaken 16 = .ok (.laload, 1) := by decide +kernel
theorem dX1_setLocalsToTaken_17 : decode cX1_setLocalsToTaken 17 = .ok (.invokevirtual 47, 3) := by decide +kernel
theorem dX1_setLocalsToTaken_20 : decode cX1_setLocalsToTaken 20 = .ok (.iinc 3 1, 3) := by decide +kernel
theorem dX1_setLocalsToTaken_23 : decode cX1_setLocalsToTaken 23 = .ok (.goto (-21), 3) := by decide +kernel
theorem dX1_setLocalsToTaken_26 : decode cX1_setLocalsToTaken 26 = .ok (.return_, 1) := by decide +kernel
theorem dX2_init_0 : decode cX2_init 0 = .ok (.aload_n 0, 1) := by decide +kernel
theorem dX2_init_1 : decode cX2_init 1 = .ok (.invokespecial 3, 3) := by decide +kernel
theorem dX2_init_4 : decode cX2_init 4 = .ok (.aload_n 0, 1) := by decide +kernel
theorem dX2_init_5 : decode cX2_init 5 = .ok (.sipush 400, 3) := by decide +kernel
theorem dX2_init_8 : decode cX2_init 8 = .ok (.newarray .int, 2) := by decide +kernel
theorem dX2_init_10 : decode cX2_init 10 = .ok (.putfield 9, 3) := by decide +kernel
theorem dX2_init_13 : decode cX2_init 13 = .ok (.aload_n 0, 1) := by decide +kernel
theorem dX2_init_14 : decode cX2_init 14 = .ok (.sipush 400, 3) := by decide +kernel
theorem dX2_init_17 : decode cX2_init 17 = .ok (.newarray .int, 2) := by decide +kernel
theorem dX2_init_19 : decode cX2_init 19 = .ok (.putfield 15, 3) := by decide +kernel
theorem dX2_init_22 : decode cX2_init 22 = .ok (.aload_n 0, 1) := by decide +kernel
theorem dX2_init_23 : decode cX2_init 23 = .ok (.sipush 1200, 3) := by decide +kernel
theorem dX2_init_26 : decode cX2_init 26 = .ok (.newarray .long, 2) := by decide +kernel
theorem dX2_init_28 : decode cX2_init 28 = .ok (.putfield 18, 3) := by decide +kernel
theorem dX2_init_31 : decode cX2_init 31 = .ok (.return_, 1) := by decide +kernel
theorem dX2_clear_0 : decode cX2_clear 0 = .ok (.aload_n 0, 1) := by decide +kernel
theorem dX2_clear_1 : decode cX2_clear 1 = .ok (.iconst 0, 1) := by decide +kernel
theorem dX2_clear_2 : decode cX2_clear 2 = .ok (.putfield 22, 3) := by decide +kernel
theorem dX2_clear_5 : decode cX2_clear 5 = .ok (.return_, 1) := by decide +kernel
theorem dX2_add_0 : decode cX2_add 0 = .ok (.aload_n 0, 1) := by decide +kernel
theorem dX2_add_1 : decode cX2_add 1 = .ok (.getfield 22, 3) := by decide +kernel
theorem dX2_add_4 : decode cX2_add 4 = .ok (.sipush 400, 3) := by decide +kernel
theorem dX2_add_7 : decode cX2_add 7 = .ok (.if_icmp .ne 7, 3) := by decide +kernel
theorem dX2_add_10 : decode cX2_add 10 = .ok (.ldc2_w 26, 3) := by decide +kernel
theorem dX2_add_13 : decode cX2_add 13 = .ok (.lreturn, 1) := by decide +kernel
theorem dX2_add_14 : decode cX2_add 14 = .ok (.aload_n 0, 1) := by decide +kernel
theorem dX2_add_15 : decode cX2_add 15 = .ok (.getfield 22, 3) := by decide +kernel
theorem dX2_add_18 : decode cX2_add 18 = .ok (.istore_n 3, 1) := by decide +kernel
theorem dX2_add_19 : decode cX2_add 19 = .ok (.aload_n 0, 1) := by decide +kernel
theorem dX2_add_20 : decode cX2_add 20 = .ok (.dup, 1) := by decide +kernel
theorem dX2_add_21 : decode cX2_add 21 = .ok (.getfield 22, 3) := by decide +kernel
theorem dX2_add_24 : decode cX2_add 24 = .ok (.iconst 1, 1) := by decide +kernel
theorem dX2_add_25 : decode cX2_add 25 = .ok (.iadd, 1) := by decide +kernel
theorem dX2_add_26 : decode cX2_add 26 = .ok (.putfield 22, 3) := by decide +kernel
theorem dX2_add_29 : decode cX2_add 29 = .ok (.aload_n 0, 1) := by decide +kernel
theorem dX2_add_30 : decode cX2_add 30 = .ok (.getfield 9, 3) := by decide +kernel
theorem dX2_add_33 : decode cX2_add 33 = .ok (.iload_n 3, 1) := by decide +kernel
theorem dX2_add_34 : decode cX2_add 34 = .ok (.iload_n 1, 1) := by decide +kernel
theorem dX2_add_35 : decode cX2_add 35 = .ok (.iastore, 1) := by decide +kernel
theorem dX2_add_36 : decode cX2_add 36 = .ok (.aload_n 0, 1) := by decide +kernel
theorem dX2_add_37 : decode cX2_add 37 = .ok (.getfield 15, 3) := by decide +kernel
theorem dX2_add_40 : decode cX2_add 40 = .ok (.iload_n 3, 1) := by decide +kernel
theorem dX2_add_41 : decode cX2_add 41 = .ok (.iload_n 2, 1) := by decide +kernel
theorem dX2_add_42 : decode cX2_add 42 = .ok (.iastore, 1) := by decide +kernel
theorem dX2_add_43 : decode cX2_add 43 = .ok (.iconst 0, 1) := by decide +kernel
theorem dX2_add_44 : decode cX2_add 44 = .ok (.istore 4, 2) := by decide +kernel
theorem dX2_add_46 : decode cX2_add 46 = .ok (.iload 4, 2) := by decide +kernel
theorem dX2_add_48 : decode cX2_add 48 = .ok (.iload_n 2, 1) := by decide +kernel
theorem dX2_add_49 : decode cX2_add 49 = .ok (.if_icmp .ge 23, 3) := by decide +kernel
theorem dX2_add_52 : decode cX2_add 52 = .ok (.aload_n 0, 1) := by decide +kernel
theorem dX2_add_53 : decode cX2_add 53 = .ok (.getfield 18, 3) := by decide +kernel
theorem dX2_add_56 : decode cX2_add 56 = .ok (.iload_n 3, 1) := by decide +kernel
theorem dX2_add_57 : decode cX2_add 57 = .ok (.iconst 3, 1) := by decide +kernel
theorem dX2_add_58 : decode cX2_add 58 = .ok (.imul, 1) := by decide +kernel
theorem dX2_add_59 : decode cX2_add 59 = .ok (.iload 4, 2) := by decide +kernel
theorem dX2_add_61 : decode cX2_add 61 = .ok (.iadd, 1) := by decide +kernel
theorem dX2_add_62 : decode cX2_add 62 = .ok (.ldc2_w 26, 3) := by decide +kernel
theorem dX2_add_65 : decode cX2_add 65 = .ok (.lastore, 1) := by decide +kernel
theorem dX2_add_66 : decode cX2_add 66 = .ok (.iinc 4 1, 3) := by decide +kernel
theorem dX2_add_69 : decode cX2_add 69 = .ok (.goto (-23), 3) := by decide +kernel
theorem dX2_add_72 : decode cX2_add 72 = .ok (.iconst 3, 1) := by decide +kernel
theorem dX2_add_73 : decode cX2_add 73 = .ok (.iload_n 3, 1) := by decide +kernel
theorem dX2_add_74 : decode cX2_add 74 = .ok (.invokestatic 28, 3) := by decide +kernel
theorem dX2_add_77 : decode cX2_add 77 = .ok (.lreturn, 1) := by decide +kernel
theorem dX2_typeOf_0 : decode cX2_typeOf 0 = .ok (.aload_n 0, 1) := by decide +kernel
theorem dX2_typeOf_1 : decode cX2_typeOf 1 = .ok (.getfield 9, 3) := by decide +kernel
theorem dX2_typeOf_4 : decode cX2_typeOf 4 = .ok (.iload_n 1, 1) := by decide +kernel
theorem dX2_typeOf_5 : decode cX2_typeOf 5 = .ok (.iaload, 1) := by decide +kernel
theorem dX2_typeOf_6 : decode cX2_typeOf 6 = .ok (.ireturn, 1) := by decide +kernel
theorem dX2_sizeOf_0 : decode cX2_sizeOf 0 = .ok (.aload_n 0, 1) := by decide +kernel
theorem dX2_sizeOf_1 : decode cX2_sizeOf 1 = .ok (.getfield 15, 3) := by decide +kernel
theorem dX2_sizeOf_4 : decode cX2_sizeOf 4 = .ok (.iload_n 1, 1) := by decide +kernel
theorem dX2_sizeOf_5 : decode cX2_sizeOf 5 = .ok (.iaload, 1) := by decide +kernel
theorem dX2_sizeOf_6 : decode cX2_sizeOf 6 = .ok (.ireturn, 1) := by decide +kernel
theorem dX2_valueAt_0 : decode cX2_valueAt 0 = .ok (.aload_n 0, 1) := by decide +kernel
theorem dX2_valueAt_1 : decode cX2_valueAt 1 = .ok (.getfield 18, 3) := by decide +kernel
theorem dX2_valueAt_4 : decode cX2_valueAt 4 = .ok (.iload_n 1, 1) := by decide +kernel
theorem dX2_valueAt_5 : decode cX2_valueAt 5 = .ok (.iconst 3, 1) := by decide +kernel
theorem dX2_valueAt_6 : decode cX2_valueAt 6 = .ok (.imul, 1) := by decide +kernel
theorem dX2_valueAt_7 : decode cX2_valueAt 7 = .ok (.iload_n 2, 1) := by decide +kernel
theorem dX2_valueAt_8 : decode cX2_valueAt 8 = .ok (.iadd, 1) := by decide +kernel
theorem dX2_valueAt_9 : decode cX2_valueAt 9 = .ok (.laload, 1) := by decide +kernel
theorem dX2_valueAt_10 : decode cX2_valueAt 10 = .ok (.lreturn, 1) := by decide +kernel
theorem dX2_setValue_0 : decode cX2_setValue 0 = .ok (.aload_n 0, 1) := by decide +kernel
theorem dX2_setValue_1 : decode cX2_setValue 1 = .ok (.getfield 18, 3) := by decide +kernel
theorem dX2_setValue_4 : decode cX2_setValue 4 = .ok (.iload_n 1, 1) := by decide +kernel
theorem dX2_setValue_5 : decode cX2_setValue 5 = .ok (.iconst 3, 1) := by decide +kernel
theorem dX2_setValue_6 : decode cX2_setValue 6 = .ok (.imul, 1) := by decide +kernel
theorem dX2_setValue_7 : decode cX2_setValue 7 = .ok (.iload_n 2, 1) := by decide +kernel
theorem dX2_setValue_8 : decode cX2_setValue 8 = .ok (.iadd, 1) := by decide +kernel
theorem dX2_setValue_9 : decode cX2_setValue 9 = .ok (.lload_n 3, 1) := by decide +kernel
theorem dX2_setValue_10 : decode cX2_setValue 10 = .ok (.lastore, 1) := by decide +kernel
theorem dX2_setValue_11 : decode cX2_setValue 11 = .ok (.return_, 1) := by decide +kernel
theorem dX3_init_0 : decode cX3_init 0 = .ok (.aload_n 0, 1) := by decide +kernel
theorem dX3_init_1 : decode cX3_init 1 = .ok (.invokespecial 1, 3) := by decide +kernel
theorem dX3_init_4 : decode cX3_init 4 = .ok (.aload_n 0, 1) := by decide +kernel
theorem dX3_init_5 : decode cX3_init 5 = .ok (.bipush 64, 2) := by decide +kernel
theorem dX3_init_7 : decode cX3_init 7 = .ok (.newarray .int, 2) := by decide +kernel
theorem dX3_init_9 : decode cX3_init 9 = .ok (.putfield 7, 3) := by decide +kernel
theorem dX3_init_12 : decode cX3_init 12 = .ok (.aload_n 0, 1) := by decide +kernel
theorem dX3_init_13 : decode cX3_init 13 = .ok (.bipush 64, 2) := by decide +kernel
theorem dX3_init_15 : decode cX3_init 15 = .ok (.newarray .int, 2) := by decide +kernel
theorem dX3_init_17 : decode cX3_init 17 = .ok (.putfield 13, 3) := by decide +kernel
theorem dX3_init_20 : decode cX3_init 20 = .ok (.aload_n 0, 1) := by decide +kernel
theorem dX3_init_21 : decode cX3_init 21 = .ok (.bipush 64, 2) := by decide +kernel
theorem dX3_init_23 : decode cX3_init 23 = .ok (.newarray .int, 2) := by decide +kernel
theorem dX3_init_25 : decode cX3_init 25 = .ok (.putfield 16, 3) := by decide +kernel
theorem dX3_init_28 : decode cX3_init 28 = .ok (.aload_n 0, 1) := by decide +kernel
theorem dX3_init_29 : decode cX3_init 29 = .ok (.bipush 64, 2) := by decide +kernel
theorem dX3_init_31 : decode cX3_init 31 = .ok (.newarray .int, 2) := by decide +kernel
theorem dX3_init_33 : decode cX3_init 33 = .ok (.putfield 19, 3) := by decide +kernel
theorem dX3_init_36 : decode cX3_init 36 = .ok (.return_, 1) := by decide +kernel
theorem dX3_clear_0 : decode cX3_clear 0 = .ok (.aload_n 0, 1) := by decide +kernel
theorem dX3_clear_1 : decode cX3_clear 1 = .ok (.iconst 0, 1) := by decide +kernel
theorem dX3_clear_2 : decode cX3_clear 2 = .ok (.putfield 22, 3) := by decide +kernel
theorem dX3_clear_5 : decode cX3_clear 5 = .ok (.return_, 1) := by decide +kernel
theorem dX3_length_0 : decode cX3_length 0 = .ok (.aload_n 0, 1) := by decide +kernel
theorem dX3_length_1 : decode cX3_length 1 = .ok (.getfield 22, 3) := by decide +kernel
theorem dX3_length_4 : decode cX3_length 4 = .ok (.ireturn, 1) := by decide +kernel
theorem dX3_add_0 : decode cX3_add 0 = .ok (.aload_n 0, 1) := by decide +kernel
theorem dX3_add_1 : decode cX3_add 1 = .ok (.getfield 22, 3) := by decide +kernel
theorem dX3_add_4 : decode cX3_add 4 = .ok (.aload_n 0, 1) := by decide +kernel
theorem dX3_add_5 : decode cX3_add 5 = .ok (.getfield 7, 3) := by decide +kernel
theorem dX3_add_8 : decode cX3_add 8 = .ok (.arraylength, 1) := by decide +kernel
theorem dX3_add_9 : decode cX3_add 9 = .ok (.if_icmp .ne 7, 3) := by decide +kernel
theorem dX3_add_12 : decode cX3_add 12 = .ok (.aload_n 0, 1) := by decide +kernel
theorem dX3_add_13 : decode cX3_add 13 = .ok (.invokevirtual 26, 3) := by decide +kernel
theorem dX3_add_16 : decode cX3_add 16 = .ok (.aload_n 0, 1) := by decide +kernel
theorem dX3_add_17 : decode cX3_add 17 = .ok (.getfield 7, 3) := by decide +kernel
theorem dX3_add_20 : decode cX3_add 20 = .ok (.aload_n 0, 1) := by decide +kernel
theorem dX3_add_21 : decode cX3_add 21 = .ok (.getfield 22, 3) := by decide +kernel
theorem dX3_add_24 : decode cX3_add 24 = .ok (.iload_n 1, 1) := by decide +kernel
theorem dX3_add_25 : decode cX3_add 25 = .ok (.iastore, 1) := by decide +kernel
theorem dX3_add_26 : decode cX3_add 26 = .ok (.aload_n 0, 1) := by decide +kernel
theorem dX3_add_27 : decode cX3_add 27 = .ok (.getfield 13, 3) := by decide +kernel
theorem dX3_add_30 : decode cX3_add 30 = .ok (.aload_n 0, 1) := by decide +kernel
theorem dX3_add_31 : decode cX3_add 31 = .ok (.getfield 22, 3) := by decide +kernel
theorem dX3_add_34 : decode cX3_add 34 = .ok (.iload_n 2, 1) := by decide +kernel
theorem dX3_add_35 : decode cX3_add 35 = .ok (.iastore, 1) := by decide +kernel
theorem dX3_add_36 : decode cX3_add 36 = .ok (.aload_n 0, 1) := by decide +kernel
theorem dX3_add_37 : decode cX3_add 37 = .ok (.getfield 16, 3) := by decide +kernel
theorem dX3_add_40 : decode cX3_add 40 = .ok (.aload_n 0, 1) := by decide +kernel
theorem dX3_add_41 : decode cX3_add 41 = .ok (.getfield 22, 3) := by decide +kernel
theorem dX3_add_44 : decode cX3_add 44 = .ok (.iload_n 3, 1) := by decide +kernel
theorem dX3_add_45 : decode cX3_add 45 = .ok (.iastore, 1) := by decide +kernel
theorem dX3_add_46 : decode cX3_add 46 = .ok (.aload_n 0, 1) := by decide +kernel
theorem dX3_add_47 : decode cX3_add 47 = .ok (.getfield 19, 3) := by decide +kernel
theorem dX3_add_50 : decode cX3_add 50 = .ok (.aload_n 0, 1) := by decide +kernel
theorem dX3_add_51 : decode cX3_add 51 = .ok (.getfield 22, 3) := by decide +kernel
theorem dX3_add_54 : decode cX3_add 54 = .ok (.iconst 0, 1) := by decide +kernel
theorem dX3_add_55 : decode cX3_add 55 = .ok (.iastore, 1) := by decide +kernel
theorem dX3_add_56 : decode cX3_add 56 = .ok (.aload_n 0, 1) := by decide +kernel
theorem dX3_add_57 : decode cX3_add 57 = .ok (.dup, 1) := by decide +kernel
theorem dX3_add_58 : decode cX3_add 58 = .ok (.getfield 22, 3) := by decide +kernel
theorem dX3_add_61 : decode cX3_add 61 = .ok (.iconst 1, 1) := by decide +kernel
theorem dX3_add_62 : decode cX3_add 62 = .ok (.iadd, 1) := by decide +kernel
theorem dX3_add_63 : decode cX3_add 63 = .ok (.putfield 22, 3) := by decide +kernel
theorem dX3_add_66 : decode cX3_add 66 = .ok (.return_, 1) := by decide +kernel
theorem dX3_grow_0 : decode cX3_grow 0 = .ok (.iconst 2, 1) := by decide +kernel
theorem dX3_grow_1 : decode cX3_grow 1 = .ok (.aload_n 0, 1) := by decide +kernel
theorem dX3_grow_2 : decode cX3_grow 2 = .ok (.getfield 22, 3) := by decide +kernel
theorem dX3_grow_5 : decode cX3_grow 5 = .ok (.imul, 1) := by decide +kernel
theorem dX3_grow_6 : decode cX3_grow 6 = .ok (.istore_n 1, 1) := by decide +kernel
theorem dX3_grow_7 : decode cX3_grow 7 = .ok (.aload_n 0, 1) := by decide +kernel
theorem dX3_grow_8 : decode cX3_grow 8 = .ok (.aload_n 0, 1) := by decide +kernel
theorem dX3_grow_9 : decode cX3_grow 9 = .ok (.getfield 7, 3) := by decide +kernel
theorem dX3_grow_12 : decode cX3_grow 12 = .ok (.iload_n 1, 1) := by decide +kernel
theorem dX3_grow_13 : decode cX3_grow 13 = .ok (.invokestatic 29, 3) := by decide +kernel
theorem dX3_grow_16 : decode cX3_grow 16 = .ok (.putfield 7, 3) := by decide +kernel
theorem dX3_grow_19 : decode cX3_grow 19 = .ok (.aload_n 0, 1) := by decide +kernel
theorem dX3_grow_20 : decode cX3_grow 20 = .ok (.aload_n 0, 1) := by decide +kernel
theorem dX3_grow_21 : decode cX3_grow 21 = .ok (.getfield 13, 3) := by decide +kernel
theorem dX3_grow_24 : decode cX3_grow 24 = .ok (.iload_n 1, 1) := by decide +kernel
theorem dX3_grow_25 : decode cX3_grow 25 = .ok (.invokestatic 29, 3) := by decide +kernel
theorem dX3_grow_28 : decode cX3_grow 28 = .ok (.putfield 13, 3) := by decide +kernel
theorem dX3_grow_31 : decode cX3_grow 31 = .ok (.aload_n 0, 1) := by decide +kernel
theorem dX3_grow_32 : decode cX3_grow 32 = .ok (.aload_n 0, 1) := by decide +kernel
theorem dX3_grow_33 : decode cX3_grow 33 = .ok (.getfield 16, 3) := by decide +kernel
theorem dX3_grow_36 : decode cX3_grow 36 = .ok (.iload_n 1, 1) := by decide +kernel
theorem dX3_grow_37 : decode cX3_grow 37 = .ok (.invokestatic 29, 3) := by decide +kernel
theorem dX3_grow_40 : decode cX3_grow 40 = .ok (.putfield 16, 3) := by decide +kernel
theorem dX3_grow_43 : decode cX3_grow 43 = .ok (.aload_n 0, 1) := by decide +kernel
theorem dX3_grow_44 : decode cX3_grow 44 = .ok (.aload_n 0, 1) := by decide +kernel
theorem dX3_grow_45 : decode cX3_grow 45 = .ok (.getfield 19, 3) := by decide +kernel
theorem dX3_grow_48 : decode cX3_grow 48 = .ok (.iload_n 1, 1) := by decide +kernel
theorem dX3_grow_49 : decode cX3_grow 49 = .ok (.invokestatic 29, 3) := by decide +kernel
theorem dX3_grow_52 : decode cX3_grow 52 = .ok (.putfield 19, 3) := by decide +kernel
theorem dX3_grow_55 : decode cX3_grow 55 = .ok (.return_, 1) := by decide +kernel
theorem dX3_markStep_0 : decode cX3_markStep 0 = .ok (.aload_n 0, 1) := by decide +kernel
theorem dX3_markStep_1 : decode cX3_markStep 1 = .ok (.getfield 19, 3) := by decide +kernel
theorem dX3_markStep_4 : decode cX3_markStep 4 = .ok (.iload_n 1, 1) := by decide +kernel
theorem dX3_markStep_5 : decode cX3_markStep 5 = .ok (.iconst 1, 1) := by decide +kernel
theorem dX3_markStep_6 : decode cX3_markStep 6 = .ok (.iastore, 1) := by decide +kernel
theorem dX3_markStep_7 : decode cX3_markStep 7 = .ok (.return_, 1) := by decide +kernel
theorem dX3_setFirstNumber_0 : decode cX3_setFirstNumber 0 = .ok (.aload_n 0, 1) := by decide +kernel
theorem dX3_setFirstNumber_1 : decode cX3_setFirstNumber 1 = .ok (.getfield 13, 3) := by decide +kernel
theorem dX3_setFirstNumber_4 : decode cX3_setFirstNumber 4 = .ok (.iload_n 1, 1) := by decide +kernel
theorem dX3_setFirstNumber_5 : decode cX3_setFirstNumber 5 = .ok (.iload_n 2, 1) := by decide +kernel
theorem dX3_setFirstNumber_6 : decode cX3_setFirstNumber 6 = .ok (.iastore, 1) := by decide +kernel
theorem dX3_setFirstNumber_7 : decode cX3_setFirstNumber 7 = .ok (.return_, 1) := by decide +kernel
theorem dX3_word_0 : decode cX3_word 0 = .ok (.aload_n 0, 1) := by decide +kernel
theorem dX3_word_1 : decode cX3_word 1 = .ok (.getfield 7, 3) := by decide +kernel
theorem dX3_word_4 : decode cX3_word 4 = .ok (.iload_n 1, 1) := by decide +kernel
theorem dX3_word_5 : decode cX3_word 5 = .ok (.iaload, 1) := by decide +kernel
theorem dX3_word_6 : decode cX3_word 6 = .ok (.ireturn, 1) := by decide +kernel
theorem dX3_firstNumber_0 : decode cX3_firstNumber 0 = .ok (.aload_n 0, 1) := by decide +kernel
theorem dX3_firstNumber_1 : decode cX3_firstNumber 1 = .ok (.getfield 13, 3) := by decide +kernel
theorem dX3_firstNumber_4 : decode cX3_firstNumber 4 = .ok (.iload_n 1, 1) := by decide +kernel
theorem dX3_firstNumber_5 : decode cX3_firstNumber 5 = .ok (.iaload, 1) := by decide +kernel
theorem dX3_firstNumber_6 : decode cX3_firstNumber 6 = .ok (.ireturn, 1) := by decide +kernel
theorem dX3_secondNumber_0 : decode cX3_secondNumber 0 = .ok (.aload_n 0, 1) := by decide +kernel
theorem dX3_secondNumber_1 : decode cX3_secondNumber 1 = .ok (.getfield 16, 3) := by decide +kernel
theorem dX3_secondNumber_4 : decode cX3_secondNumber 4 = .ok (.iload_n 1, 1) := by decide +kernel
theorem dX3_secondNumber_5 : decode cX3_secondNumber 5 = .ok (.iaload, 1) := by decide +kernel
theorem dX3_secondNumber_6 : decode cX3_secondNumber 6 = .ok (.ireturn, 1) := by decide +kernel
theorem dX3_isStep_0 : decode cX3_isStep 0 = .ok (.aload_n 0, 1) := by decide +kernel
theorem dX3_isStep_1 : decode cX3_isStep 1 = .ok (.getfield 19, 3) := by decide +kernel
theorem dX3_isStep_4 : decode cX3_isStep 4 = .ok (.iload_n 1, 1) := by decide +kernel
theorem dX3_isStep_5 : decode cX3_isStep 5 = .ok (.iaload, 1) := by decide +kernel
theorem dX3_isStep_6 : decode cX3_isStep 6 = .ok (.iconst 1, 1) := by decide +kernel
theorem dX3_isStep_7 : decode cX3_isStep 7 = .ok (.if_icmp .ne 7, 3) := by decide +kernel
theorem dX3_isStep_10 : decode cX3_isStep 10 = .ok (.iconst 1, 1) := by decide +kernel
theorem dX3_isStep_11 : decode cX3_isStep 11 = .ok (.goto 4, 3) := by decide +kernel
theorem dX3_isStep_14 : decode cX3_isStep 14 = .ok (.iconst 0, 1) := by decide +kernel
theorem dX3_isStep_15 : decode cX3_isStep 15 = .ok (.ireturn, 1) := by decide +kernel
theorem dX6_init_0 : decode cX6_init 0 = .ok (.aload_n 0, 1) := by decide +kernel
theorem dX6_init_1 : decode cX6_init 1 = .ok (.invokespecial 3, 3) := by decide +kernel
theorem dX6_init_4 : decode cX6_init 4 = .ok (.aload_n 0, 1) := by decide +kernel
theorem dX6_init_5 : decode cX6_init 5 = .ok (.new 9, 3) := by decide +kernel
theorem dX6_init_8 : decode cX6_init 8 = .ok (.dup, 1) := by decide +kernel
theorem dX6_init_9 : decode cX6_init 9 = .ok (.invokespecial 11, 3) := by decide +kernel
theorem dX6_init_12 : decode cX6_init 12 = .ok (.putfield 12, 3) := by decide +kernel
theorem dX6_init_15 : decode cX6_init 15 = .ok (.aload_n 0, 1) := by decide +kernel
theorem dX6_init_16 : decode cX6_init 16 = .ok (.bipush 12, 2) := by decide +kernel
theorem dX6_init_18 : decode cX6_init 18 = .ok (.newarray .int, 2) := by decide +kernel
theorem dX6_init_20 : decode cX6_init 20 = .ok (.putfield 18, 3) := by decide +kernel
theorem dX6_init_23 : decode cX6_init 23 = .ok (.aload_n 0, 1) := by decide +kernel
theorem dX6_init_24 : decode cX6_init 24 = .ok (.bipush 12, 2) := by decide +kernel
theorem dX6_init_26 : decode cX6_init 26 = .ok (.newarray .int, 2) := by decide +kernel
theorem dX6_init_28 : decode cX6_init 28 = .ok (.putfield 22, 3) := by decide +kernel
theorem dX6_init_31 : decode cX6_init 31 = .ok (.aload_n 0, 1) := by decide +kernel
theorem dX6_init_32 : decode cX6_init 32 = .ok (.sipush 480, 3) := by decide +kernel
theorem dX6_init_35 : decode cX6_init 35 = .ok (.newarray .int, 2) := by decide +kernel
theorem dX6_init_37 : decode cX6_init 37 = .ok (.putfield 25, 3) := by decide +kernel
theorem dX6_init_40 : decode cX6_init 40 = .ok (.aload_n 0, 1) := by decide +kernel
theorem dX6_init_41 : decode cX6_init 41 = .ok (.sipush 480, 3) := by decide +kernel
theorem dX6_init_44 : decode cX6_init 44 = .ok (.newarray .int, 2) := by decide +kernel
theorem dX6_init_46 : decode cX6_init 46 = .ok (.putfield 28, 3) := by decide +kernel
theorem dX6_init_49 : decode cX6_init 49 = .ok (.aload_n 0, 1) := by decide +kernel
theorem dX6_init_50 : decode cX6_init 50 = .ok (.sipush 480, 3) := by decide +kernel
theorem dX6_init_53 : decode cX6_init 53 = .ok (.newarray .int, 2) := by decide +kernel
theorem dX6_init_55 : decode cX6_init 55 = .ok (.putfield 31, 3) := by decide +kernel
theorem dX6_init_58 : decode cX6_init 58 = .ok (.return_, 1) := by decide +kernel
theorem dX6_recipes_0 : decode cX6_recipes 0 = .ok (.aload_n 0, 1) := by decide +kernel
theorem dX6_recipes_1 : decode cX6_recipes 1 = .ok (.getfield 12, 3) := by decide +kernel
theorem dX6_recipes_4 : decode cX6_recipes 4 = .ok (.areturn, 1) := by decide +kernel
theorem dX6_addFunction_0 : decode cX6_addFunction 0 = .ok (.aload_n 0, 1) := by decide +kernel
theorem dX6_addFunction_1 : decode cX6_addFunction 1 = .ok (.getfield 18, 3) := by decide +kernel
theorem dX6_addFunction_4 : decode cX6_addFunction 4 = .ok (.aload_n 0, 1) := by decide +kernel
theorem dX6_addFunction_5 : decode cX6_addFunction 5 = .ok (.getfield 34, 3) := by decide +kernel
theorem dX6_addFunction_8 : decode cX6_addFunction 8 = .ok (.iload_n 1, 1) := by decide +kernel
theorem dX6_addFunction_9 : decode cX6_addFunction 9 = .ok (.iastore, 1) := by decide +kernel
theorem dX6_addFunction_10 : decode cX6_addFunction 10 = .ok (.aload_n 0, 1) := by decide +kernel
theorem dX6_addFunction_11 : decode cX6_addFunction 11 = .ok (.dup, 1) := by decide +kernel
theorem dX6_addFunction_12 : decode cX6_addFunction 12 = .ok (.getfield 34, 3) := by decide +kernel
theorem dX6_addFunction_15 : decode cX6_addFunction 15 = .ok (.iconst 1, 1) := by decide +kernel
theorem dX6_addFunction_16 : decode cX6_addFunction 16 = .ok (.iadd, 1) := by decide +kernel
theorem dX6_addFunction_17 : decode cX6_addFunction 17 = .ok (.putfield 34, 3) := by decide +kernel
theorem dX6_addFunction_20 : decode cX6_addFunction 20 = .ok (.aload_n 0, 1) := by decide +kernel
theorem dX6_addFunction_21 : decode cX6_addFunction 21 = .ok (.getfield 34, 3) := by decide +kernel
theorem dX6_addFunction_24 : decode cX6_addFunction 24 = .ok (.iconst 1, 1) := by decide +kernel
theorem dX6_addFunction_25 : decode cX6_addFunction 25 = .ok (.isub, 1) := by decide +kernel
theorem dX6_addFunction_26 : decode cX6_addFunction 26 = .ok (.ireturn, 1) := by decide +kernel
theorem dX6_addInstruction_0 : decode cX6_addInstruction 0 = .ok (.aload_n 0, 1) := by decide +kernel
theorem dX6_addInstruction_1 : decode cX6_addInstruction 1 = .ok (.getfield 22, 3) := by decide +kernel
theorem dX6_addInstruction_4 : decode cX6_addInstruction 4 = .ok (.iload_n 1, 1) := by decide +kernel
theorem dX6_addInstruction_5 : decode cX6_addInstruction 5 = .ok (.iaload, 1) := by decide +kernel
theorem dX6_addInstruction_6 : decode cX6_addInstruction 6 = .ok (.istore 5, 2) := by decide +kernel
theorem dX6_addInstruction_8 : decode cX6_addInstruction 8 = .ok (.iload_n 1, 1) := by decide +kernel
theorem dX6_addInstruction_9 : decode cX6_addInstruction 9 = .ok (.bipush 40, 2) := by decide +kernel
theorem dX6_addInstruction_11 : decode cX6_addInstruction 11 = .ok (.imul, 1) := by decide +kernel
theorem dX6_addInstruction_12 : decode cX6_addInstruction 12 = .ok (.iload 5, 2) := by decide +kernel
theorem dX6_addInstruction_14 : decode cX6_addInstruction 14 = .ok (.iadd, 1) := by decide +kernel
theorem dX6_addInstruction_15 : decode cX6_addInstruction 15 = .ok (.istore 6, 2) := by decide +kernel
theorem dX6_addInstruction_17 : decode cX6_addInstruction 17 = .ok (.aload_n 0, 1) := by decide +kernel
theorem dX6_addInstruction_18 : decode cX6_addInstruction 18 = .ok (.getfield 25, 3) := by decide +kernel
theorem dX6_addInstruction_21 : decode cX6_addInstruction 21 = .ok (.iload 6, 2) := by decide +kernel
theorem dX6_addInstruction_23 : decode cX6_addInstruction 23 = .ok (.iload_n 2, 1) := by decide +kernel
theorem dX6_addInstruction_24 : decode cX6_addInstruction 24 = .ok (.iastore, 1) := by decide +kernel
theorem dX6_addInstruction_25 : decode cX6_addInstruction 25 = .ok (.aload_n 0, 1) := by decide +kernel
theorem dX6_addInstruction_26 : decode cX6_addInstruction 26 = .ok (.getfield 28, 3) := by decide +kernel
theorem dX6_addInstruction_29 : decode cX6_addInstruction 29 = .ok (.iload 6, 2) := by decide +kernel
theorem dX6_addInstruction_31 : decode cX6_addInstruction 31 = .ok (.iload_n 3, 1) := by decide +kernel
theorem dX6_addInstruction_32 : decode cX6_addInstruction 32 = .ok (.iastore, 1) := by decide +kernel
theorem dX6_addInstruction_33 : decode cX6_addInstruction 33 = .ok (.aload_n 0, 1) := by decide +kernel
theorem dX6_addInstruction_34 : decode cX6_addInstruction 34 = .ok (.getfield 31, 3) := by decide +kernel
theorem dX6_addInstruction_37 : decode cX6_addInstruction 37 = .ok (.iload 6, 2) := by decide +kernel
theorem dX6_addInstruction_39 : decode cX6_addInstruction 39 = .ok (.iload 4, 2) := by decide +kernel
theorem dX6_addInstruction_41 : decode cX6_addInstruction 41 = .ok (.iastore, 1) := by decide +kernel
theorem dX6_addInstruction_42 : decode cX6_addInstruction 42 = .ok (.aload_n 0, 1) := by decide +kernel
theorem dX6_addInstruction_43 : decode cX6_addInstruction 43 = .ok (.getfield 22, 3) := by decide +kernel
theorem dX6_addInstruction_46 : decode cX6_addInstruction 46 = .ok (.iload_n 1, 1) := by decide +kernel
theorem dX6_addInstruction_47 : decode cX6_addInstruction 47 = .ok (.dup2, 1) := by decide +kernel
theorem dX6_addInstruction_48 : decode cX6_addInstruction 48 = .ok (.iaload, 1) := by decide +kernel
theorem dX6_addInstruction_49 : decode cX6_addInstruction 49 = .ok (.iconst 1, 1) := by decide +kernel
theorem dX6_addInstruction_50 : decode cX6_addInstruction 50 = .ok (.iadd, 1) := by decide +kernel
theorem dX6_addInstruction_51 : decode cX6_addInstruction 51 = .ok (.iastore, 1) := by decide +kernel
theorem dX6_addInstruction_52 : decode cX6_addInstruction 52 = .ok (.iload 5, 2) := by decide +kernel
theorem dX6_addInstruction_54 : decode cX6_addInstruction 54 = .ok (.ireturn, 1) := by decide +kernel
theorem dX6_hasFunction_0 : decode cX6_hasFunction 0 = .ok (.iload_n 1, 1) := by decide +kernel
theorem dX6_hasFunction_1 : decode cX6_hasFunction 1 = .ok (.ifCond .lt 15, 3) := by decide +kernel
theorem dX6_hasFunction_4 : decode cX6_hasFunction 4 = .ok (.iload_n 1, 1) := by decide +kernel
theorem dX6_hasFunction_5 : decode cX6_hasFunction 5 = .ok (.aload_n 0, 1) := by decide +kernel
theorem dX6_hasFunction_6 : decode cX6_hasFunction 6 = .ok (.getfield 34, 3) := by decide +kernel
theorem dX6_hasFunction_9 : decode cX6_hasFunction 9 = .ok (.if_icmp .ge 7, 3) := by decide +kernel
theorem dX6_hasFunction_12 : decode cX6_hasFunction 12 = .ok (.iconst 1, 1) := by decide +kernel
theorem dX6_hasFunction_13 : decode cX6_hasFunction 13 = .ok (.goto 4, 3) := by decide +kernel
theorem dX6_hasFunction_16 : decode cX6_hasFunction 16 = .ok (.iconst 0, 1) := by decide +kernel
theorem dX6_hasFunction_17 : decode cX6_hasFunction 17 = .ok (.ireturn, 1) := by decide +kernel
theorem dX6_functionTotal_0 : decode cX6_functionTotal 0 = .ok (.aload_n 0, 1) := by decide +kernel
theorem dX6_functionTotal_1 : decode cX6_functionTotal 1 = .ok (.getfield 34, 3) := by decide +kernel
theorem dX6_functionTotal_4 : decode cX6_functionTotal 4 = .ok (.ireturn, 1) := by decide +kernel
theorem dX6_parametersOf_0 : decode cX6_parametersOf 0 = .ok (.aload_n 0, 1) := by decide +kernel
theorem dX6_parametersOf_1 : decode cX6_parametersOf 1 = .ok (.getfield 18, 3) := by decide +kernel
theorem dX6_parametersOf_4 : decode cX6_parametersOf 4 = .ok (.iload_n 1, 1) := by decide +kernel
theorem dX6_parametersOf_5 : decode cX6_parametersOf 5 = .ok (.iaload, 1) := by decide +kernel
theorem dX6_parametersOf_6 : decode cX6_parametersOf 6 = .ok (.ireturn, 1) := by decide +kernel
theorem dX6_lengthOf_0 : decode cX6_lengthOf 0 = .ok (.aload_n 0, 1) := by decide +kernel
theorem dX6_lengthOf_1 : decode cX6_lengthOf 1 = .ok (.getfield 22, 3) := by decide +kernel
theorem dX6_lengthOf_4 : decode cX6_lengthOf 4 = .ok (.iload_n 1, 1) := by decide +kernel
theorem dX6_lengthOf_5 : decode cX6_lengthOf 5 = .ok (.iaload, 1) := by decide +kernel
theorem dX6_lengthOf_6 : decode cX6_lengthOf 6 = .ok (.ireturn, 1) := by decide +kernel
theorem dX6_wordAt_0 : decode cX6_wordAt 0 = .ok (.aload_n 0, 1) := by decide +kernel
theorem dX6_wordAt_1 : decode cX6_wordAt 1 = .ok (.getfield 25, 3) := by decide +kernel
theorem dX6_wordAt_4 : decode cX6_wordAt 4 = .ok (.iload_n 1, 1) := by decide +kernel
theorem dX6_wordAt_5 : decode cX6_wordAt 5 = .ok (.bipush 40, 2) := by decide +kernel
theorem dX6_wordAt_7 : decode cX6_wordAt 7 = .ok (.imul, 1) := by decide +kernel
theorem dX6_wordAt_8 : decode cX6_wordAt 8 = .ok (.iload_n 2, 1) := by decide +kernel
theorem dX6_wordAt_9 : decode cX6_wordAt 9 = .ok (.iadd, 1) := by decide +kernel
theorem dX6_wordAt_10 : decode cX6_wordAt 10 = .ok (.iaload, 1) := by decide +kernel
theorem dX6_wordAt_11 : decode cX6_wordAt 11 = .ok (.ireturn, 1) := by decide +kernel
theorem dX6_firstNumberAt_0 : decode cX6_firstNumberAt 0 = .ok (.aload_n 0, 1) := by decide +kernel
theorem dX6_firstNumberAt_1 : decode cX6_firstNumberAt 1 = .ok (.getfield 28, 3) := by decide +kernel
theorem dX6_firstNumberAt_4 : decode cX6_firstNumberAt 4 = .ok (.iload_n 1, 1) := by decide +kernel
theorem dX6_firstNumberAt_5 : decode cX6_firstNumberAt 5 = .ok (.bipush 40, 2) := by decide +kernel
theorem dX6_firstNumberAt_7 : decode cX6_firstNumberAt 7 = .ok (.imul, 1) := by decide +kernel
theorem dX6_firstNumberAt_8 : decode cX6_firstNumberAt 8 = .ok (.iload_n 2, 1) := by decide +kernel
theorem dX6_firstNumberAt_9 : decode cX6_firstNumberAt 9 = .ok (.iadd, 1) := by decide +kernel
theorem dX6_firstNumberAt_10 : decode cX6_firstNumberAt 10 = .ok (.iaload, 1) := by decide +kernel
theorem dX6_firstNumberAt_11 : decode cX6_firstNumberAt 11 = .ok (.ireturn, 1) := by decide +kernel
theorem dX6_secondNumberAt_0 : decode cX6_secondNumberAt 0 = .ok (.aload_n 0, 1) := by decide +kernel
theorem dX6_secondNumberAt_1 : decode cX6_secondNumberAt 1 = .ok (.getfield 31, 3) := by decide +kernel
theorem dX6_secondNumberAt_4 : decode cX6_secondNumberAt 4 = .ok (.iload_n 1, 1) := by decide +kernel
theorem dX6_secondNumberAt_5 : decode cX6_secondNumberAt 5 = .ok (.bipush 40, 2) := by decide +kernel
theorem dX6_secondNumberAt_7 : decode cX6_secondNumberAt 7 = .ok (.imul, 1) := by decide +kernel
theorem dX6_secondNumberAt_8 : decode cX6_secondNumberAt 8 = .ok (.iload_n 2, 1) := by decide +kernel
theorem dX6_secondNumberAt_9 : decode cX6_secondNumberAt 9 = .ok (.iadd, 1) := by decide +kernel
theorem dX6_secondNumberAt_10 : decode cX6_secondNumberAt 10 = .ok (.iaload, 1) := by decide +kernel
theorem dX6_secondNumberAt_11 : decode cX6_secondNumberAt 11 = .ok (.ireturn, 1) := by decide +kernel
theorem dX6_isStepAt_0 : decode cX6_isStepAt 0 = .ok (.iconst 1, 1) := by decide +kernel
theorem dX6_isStepAt_1 : decode cX6_isStepAt 1 = .ok (.ireturn, 1) := by decide +kernel
theorem dX6_hasNumbersInBounds_0 : decode cX6_hasNumbersInBounds 0 = .ok (.aload_n 0, 1) := by decide +kernel
theorem dX6_hasNumbersInBounds_1 : decode cX6_hasNumbersInBounds 1 = .ok (.iload_n 1, 1) := by decide +kernel
theorem dX6_hasNumbersInBounds_2 : decode cX6_hasNumbersInBounds 2 = .ok (.iload_n 2, 1) := by decide +kernel
theorem dX6_hasNumbersInBounds_3 : decode cX6_hasNumbersInBounds 3 = .ok (.invokevirtual 38, 3) := by decide +kernel
theorem dX6_hasNumbersInBounds_6 : decode cX6_hasNumbersInBounds 6 = .ok (.istore_n 3, 1) := by decide +kernel
theorem dX6_hasNumbersInBounds_7 : decode cX6_hasNumbersInBounds 7 = .ok (.aload_n 0, 1) := by decide +kernel
theorem dX6_hasNumbersInBounds_8 : decode cX6_hasNumbersInBounds 8 = .ok (.iload_n 1, 1) := by decide +kernel
theorem dX6_hasNumbersInBounds_9 : decode cX6_hasNumbersInBounds 9 = .ok (.iload_n 2, 1) := by decide +kernel
theorem dX6_hasNumbersInBounds_10 : decode cX6_hasNumbersInBounds 10 = .ok (.invokevirtual 42, 3) := by decide +kernel
theorem dX6_hasNumbersInBounds_13 : decode cX6_hasNumbersInBounds 13 = .ok (.istore 4, 2) := by decide +kernel
theorem dX6_hasNumbersInBounds_15 : decode cX6_hasNumbersInBounds 15 = .ok (.aload_n 0, 1) := by decide +kernel
theorem dX6_hasNumbersInBounds_16 : decode cX6_hasNumbersInBounds 16 = .ok (.iload_n 1, 1) := by decide +kernel
theorem dX6_hasNumbersInBounds_17 : decode cX6_hasNumbersInBounds 17 = .ok (.iload_n 2, 1) := by decide +kernel
theorem dX6_hasNumbersInBounds_18 : decode cX6_hasNumbersInBounds 18 = .ok (.invokevirtual 45, 3) := by decide +kernel
theorem dX6_hasNumbersInBounds_21 : decode cX6_hasNumbersInBounds 21 = .ok (.tableswitch 171 1 15 #[75, 75, 171, 171, 171, 171, 171, 91, 91, 111, 171, 171, 117, 147, 162], 75) := by decide +kernel
theorem dX6_hasNumbersInBounds_96 : decode cX6_hasNumbersInBounds 96 = .ok (.iload_n 3, 1) := by decide +kernel
theorem dX6_hasNumbersInBounds_97 : decode cX6_hasNumbersInBounds 97 = .ok (.ifCond .lt 13, 3) := by decide +kernel
theorem dX6_hasNumbersInBounds_100 : decode cX6_hasNumbersInBounds 100 = .ok (.iload_n 3, 1) := by decide +kernel
theorem dX6_hasNumbersInBounds_101 : decode cX6_hasNumbersInBounds 101 = .ok (.bipush 8, 2) := by decide +kernel
theorem dX6_hasNumbersInBounds_103 : decode cX6_hasNumbersInBounds 103 = .ok (.if_icmp .ge 7, 3) := by decide +kernel
theorem dX6_hasNumbersInBounds_106 : decode cX6_hasNumbersInBounds 106 = .ok (.iconst 1, 1) := by decide +kernel
theorem dX6_hasNumbersInBounds_107 : decode cX6_hasNumbersInBounds 107 = .ok (.goto 4, 3) := by decide +kernel
theorem dX6_hasNumbersInBounds_110 : decode cX6_hasNumbersInBounds 110 = .ok (.iconst 0, 1) := by decide +kernel
theorem dX6_hasNumbersInBounds_111 : decode cX6_hasNumbersInBounds 111 = .ok (.ireturn, 1) := by decide +kernel
theorem dX6_hasNumbersInBounds_112 : decode cX6_hasNumbersInBounds 112 = .ok (.iload_n 3, 1) := by decide +kernel
theorem dX6_hasNumbersInBounds_113 : decode cX6_hasNumbersInBounds 113 = .ok (.ifCond .lt 17, 3) := by decide +kernel
theorem dX6_hasNumbersInBounds_116 : decode cX6_hasNumbersInBounds 116 = .ok (.iload_n 3, 1) := by decide +kernel
theorem dX6_hasNumbersInBounds_117 : decode cX6_hasNumbersInBounds 117 = .ok (.aload_n 0, 1) := by decide +kernel
theorem dX6_hasNumbersInBounds_118 : decode cX6_hasNumbersInBounds 118 = .ok (.getfield 22, 3) := by decide +kernel
theorem dX6_hasNumbersInBounds_121 : decode cX6_hasNumbersInBounds 121 = .ok (.iload_n 1, 1) := by decide +kernel
theorem dX6_hasNumbersInBounds_122 : decode cX6_hasNumbersInBounds 122 = .ok (.iaload, 1) := by decide +kernel
theorem dX6_hasNumbersInBounds_123 : decode cX6_hasNumbersInBounds 123 = .ok (.if_icmp .ge 7, 3) := by decide +kernel
theorem dX6_hasNumbersInBounds_126 : decode cX6_hasNumbersInBounds 126 = .ok (.iconst 1, 1) := by decide +kernel
theorem dX6_hasNumbersInBounds_127 : decode cX6_hasNumbersInBounds 127 = .ok (.goto 4, 3) := by decide +kernel
theorem dX6_hasNumbersInBounds_130 : decode cX6_hasNumbersInBounds 130 = .ok (.iconst 0, 1) := by decide +kernel
theorem dX6_hasNumbersInBounds_131 : decode cX6_hasNumbersInBounds 131 = .ok (.ireturn, 1) := by decide +kernel
theorem dX6_hasNumbersInBounds_132 : decode cX6_hasNumbersInBounds 132 = .ok (.aload_n 0, 1) := by decide +kernel
theorem dX6_hasNumbersInBounds_133 : decode cX6_hasNumbersInBounds 133 = .ok (.iload_n 3, 1) := by decide +kernel
theorem dX6_hasNumbersInBounds_134 : decode cX6_hasNumbersInBounds 134 = .ok (.invokevirtual 48, 3) := by decide +kernel
theorem dX6_hasNumbersInBounds_137 : decode cX6_hasNumbersInBounds 137 = .ok (.ireturn, 1) := by decide +kernel
theorem dX6_hasNumbersInBounds_138 : decode cX6_hasNumbersInBounds 138 = .ok (.aload_n 0, 1) := by decide +kernel
theorem dX6_hasNumbersInBounds_139 : decode cX6_hasNumbersInBounds 139 = .ok (.iload_n 3, 1) := by decide +kernel
theorem dX6_hasNumbersInBounds_140 : decode cX6_hasNumbersInBounds 140 = .ok (.invokevirtual 48, 3) := by decide +kernel
theorem dX6_hasNumbersInBounds_143 : decode cX6_hasNumbersInBounds 143 = .ok (.ifCond .eq 23, 3) := by decide +kernel
theorem dX6_hasNumbersInBounds_146 : decode cX6_hasNumbersInBounds 146 = .ok (.iload 4, 2) := by decide +kernel
theorem dX6_hasNumbersInBounds_148 : decode cX6_hasNumbersInBounds 148 = .ok (.ifCond .lt 18, 3) := by decide +kernel
theorem dX6_hasNumbersInBounds_151 : decode cX6_hasNumbersInBounds 151 = .ok (.iload 4, 2) := by decide +kernel
theorem dX6_hasNumbersInBounds_153 : decode cX6_hasNumbersInBounds 153 = .ok (.aload_n 0, 1) := by decide +kernel
theorem dX6_hasNumbersInBounds_154 : decode cX6_hasNumbersInBounds 154 = .ok (.getfield 18, 3) := by decide +kernel
theorem dX6_hasNumbersInBounds_157 : decode cX6_hasNumbersInBounds 157 = .ok (.iload_n 3, 1) := by decide +kernel
theorem dX6_hasNumbersInBounds_158 : decode cX6_hasNumbersInBounds 158 = .ok (.iaload, 1) := by decide +kernel
theorem dX6_hasNumbersInBounds_159 : decode cX6_hasNumbersInBounds 159 = .ok (.if_icmp .gt 7, 3) := by decide +kernel
theorem dX6_hasNumbersInBounds_162 : decode cX6_hasNumbersInBounds 162 = .ok (.iconst 1, 1) := by decide +kernel
theorem dX6_hasNumbersInBounds_163 : decode cX6_hasNumbersInBounds 163 = .ok (.goto 4, 3) := by decide +kernel
theorem dX6_hasNumbersInBounds_166 : decode cX6_hasNumbersInBounds 166 = .ok (.iconst 0, 1) := by decide +kernel
theorem dX6_hasNumbersInBounds_167 : decode cX6_hasNumbersInBounds 167 = .ok (.ireturn, 1) := by decide +kernel
theorem dX6_hasNumbersInBounds_168 : decode cX6_hasNumbersInBounds 168 = .ok (.iload_n 3, 1) := by decide +kernel
theorem dX6_hasNumbersInBounds_169 : decode cX6_hasNumbersInBounds 169 = .ok (.ifCond .lt 12, 3) := by decide +kernel
theorem dX6_hasNumbersInBounds_172 : decode cX6_hasNumbersInBounds 172 = .ok (.iload_n 3, 1) := by decide +kernel
theorem dX6_hasNumbersInBounds_173 : decode cX6_hasNumbersInBounds 173 = .ok (.iconst 3, 1) := by decide +kernel
theorem dX6_hasNumbersInBounds_174 : decode cX6_hasNumbersInBounds 174 = .ok (.if_icmp .gt 7, 3) := by decide +kernel
theorem dX6_hasNumbersInBounds_177 : decode cX6_hasNumbersInBounds 177 = .ok (.iconst 1, 1) := by decide +kernel
theorem dX6_hasNumbersInBounds_178 : decode cX6_hasNumbersInBounds 178 = .ok (.goto 4, 3) := by decide +kernel
theorem dX6_hasNumbersInBounds_181 : decode cX6_hasNumbersInBounds 181 = .ok (.iconst 0, 1) := by decide +kernel
theorem dX6_hasNumbersInBounds_182 : decode cX6_hasNumbersInBounds 182 = .ok (.ireturn, 1) := by decide +kernel
theorem dX6_hasNumbersInBounds_183 : decode cX6_hasNumbersInBounds 183 = .ok (.aload_n 0, 1) := by decide +kernel
theorem dX6_hasNumbersInBounds_184 : decode cX6_hasNumbersInBounds 184 = .ok (.getfield 12, 3) := by decide +kernel
theorem dX6_hasNumbersInBounds_187 : decode cX6_hasNumbersInBounds 187 = .ok (.iload_n 3, 1) := by decide +kernel
theorem dX6_hasNumbersInBounds_188 : decode cX6_hasNumbersInBounds 188 = .ok (.invokevirtual 52, 3) := by decide +kernel
theorem dX6_hasNumbersInBounds_191 : decode cX6_hasNumbersInBounds 191 = .ok (.ireturn, 1) := by decide +kernel
theorem dX6_hasNumbersInBounds_192 : decode cX6_hasNumbersInBounds 192 = .ok (.iconst 1, 1) := by decide +kernel
theorem dX6_hasNumbersInBounds_193 : decode cX6_hasNumbersInBounds 193 = .ok (.ireturn, 1) := by decide +kernel
theorem dX6_popsOf_0 : decode cX6_popsOf 0 = .ok (.iload_n 1, 1) := by decide +kernel
theorem dX6_popsOf_1 : decode cX6_popsOf 1 = .ok (.tableswitch 141 2 26 #[117, 115, 115, 115, 117, 117, 141, 117, 119, 117, 117, 126, 128, 132, 141, 141, 141, 141, 141, 115, 128, 141, 141, 117, 115], 115) := by decide +kernel
theorem dX6_popsOf_116 : decode cX6_popsOf 116 = .ok (.iconst 2, 1) := by decide +kernel
theorem dX6_popsOf_117 : decode cX6_popsOf 117 = .ok (.ireturn, 1) := by decide +kernel
theorem dX6_popsOf_118 : decode cX6_popsOf 118 = .ok (.iconst 1, 1) := by decide +kernel
theorem dX6_popsOf_119 : decode cX6_popsOf 119 = .ok (.ireturn, 1) := by decide +kernel
theorem dX6_popsOf_120 : decode cX6_popsOf 120 = .ok (.aload_n 0, 1) := by decide +kernel
theorem dX6_popsOf_121 : decode cX6_popsOf 121 = .ok (.getfield 18, 3) := by decide +kernel
theorem dX6_popsOf_124 : decode cX6_popsOf 124 = .ok (.iload_n 2, 1) := by decide +kernel
theorem dX6_popsOf_125 : decode cX6_popsOf 125 = .ok (.iaload, 1) := by decide +kernel
theorem dX6_popsOf_126 : decode cX6_popsOf 126 = .ok (.ireturn, 1) := by decide +kernel
theorem dX6_popsOf_127 : decode cX6_popsOf 127 = .ok (.iload_n 3, 1) := by decide +kernel
theorem dX6_popsOf_128 : decode cX6_popsOf 128 = .ok (.ireturn, 1) := by decide +kernel
theorem dX6_popsOf_129 : decode cX6_popsOf 129 = .ok (.iload_n 2, 1) := by decide +kernel
theorem dX6_popsOf_130 : decode cX6_popsOf 130 = .ok (.iconst 1, 1) := by decide +kernel
theorem dX6_popsOf_131 : decode cX6_popsOf 131 = .ok (.iadd, 1) := by decide +kernel
theorem dX6_popsOf_132 : decode cX6_popsOf 132 = .ok (.ireturn, 1) := by decide +kernel
theorem dX6_popsOf_133 : decode cX6_popsOf 133 = .ok (.aload_n 0, 1) := by decide +kernel
theorem dX6_popsOf_134 : decode cX6_popsOf 134 = .ok (.getfield 12, 3) := by decide +kernel
theorem dX6_popsOf_137 : decode cX6_popsOf 137 = .ok (.iload_n 2, 1) := by decide +kernel
theorem dX6_popsOf_138 : decode cX6_popsOf 138 = .ok (.invokevirtual 55, 3) := by decide +kernel
theorem dX6_popsOf_141 : decode cX6_popsOf 141 = .ok (.ireturn, 1) := by decide +kernel
theorem dX6_popsOf_142 : decode cX6_popsOf 142 = .ok (.iconst 0, 1) := by decide +kernel
theorem dX6_popsOf_143 : decode cX6_popsOf 143 = .ok (.ireturn, 1) := by decide +kernel
theorem dX6_pushesOf_0 : decode cX6_pushesOf 0 = .ok (.iload_n 1, 1) := by decide +kernel
theorem dX6_pushesOf_1 : decode cX6_pushesOf 1 = .ok (.tableswitch 63 2 12 #[59, 63, 63, 63, 61, 59, 59, 59, 63, 59, 59], 59) := by decide +kernel
theorem dX6_pushesOf_60 : decode cX6_pushesOf 60 = .ok (.iconst 0, 1) := by decide +kernel
theorem dX6_pushesOf_61 : decode cX6_pushesOf 61 = .ok (.ireturn, 1) := by decide +kernel
theorem dX6_pushesOf_62 : decode cX6_pushesOf 62 = .ok (.iconst 2, 1) := by decide +kernel
theorem dX6_pushesOf_63 : decode cX6_pushesOf 63 = .ok (.ireturn, 1) := by decide +kernel
theorem dX6_pushesOf_64 : decode cX6_pushesOf 64 = .ok (.iconst 1, 1) := by decide +kernel
theorem dX6_pushesOf_65 : decode cX6_pushesOf 65 = .ok (.ireturn, 1) := by decide +kernel
theorem dX7_init_0 : decode cX7_init 0 = .ok (.aload_n 0, 1) := by decide +kernel
theorem dX7_init_1 : decode cX7_init 1 = .ok (.invokespecial 3, 3) := by decide +kernel
theorem dX7_init_4 : decode cX7_init 4 = .ok (.aload_n 0, 1) := by decide +kernel
theorem dX7_init_5 : decode cX7_init 5 = .ok (.bipush 8, 2) := by decide +kernel
theorem dX7_init_7 : decode cX7_init 7 = .ok (.newarray .int, 2) := by decide +kernel
theorem dX7_init_9 : decode cX7_init 9 = .ok (.putfield 9, 3) := by decide +kernel
theorem dX7_init_12 : decode cX7_init 12 = .ok (.aload_n 0, 1) := by decide +kernel
theorem dX7_init_13 : decode cX7_init 13 = .ok (.bipush 8, 2) := by decide +kernel
theorem dX7_init_15 : decode cX7_init 15 = .ok (.newarray .int, 2) := by decide +kernel
theorem dX7_init_17 : decode cX7_init 17 = .ok (.putfield 15, 3) := by decide +kernel
theorem dX7_init_20 : decode cX7_init 20 = .ok (.aload_n 0, 1) := by decide +kernel
theorem dX7_init_21 : decode cX7_init 21 = .ok (.bipush 8, 2) := by decide +kernel
theorem dX7_init_23 : decode cX7_init 23 = .ok (.newarray .int, 2) := by decide +kernel
theorem dX7_init_25 : decode cX7_init 25 = .ok (.putfield 18, 3) := by decide +kernel
theorem dX7_init_28 : decode cX7_init 28 = .ok (.aload_n 0, 1) := by decide +kernel
theorem dX7_init_29 : decode cX7_init 29 = .ok (.bipush 96, 2) := by decide +kernel
theorem dX7_init_31 : decode cX7_init 31 = .ok (.newarray .int, 2) := by decide +kernel
theorem dX7_init_33 : decode cX7_init 33 = .ok (.putfield 21, 3) := by decide +kernel
theorem dX7_init_36 : decode cX7_init 36 = .ok (.aload_n 0, 1) := by decide +kernel
theorem dX7_init_37 : decode cX7_init 37 = .ok (.bipush 96, 2) := by decide +kernel
theorem dX7_init_39 : decode cX7_init 39 = .ok (.newarray .int, 2) := by decide +kernel
theorem dX7_init_41 : decode cX7_init 41 = .ok (.putfield 24, 3) := by decide +kernel
theorem dX7_init_44 : decode cX7_init 44 = .ok (.return_, 1) := by decide +kernel
theorem dX7_isReadable_0 : decode cX7_isReadable 0 = .ok (.lload_n 0, 1) := by decide +kernel
theorem dX7_isReadable_1 : decode cX7_isReadable 1 = .ok (.lconst 0, 1) := by decide +kernel
theorem dX7_isReadable_2 : decode cX7_isReadable 2 = .ok (.lcmp, 1) := by decide +kernel
theorem dX7_isReadable_3 : decode cX7_isReadable 3 = .ok (.ifCond .le 12, 3) := by decide +kernel
theorem dX7_isReadable_6 : decode cX7_isReadable 6 = .ok (.lload_n 0, 1) := by decide +kernel
theorem dX7_isReadable_7 : decode cX7_isReadable 7 = .ok (.bipush 60, 2) := by decide +kernel
theorem dX7_isReadable_9 : decode cX7_isReadable 9 = .ok (.lshr, 1) := by decide +kernel
theorem dX7_isReadable_10 : decode cX7_isReadable 10 = .ok (.lconst 0, 1) := by decide +kernel
theorem dX7_isReadable_11 : decode cX7_isReadable 11 = .ok (.lcmp, 1) := by decide +kernel
theorem dX7_isReadable_12 : decode cX7_isReadable 12 = .ok (.ifCond .eq 5, 3) := by decide +kernel
theorem dX7_isReadable_15 : decode cX7_isReadable 15 = .ok (.iconst 0, 1) := by decide +kernel
theorem dX7_isReadable_16 : decode cX7_isReadable 16 = .ok (.ireturn, 1) := by decide +kernel
theorem dX7_isReadable_17 : decode cX7_isReadable 17 = .ok (.lload_n 0, 1) := by decide +kernel
theorem dX7_isReadable_18 : decode cX7_isReadable 18 = .ok (.lstore_n 2, 1) := by decide +kernel
theorem dX7_isReadable_19 : decode cX7_isReadable 19 = .ok (.iconst 0, 1) := by decide +kernel
theorem dX7_isReadable_20 : decode cX7_isReadable 20 = .ok (.istore 4, 2) := by decide +kernel
theorem dX7_isReadable_22 : decode cX7_isReadable 22 = .ok (.iload 4, 2) := by decide +kernel
theorem dX7_isReadable_24 : decode cX7_isReadable 24 = .ok (.bipush 12, 2) := by decide +kernel
theorem dX7_isReadable_26 : decode cX7_isReadable 26 = .ok (.if_icmp .ge 41, 3) := by decide +kernel
theorem dX7_isReadable_29 : decode cX7_isReadable 29 = .ok (.lload_n 2, 1) := by decide +kernel
theorem dX7_isReadable_30 : decode cX7_isReadable 30 = .ok (.lconst 0, 1) := by decide +kernel
theorem dX7_isReadable_31 : decode cX7_isReadable 31 = .ok (.lcmp, 1) := by decide +kernel
theorem dX7_isReadable_32 : decode cX7_isReadable 32 = .ok (.ifCond .eq 35, 3) := by decide +kernel
theorem dX7_isReadable_35 : decode cX7_isReadable 35 = .ok (.lload_n 2, 1) := by decide +kernel
theorem dX7_isReadable_36 : decode cX7_isReadable 36 = .ok (.ldc2_w 27, 3) := by decide +kernel
theorem dX7_isReadable_39 : decode cX7_isReadable 39 = .ok (.land, 1) := by decide +kernel
theorem dX7_isReadable_40 : decode cX7_isReadable 40 = .ok (.l2i, 1) := by decide +kernel
theorem dX7_isReadable_41 : decode cX7_isReadable 41 = .ok (.istore 5, 2) := by decide +kernel
theorem dX7_isReadable_43 : decode cX7_isReadable 43 = .ok (.iload 5, 2) := by decide +kernel
theorem dX7_isReadable_45 : decode cX7_isReadable 45 = .ok (.ifCond .eq 10, 3) := by decide +kernel
theorem dX7_isReadable_48 : decode cX7_isReadable 48 = .ok (.iload 5, 2) := by decide +kernel
theorem dX7_isReadable_50 : decode cX7_isReadable 50 = .ok (.bipush 27, 2) := by decide +kernel
theorem dX7_isReadable_52 : decode cX7_isReadable 52 = .ok (.if_icmp .le 5, 3) := by decide +kernel
theorem dX7_isReadable_55 : decode cX7_isReadable 55 = .ok (.iconst 0, 1) := by decide +kernel
theorem dX7_isReadable_56 : decode cX7_isReadable 56 = .ok (.ireturn, 1) := by decide +kernel
theorem dX7_isReadable_57 : decode cX7_isReadable 57 = .ok (.lload_n 2, 1) := by decide +kernel
theorem dX7_isReadable_58 : decode cX7_isReadable 58 = .ok (.iconst 5, 1) := by decide +kernel
theorem dX7_isReadable_59 : decode cX7_isReadable 59 = .ok (.lshr, 1) := by decide +kernel
theorem dX7_isReadable_60 : decode cX7_isReadable 60 = .ok (.lstore_n 2, 1) := by decide +kernel
theorem dX7_isReadable_61 : decode cX7_isReadable 61 = .ok (.iinc 4 1, 3) := by decide +kernel
theorem dX7_isReadable_64 : decode cX7_isReadable 64 = .ok (.goto (-42), 3) := by decide +kernel
theorem dX7_isReadable_67 : decode cX7_isReadable 67 = .ok (.iconst 1, 1) := by decide +kernel
theorem dX7_isReadable_68 : decode cX7_isReadable 68 = .ok (.ireturn, 1) := by decide +kernel
theorem dX7_add_0 : decode cX7_add 0 = .ok (.aload_n 0, 1) := by decide +kernel
theorem dX7_add_1 : decode cX7_add 1 = .ok (.getfield 29, 3) := by decide +kernel
theorem dX7_add_4 : decode cX7_add 4 = .ok (.istore_n 3, 1) := by decide +kernel
theorem dX7_add_5 : decode cX7_add 5 = .ok (.aload_n 0, 1) := by decide +kernel
theorem dX7_add_6 : decode cX7_add 6 = .ok (.getfield 18, 3) := by decide +kernel
theorem dX7_add_9 : decode cX7_add 9 = .ok (.iload_n 3, 1) := by decide +kernel
theorem dX7_add_10 : decode cX7_add 10 = .ok (.aload_n 0, 1) := by decide +kernel
theorem dX7_add_11 : decode cX7_add 11 = .ok (.getfield 33, 3) := by decide +kernel
theorem dX7_add_14 : decode cX7_add 14 = .ok (.iastore, 1) := by decide +kernel
theorem dX7_add_15 : decode cX7_add 15 = .ok (.lload_n 1, 1) := by decide +kernel
theorem dX7_add_16 : decode cX7_add 16 = .ok (.lstore 4, 2) := by decide +kernel
theorem dX7_add_18 : decode cX7_add 18 = .ok (.iconst 0, 1) := by decide +kernel
theorem dX7_add_19 : decode cX7_add 19 = .ok (.istore 6, 2) := by decide +kernel
theorem dX7_add_21 : decode cX7_add 21 = .ok (.iload 6, 2) := by decide +kernel
theorem dX7_add_23 : decode cX7_add 23 = .ok (.bipush 12, 2) := by decide +kernel
theorem dX7_add_25 : decode cX7_add 25 = .ok (.if_icmp .ge 34, 3) := by decide +kernel
theorem dX7_add_28 : decode cX7_add 28 = .ok (.lload 4, 2) := by decide +kernel
theorem dX7_add_30 : decode cX7_add 30 = .ok (.lconst 0, 1) := by decide +kernel
theorem dX7_add_31 : decode cX7_add 31 = .ok (.lcmp, 1) := by decide +kernel
theorem dX7_add_32 : decode cX7_add 32 = .ok (.ifCond .eq 27, 3) := by decide +kernel
theorem dX7_add_35 : decode cX7_add 35 = .ok (.aload_n 0, 1) := by decide +kernel
theorem dX7_add_36 : decode cX7_add 36 = .ok (.iload_n 3, 1) := by decide +kernel
theorem dX7_add_37 : decode cX7_add 37 = .ok (.lload 4, 2) := by decide +kernel
theorem dX7_add_39 : decode cX7_add 39 = .ok (.ldc2_w 27, 3) := by decide +kernel
theorem dX7_add_42 : decode cX7_add 42 = .ok (.land, 1) := by decide +kernel
theorem dX7_add_43 : decode cX7_add 43 = .ok (.l2i, 1) := by decide +kernel
theorem dX7_add_44 : decode cX7_add 44 = .ok (.invokevirtual 36, 3) := by decide +kernel
theorem dX7_add_47 : decode cX7_add 47 = .ok (.lload 4, 2) := by decide +kernel
theorem dX7_add_49 : decode cX7_add 49 = .ok (.iconst 5, 1) := by decide +kernel
theorem dX7_add_50 : decode cX7_add 50 = .ok (.lshr, 1) := by decide +kernel
theorem dX7_add_51 : decode cX7_add 51 = .ok (.lstore 4, 2) := by decide +kernel
theorem dX7_add_53 : decode cX7_add 53 = .ok (.iinc 6 1, 3) := by decide +kernel
theorem dX7_add_56 : decode cX7_add 56 = .ok (.goto (-35), 3) := by decide +kernel
theorem dX7_add_59 : decode cX7_add 59 = .ok (.aload_n 0, 1) := by decide +kernel
theorem dX7_add_60 : decode cX7_add 60 = .ok (.dup, 1) := by decide +kernel
theorem dX7_add_61 : decode cX7_add 61 = .ok (.getfield 29, 3) := by decide +kernel
theorem dX7_add_64 : decode cX7_add 64 = .ok (.iconst 1, 1) := by decide +kernel
theorem dX7_add_65 : decode cX7_add 65 = .ok (.iadd, 1) := by decide +kernel
theorem dX7_add_66 : decode cX7_add 66 = .ok (.putfield 29, 3) := by decide +kernel
theorem dX7_add_69 : decode cX7_add 69 = .ok (.iload_n 3, 1) := by decide +kernel
theorem dX7_add_70 : decode cX7_add 70 = .ok (.ireturn, 1) := by decide +kernel
theorem dX7_addDigit_0 : decode cX7_addDigit 0 = .ok (.aload_n 0, 1) := by decide +kernel
theorem dX7_addDigit_1 : decode cX7_addDigit 1 = .ok (.getfield 21, 3) := by decide +kernel
theorem dX7_addDigit_4 : decode cX7_addDigit 4 = .ok (.iload_n 1, 1) := by decide +kernel
theorem dX7_addDigit_5 : decode cX7_addDigit 5 = .ok (.bipush 12, 2) := by decide +kernel
theorem dX7_addDigit_7 : decode cX7_addDigit 7 = .ok (.imul, 1) := by decide +kernel
theorem dX7_addDigit_8 : decode cX7_addDigit 8 = .ok (.aload_n 0, 1) := by decide +kernel
theorem dX7_addDigit_9 : decode cX7_addDigit 9 = .ok (.getfield 9, 3) := by decide +kernel
theorem dX7_addDigit_12 : decode cX7_addDigit 12 = .ok (.iload_n 1, 1) := by decide +kernel
theorem dX7_addDigit_13 : decode cX7_addDigit 13 = .ok (.iaload, 1) := by decide +kernel
theorem dX7_addDigit_14 : decode cX7_addDigit 14 = .ok (.iadd, 1) := by decide +kernel
theorem dX7_addDigit_15 : decode cX7_addDigit 15 = .ok (.iload_n 2, 1) := by decide +kernel
theorem dX7_addDigit_16 : decode cX7_addDigit 16 = .ok (.iastore, 1) := by decide +kernel
theorem dX7_addDigit_17 : decode cX7_addDigit 17 = .ok (.aload_n 0, 1) := by decide +kernel
theorem dX7_addDigit_18 : decode cX7_addDigit 18 = .ok (.getfield 9, 3) := by decide +kernel
theorem dX7_addDigit_21 : decode cX7_addDigit 21 = .ok (.iload_n 1, 1) := by decide +kernel
theorem dX7_addDigit_22 : decode cX7_addDigit 22 = .ok (.dup2, 1) := by decide +kernel
theorem dX7_addDigit_23 : decode cX7_addDigit 23 = .ok (.iaload, 1) := by decide +kernel
theorem dX7_addDigit_24 : decode cX7_addDigit 24 = .ok (.iconst 1, 1) := by decide +kernel
theorem dX7_addDigit_25 : decode cX7_addDigit 25 = .ok (.iadd, 1) := by decide +kernel
theorem dX7_addDigit_26 : decode cX7_addDigit 26 = .ok (.iastore, 1) := by decide +kernel
theorem dX7_addDigit_27 : decode cX7_addDigit 27 = .ok (.iload_n 2, 1) := by decide +kernel
theorem dX7_addDigit_28 : decode cX7_addDigit 28 = .ok (.bipush 27, 2) := by decide +kernel
theorem dX7_addDigit_30 : decode cX7_addDigit 30 = .ok (.if_icmp .ne 16, 3) := by decide +kernel
theorem dX7_addDigit_33 : decode cX7_addDigit 33 = .ok (.aload_n 0, 1) := by decide +kernel
theorem dX7_addDigit_34 : decode cX7_addDigit 34 = .ok (.getfield 15, 3) := by decide +kernel
theorem dX7_addDigit_37 : decode cX7_addDigit 37 = .ok (.iload_n 1, 1) := by decide +kernel
theorem dX7_addDigit_38 : decode cX7_addDigit 38 = .ok (.dup2, 1) := by decide +kernel
theorem dX7_addDigit_39 : decode cX7_addDigit 39 = .ok (.iaload, 1) := by decide +kernel
theorem dX7_addDigit_40 : decode cX7_addDigit 40 = .ok (.iconst 1, 1) := by decide +kernel
theorem dX7_addDigit_41 : decode cX7_addDigit 41 = .ok (.iadd, 1) := by decide +kernel
theorem dX7_addDigit_42 : decode cX7_addDigit 42 = .ok (.iastore, 1) := by decide +kernel
theorem dX7_addDigit_43 : decode cX7_addDigit 43 = .ok (.goto 25, 3) := by decide +kernel
theorem dX7_addDigit_46 : decode cX7_addDigit 46 = .ok (.aload_n 0, 1) := by decide +kernel
theorem dX7_addDigit_47 : decode cX7_addDigit 47 = .ok (.getfield 24, 3) := by decide +kernel
theorem dX7_addDigit_50 : decode cX7_addDigit 50 = .ok (.aload_n 0, 1) := by decide +kernel
theorem dX7_addDigit_51 : decode cX7_addDigit 51 = .ok (.getfield 33, 3) := by decide +kernel
theorem dX7_addDigit_54 : decode cX7_addDigit 54 = .ok (.iload_n 2, 1) := by decide +kernel
theorem dX7_addDigit_55 : decode cX7_addDigit 55 = .ok (.iconst 1, 1) := by decide +kernel
theorem dX7_addDigit_56 : decode cX7_addDigit 56 = .ok (.isub, 1) := by decide +kernel
theorem dX7_addDigit_57 : decode cX7_addDigit 57 = .ok (.iastore, 1) := by decide +kernel
theorem dX7_addDigit_58 : decode cX7_addDigit 58 = .ok (.aload_n 0, 1) := by decide +kernel
theorem dX7_addDigit_59 : decode cX7_addDigit 59 = .ok (.dup, 1) := by decide +kernel
theorem dX7_addDigit_60 : decode cX7_addDigit 60 = .ok (.getfield 33, 3) := by decide +kernel
theorem dX7_addDigit_63 : decode cX7_addDigit 63 = .ok (.iconst 1, 1) := by decide +kernel
theorem dX7_addDigit_64 : decode cX7_addDigit 64 = .ok (.iadd, 1) := by decide +kernel
theorem dX7_addDigit_65 : decode cX7_addDigit 65 = .ok (.putfield 33, 3) := by decide +kernel
theorem dX7_addDigit_68 : decode cX7_addDigit 68 = .ok (.return_, 1) := by decide +kernel
theorem dX7_has_0 : decode cX7_has 0 = .ok (.iload_n 1, 1) := by decide +kernel
theorem dX7_has_1 : decode cX7_has 1 = .ok (.ifCond .lt 15, 3) := by decide +kernel
theorem dX7_has_4 : decode cX7_has 4 = .ok (.iload_n 1, 1) := by decide +kernel
theorem dX7_has_5 : decode cX7_has 5 = .ok (.aload_n 0, 1) := by decide +kernel
theorem dX7_has_6 : decode cX7_has 6 = .ok (.getfield 29, 3) := by decide +kernel
theorem dX7_has_9 : decode cX7_has 9 = .ok (.if_icmp .ge 7, 3) := by decide +kernel
theorem dX7_has_12 : decode cX7_has 12 = .ok (.iconst 1, 1) := by decide +kernel
theorem dX7_has_13 : decode cX7_has 13 = .ok (.goto 4, 3) := by decide +kernel
theorem dX7_has_16 : decode cX7_has 16 = .ok (.iconst 0, 1) := by decide +kernel
theorem dX7_has_17 : decode cX7_has 17 = .ok (.ireturn, 1) := by decide +kernel
theorem dX7_total_0 : decode cX7_total 0 = .ok (.aload_n 0, 1) := by decide +kernel
theorem dX7_total_1 : decode cX7_total 1 = .ok (.getfield 29, 3) := by decide +kernel
theorem dX7_total_4 : decode cX7_total 4 = .ok (.ireturn, 1) := by decide +kernel
theorem dX7_lengthOf_0 : decode cX7_lengthOf 0 = .ok (.aload_n 0, 1) := by decide +kernel
theorem dX7_lengthOf_1 : decode cX7_lengthOf 1 = .ok (.getfield 9, 3) := by decide +kernel
theorem dX7_lengthOf_4 : decode cX7_lengthOf 4 = .ok (.iload_n 1, 1) := by decide +kernel
theorem dX7_lengthOf_5 : decode cX7_lengthOf 5 = .ok (.iaload, 1) := by decide +kernel
theorem dX7_lengthOf_6 : decode cX7_lengthOf 6 = .ok (.ireturn, 1) := by decide +kernel
theorem dX7_holesOf_0 : decode cX7_holesOf 0 = .ok (.aload_n 0, 1) := by decide +kernel
theorem dX7_holesOf_1 : decode cX7_holesOf 1 = .ok (.getfield 15, 3) := by decide +kernel
theorem dX7_holesOf_4 : decode cX7_holesOf 4 = .ok (.iload_n 1, 1) := by decide +kernel
theorem dX7_holesOf_5 : decode cX7_holesOf 5 = .ok (.iaload, 1) := by decide +kernel
theorem dX7_holesOf_6 : decode cX7_holesOf 6 = .ok (.ireturn, 1) := by decide +kernel
theorem dX7_isHole_0 : decode cX7_isHole 0 = .ok (.aload_n 0, 1) := by decide +kernel
theorem dX7_isHole_1 : decode cX7_isHole 1 = .ok (.getfield 21, 3) := by decide +kernel
theorem dX7_isHole_4 : decode cX7_isHole 4 = .ok (.iload_n 1, 1) := by decide +kernel
theorem dX7_isHole_5 : decode cX7_isHole 5 = .ok (.bipush 12, 2) := by decide +kernel
theorem dX7_isHole_7 : decode cX7_isHole 7 = .ok (.imul, 1) := by decide +kernel
theorem dX7_isHole_8 : decode cX7_isHole 8 = .ok (.iload_n 2, 1) := by decide +kernel
theorem dX7_isHole_9 : decode cX7_isHole 9 = .ok (.iadd, 1) := by decide +kernel
theorem dX7_isHole_10 : decode cX7_isHole 10 = .ok (.iaload, 1) := by decide +kernel
theorem dX7_isHole_11 : decode cX7_isHole 11 = .ok (.bipush 27, 2) := by decide +kernel
theorem dX7_isHole_13 : decode cX7_isHole 13 = .ok (.if_icmp .ne 7, 3) := by decide +kernel
theorem dX7_isHole_16 : decode cX7_isHole 16 = .ok (.iconst 1, 1) := by decide +kernel
theorem dX7_isHole_17 : decode cX7_isHole 17 = .ok (.goto 4, 3) := by decide +kernel
theorem dX7_isHole_20 : decode cX7_isHole 20 = .ok (.iconst 0, 1) := by decide +kernel
theorem dX7_isHole_21 : decode cX7_isHole 21 = .ok (.ireturn, 1) := by decide +kernel
theorem dX7_firstLetterOf_0 : decode cX7_firstLetterOf 0 = .ok (.aload_n 0, 1) := by decide +kernel
theorem dX7_firstLetterOf_1 : decode cX7_firstLetterOf 1 = .ok (.getfield 18, 3) := by decide +kernel
theorem dX7_firstLetterOf_4 : decode cX7_firstLetterOf 4 = .ok (.iload_n 1, 1) := by decide +kernel
theorem dX7_firstLetterOf_5 : decode cX7_firstLetterOf 5 = .ok (.iaload, 1) := by decide +kernel
theorem dX7_firstLetterOf_6 : decode cX7_firstLetterOf 6 = .ok (.ireturn, 1) := by decide +kernel
theorem dX7_letterTotal_0 : decode cX7_letterTotal 0 = .ok (.aload_n 0, 1) := by decide +kernel
theorem dX7_letterTotal_1 : decode cX7_letterTotal 1 = .ok (.getfield 33, 3) := by decide +kernel
theorem dX7_letterTotal_4 : decode cX7_letterTotal 4 = .ok (.ireturn, 1) := by decide +kernel
theorem dX7_letterAt_0 : decode cX7_letterAt 0 = .ok (.aload_n 0, 1) := by decide +kernel
theorem dX7_letterAt_1 : decode cX7_letterAt 1 = .ok (.getfield 24, 3) := by decide +kernel
theorem dX7_letterAt_4 : decode cX7_letterAt 4 = .ok (.iload_n 1, 1) := by decide +kernel
theorem dX7_letterAt_5 : decode cX7_letterAt 5 = .ok (.iaload, 1) := by decide +kernel
theorem dX7_letterAt_6 : decode cX7_letterAt 6 = .ok (.ireturn, 1) := by decide +kernel
theorem dX8_init_0 : decode cX8_init 0 = .ok (.aload_n 0, 1) := by decide +kernel
theorem dX8_init_1 : decode cX8_init 1 = .ok (.invokespecial 3, 3) := by decide +kernel
theorem dX8_init_4 : decode cX8_init 4 = .ok (.aload_n 0, 1) := by decide +kernel
theorem dX8_init_5 : decode cX8_init 5 = .ok (.sipush 400, 3) := by decide +kernel
theorem dX8_init_8 : decode cX8_init 8 = .ok (.newarray .int, 2) := by decide +kernel
theorem dX8_init_10 : decode cX8_init 10 = .ok (.putfield 9, 3) := by decide +kernel
theorem dX8_init_13 : decode cX8_init 13 = .ok (.aload_n 0, 1) := by decide +kernel
theorem dX8_init_14 : decode cX8_init 14 = .ok (.sipush 400, 3) := by decide +kernel
theorem dX8_init_17 : decode cX8_init 17 = .ok (.newarray .int, 2) := by decide +kernel
theorem dX8_init_19 : decode cX8_init 19 = .ok (.putfield 15, 3) := by decide +kernel
theorem dX8_init_22 : decode cX8_init 22 = .ok (.aload_n 0, 1) := by decide +kernel
theorem dX8_init_23 : decode cX8_init 23 = .ok (.sipush 200, 3) := by decide +kernel
theorem dX8_init_26 : decode cX8_init 26 = .ok (.newarray .byte, 2) := by decide +kernel
theorem dX8_init_28 : decode cX8_init 28 = .ok (.putfield 18, 3) := by decide +kernel
theorem dX8_init_31 : decode cX8_init 31 = .ok (.aload_n 0, 1) := by decide +kernel
theorem dX8_init_32 : decode cX8_init 32 = .ok (.sipush 200, 3) := by decide +kernel
theorem dX8_init_35 : decode cX8_init 35 = .ok (.newarray .byte, 2) := by decide +kernel
theorem dX8_init_37 : decode cX8_init 37 = .ok (.putfield 22, 3) := by decide +kernel
theorem dX8_init_40 : decode cX8_init 40 = .ok (.aload_n 0, 1) := by decide +kernel
theorem dX8_init_41 : decode cX8_init 41 = .ok (.sipush 200, 3) := by decide +kernel
theorem dX8_init_44 : decode cX8_init 44 = .ok (.newarray .byte, 2) := by decide +kernel
theorem dX8_init_46 : decode cX8_init 46 = .ok (.putfield 25, 3) := by decide +kernel
theorem dX8_init_49 : decode cX8_init 49 = .ok (.return_, 1) := by decide +kernel
theorem dX8_clear_0 : decode cX8_clear 0 = .ok (.aload_n 0, 1) := by decide +kernel
theorem dX8_clear_1 : decode cX8_clear 1 = .ok (.iconst 0, 1) := by decide +kernel
theorem dX8_clear_2 : decode cX8_clear 2 = .ok (.putfield 28, 3) := by decide +kernel
theorem dX8_clear_5 : decode cX8_clear 5 = .ok (.aload_n 0, 1) := by decide +kernel
theorem dX8_clear_6 : decode cX8_clear 6 = .ok (.iconst 0, 1) := by decide +kernel
theorem dX8_clear_7 : decode cX8_clear 7 = .ok (.putfield 32, 3) := by decide +kernel
theorem dX8_clear_10 : decode cX8_clear 10 = .ok (.return_, 1) := by decide +kernel
theorem dX8_outputLength_0 : decode cX8_outputLength 0 = .ok (.aload_n 0, 1) := by decide +kernel
theorem dX8_outputLength_1 : decode cX8_outputLength 1 = .ok (.getfield 32, 3) := by decide +kernel
theorem dX8_outputLength_4 : decode cX8_outputLength 4 = .ok (.ireturn, 1) := by decide +kernel
theorem dX8_outputAt_0 : decode cX8_outputAt 0 = .ok (.aload_n 0, 1) := by decide +kernel
theorem dX8_outputAt_1 : decode cX8_outputAt 1 = .ok (.getfield 25, 3) := by decide +kernel
theorem dX8_outputAt_4 : decode cX8_outputAt 4 = .ok (.iload_n 1, 1) := by decide +kernel
theorem dX8_outputAt_5 : decode cX8_outputAt 5 = .ok (.baload, 1) := by decide +kernel
theorem dX8_outputAt_6 : decode cX8_outputAt 6 = .ok (.ireturn, 1) := by decide +kernel
theorem dX8_begin_0 : decode cX8_begin 0 = .ok (.aload_n 0, 1) := by decide +kernel
theorem dX8_begin_1 : decode cX8_begin 1 = .ok (.getfield 28, 3) := by decide +kernel
theorem dX8_begin_4 : decode cX8_begin 4 = .ok (.sipush 400, 3) := by decide +kernel
theorem dX8_begin_7 : decode cX8_begin 7 = .ok (.if_icmp .ne 7, 3) := by decide +kernel
theorem dX8_begin_10 : decode cX8_begin 10 = .ok (.ldc2_w 35, 3) := by decide +kernel
theorem dX8_begin_13 : decode cX8_begin 13 = .ok (.lreturn, 1) := by decide +kernel
theorem dX8_begin_14 : decode cX8_begin 14 = .ok (.aload_n 0, 1) := by decide +kernel
theorem dX8_begin_15 : decode cX8_begin 15 = .ok (.getfield 9, 3) := by decide +kernel
theorem dX8_begin_18 : decode cX8_begin 18 = .ok (.aload_n 0, 1) := by decide +kernel
theorem dX8_begin_19 : decode cX8_begin 19 = .ok (.getfield 28, 3) := by decide +kernel
theorem dX8_begin_22 : decode cX8_begin 22 = .ok (.aload_n 0, 1) := by decide +kernel
theorem dX8_begin_23 : decode cX8_begin 23 = .ok (.getfield 28, 3) := by decide +kernel
theorem dX8_begin_26 : decode cX8_begin 26 = .ok (.ifCond .ne 7, 3) := by decide +kernel
theorem dX8_begin_29 : decode cX8_begin 29 = .ok (.iconst 0, 1) := by decide +kernel
theorem dX8_begin_30 : decode cX8_begin 30 = .ok (.goto 26, 3) := by decide +kernel
theorem dX8_begin_33 : decode cX8_begin 33 = .ok (.aload_n 0, 1) := by decide +kernel
theorem dX8_begin_34 : decode cX8_begin 34 = .ok (.getfield 9, 3) := by decide +kernel
theorem dX8_begin_37 : decode cX8_begin 37 = .ok (.aload_n 0, 1) := by decide +kernel
theorem dX8_begin_38 : decode cX8_begin 38 = .ok (.getfield 28, 3) := by decide +kernel
theorem dX8_begin_41 : decode cX8_begin 41 = .ok (.iconst 1, 1) := by decide +kernel
theorem dX8_begin_42 : decode cX8_begin 42 = .ok (.isub, 1) := by decide +kernel
theorem dX8_begin_43 : decode cX8_begin 43 = .ok (.iaload, 1) := by decide +kernel
theorem dX8_begin_44 : decode cX8_begin 44 = .ok (.aload_n 0, 1) := by decide +kernel
theorem dX8_begin_45 : decode cX8_begin 45 = .ok (.getfield 15, 3) := by decide +kernel
theorem dX8_begin_48 : decode cX8_begin 48 = .ok (.aload_n 0, 1) := by decide +kernel
theorem dX8_begin_49 : decode cX8_begin 49 = .ok (.getfield 28, 3) := by decide +kernel
theorem dX8_begin_52 : decode cX8_begin 52 = .ok (.iconst 1, 1) := by decide +kernel
theorem dX8_begin_53 : decode cX8_begin 53 = .ok (.isub, 1) := by decide +kernel
theorem dX8_begin_54 : decode cX8_begin 54 = .ok (.iaload, 1) := by decide +kernel
theorem dX8_begin_55 : decode cX8_begin 55 = .ok (.iadd, 1) := by decide +kernel
theorem dX8_begin_56 : decode cX8_begin 56 = .ok (.iastore, 1) := by decide +kernel
theorem dX8_begin_57 : decode cX8_begin 57 = .ok (.aload_n 0, 1) := by decide +kernel
theorem dX8_begin_58 : decode cX8_begin 58 = .ok (.getfield 15, 3) := by decide +kernel
theorem dX8_begin_61 : decode cX8_begin 61 = .ok (.aload_n 0, 1) := by decide +kernel
theorem dX8_begin_62 : decode cX8_begin 62 = .ok (.getfield 28, 3) := by decide +kernel
theorem dX8_begin_65 : decode cX8_begin 65 = .ok (.iconst 0, 1) := by decide +kernel
theorem dX8_begin_66 : decode cX8_begin 66 = .ok (.iastore, 1) := by decide +kernel
theorem dX8_begin_67 : decode cX8_begin 67 = .ok (.aload_n 0, 1) := by decide +kernel
theorem dX8_begin_68 : decode cX8_begin 68 = .ok (.dup, 1) := by decide +kernel
theorem dX8_begin_69 : decode cX8_begin 69 = .ok (.getfield 28, 3) := by decide +kernel
theorem dX8_begin_72 : decode cX8_begin 72 = .ok (.iconst 1, 1) := by decide +kernel
theorem dX8_begin_73 : decode cX8_begin 73 = .ok (.iadd, 1) := by decide +kernel
theorem dX8_begin_74 : decode cX8_begin 74 = .ok (.putfield 28, 3) := by decide +kernel
theorem dX8_begin_77 : decode cX8_begin 77 = .ok (.iconst 2, 1) := by decide +kernel
theorem dX8_begin_78 : decode cX8_begin 78 = .ok (.aload_n 0, 1) := by decide +kernel
theorem dX8_begin_79 : decode cX8_begin 79 = .ok (.getfield 28, 3) := by decide +kernel
theorem dX8_begin_82 : decode cX8_begin 82 = .ok (.iconst 1, 1) := by decide +kernel
theorem dX8_begin_83 : decode cX8_begin 83 = .ok (.isub, 1) := by decide +kernel
theorem dX8_begin_84 : decode cX8_begin 84 = .ok (.invokestatic 37, 3) := by decide +kernel
theorem dX8_begin_87 : decode cX8_begin 87 = .ok (.lreturn, 1) := by decide +kernel
theorem dX8_appendLetter_0 : decode cX8_appendLetter 0 = .ok (.aload_n 0, 1) := by decide +kernel
theorem dX8_appendLetter_1 : decode cX8_appendLetter 1 = .ok (.getfield 22, 3) := by decide +kernel
theorem dX8_appendLetter_4 : decode cX8_appendLetter 4 = .ok (.iconst 0, 1) := by decide +kernel
theorem dX8_appendLetter_5 : decode cX8_appendLetter 5 = .ok (.bipush 97, 2) := by decide +kernel
theorem dX8_appendLetter_7 : decode cX8_appendLetter 7 = .ok (.iload_n 2, 1) := by decide +kernel
theorem dX8_appendLetter_8 : decode cX8_appendLetter 8 = .ok (.iadd, 1) := by decide +kernel
theorem dX8_appendLetter_9 : decode cX8_appendLetter 9 = .ok (.i2b, 1) := by decide +kernel
theorem dX8_appendLetter_10 : decode cX8_appendLetter 10 = .ok (.bastore, 1) := by decide +kernel
theorem dX8_appendLetter_11 : decode cX8_appendLetter 11 = .ok (.aload_n 0, 1) := by decide +kernel
theorem dX8_appendLetter_12 : decode cX8_appendLetter 12 = .ok (.iconst 1, 1) := by decide +kernel
theorem dX8_appendLetter_13 : decode cX8_appendLetter 13 = .ok (.putfield 41, 3) := by decide +kernel
theorem dX8_appendLetter_16 : decode cX8_appendLetter 16 = .ok (.aload_n 0, 1) := by decide +kernel
theorem dX8_appendLetter_17 : decode cX8_appendLetter 17 = .ok (.iload_n 1, 1) := by decide +kernel
theorem dX8_appendLetter_18 : decode cX8_appendLetter 18 = .ok (.invokevirtual 44, 3) := by decide +kernel
theorem dX8_appendLetter_21 : decode cX8_appendLetter 21 = .ok (.ireturn, 1) := by decide +kernel
theorem dX8_appendValue_0 : decode cX8_appendValue 0 = .ok (.aload_n 0, 1) := by decide +kernel
theorem dX8_appendValue_1 : decode cX8_appendValue 1 = .ok (.lload_n 2, 1) := by decide +kernel
theorem dX8_appendValue_2 : decode cX8_appendValue 2 = .ok (.invokevirtual 48, 3) := by decide +kernel
theorem dX8_appendValue_5 : decode cX8_appendValue 5 = .ok (.aload_n 0, 1) := by decide +kernel
theorem dX8_appendValue_6 : decode cX8_appendValue 6 = .ok (.iload_n 1, 1) := by decide +kernel
theorem dX8_appendValue_7 : decode cX8_appendValue 7 = .ok (.invokevirtual 44, 3) := by decide +kernel
theorem dX8_appendValue_10 : decode cX8_appendValue 10 = .ok (.ireturn, 1) := by decide +kernel
theorem dX8_sayValue_0 : decode cX8_sayValue 0 = .ok (.aload_n 0, 1) := by decide +kernel
theorem dX8_sayValue_1 : decode cX8_sayValue 1 = .ok (.lload_n 1, 1) := by decide +kernel
theorem dX8_sayValue_2 : decode cX8_sayValue 2 = .ok (.invokevirtual 48, 3) := by decide +kernel
theorem dX8_sayValue_5 : decode cX8_sayValue 5 = .ok (.aload_n 0, 1) := by decide +kernel
theorem dX8_sayValue_6 : decode cX8_sayValue 6 = .ok (.getfield 32, 3) := by decide +kernel
theorem dX8_sayValue_9 : decode cX8_sayValue 9 = .ok (.aload_n 0, 1) := by decide +kernel
theorem dX8_sayValue_10 : decode cX8_sayValue 10 = .ok (.getfield 41, 3) := by decide +kernel
theorem dX8_sayValue_13 : decode cX8_sayValue 13 = .ok (.iadd, 1) := by decide +kernel
theorem dX8_sayValue_14 : decode cX8_sayValue 14 = .ok (.sipush 200, 3) := by decide +kernel
theorem dX8_sayValue_17 : decode cX8_sayValue 17 = .ok (.if_icmp .le 5, 3) := by decide +kernel
theorem dX8_sayValue_20 : decode cX8_sayValue 20 = .ok (.iconst 0, 1) := by decide +kernel
theorem dX8_sayValue_21 : decode cX8_sayValue 21 = .ok (.ireturn, 1) := by decide +kernel
theorem dX8_sayValue_22 : decode cX8_sayValue 22 = .ok (.aload_n 0, 1) := by decide +kernel
theorem dX8_sayValue_23 : decode cX8_sayValue 23 = .ok (.getfield 22, 3) := by decide +kernel
theorem dX8_sayValue_26 : decode cX8_sayValue 26 = .ok (.iconst 0, 1) := by decide +kernel
theorem dX8_sayValue_27 : decode cX8_sayValue 27 = .ok (.aload_n 0, 1) := by decide +kernel
theorem dX8_sayValue_28 : decode cX8_sayValue 28 = .ok (.getfield 25, 3) := by decide +kernel
theorem dX8_sayValue_31 : decode cX8_sayValue 31 = .ok (.aload_n 0, 1) := by decide +kernel
theorem dX8_sayValue_32 : decode cX8_sayValue 32 = .ok (.getfield 32, 3) := by decide +kernel
theorem dX8_sayValue_35 : decode cX8_sayValue 35 = .ok (.aload_n 0, 1) := by decide +kernel
theorem dX8_sayValue_36 : decode cX8_sayValue 36 = .ok (.getfield 41, 3) := by decide +kernel
theorem dX8_sayValue_39 : decode cX8_sayValue 39 = .ok (.invokestatic 52, 3) := by decide +kernel
theorem dX8_sayValue_42 : decode cX8_sayValue 42 = .ok (.aload_n 0, 1) := by decide +kernel
theorem dX8_sayValue_43 : decode cX8_sayValue 43 = .ok (.dup, 1) := by decide +kernel
theorem dX8_sayValue_44 : decode cX8_sayValue 44 = .ok (.getfield 32, 3) := by decide +kernel
theorem dX8_sayValue_47 : decode cX8_sayValue 47 = .ok (.aload_n 0, 1) := by decide +kernel
theorem dX8_sayValue_48 : decode cX8_sayValue 48 = .ok (.getfield 41, 3) := by decide +kernel
theorem dX8_sayValue_51 : decode cX8_sayValue 51 = .ok (.iadd, 1) := by decide +kernel
theorem dX8_sayValue_52 : decode cX8_sayValue 52 = .ok (.putfield 32, 3) := by decide +kernel
theorem dX8_sayValue_55 : decode cX8_sayValue 55 = .ok (.iconst 1, 1) := by decide +kernel
theorem dX8_sayValue_56 : decode cX8_sayValue 56 = .ok (.ireturn, 1) := by decide +kernel
theorem dX8_appendSpelled_0 : decode cX8_appendSpelled 0 = .ok (.aload_n 0, 1) := by decide +kernel
theorem dX8_appendSpelled_1 : decode cX8_appendSpelled 1 = .ok (.getfield 15, 3) := by decide +kernel
theorem dX8_appendSpelled_4 : decode cX8_appendSpelled 4 = .ok (.iload_n 1, 1) := by decide +kernel
theorem dX8_appendSpelled_5 : decode cX8_appendSpelled 5 = .ok (.iaload, 1) := by decide +kernel
theorem dX8_appendSpelled_6 : decode cX8_appendSpelled 6 = .ok (.aload_n 0, 1) := by decide +kernel
theorem dX8_appendSpelled_7 : decode cX8_appendSpelled 7 = .ok (.getfield 41, 3) := by decide +kernel
theorem dX8_appendSpelled_10 : decode cX8_appendSpelled 10 = .ok (.iadd, 1) := by decide +kernel
theorem dX8_appendSpelled_11 : decode cX8_appendSpelled 11 = .ok (.sipush 200, 3) := by decide +kernel
theorem dX8_appendSpelled_14 : decode cX8_appendSpelled 14 = .ok (.if_icmp .le 5, 3) := by decide +kernel
theorem dX8_appendSpelled_17 : decode cX8_appendSpelled 17 = .ok (.iconst 0, 1) := by decide +kernel
theorem dX8_appendSpelled_18 : decode cX8_appendSpelled 18 = .ok (.ireturn, 1) := by decide +kernel
theorem dX8_appendSpelled_19 : decode cX8_appendSpelled 19 = .ok (.aload_n 0, 1) := by decide +kernel
theorem dX8_appendSpelled_20 : decode cX8_appendSpelled 20 = .ok (.getfield 9, 3) := by decide +kernel
theorem dX8_appendSpelled_23 : decode cX8_appendSpelled 23 = .ok (.iload_n 1, 1) := by decide +kernel
theorem dX8_appendSpelled_24 : decode cX8_appendSpelled 24 = .ok (.iaload, 1) := by decide +kernel
theorem dX8_appendSpelled_25 : decode cX8_appendSpelled 25 = .ok (.aload_n 0, 1) := by decide +kernel
theorem dX8_appendSpelled_26 : decode cX8_appendSpelled 26 = .ok (.getfield 15, 3) := by decide +kernel
theorem dX8_appendSpelled_29 : decode cX8_appendSpelled 29 = .ok (.iload_n 1, 1) := by decide +kernel
theorem dX8_appendSpelled_30 : decode cX8_appendSpelled 30 = .ok (.iaload, 1) := by decide +kernel
theorem dX8_appendSpelled_31 : decode cX8_appendSpelled 31 = .ok (.iadd, 1) := by decide +kernel
theorem dX8_appendSpelled_32 : decode cX8_appendSpelled 32 = .ok (.istore_n 2, 1) := by decide +kernel
theorem dX8_appendSpelled_33 : decode cX8_appendSpelled 33 = .ok (.iload_n 2, 1) := by decide +kernel
theorem dX8_appendSpelled_34 : decode cX8_appendSpelled 34 = .ok (.aload_n 0, 1) := by decide +kernel
theorem dX8_appendSpelled_35 : decode cX8_appendSpelled 35 = .ok (.getfield 41, 3) := by decide +kernel
theorem dX8_appendSpelled_38 : decode cX8_appendSpelled 38 = .ok (.iadd, 1) := by decide +kernel
theorem dX8_appendSpelled_39 : decode cX8_appendSpelled 39 = .ok (.aload_n 0, 1) := by decide +kernel
theorem dX8_appendSpelled_40 : decode cX8_appendSpelled 40 = .ok (.getfield 18, 3) := by decide +kernel
theorem dX8_appendSpelled_43 : decode cX8_appendSpelled 43 = .ok (.arraylength, 1) := by decide +kernel
theorem dX8_appendSpelled_44 : decode cX8_appendSpelled 44 = .ok (.if_icmp .le 26, 3) := by decide +kernel
theorem dX8_appendSpelled_47 : decode cX8_appendSpelled 47 = .ok (.aload_n 0, 1) := by decide +kernel
theorem dX8_appendSpelled_48 : decode cX8_appendSpelled 48 = .ok (.aload_n 0, 1) := by decide +kernel
theorem dX8_appendSpelled_49 : decode cX8_appendSpelled 49 = .ok (.getfield 18, 3) := by decide +kernel
theorem dX8_appendSpelled_52 : decode cX8_appendSpelled 52 = .ok (.iconst 2, 1) := by decide +kernel
theorem dX8_appendSpelled_53 : decode cX8_appendSpelled 53 = .ok (.aload_n 0, 1) := by decide +kernel
theorem dX8_appendSpelled_54 : decode cX8_appendSpelled 54 = .ok (.getfield 18, 3) := by decide +kernel
theorem dX8_appendSpelled_57 : decode cX8_appendSpelled 57 = .ok (.arraylength, 1) := by decide +kernel
theorem dX8_appendSpelled_58 : decode cX8_appendSpelled 58 = .ok (.imul, 1) := by decide +kernel
theorem dX8_appendSpelled_59 : decode cX8_appendSpelled 59 = .ok (.ldc 58, 2) := by decide +kernel
theorem dX8_appendSpelled_61 : decode cX8_appendSpelled 61 = .ok (.invokestatic 59, 3) := by decide +kernel
theorem dX8_appendSpelled_64 : decode cX8_appendSpelled 64 = .ok (.invokestatic 65, 3) := by decide +kernel
theorem dX8_appendSpelled_67 : decode cX8_appendSpelled 67 = .ok (.putfield 18, 3) := by decide +kernel
theorem dX8_appendSpelled_70 : decode cX8_appendSpelled 70 = .ok (.aload_n 0, 1) := by decide +kernel
theorem dX8_appendSpelled_71 : decode cX8_appendSpelled 71 = .ok (.getfield 22, 3) := by decide +kernel
theorem dX8_appendSpelled_74 : decode cX8_appendSpelled 74 = .ok (.iconst 0, 1) := by decide +kernel
theorem dX8_appendSpelled_75 : decode cX8_appendSpelled 75 = .ok (.aload_n 0, 1) := by decide +kernel
theorem dX8_appendSpelled_76 : decode cX8_appendSpelled 76 = .ok (.getfield 18, 3) := by decide +kernel
theorem dX8_appendSpelled_79 : decode cX8_appendSpelled 79 = .ok (.iload_n 2, 1) := by decide +kernel
theorem dX8_appendSpelled_80 : decode cX8_appendSpelled 80 = .ok (.aload_n 0, 1) := by decide +kernel
theorem dX8_appendSpelled_81 : decode cX8_appendSpelled 81 = .ok (.getfield 41, 3) := by decide +kernel
theorem dX8_appendSpelled_84 : decode cX8_appendSpelled 84 = .ok (.invokestatic 52, 3) := by decide +kernel
theorem dX8_appendSpelled_87 : decode cX8_appendSpelled 87 = .ok (.aload_n 0, 1) := by decide +kernel
theorem dX8_appendSpelled_88 : decode cX8_appendSpelled 88 = .ok (.getfield 15, 3) := by decide +kernel
theorem dX8_appendSpelled_91 : decode cX8_appendSpelled 91 = .ok (.iload_n 1, 1) := by decide +kernel
theorem dX8_appendSpelled_92 : decode cX8_appendSpelled 92 = .ok (.dup2, 1) := by decide +kernel
theorem dX8_appendSpelled_93 : decode cX8_appendSpelled 93 = .ok (.iaload, 1) := by decide +kernel
theorem dX8_appendSpelled_94 : decode cX8_appendSpelled 94 = .ok (.aload_n 0, 1) := by decide +kernel
theorem dX8_appendSpelled_95 : decode cX8_appendSpelled 95 = .ok (.getfield 41, 3) := by decide +kernel
theorem dX8_appendSpelled_98 : decode cX8_appendSpelled 98 = .ok (.iadd, 1) := by decide +kernel
theorem dX8_appendSpelled_99 : decode cX8_appendSpelled 99 = .ok (.iastore, 1) := by decide +kernel
theorem dX8_appendSpelled_100 : decode cX8_appendSpelled 100 = .ok (.iconst 1, 1) := by decide +kernel
theorem dX8_appendSpelled_101 : decode cX8_appendSpelled 101 = .ok (.ireturn, 1) := by decide +kernel
theorem dX8_spell_0 : decode cX8_spell 0 = .ok (.lload_n 1, 1) := by decide +kernel
theorem dX8_spell_1 : decode cX8_spell 1 = .ok (.invokestatic 71, 3) := by decide +kernel
theorem dX8_spell_4 : decode cX8_spell 4 = .ok (.istore_n 3, 1) := by decide +kernel
theorem dX8_spell_5 : decode cX8_spell 5 = .ok (.lload_n 1, 1) := by decide +kernel
theorem dX8_spell_6 : decode cX8_spell 6 = .ok (.invokestatic 75, 3) := by decide +kernel
theorem dX8_spell_9 : decode cX8_spell 9 = .ok (.istore 4, 2) := by decide +kernel
theorem dX8_spell_11 : decode cX8_spell 11 = .ok (.iload_n 3, 1) := by decide +kernel
theorem dX8_spell_12 : decode cX8_spell 12 = .ok (.iconst 1, 1) := by decide +kernel
theorem dX8_spell_13 : decode cX8_spell 13 = .ok (.if_icmp .ne 12, 3) := by decide +kernel
theorem dX8_spell_16 : decode cX8_spell 16 = .ok (.aload_n 0, 1) := by decide +kernel
theorem dX8_spell_17 : decode cX8_spell 17 = .ok (.iload 4, 2) := by decide +kernel
theorem dX8_spell_19 : decode cX8_spell 19 = .ok (.invokevirtual 78, 3) := by decide +kernel
theorem dX8_spell_22 : decode cX8_spell 22 = .ok (.goto 58, 3) := by decide +kernel
theorem dX8_spell_25 : decode cX8_spell 25 = .ok (.iload_n 3, 1) := by decide +kernel
theorem dX8_spell_26 : decode cX8_spell 26 = .ok (.iconst 2, 1) := by decide +kernel
theorem dX8_spell_27 : decode cX8_spell 27 = .ok (.if_icmp .ne 40, 3) := by decide +kernel
theorem dX8_spell_30 : decode cX8_spell 30 = .ok (.aload_n 0, 1) := by decide +kernel
theorem dX8_spell_31 : decode cX8_spell 31 = .ok (.aload_n 0, 1) := by decide +kernel
theorem dX8_spell_32 : decode cX8_spell 32 = .ok (.getfield 15, 3) := by decide +kernel
theorem dX8_spell_35 : decode cX8_spell 35 = .ok (.iload 4, 2) := by decide +kernel
theorem dX8_spell_37 : decode cX8_spell 37 = .ok (.iaload, 1) := by decide +kernel
theorem dX8_spell_38 : decode cX8_spell 38 = .ok (.putfield 41, 3) := by decide +kernel
theorem dX8_spell_41 : decode cX8_spell 41 = .ok (.aload_n 0, 1) := by decide +kernel
theorem dX8_spell_42 : decode cX8_spell 42 = .ok (.getfield 18, 3) := by decide +kernel
theorem dX8_spell_45 : decode cX8_spell 45 = .ok (.aload_n 0, 1) := by decide +kernel
theorem dX8_spell_46 : decode cX8_spell 46 = .ok (.getfield 9, 3) := by decide +kernel
theorem dX8_spell_49 : decode cX8_spell 49 = .ok (.iload 4, 2) := by decide +kernel
theorem dX8_spell_51 : decode cX8_spell 51 = .ok (.iaload, 1) := by decide +kernel
theorem dX8_spell_52 : decode cX8_spell 52 = .ok (.aload_n 0, 1) := by decide +kernel
theorem dX8_spell_53 : decode cX8_spell 53 = .ok (.getfield 22, 3) := by decide +kernel
theorem dX8_spell_56 : decode cX8_spell 56 = .ok (.iconst 0, 1) := by decide +kernel
theorem dX8_spell_57 : decode cX8_spell 57 = .ok (.aload_n 0, 1) := by decide +kernel
theorem dX8_spell_58 : decode cX8_spell 58 = .ok (.getfield 41, 3) := by decide +kernel
theorem dX8_spell_61 : decode cX8_spell 61 = .ok (.invokestatic 52, 3) := by decide +kernel
theorem dX8_spell_64 : decode cX8_spell 64 = .ok (.goto 16, 3) := by decide +kernel
theorem dX8_spell_67 : decode cX8_spell 67 = .ok (.aload_n 0, 1) := by decide +kernel
theorem dX8_spell_68 : decode cX8_spell 68 = .ok (.getfield 22, 3) := by decide +kernel
theorem dX8_spell_71 : decode cX8_spell 71 = .ok (.iconst 0, 1) := by decide +kernel
theorem dX8_spell_72 : decode cX8_spell 72 = .ok (.bipush 102, 2) := by decide +kernel
theorem dX8_spell_74 : decode cX8_spell 74 = .ok (.bastore, 1) := by decide +kernel
theorem dX8_spell_75 : decode cX8_spell 75 = .ok (.aload_n 0, 1) := by decide +kernel
theorem dX8_spell_76 : decode cX8_spell 76 = .ok (.iconst 1, 1) := by decide +kernel
theorem dX8_spell_77 : decode cX8_spell 77 = .ok (.putfield 41, 3) := by decide +kernel
theorem dX8_spell_80 : decode cX8_spell 80 = .ok (.return_, 1) := by decide +kernel
theorem dX8_spellNumber_0 : decode cX8_spellNumber 0 = .ok (.iload_n 1, 1) := by decide +kernel
theorem dX8_spellNumber_1 : decode cX8_spellNumber 1 = .ok (.ifCond .ge 9, 3) := by decide +kernel
theorem dX8_spellNumber_4 : decode cX8_spellNumber 4 = .ok (.iload_n 1, 1) := by decide +kernel
theorem dX8_spellNumber_5 : decode cX8_spellNumber 5 = .ok (.i2l, 1) := by decide +kernel
theorem dX8_spellNumber_6 : decode cX8_spellNumber 6 = .ok (.lneg, 1) := by decide +kernel
theorem dX8_spellNumber_7 : decode cX8_spellNumber 7 = .ok (.goto 5, 3) := by decide +kernel
theorem dX8_spellNumber_10 : decode cX8_spellNumber 10 = .ok (.iload_n 1, 1) := by decide +kernel
theorem dX8_spellNumber_11 : decode cX8_spellNumber 11 = .ok (.i2l, 1) := by decide +kernel
theorem dX8_spellNumber_12 : decode cX8_spellNumber 12 = .ok (.lstore_n 2, 1) := by decide +kernel
theorem dX8_spellNumber_13 : decode cX8_spellNumber 13 = .ok (.iconst 1, 1) := by decide +kernel
theorem dX8_spellNumber_14 : decode cX8_spellNumber 14 = .ok (.istore 4, 2) := by decide +kernel
theorem dX8_spellNumber_16 : decode cX8_spellNumber 16 = .ok (.ldc2_w 82, 3) := by decide +kernel
theorem dX8_spellNumber_19 : decode cX8_spellNumber 19 = .ok (.lstore 5, 2) := by decide +kernel
theorem dX8_spellNumber_21 : decode cX8_spellNumber 21 = .ok (.iload 4, 2) := by decide +kernel
theorem dX8_spellNumber_23 : decode cX8_spellNumber 23 = .ok (.bipush 10, 2) := by decide +kernel
theorem dX8_spellNumber_25 : decode cX8_spellNumber 25 = .ok (.if_icmp .ge 24, 3) := by decide +kernel
theorem dX8_spellNumber_28 : decode cX8_spellNumber 28 = .ok (.lload 5, 2) := by decide +kernel
theorem dX8_spellNumber_30 : decode cX8_spellNumber 30 = .ok (.lload_n 2, 1) := by decide +kernel
theorem dX8_spellNumber_31 : decode cX8_spellNumber 31 = .ok (.lcmp, 1) := by decide +kernel
theorem dX8_spellNumber_32 : decode cX8_spellNumber 32 = .ok (.ifCond .gt 17, 3) := by decide +kernel
theorem dX8_spellNumber_35 : decode cX8_spellNumber 35 = .ok (.iinc 4 1, 3) := by decide +kernel
theorem dX8_spellNumber_38 : decode cX8_spellNumber 38 = .ok (.lload 5, 2) := by decide +kernel
theorem dX8_spellNumber_40 : decode cX8_spellNumber 40 = .ok (.ldc2_w 82, 3) := by decide +kernel
theorem dX8_spellNumber_43 : decode cX8_spellNumber 43 = .ok (.lmul, 1) := by decide +kernel
theorem dX8_spellNumber_44 : decode cX8_spellNumber 44 = .ok (.lstore 5, 2) := by decide +kernel
theorem dX8_spellNumber_46 : decode cX8_spellNumber 46 = .ok (.goto (-25), 3) := by decide +kernel
theorem dX8_spellNumber_49 : decode cX8_spellNumber 49 = .ok (.iload_n 1, 1) := by decide +kernel
theorem dX8_spellNumber_50 : decode cX8_spellNumber 50 = .ok (.ifCond .ge 7, 3) := by decide +kernel
theorem dX8_spellNumber_53 : decode cX8_spellNumber 53 = .ok (.iconst 1, 1) := by decide +kernel
theorem dX8_spellNumber_54 : decode cX8_spellNumber 54 = .ok (.goto 4, 3) := by decide +kernel
theorem dX8_spellNumber_57 : decode cX8_spellNumber 57 = .ok (.iconst 0, 1) := by decide +kernel
theorem dX8_spellNumber_58 : decode cX8_spellNumber 58 = .ok (.istore 5, 2) := by decide +kernel
theorem dX8_spellNumber_60 : decode cX8_spellNumber 60 = .ok (.aload_n 0, 1) := by decide +kernel
theorem dX8_spellNumber_61 : decode cX8_spellNumber 61 = .ok (.getfield 22, 3) := by decide +kernel
theorem dX8_spellNumber_64 : decode cX8_spellNumber 64 = .ok (.iconst 0, 1) := by decide +kernel
theorem dX8_spellNumber_65 : decode cX8_spellNumber 65 = .ok (.bipush 45, 2) := by decide +kernel
theorem dX8_spellNumber_67 : decode cX8_spellNumber 67 = .ok (.bastore, 1) := by decide +kernel
theorem dX8_spellNumber_68 : decode cX8_spellNumber 68 = .ok (.aload_n 0, 1) := by decide +kernel
theorem dX8_spellNumber_69 : decode cX8_spellNumber 69 = .ok (.iload 5, 2) := by decide +kernel
theorem dX8_spellNumber_71 : decode cX8_spellNumber 71 = .ok (.iload 4, 2) := by decide +kernel
theorem dX8_spellNumber_73 : decode cX8_spellNumber 73 = .ok (.iadd, 1) := by decide +kernel
theorem dX8_spellNumber_74 : decode cX8_spellNumber 74 = .ok (.putfield 41, 3) := by decide +kernel
theorem dX8_spellNumber_77 : decode cX8_spellNumber 77 = .ok (.aload_n 0, 1) := by decide +kernel
theorem dX8_spellNumber_78 : decode cX8_spellNumber 78 = .ok (.getfield 41, 3) := by decide +kernel
theorem dX8_spellNumber_81 : decode cX8_spellNumber 81 = .ok (.iconst 1, 1) := by decide +kernel
theorem dX8_spellNumber_82 : decode cX8_spellNumber 82 = .ok (.isub, 1) := by decide +kernel
theorem dX8_spellNumber_83 : decode cX8_spellNumber 83 = .ok (.istore 6, 2) := by decide +kernel
theorem dX8_spellNumber_85 : decode cX8_spellNumber 85 = .ok (.iload 6, 2) := by decide +kernel
theorem dX8_spellNumber_87 : decode cX8_spellNumber 87 = .ok (.iload 5, 2) := by decide +kernel
theorem dX8_spellNumber_89 : decode cX8_spellNumber 89 = .ok (.if_icmp .lt 33, 3) := by decide +kernel
theorem dX8_spellNumber_92 : decode cX8_spellNumber 92 = .ok (.aload_n 0, 1) := by decide +kernel
theorem dX8_spellNumber_93 : decode cX8_spellNumber 93 = .ok (.getfield 22, 3) := by decide +kernel
theorem dX8_spellNumber_96 : decode cX8_spellNumber 96 = .ok (.iload 6, 2) := by decide +kernel
theorem dX8_spellNumber_98 : decode cX8_spellNumber 98 = .ok (.ldc2_w 84, 3) := by decide +kernel
theorem dX8_spellNumber_101 : decode cX8_spellNumber 101 = .ok (.lload_n 2, 1) := by decide +kernel
theorem dX8_spellNumber_102 : decode cX8_spellNumber 102 = .ok (.ldc2_w 82, 3) := by decide +kernel
theorem dX8_spellNumber_105 : decode cX8_spellNumber 105 = .ok (.lrem, 1) := by decide +kernel
theorem dX8_spellNumber_106 : decode cX8_spellNumber 106 = .ok (.ladd, 1) := by decide +kernel
theorem dX8_spellNumber_107 : decode cX8_spellNumber 107 = .ok (.l2i, 1) := by decide +kernel
theorem dX8_spellNumber_108 : decode cX8_spellNumber 108 = .ok (.i2b, 1) := by decide +kernel
theorem dX8_spellNumber_109 : decode cX8_spellNumber 109 = .ok (.bastore, 1) := by decide +kernel
theorem dX8_spellNumber_110 : decode cX8_spellNumber 110 = .ok (.lload_n 2, 1) := by decide +kernel
theorem dX8_spellNumber_111 : decode cX8_spellNumber 111 = .ok (.ldc2_w 82, 3) := by decide +kernel
theorem dX8_spellNumber_114 : decode cX8_spellNumber 114 = .ok (.ldiv, 1) := by decide +kernel
theorem dX8_spellNumber_115 : decode cX8_spellNumber 115 = .ok (.lstore_n 2, 1) := by decide +kernel
theorem dX8_spellNumber_116 : decode cX8_spellNumber 116 = .ok (.iinc 6 (-1), 3) := by decide +kernel
theorem dX8_spellNumber_119 : decode cX8_spellNumber 119 = .ok (.goto (-34), 3) := by decide +kernel
theorem dX8_spellNumber_122 : decode cX8_spellNumber 122 = .ok (.return_, 1) := by decide +kernel
theorem dX9_init_0 : decode cX9_init 0 = .ok (.aload_n 0, 1) := by decide +kernel
theorem dX9_init_1 : decode cX9_init 1 = .ok (.invokespecial 3, 3) := by decide +kernel
theorem dX9_init_4 : decode cX9_init 4 = .ok (.aload_n 0, 1) := by decide +kernel
theorem dX9_init_5 : decode cX9_init 5 = .ok (.bipush 40, 2) := by decide +kernel
theorem dX9_init_7 : decode cX9_init 7 = .ok (.newarray .int, 2) := by decide +kernel
theorem dX9_init_9 : decode cX9_init 9 = .ok (.putfield 9, 3) := by decide +kernel
theorem dX9_init_12 : decode cX9_init 12 = .ok (.aload_n 0, 1) := by decide +kernel
theorem dX9_init_13 : decode cX9_init 13 = .ok (.bipush 40, 2) := by decide +kernel
theorem dX9_init_15 : decode cX9_init 15 = .ok (.newarray .boolean, 2) := by decide +kernel
theorem dX9_init_17 : decode cX9_init 17 = .ok (.putfield 15, 3) := by decide +kernel
theorem dX9_init_20 : decode cX9_init 20 = .ok (.aload_n 0, 1) := by decide +kernel
theorem dX9_init_21 : decode cX9_init 21 = .ok (.aload_n 1, 1) := by decide +kernel
theorem dX9_init_22 : decode cX9_init 22 = .ok (.putfield 19, 3) := by decide +kernel
theorem dX9_init_25 : decode cX9_init 25 = .ok (.return_, 1) := by decide +kernel
theorem dX9_wrongPlace_0 : decode cX9_wrongPlace 0 = .ok (.aload_n 0, 1) := by decide +kernel
theorem dX9_wrongPlace_1 : decode cX9_wrongPlace 1 = .ok (.getfield 19, 3) := by decide +kernel
theorem dX9_wrongPlace_4 : decode cX9_wrongPlace 4 = .ok (.iload_n 1, 1) := by decide +kernel
theorem dX9_wrongPlace_5 : decode cX9_wrongPlace 5 = .ok (.invokevirtual 23, 3) := by decide +kernel
theorem dX9_wrongPlace_8 : decode cX9_wrongPlace 8 = .ok (.istore_n 2, 1) := by decide +kernel
theorem dX9_wrongPlace_9 : decode cX9_wrongPlace 9 = .ok (.iload_n 2, 1) := by decide +kernel
theorem dX9_wrongPlace_10 : decode cX9_wrongPlace 10 = .ok (.ifCond .ne 5, 3) := by decide +kernel
theorem dX9_wrongPlace_13 : decode cX9_wrongPlace 13 = .ok (.iconst 0, 1) := by decide +kernel
theorem dX9_wrongPlace_14 : decode cX9_wrongPlace 14 = .ok (.ireturn, 1) := by decide +kernel
theorem dX9_wrongPlace_15 : decode cX9_wrongPlace 15 = .ok (.iconst 0, 1) := by decide +kernel
theorem dX9_wrongPlace_16 : decode cX9_wrongPlace 16 = .ok (.istore_n 3, 1) := by decide +kernel
theorem dX9_wrongPlace_17 : decode cX9_wrongPlace 17 = .ok (.iload_n 3, 1) := by decide +kernel
theorem dX9_wrongPlace_18 : decode cX9_wrongPlace 18 = .ok (.iload_n 2, 1) := by decide +kernel
theorem dX9_wrongPlace_19 : decode cX9_wrongPlace 19 = .ok (.if_icmp .ge 23, 3) := by decide +kernel
theorem dX9_wrongPlace_22 : decode cX9_wrongPlace 22 = .ok (.aload_n 0, 1) := by decide +kernel
theorem dX9_wrongPlace_23 : decode cX9_wrongPlace 23 = .ok (.getfield 19, 3) := by decide +kernel
theorem dX9_wrongPlace_26 : decode cX9_wrongPlace 26 = .ok (.iload_n 1, 1) := by decide +kernel
theorem dX9_wrongPlace_27 : decode cX9_wrongPlace 27 = .ok (.iload_n 3, 1) := by decide +kernel
theorem dX9_wrongPlace_28 : decode cX9_wrongPlace 28 = .ok (.invokevirtual 29, 3) := by decide +kernel
theorem dX9_wrongPlace_31 : decode cX9_wrongPlace 31 = .ok (.ifCond .ne 5, 3) := by decide +kernel
theorem dX9_wrongPlace_34 : decode cX9_wrongPlace 34 = .ok (.iload_n 3, 1) := by decide +kernel
theorem dX9_wrongPlace_35 : decode cX9_wrongPlace 35 = .ok (.ireturn, 1) := by decide +kernel
theorem dX9_wrongPlace_36 : decode cX9_wrongPlace 36 = .ok (.iinc 3 1, 3) := by decide +kernel
theorem dX9_wrongPlace_39 : decode cX9_wrongPlace 39 = .ok (.goto (-22), 3) := by decide +kernel
theorem dX9_wrongPlace_42 : decode cX9_wrongPlace 42 = .ok (.aload_n 0, 1) := by decide +kernel
theorem dX9_wrongPlace_43 : decode cX9_wrongPlace 43 = .ok (.iload_n 1, 1) := by decide +kernel
theorem dX9_wrongPlace_44 : decode cX9_wrongPlace 44 = .ok (.iload_n 2, 1) := by decide +kernel
theorem dX9_wrongPlace_45 : decode cX9_wrongPlace 45 = .ok (.invokevirtual 33, 3) := by decide +kernel
theorem dX9_wrongPlace_48 : decode cX9_wrongPlace 48 = .ok (.ireturn, 1) := by decide +kernel
theorem dX9_isMet_0 : decode cX9_isMet 0 = .ok (.aload_n 0, 1) := by decide +kernel
theorem dX9_isMet_1 : decode cX9_isMet 1 = .ok (.getfield 9, 3) := by decide +kernel
theorem dX9_isMet_4 : decode cX9_isMet 4 = .ok (.iload_n 1, 1) := by decide +kernel
theorem dX9_isMet_5 : decode cX9_isMet 5 = .ok (.iaload, 1) := by decide +kernel
theorem dX9_isMet_6 : decode cX9_isMet 6 = .ok (.iconst (-1), 1) := by decide +kernel
theorem dX9_isMet_7 : decode cX9_isMet 7 = .ok (.if_icmp .eq 7, 3) := by decide +kernel
theorem dX9_isMet_10 : decode cX9_isMet 10 = .ok (.iconst 1, 1) := by decide +kernel
theorem dX9_isMet_11 : decode cX9_isMet 11 = .ok (.goto 4, 3) := by decide +kernel
theorem dX9_isMet_14 : decode cX9_isMet 14 = .ok (.iconst 0, 1) := by decide +kernel
theorem dX9_isMet_15 : decode cX9_isMet 15 = .ok (.ireturn, 1) := by decide +kernel
theorem dX9_heightAt_0 : decode cX9_heightAt 0 = .ok (.aload_n 0, 1) := by decide +kernel
theorem dX9_heightAt_1 : decode cX9_heightAt 1 = .ok (.getfield 9, 3) := by decide +kernel
theorem dX9_heightAt_4 : decode cX9_heightAt 4 = .ok (.iload_n 1, 1) := by decide +kernel
theorem dX9_heightAt_5 : decode cX9_heightAt 5 = .ok (.iaload, 1) := by decide +kernel
theorem dX9_heightAt_6 : decode cX9_heightAt 6 = .ok (.ireturn, 1) := by decide +kernel
theorem dX9_wrongOnWays_0 : decode cX9_wrongOnWays 0 = .ok (.iconst 0, 1) := by decide +kernel
theorem dX9_wrongOnWays_1 : decode cX9_wrongOnWays 1 = .ok (.istore_n 3, 1) := by decide +kernel
theorem dX9_wrongOnWays_2 : decode cX9_wrongOnWays 2 = .ok (.iload_n 3, 1) := by decide +kernel
theorem dX9_wrongOnWays_3 : decode cX9_wrongOnWays 3 = .ok (.iload_n 2, 1) := by decide +kernel
theorem dX9_wrongOnWays_4 : decode cX9_wrongOnWays 4 = .ok (.if_icmp .ge 23, 3) := by decide +kernel
theorem dX9_wrongOnWays_7 : decode cX9_wrongOnWays 7 = .ok (.aload_n 0, 1) := by decide +kernel
theorem dX9_wrongOnWays_8 : decode cX9_wrongOnWays 8 = .ok (.getfield 9, 3) := by decide +kernel
theorem dX9_wrongOnWays_11 : decode cX9_wrongOnWays 11 = .ok (.iload_n 3, 1) := by decide +kernel
theorem dX9_wrongOnWays_12 : decode cX9_wrongOnWays 12 = .ok (.iconst (-1), 1) := by decide +kernel
theorem dX9_wrongOnWays_13 : decode cX9_wrongOnWays 13 = .ok (.iastore, 1) := by decide +kernel
theorem dX9_wrongOnWays_14 : decode cX9_wrongOnWays 14 = .ok (.aload_n 0, 1) := by decide +kernel
theorem dX9_wrongOnWays_15 : decode cX9_wrongOnWays 15 = .ok (.getfield 15, 3) := by decide +kernel
theorem dX9_wrongOnWays_18 : decode cX9_wrongOnWays 18 = .ok (.iload_n 3, 1) := by decide +kernel
theorem dX9_wrongOnWays_19 : decode cX9_wrongOnWays 19 = .ok (.iconst 0, 1) := by decide +kernel
theorem dX9_wrongOnWays_20 : decode cX9_wrongOnWays 20 = .ok (.bastore, 1) := by decide +kernel
theorem dX9_wrongOnWays_21 : decode cX9_wrongOnWays 21 = .ok (.iinc 3 1, 3) := by decide +kernel
theorem dX9_wrongOnWays_24 : decode cX9_wrongOnWays 24 = .ok (.goto (-22), 3) := by decide +kernel
theorem dX9_wrongOnWays_27 : decode cX9_wrongOnWays 27 = .ok (.aload_n 0, 1) := by decide +kernel
theorem dX9_wrongOnWays_28 : decode cX9_wrongOnWays 28 = .ok (.getfield 9, 3) := by decide +kernel
theorem dX9_wrongOnWays_31 : decode cX9_wrongOnWays 31 = .ok (.iconst 0, 1) := by decide +kernel
theorem dX9_wrongOnWays_32 : decode cX9_wrongOnWays 32 = .ok (.iconst 0, 1) := by decide +kernel
theorem dX9_wrongOnWays_33 : decode cX9_wrongOnWays 33 = .ok (.iastore, 1) := by decide +kernel
theorem dX9_wrongOnWays_34 : decode cX9_wrongOnWays 34 = .ok (.iconst 0, 1) := by decide +kernel
theorem dX9_wrongOnWays_35 : decode cX9_wrongOnWays 35 = .ok (.istore_n 3, 1) := by decide +kernel
theorem dX9_wrongOnWays_36 : decode cX9_wrongOnWays 36 = .ok (.iload_n 3, 1) := by decide +kernel
theorem dX9_wrongOnWays_37 : decode cX9_wrongOnWays 37 = .ok (.iload_n 2, 1) := by decide +kernel
theorem dX9_wrongOnWays_38 : decode cX9_wrongOnWays 38 = .ok (.if_icmp .ge 46, 3) := by decide +kernel
theorem dX9_wrongOnWays_41 : decode cX9_wrongOnWays 41 = .ok (.aload_n 0, 1) := by decide +kernel
theorem dX9_wrongOnWays_42 : decode cX9_wrongOnWays 42 = .ok (.iload_n 2, 1) := by decide +kernel
theorem dX9_wrongOnWays_43 : decode cX9_wrongOnWays 43 = .ok (.invokevirtual 37, 3) := by decide +kernel
theorem dX9_wrongOnWays_46 : decode cX9_wrongOnWays 46 = .ok (.istore 4, 2) := by decide +kernel
theorem dX9_wrongOnWays_48 : decode cX9_wrongOnWays 48 = .ok (.iload 4, 2) := by decide +kernel
theorem dX9_wrongOnWays_50 : decode cX9_wrongOnWays 50 = .ok (.iconst (-1), 1) := by decide +kernel
theorem dX9_wrongOnWays_51 : decode cX9_wrongOnWays 51 = .ok (.if_icmp .ne 5, 3) := by decide +kernel
theorem dX9_wrongOnWays_54 : decode cX9_wrongOnWays 54 = .ok (.iconst (-1), 1) := by decide +kernel
theorem dX9_wrongOnWays_55 : decode cX9_wrongOnWays 55 = .ok (.ireturn, 1) := by decide +kernel
theorem dX9_wrongOnWays_56 : decode cX9_wrongOnWays 56 = .ok (.aload_n 0, 1) := by decide +kernel
theorem dX9_wrongOnWays_57 : decode cX9_wrongOnWays 57 = .ok (.getfield 15, 3) := by decide +kernel
theorem dX9_wrongOnWays_60 : decode cX9_wrongOnWays 60 = .ok (.iload 4, 2) := by decide +kernel
theorem dX9_wrongOnWays_62 : decode cX9_wrongOnWays 62 = .ok (.iconst 1, 1) := by decide +kernel
theorem dX9_wrongOnWays_63 : decode cX9_wrongOnWays 63 = .ok (.bastore, 1) := by decide +kernel
theorem dX9_wrongOnWays_64 : decode cX9_wrongOnWays 64 = .ok (.aload_n 0, 1) := by decide +kernel
theorem dX9_wrongOnWays_65 : decode cX9_wrongOnWays 65 = .ok (.iload_n 1, 1) := by decide +kernel
theorem dX9_wrongOnWays_66 : decode cX9_wrongOnWays 66 = .ok (.iload 4, 2) := by decide +kernel
theorem dX9_wrongOnWays_68 : decode cX9_wrongOnWays 68 = .ok (.iload_n 2, 1) := by decide +kernel
theorem dX9_wrongOnWays_69 : decode cX9_wrongOnWays 69 = .ok (.invokevirtual 40, 3) := by decide +kernel
theorem dX9_wrongOnWays_72 : decode cX9_wrongOnWays 72 = .ok (.ifCond .ne 6, 3) := by decide +kernel
theorem dX9_wrongOnWays_75 : decode cX9_wrongOnWays 75 = .ok (.iload 4, 2) := by decide +kernel
theorem dX9_wrongOnWays_77 : decode cX9_wrongOnWays 77 = .ok (.ireturn, 1) := by decide +kernel
theorem dX9_wrongOnWays_78 : decode cX9_wrongOnWays 78 = .ok (.iinc 3 1, 3) := by decide +kernel
theorem dX9_wrongOnWays_81 : decode cX9_wrongOnWays 81 = .ok (.goto (-45), 3) := by decide +kernel
theorem dX9_wrongOnWays_84 : decode cX9_wrongOnWays 84 = .ok (.iconst (-1), 1) := by decide +kernel
theorem dX9_wrongOnWays_85 : decode cX9_wrongOnWays 85 = .ok (.ireturn, 1) := by decide +kernel
theorem dX9_leastWaiting_0 : decode cX9_leastWaiting 0 = .ok (.iconst 0, 1) := by decide +kernel
theorem dX9_leastWaiting_1 : decode cX9_leastWaiting 1 = .ok (.istore_n 2, 1) := by decide +kernel
theorem dX9_leastWaiting_2 : decode cX9_leastWaiting 2 = .ok (.iload_n 2, 1) := by decide +kernel
theorem dX9_leastWaiting_3 : decode cX9_leastWaiting 3 = .ok (.iload_n 1, 1) := by decide +kernel
theorem dX9_leastWaiting_4 : decode cX9_leastWaiting 4 = .ok (.if_icmp .ge 30, 3) := by decide +kernel
theorem dX9_leastWaiting_7 : decode cX9_leastWaiting 7 = .ok (.aload_n 0, 1) := by decide +kernel
theorem dX9_leastWaiting_8 : decode cX9_leastWaiting 8 = .ok (.getfield 9, 3) := by decide +kernel
theorem dX9_leastWaiting_11 : decode cX9_leastWaiting 11 = .ok (.iload_n 2, 1) := by decide +kernel
theorem dX9_leastWaiting_12 : decode cX9_leastWaiting 12 = .ok (.iaload, 1) := by decide +kernel
theorem dX9_leastWaiting_13 : decode cX9_leastWaiting 13 = .ok (.iconst (-1), 1) := by decide +kernel
theorem dX9_leastWaiting_14 : decode cX9_leastWaiting 14 = .ok (.if_icmp .eq 14, 3) := by decide +kernel
theorem dX9_leastWaiting_17 : decode cX9_leastWaiting 17 = .ok (.aload_n 0, 1) := by decide +kernel
theorem dX9_leastWaiting_18 : decode cX9_leastWaiting 18 = .ok (.getfield 15, 3) := by decide +kernel
theorem dX9_leastWaiting_21 : decode cX9_leastWaiting 21 = .ok (.iload_n 2, 1) := by decide +kernel
theorem dX9_leastWaiting_22 : decode cX9_leastWaiting 22 = .ok (.baload, 1) := by decide +kernel
theorem dX9_leastWaiting_23 : decode cX9_leastWaiting 23 = .ok (.ifCond .ne 5, 3) := by decide +kernel
theorem dX9_leastWaiting_26 : decode cX9_leastWaiting 26 = .ok (.iload_n 2, 1) := by decide +kernel
theorem dX9_leastWaiting_27 : decode cX9_leastWaiting 27 = .ok (.ireturn, 1) := by decide +kernel
theorem dX9_leastWaiting_28 : decode cX9_leastWaiting 28 = .ok (.iinc 2 1, 3) := by decide +kernel
theorem dX9_leastWaiting_31 : decode cX9_leastWaiting 31 = .ok (.goto (-29), 3) := by decide +kernel
theorem dX9_leastWaiting_34 : decode cX9_leastWaiting 34 = .ok (.iconst (-1), 1) := by decide +kernel
theorem dX9_leastWaiting_35 : decode cX9_leastWaiting 35 = .ok (.ireturn, 1) := by decide +kernel
theorem dX9_goesOn_0 : decode cX9_goesOn 0 = .ok (.aload_n 0, 1) := by decide +kernel
theorem dX9_goesOn_1 : decode cX9_goesOn 1 = .ok (.getfield 19, 3) := by decide +kernel
theorem dX9_goesOn_4 : decode cX9_goesOn 4 = .ok (.iload_n 1, 1) := by decide +kernel
theorem dX9_goesOn_5 : decode cX9_goesOn 5 = .ok (.iload_n 2, 1) := by decide +kernel
theorem dX9_goesOn_6 : decode cX9_goesOn 6 = .ok (.invokevirtual 44, 3) := by decide +kernel
theorem dX9_goesOn_9 : decode cX9_goesOn 9 = .ok (.istore 4, 2) := by decide +kernel
theorem dX9_goesOn_11 : decode cX9_goesOn 11 = .ok (.aload_n 0, 1) := by decide +kernel
theorem dX9_goesOn_12 : decode cX9_goesOn 12 = .ok (.getfield 19, 3) := by decide +kernel
theorem dX9_goesOn_15 : decode cX9_goesOn 15 = .ok (.iload_n 1, 1) := by decide +kernel
theorem dX9_goesOn_16 : decode cX9_goesOn 16 = .ok (.iload_n 2, 1) := by decide +kernel
theorem dX9_goesOn_17 : decode cX9_goesOn 17 = .ok (.invokevirtual 47, 3) := by decide +kernel
theorem dX9_goesOn_20 : decode cX9_goesOn 20 = .ok (.istore 5, 2) := by decide +kernel
theorem dX9_goesOn_22 : decode cX9_goesOn 22 = .ok (.aload_n 0, 1) := by decide +kernel
theorem dX9_goesOn_23 : decode cX9_goesOn 23 = .ok (.getfield 19, 3) := by decide +kernel
theorem dX9_goesOn_26 : decode cX9_goesOn 26 = .ok (.iload_n 1, 1) := by decide +kernel
theorem dX9_goesOn_27 : decode cX9_goesOn 27 = .ok (.iload_n 2, 1) := by decide +kernel
theorem dX9_goesOn_28 : decode cX9_goesOn 28 = .ok (.invokevirtual 50, 3) := by decide +kernel
theorem dX9_goesOn_31 : decode cX9_goesOn 31 = .ok (.istore 6, 2) := by decide +kernel
theorem dX9_goesOn_33 : decode cX9_goesOn 33 = .ok (.aload_n 0, 1) := by decide +kernel
theorem dX9_goesOn_34 : decode cX9_goesOn 34 = .ok (.getfield 9, 3) := by decide +kernel
theorem dX9_goesOn_37 : decode cX9_goesOn 37 = .ok (.iload_n 2, 1) := by decide +kernel
theorem dX9_goesOn_38 : decode cX9_goesOn 38 = .ok (.iaload, 1) := by decide +kernel
theorem dX9_goesOn_39 : decode cX9_goesOn 39 = .ok (.aload_n 0, 1) := by decide +kernel
theorem dX9_goesOn_40 : decode cX9_goesOn 40 = .ok (.getfield 19, 3) := by decide +kernel
theorem dX9_goesOn_43 : decode cX9_goesOn 43 = .ok (.iload 4, 2) := by decide +kernel
theorem dX9_goesOn_45 : decode cX9_goesOn 45 = .ok (.iload 5, 2) := by decide +kernel
theorem dX9_goesOn_47 : decode cX9_goesOn 47 = .ok (.iload 6, 2) := by decide +kernel
theorem dX9_goesOn_49 : decode cX9_goesOn 49 = .ok (.invokevirtual 53, 3) := by decide +kernel
theorem dX9_goesOn_52 : decode cX9_goesOn 52 = .ok (.isub, 1) := by decide +kernel
theorem dX9_goesOn_53 : decode cX9_goesOn 53 = .ok (.istore 7, 2) := by decide +kernel
theorem dX9_goesOn_55 : decode cX9_goesOn 55 = .ok (.iload 7, 2) := by decide +kernel
theorem dX9_goesOn_57 : decode cX9_goesOn 57 = .ok (.aload_n 0, 1) := by decide +kernel
theorem dX9_goesOn_58 : decode cX9_goesOn 58 = .ok (.getfield 19, 3) := by decide +kernel
theorem dX9_goesOn_61 : decode cX9_goesOn 61 = .ok (.iload 4, 2) := by decide +kernel
theorem dX9_goesOn_63 : decode cX9_goesOn 63 = .ok (.invokevirtual 57, 3) := by decide +kernel
theorem dX9_goesOn_66 : decode cX9_goesOn 66 = .ok (.iadd, 1) := by decide +kernel
theorem dX9_goesOn_67 : decode cX9_goesOn 67 = .ok (.istore 8, 2) := by decide +kernel
theorem dX9_goesOn_69 : decode cX9_goesOn 69 = .ok (.iload 7, 2) := by decide +kernel
theorem dX9_goesOn_71 : decode cX9_goesOn 71 = .ok (.ifCond .lt 10, 3) := by decide +kernel
theorem dX9_goesOn_74 : decode cX9_goesOn 74 = .ok (.iload 8, 2) := by decide +kernel
theorem dX9_goesOn_76 : decode cX9_goesOn 76 = .ok (.bipush 12, 2) := by decide +kernel
theorem dX9_goesOn_78 : decode cX9_goesOn 78 = .ok (.if_icmp .le 5, 3) := by decide +kernel
theorem dX9_goesOn_81 : decode cX9_goesOn 81 = .ok (.iconst 0, 1) := by decide +kernel
theorem dX9_goesOn_82 : decode cX9_goesOn 82 = .ok (.ireturn, 1) := by decide +kernel
theorem dX9_goesOn_83 : decode cX9_goesOn 83 = .ok (.iload 4, 2) := by decide +kernel
theorem dX9_goesOn_85 : decode cX9_goesOn 85 = .ok (.bipush 11, 2) := by decide +kernel
theorem dX9_goesOn_87 : decode cX9_goesOn 87 = .ok (.if_icmp .ne 5, 3) := by decide +kernel
theorem dX9_goesOn_90 : decode cX9_goesOn 90 = .ok (.iconst 1, 1) := by decide +kernel
theorem dX9_goesOn_91 : decode cX9_goesOn 91 = .ok (.ireturn, 1) := by decide +kernel
theorem dX9_goesOn_92 : decode cX9_goesOn 92 = .ok (.iload 4, 2) := by decide +kernel
theorem dX9_goesOn_94 : decode cX9_goesOn 94 = .ok (.bipush 8, 2) := by decide +kernel
theorem dX9_goesOn_96 : decode cX9_goesOn 96 = .ok (.if_icmp .eq 10, 3) := by decide +kernel
theorem dX9_goesOn_99 : decode cX9_goesOn 99 = .ok (.iload 4, 2) := by decide +kernel
theorem dX9_goesOn_101 : decode cX9_goesOn 101 = .ok (.bipush 9, 2) := by decide +kernel
theorem dX9_goesOn_103 : decode cX9_goesOn 103 = .ok (.if_icmp .ne 17, 3) := by decide +kernel
theorem dX9_goesOn_106 : decode cX9_goesOn 106 = .ok (.aload_n 0, 1) := by decide +kernel
theorem dX9_goesOn_107 : decode cX9_goesOn 107 = .ok (.iload 5, 2) := by decide +kernel
theorem dX9_goesOn_109 : decode cX9_goesOn 109 = .ok (.iload 8, 2) := by decide +kernel
theorem dX9_goesOn_111 : decode cX9_goesOn 111 = .ok (.iload_n 3, 1) := by decide +kernel
theorem dX9_goesOn_112 : decode cX9_goesOn 112 = .ok (.invokevirtual 60, 3) := by decide +kernel
theorem dX9_goesOn_115 : decode cX9_goesOn 115 = .ok (.ifCond .ne 5, 3) := by decide +kernel
theorem dX9_goesOn_118 : decode cX9_goesOn 118 = .ok (.iconst 0, 1) := by decide +kernel
theorem dX9_goesOn_119 : decode cX9_goesOn 119 = .ok (.ireturn, 1) := by decide +kernel
theorem dX9_goesOn_120 : decode cX9_goesOn 120 = .ok (.iload 4, 2) := by decide +kernel
theorem dX9_goesOn_122 : decode cX9_goesOn 122 = .ok (.bipush 8, 2) := by decide +kernel
theorem dX9_goesOn_124 : decode cX9_goesOn 124 = .ok (.if_icmp .eq 16, 3) := by decide +kernel
theorem dX9_goesOn_127 : decode cX9_goesOn 127 = .ok (.aload_n 0, 1) := by decide +kernel
theorem dX9_goesOn_128 : decode cX9_goesOn 128 = .ok (.iload_n 2, 1) := by decide +kernel
theorem dX9_goesOn_129 : decode cX9_goesOn 129 = .ok (.iconst 1, 1) := by decide +kernel
theorem dX9_goesOn_130 : decode cX9_goesOn 130 = .ok (.iadd, 1) := by decide +kernel
theorem dX9_goesOn_131 : decode cX9_goesOn 131 = .ok (.iload 8, 2) := by decide +kernel
theorem dX9_goesOn_133 : decode cX9_goesOn 133 = .ok (.iload_n 3, 1) := by decide +kernel
theorem dX9_goesOn_134 : decode cX9_goesOn 134 = .ok (.invokevirtual 60, 3) := by decide +kernel
theorem dX9_goesOn_137 : decode cX9_goesOn 137 = .ok (.ifCond .eq 7, 3) := by decide +kernel
theorem dX9_goesOn_140 : decode cX9_goesOn 140 = .ok (.iconst 1, 1) := by decide +kernel
theorem dX9_goesOn_141 : decode cX9_goesOn 141 = .ok (.goto 4, 3) := by decide +kernel
theorem dX9_goesOn_144 : decode cX9_goesOn 144 = .ok (.iconst 0, 1) := by decide +kernel
theorem dX9_goesOn_145 : decode cX9_goesOn 145 = .ok (.ireturn, 1) := by decide +kernel
theorem dX9_meets_0 : decode cX9_meets 0 = .ok (.iload_n 1, 1) := by decide +kernel
theorem dX9_meets_1 : decode cX9_meets 1 = .ok (.iload_n 3, 1) := by decide +kernel
theorem dX9_meets_2 : decode cX9_meets 2 = .ok (.if_icmp .lt 5, 3) := by decide +kernel
theorem dX9_meets_5 : decode cX9_meets 5 = .ok (.iconst 0, 1) := by decide +kernel
theorem dX9_meets_6 : decode cX9_meets 6 = .ok (.ireturn, 1) := by decide +kernel
theorem dX9_meets_7 : decode cX9_meets 7 = .ok (.aload_n 0, 1) := by decide +kernel
theorem dX9_meets_8 : decode cX9_meets 8 = .ok (.getfield 9, 3) := by decide +kernel
theorem dX9_meets_11 : decode cX9_meets 11 = .ok (.iload_n 1, 1) := by decide +kernel
theorem dX9_meets_12 : decode cX9_meets 12 = .ok (.iaload, 1) := by decide +kernel
theorem dX9_meets_13 : decode cX9_meets 13 = .ok (.iconst (-1), 1) := by decide +kernel
theorem dX9_meets_14 : decode cX9_meets 14 = .ok (.if_icmp .ne 10, 3) := by decide +kernel
theorem dX9_meets_17 : decode cX9_meets 17 = .ok (.aload_n 0, 1) := by decide +kernel
theorem dX9_meets_18 : decode cX9_meets 18 = .ok (.getfield 9, 3) := by decide +kernel
theorem dX9_meets_21 : decode cX9_meets 21 = .ok (.iload_n 1, 1) := by decide +kernel
theorem dX9_meets_22 : decode cX9_meets 22 = .ok (.iload_n 2, 1) := by decide +kernel
theorem dX9_meets_23 : decode cX9_meets 23 = .ok (.iastore, 1) := by decide +kernel
theorem dX9_meets_24 : decode cX9_meets 24 = .ok (.aload_n 0, 1) := by decide +kernel
theorem dX9_meets_25 : decode cX9_meets 25 = .ok (.getfield 9, 3) := by decide +kernel
theorem dX9_meets_28 : decode cX9_meets 28 = .ok (.iload_n 1, 1) := by decide +kernel
theorem dX9_meets_29 : decode cX9_meets 29 = .ok (.iaload, 1) := by decide +kernel
theorem dX9_meets_30 : decode cX9_meets 30 = .ok (.iload_n 2, 1) := by decide +kernel
theorem dX9_meets_31 : decode cX9_meets 31 = .ok (.if_icmp .ne 7, 3) := by decide +kernel
theorem dX9_meets_34 : decode cX9_meets 34 = .ok (.iconst 1, 1) := by decide +kernel
theorem dX9_meets_35 : decode cX9_meets 35 = .ok (.goto 4, 3) := by decide +kernel
theorem dX9_meets_38 : decode cX9_meets 38 = .ok (.iconst 0, 1) := by decide +kernel
theorem dX9_meets_39 : decode cX9_meets 39 = .ok (.ireturn, 1) := by decide +kernel
