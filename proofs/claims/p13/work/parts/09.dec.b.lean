theorem dX4_init_0 : decode cX4_init 0 = .ok (.aload_n 0, 1) := by decide +kernel
theorem dX4_init_1 : decode cX4_init 1 = .ok (.invokespecial 3, 3) := by decide +kernel
theorem dX4_init_4 : decode cX4_init 4 = .ok (.aload_n 0, 1) := by decide +kernel
theorem dX4_init_5 : decode cX4_init 5 = .ok (.new 9, 3) := by decide +kernel
theorem dX4_init_8 : decode cX4_init 8 = .ok (.dup, 1) := by decide +kernel
theorem dX4_init_9 : decode cX4_init 9 = .ok (.invokespecial 11, 3) := by decide +kernel
theorem dX4_init_12 : decode cX4_init 12 = .ok (.putfield 12, 3) := by decide +kernel
theorem dX4_init_15 : decode cX4_init 15 = .ok (.aload_n 0, 1) := by decide +kernel
theorem dX4_init_16 : decode cX4_init 16 = .ok (.new 18, 3) := by decide +kernel
theorem dX4_init_19 : decode cX4_init 19 = .ok (.dup, 1) := by decide +kernel
theorem dX4_init_20 : decode cX4_init 20 = .ok (.invokespecial 20, 3) := by decide +kernel
theorem dX4_init_23 : decode cX4_init 23 = .ok (.putfield 21, 3) := by decide +kernel
theorem dX4_init_26 : decode cX4_init 26 = .ok (.aload_n 0, 1) := by decide +kernel
theorem dX4_init_27 : decode cX4_init 27 = .ok (.new 25, 3) := by decide +kernel
theorem dX4_init_30 : decode cX4_init 30 = .ok (.dup, 1) := by decide +kernel
theorem dX4_init_31 : decode cX4_init 31 = .ok (.invokespecial 27, 3) := by decide +kernel
theorem dX4_init_34 : decode cX4_init 34 = .ok (.putfield 28, 3) := by decide +kernel
theorem dX4_init_37 : decode cX4_init 37 = .ok (.aload_n 0, 1) := by decide +kernel
theorem dX4_init_38 : decode cX4_init 38 = .ok (.lconst 0, 1) := by decide +kernel
theorem dX4_init_39 : decode cX4_init 39 = .ok (.putfield 32, 3) := by decide +kernel
theorem dX4_init_42 : decode cX4_init 42 = .ok (.aload_n 0, 1) := by decide +kernel
theorem dX4_init_43 : decode cX4_init 43 = .ok (.aload_n 1, 1) := by decide +kernel
theorem dX4_init_44 : decode cX4_init 44 = .ok (.putfield 36, 3) := by decide +kernel
theorem dX4_init_47 : decode cX4_init 47 = .ok (.aload_n 0, 1) := by decide +kernel
theorem dX4_init_48 : decode cX4_init 48 = .ok (.aload_n 2, 1) := by decide +kernel
theorem dX4_init_49 : decode cX4_init 49 = .ok (.putfield 40, 3) := by decide +kernel
theorem dX4_init_52 : decode cX4_init 52 = .ok (.aload_n 0, 1) := by decide +kernel
theorem dX4_init_53 : decode cX4_init 53 = .ok (.aload_n 1, 1) := by decide +kernel
theorem dX4_init_54 : decode cX4_init 54 = .ok (.putfield 44, 3) := by decide +kernel
theorem dX4_init_57 : decode cX4_init 57 = .ok (.return_, 1) := by decide +kernel
theorem dX4_outputLength_0 : decode cX4_outputLength 0 = .ok (.aload_n 0, 1) := by decide +kernel
theorem dX4_outputLength_1 : decode cX4_outputLength 1 = .ok (.getfield 28, 3) := by decide +kernel
theorem dX4_outputLength_4 : decode cX4_outputLength 4 = .ok (.invokevirtual 48, 3) := by decide +kernel
theorem dX4_outputLength_7 : decode cX4_outputLength 7 = .ok (.ireturn, 1) := by decide +kernel
theorem dX4_outputAt_0 : decode cX4_outputAt 0 = .ok (.aload_n 0, 1) := by decide +kernel
theorem dX4_outputAt_1 : decode cX4_outputAt 1 = .ok (.getfield 28, 3) := by decide +kernel
theorem dX4_outputAt_4 : decode cX4_outputAt 4 = .ok (.iload_n 1, 1) := by decide +kernel
theorem dX4_outputAt_5 : decode cX4_outputAt 5 = .ok (.invokevirtual 52, 3) := by decide +kernel
theorem dX4_outputAt_8 : decode cX4_outputAt 8 = .ok (.ireturn, 1) := by decide +kernel
theorem dX4_stepTotal_0 : decode cX4_stepTotal 0 = .ok (.aload_n 0, 1) := by decide +kernel
theorem dX4_stepTotal_1 : decode cX4_stepTotal 1 = .ok (.getfield 56, 3) := by decide +kernel
theorem dX4_stepTotal_4 : decode cX4_stepTotal 4 = .ok (.ireturn, 1) := by decide +kernel
theorem dX4_returnedKind_0 : decode cX4_returnedKind 0 = .ok (.aload_n 0, 1) := by decide +kernel
theorem dX4_returnedKind_1 : decode cX4_returnedKind 1 = .ok (.getfield 32, 3) := by decide +kernel
theorem dX4_returnedKind_4 : decode cX4_returnedKind 4 = .ok (.invokestatic 60, 3) := by decide +kernel
theorem dX4_returnedKind_7 : decode cX4_returnedKind 7 = .ok (.ireturn, 1) := by decide +kernel
theorem dX4_returnedNumber_0 : decode cX4_returnedNumber 0 = .ok (.aload_n 0, 1) := by decide +kernel
theorem dX4_returnedNumber_1 : decode cX4_returnedNumber 1 = .ok (.invokevirtual 64, 3) := by decide +kernel
theorem dX4_returnedNumber_4 : decode cX4_returnedNumber 4 = .ok (.iconst 1, 1) := by decide +kernel
theorem dX4_returnedNumber_5 : decode cX4_returnedNumber 5 = .ok (.if_icmp .ne 13, 3) := by decide +kernel
theorem dX4_returnedNumber_8 : decode cX4_returnedNumber 8 = .ok (.aload_n 0, 1) := by decide +kernel
theorem dX4_returnedNumber_9 : decode cX4_returnedNumber 9 = .ok (.getfield 32, 3) := by decide +kernel
theorem dX4_returnedNumber_12 : decode cX4_returnedNumber 12 = .ok (.invokestatic 67, 3) := by decide +kernel
theorem dX4_returnedNumber_15 : decode cX4_returnedNumber 15 = .ok (.goto 4, 3) := by decide +kernel
theorem dX4_returnedNumber_18 : decode cX4_returnedNumber 18 = .ok (.iconst 0, 1) := by decide +kernel
theorem dX4_returnedNumber_19 : decode cX4_returnedNumber 19 = .ok (.ireturn, 1) := by decide +kernel
theorem dX4_perform_0 : decode cX4_perform 0 = .ok (.aload_n 0, 1) := by decide +kernel
theorem dX4_perform_1 : decode cX4_perform 1 = .ok (.getfield 12, 3) := by decide +kernel
theorem dX4_perform_4 : decode cX4_perform 4 = .ok (.invokevirtual 70, 3) := by decide +kernel
theorem dX4_perform_7 : decode cX4_perform 7 = .ok (.aload_n 0, 1) := by decide +kernel
theorem dX4_perform_8 : decode cX4_perform 8 = .ok (.getfield 21, 3) := by decide +kernel
theorem dX4_perform_11 : decode cX4_perform 11 = .ok (.invokevirtual 73, 3) := by decide +kernel
theorem dX4_perform_14 : decode cX4_perform 14 = .ok (.aload_n 0, 1) := by decide +kernel
theorem dX4_perform_15 : decode cX4_perform 15 = .ok (.getfield 28, 3) := by decide +kernel
theorem dX4_perform_18 : decode cX4_perform 18 = .ok (.invokevirtual 74, 3) := by decide +kernel
theorem dX4_perform_21 : decode cX4_perform 21 = .ok (.aload_n 0, 1) := by decide +kernel
theorem dX4_perform_22 : decode cX4_perform 22 = .ok (.iconst 0, 1) := by decide +kernel
theorem dX4_perform_23 : decode cX4_perform 23 = .ok (.putfield 75, 3) := by decide +kernel
theorem dX4_perform_26 : decode cX4_perform 26 = .ok (.aload_n 0, 1) := by decide +kernel
theorem dX4_perform_27 : decode cX4_perform 27 = .ok (.iconst 0, 1) := by decide +kernel
theorem dX4_perform_28 : decode cX4_perform 28 = .ok (.putfield 56, 3) := by decide +kernel
theorem dX4_perform_31 : decode cX4_perform 31 = .ok (.aload_n 0, 1) := by decide +kernel
theorem dX4_perform_32 : decode cX4_perform 32 = .ok (.iconst 0, 1) := by decide +kernel
theorem dX4_perform_33 : decode cX4_perform 33 = .ok (.putfield 78, 3) := by decide +kernel
theorem dX4_perform_36 : decode cX4_perform 36 = .ok (.aload_n 0, 1) := by decide +kernel
theorem dX4_perform_37 : decode cX4_perform 37 = .ok (.lconst 0, 1) := by decide +kernel
theorem dX4_perform_38 : decode cX4_perform 38 = .ok (.putfield 32, 3) := by decide +kernel
theorem dX4_perform_41 : decode cX4_perform 41 = .ok (.aload_n 0, 1) := by decide +kernel
theorem dX4_perform_42 : decode cX4_perform 42 = .ok (.aload_n 0, 1) := by decide +kernel
theorem dX4_perform_43 : decode cX4_perform 43 = .ok (.getfield 36, 3) := by decide +kernel
theorem dX4_perform_46 : decode cX4_perform 46 = .ok (.putfield 44, 3) := by decide +kernel
theorem dX4_perform_49 : decode cX4_perform 49 = .ok (.iload 5, 2) := by decide +kernel
theorem dX4_perform_51 : decode cX4_perform 51 = .ok (.ifCond .eq 11, 3) := by decide +kernel
theorem dX4_perform_54 : decode cX4_perform 54 = .ok (.aload_n 0, 1) := by decide +kernel
theorem dX4_perform_55 : decode cX4_perform 55 = .ok (.aload_n 0, 1) := by decide +kernel
theorem dX4_perform_56 : decode cX4_perform 56 = .ok (.getfield 40, 3) := by decide +kernel
theorem dX4_perform_59 : decode cX4_perform 59 = .ok (.putfield 44, 3) := by decide +kernel
theorem dX4_perform_62 : decode cX4_perform 62 = .ok (.aload_n 0, 1) := by decide +kernel
theorem dX4_perform_63 : decode cX4_perform 63 = .ok (.iload_n 1, 1) := by decide +kernel
theorem dX4_perform_64 : decode cX4_perform 64 = .ok (.invokevirtual 81, 3) := by decide +kernel
theorem dX4_perform_67 : decode cX4_perform 67 = .ok (.pop, 1) := by decide +kernel
theorem dX4_perform_68 : decode cX4_perform 68 = .ok (.aload_n 0, 1) := by decide +kernel
theorem dX4_perform_69 : decode cX4_perform 69 = .ok (.getfield 36, 3) := by decide +kernel
theorem dX4_perform_72 : decode cX4_perform 72 = .ok (.iload_n 1, 1) := by decide +kernel
theorem dX4_perform_73 : decode cX4_perform 73 = .ok (.invokevirtual 85, 3) := by decide +kernel
theorem dX4_perform_76 : decode cX4_perform 76 = .ok (.istore 6, 2) := by decide +kernel
theorem dX4_perform_78 : decode cX4_perform 78 = .ok (.iconst 0, 1) := by decide +kernel
theorem dX4_perform_79 : decode cX4_perform 79 = .ok (.istore 7, 2) := by decide +kernel
theorem dX4_perform_81 : decode cX4_perform 81 = .ok (.iload 7, 2) := by decide +kernel
theorem dX4_perform_83 : decode cX4_perform 83 = .ok (.iload 6, 2) := by decide +kernel
theorem dX4_perform_85 : decode cX4_perform 85 = .ok (.if_icmp .ge 43, 3) := by decide +kernel
theorem dX4_perform_88 : decode cX4_perform 88 = .ok (.aload_n 0, 1) := by decide +kernel
theorem dX4_perform_89 : decode cX4_perform 89 = .ok (.getfield 12, 3) := by decide +kernel
theorem dX4_perform_92 : decode cX4_perform 92 = .ok (.iload 7, 2) := by decide +kernel
theorem dX4_perform_94 : decode cX4_perform 94 = .ok (.iconst 1, 1) := by decide +kernel
theorem dX4_perform_95 : decode cX4_perform 95 = .ok (.iload 7, 2) := by decide +kernel
theorem dX4_perform_97 : decode cX4_perform 97 = .ok (.ifCond .ne 7, 3) := by decide +kernel
theorem dX4_perform_100 : decode cX4_perform 100 = .ok (.iload_n 2, 1) := by decide +kernel
theorem dX4_perform_101 : decode cX4_perform 101 = .ok (.goto 15, 3) := by decide +kernel
theorem dX4_perform_104 : decode cX4_perform 104 = .ok (.iload 7, 2) := by decide +kernel
theorem dX4_perform_106 : decode cX4_perform 106 = .ok (.iconst 1, 1) := by decide +kernel
theorem dX4_perform_107 : decode cX4_perform 107 = .ok (.if_icmp .ne 7, 3) := by decide +kernel
theorem dX4_perform_110 : decode cX4_perform 110 = .ok (.iload_n 3, 1) := by decide +kernel
theorem dX4_perform_111 : decode cX4_perform 111 = .ok (.goto 5, 3) := by decide +kernel
theorem dX4_perform_114 : decode cX4_perform 114 = .ok (.iload 4, 2) := by decide +kernel
theorem dX4_perform_116 : decode cX4_perform 116 = .ok (.invokestatic 90, 3) := by decide +kernel
theorem dX4_perform_119 : decode cX4_perform 119 = .ok (.invokevirtual 94, 3) := by decide +kernel
theorem dX4_perform_122 : decode cX4_perform 122 = .ok (.iinc 7 1, 3) := by decide +kernel
theorem dX4_perform_125 : decode cX4_perform 125 = .ok (.goto (-44), 3) := by decide +kernel
theorem dX4_perform_128 : decode cX4_perform 128 = .ok (.iconst 0, 1) := by decide +kernel
theorem dX4_perform_129 : decode cX4_perform 129 = .ok (.istore 7, 2) := by decide +kernel
theorem dX4_perform_131 : decode cX4_perform 131 = .ok (.iload 7, 2) := by decide +kernel
theorem dX4_perform_133 : decode cX4_perform 133 = .ok (.ldc 98, 2) := by decide +kernel
theorem dX4_perform_135 : decode cX4_perform 135 = .ok (.if_icmp .ge 30, 3) := by decide +kernel
theorem dX4_perform_138 : decode cX4_perform 138 = .ok (.aload_n 0, 1) := by decide +kernel
theorem dX4_perform_139 : decode cX4_perform 139 = .ok (.getfield 78, 3) := by decide +kernel
theorem dX4_perform_142 : decode cX4_perform 142 = .ok (.ifCond .ne 23, 3) := by decide +kernel
theorem dX4_perform_145 : decode cX4_perform 145 = .ok (.aload_n 0, 1) := by decide +kernel
theorem dX4_perform_146 : decode cX4_perform 146 = .ok (.getfield 12, 3) := by decide +kernel
theorem dX4_perform_149 : decode cX4_perform 149 = .ok (.invokevirtual 99, 3) := by decide +kernel
theorem dX4_perform_152 : decode cX4_perform 152 = .ok (.ifCond .eq 13, 3) := by decide +kernel
theorem dX4_perform_155 : decode cX4_perform 155 = .ok (.aload_n 0, 1) := by decide +kernel
theorem dX4_perform_156 : decode cX4_perform 156 = .ok (.invokevirtual 103, 3) := by decide +kernel
theorem dX4_perform_159 : decode cX4_perform 159 = .ok (.iinc 7 1, 3) := by decide +kernel
theorem dX4_perform_162 : decode cX4_perform 162 = .ok (.goto (-31), 3) := by decide +kernel
theorem dX4_perform_165 : decode cX4_perform 165 = .ok (.aload_n 0, 1) := by decide +kernel
theorem dX4_perform_166 : decode cX4_perform 166 = .ok (.getfield 78, 3) := by decide +kernel
theorem dX4_perform_169 : decode cX4_perform 169 = .ok (.ireturn, 1) := by decide +kernel
theorem dX4_doNext_0 : decode cX4_doNext 0 = .ok (.aload_n 0, 1) := by decide +kernel
theorem dX4_doNext_1 : decode cX4_doNext 1 = .ok (.getfield 12, 3) := by decide +kernel
theorem dX4_doNext_4 : decode cX4_doNext 4 = .ok (.invokevirtual 106, 3) := by decide +kernel
theorem dX4_doNext_7 : decode cX4_doNext 7 = .ok (.istore_n 1, 1) := by decide +kernel
theorem dX4_doNext_8 : decode cX4_doNext 8 = .ok (.aload_n 0, 1) := by decide +kernel
theorem dX4_doNext_9 : decode cX4_doNext 9 = .ok (.getfield 12, 3) := by decide +kernel
theorem dX4_doNext_12 : decode cX4_doNext 12 = .ok (.invokevirtual 109, 3) := by decide +kernel
theorem dX4_doNext_15 : decode cX4_doNext 15 = .ok (.istore_n 2, 1) := by decide +kernel
theorem dX4_doNext_16 : decode cX4_doNext 16 = .ok (.aload_n 0, 1) := by decide +kernel
theorem dX4_doNext_17 : decode cX4_doNext 17 = .ok (.getfield 44, 3) := by decide +kernel
theorem dX4_doNext_20 : decode cX4_doNext 20 = .ok (.iload_n 1, 1) := by decide +kernel
theorem dX4_doNext_21 : decode cX4_doNext 21 = .ok (.iload_n 2, 1) := by decide +kernel
theorem dX4_doNext_22 : decode cX4_doNext 22 = .ok (.invokeinterface 112 3, 5) := by decide +kernel
theorem dX4_doNext_27 : decode cX4_doNext 27 = .ok (.ifCond .eq 29, 3) := by decide +kernel
theorem dX4_doNext_30 : decode cX4_doNext 30 = .ok (.aload_n 0, 1) := by decide +kernel
theorem dX4_doNext_31 : decode cX4_doNext 31 = .ok (.getfield 56, 3) := by decide +kernel
theorem dX4_doNext_34 : decode cX4_doNext 34 = .ok (.sipush 400, 3) := by decide +kernel
theorem dX4_doNext_37 : decode cX4_doNext 37 = .ok (.if_icmp .ne 9, 3) := by decide +kernel
theorem dX4_doNext_40 : decode cX4_doNext 40 = .ok (.aload_n 0, 1) := by decide +kernel
theorem dX4_doNext_41 : decode cX4_doNext 41 = .ok (.iconst 4, 1) := by decide +kernel
theorem dX4_doNext_42 : decode cX4_doNext 42 = .ok (.putfield 78, 3) := by decide +kernel
theorem dX4_doNext_45 : decode cX4_doNext 45 = .ok (.return_, 1) := by decide +kernel
theorem dX4_doNext_46 : decode cX4_doNext 46 = .ok (.aload_n 0, 1) := by decide +kernel
theorem dX4_doNext_47 : decode cX4_doNext 47 = .ok (.dup, 1) := by decide +kernel
theorem dX4_doNext_48 : decode cX4_doNext 48 = .ok (.getfield 56, 3) := by decide +kernel
theorem dX4_doNext_51 : decode cX4_doNext 51 = .ok (.iconst 1, 1) := by decide +kernel
theorem dX4_doNext_52 : decode cX4_doNext 52 = .ok (.iadd, 1) := by decide +kernel
theorem dX4_doNext_53 : decode cX4_doNext 53 = .ok (.putfield 56, 3) := by decide +kernel
theorem dX4_doNext_56 : decode cX4_doNext 56 = .ok (.aload_n 0, 1) := by decide +kernel
theorem dX4_doNext_57 : decode cX4_doNext 57 = .ok (.getfield 12, 3) := by decide +kernel
theorem dX4_doNext_60 : decode cX4_doNext 60 = .ok (.iload_n 2, 1) := by decide +kernel
theorem dX4_doNext_61 : decode cX4_doNext 61 = .ok (.iconst 1, 1) := by decide +kernel
theorem dX4_doNext_62 : decode cX4_doNext 62 = .ok (.iadd, 1) := by decide +kernel
theorem dX4_doNext_63 : decode cX4_doNext 63 = .ok (.invokevirtual 118, 3) := by decide +kernel
theorem dX4_doNext_66 : decode cX4_doNext 66 = .ok (.aload_n 0, 1) := by decide +kernel
theorem dX4_doNext_67 : decode cX4_doNext 67 = .ok (.getfield 44, 3) := by decide +kernel
theorem dX4_doNext_70 : decode cX4_doNext 70 = .ok (.iload_n 1, 1) := by decide +kernel
theorem dX4_doNext_71 : decode cX4_doNext 71 = .ok (.iload_n 2, 1) := by decide +kernel
theorem dX4_doNext_72 : decode cX4_doNext 72 = .ok (.invokeinterface 122 3, 5) := by decide +kernel
theorem dX4_doNext_77 : decode cX4_doNext 77 = .ok (.istore_n 3, 1) := by decide +kernel
theorem dX4_doNext_78 : decode cX4_doNext 78 = .ok (.aload_n 0, 1) := by decide +kernel
theorem dX4_doNext_79 : decode cX4_doNext 79 = .ok (.getfield 44, 3) := by decide +kernel
theorem dX4_doNext_82 : decode cX4_doNext 82 = .ok (.iload_n 1, 1) := by decide +kernel
theorem dX4_doNext_83 : decode cX4_doNext 83 = .ok (.iload_n 2, 1) := by decide +kernel
theorem dX4_doNext_84 : decode cX4_doNext 84 = .ok (.invokeinterface 126 3, 5) := by decide +kernel
theorem dX4_doNext_89 : decode cX4_doNext 89 = .ok (.istore 4, 2) := by decide +kernel
theorem dX4_doNext_91 : decode cX4_doNext 91 = .ok (.aload_n 0, 1) := by decide +kernel
theorem dX4_doNext_92 : decode cX4_doNext 92 = .ok (.getfield 44, 3) := by decide +kernel
theorem dX4_doNext_95 : decode cX4_doNext 95 = .ok (.iload_n 1, 1) := by decide +kernel
theorem dX4_doNext_96 : decode cX4_doNext 96 = .ok (.iload_n 2, 1) := by decide +kernel
theorem dX4_doNext_97 : decode cX4_doNext 97 = .ok (.invokeinterface 129 3, 5) := by decide +kernel
theorem dX4_doNext_102 : decode cX4_doNext 102 = .ok (.istore 5, 2) := by decide +kernel
theorem dX4_doNext_104 : decode cX4_doNext 104 = .ok (.iload_n 3, 1) := by decide +kernel
theorem dX4_doNext_105 : decode cX4_doNext 105 = .ok (.bipush 12, 2) := by decide +kernel
theorem dX4_doNext_107 : decode cX4_doNext 107 = .ok (.if_icmp .gt 13, 3) := by decide +kernel
theorem dX4_doNext_110 : decode cX4_doNext 110 = .ok (.aload_n 0, 1) := by decide +kernel
theorem dX4_doNext_111 : decode cX4_doNext 111 = .ok (.iload_n 3, 1) := by decide +kernel
theorem dX4_doNext_112 : decode cX4_doNext 112 = .ok (.iload 4, 2) := by decide +kernel
theorem dX4_doNext_114 : decode cX4_doNext 114 = .ok (.invokevirtual 132, 3) := by decide +kernel
theorem dX4_doNext_117 : decode cX4_doNext 117 = .ok (.goto 30, 3) := by decide +kernel
theorem dX4_doNext_120 : decode cX4_doNext 120 = .ok (.iload_n 3, 1) := by decide +kernel
theorem dX4_doNext_121 : decode cX4_doNext 121 = .ok (.bipush 15, 2) := by decide +kernel
theorem dX4_doNext_123 : decode cX4_doNext 123 = .ok (.if_icmp .gt 15, 3) := by decide +kernel
theorem dX4_doNext_126 : decode cX4_doNext 126 = .ok (.aload_n 0, 1) := by decide +kernel
theorem dX4_doNext_127 : decode cX4_doNext 127 = .ok (.iload_n 3, 1) := by decide +kernel
theorem dX4_doNext_128 : decode cX4_doNext 128 = .ok (.iload 4, 2) := by decide +kernel
theorem dX4_doNext_130 : decode cX4_doNext 130 = .ok (.iload 5, 2) := by decide +kernel
theorem dX4_doNext_132 : decode cX4_doNext 132 = .ok (.invokevirtual 136, 3) := by decide +kernel
theorem dX4_doNext_135 : decode cX4_doNext 135 = .ok (.goto 12, 3) := by decide +kernel
theorem dX4_doNext_138 : decode cX4_doNext 138 = .ok (.aload_n 0, 1) := by decide +kernel
theorem dX4_doNext_139 : decode cX4_doNext 139 = .ok (.iload_n 3, 1) := by decide +kernel
theorem dX4_doNext_140 : decode cX4_doNext 140 = .ok (.iload 4, 2) := by decide +kernel
theorem dX4_doNext_142 : decode cX4_doNext 142 = .ok (.iload 5, 2) := by decide +kernel
theorem dX4_doNext_144 : decode cX4_doNext 144 = .ok (.invokevirtual 140, 3) := by decide +kernel
theorem dX4_doNext_147 : decode cX4_doNext 147 = .ok (.return_, 1) := by decide +kernel
theorem dX4_doShared_0 : decode cX4_doShared 0 = .ok (.iload_n 1, 1) := by decide +kernel
theorem dX4_doShared_1 : decode cX4_doShared 1 = .ok (.tableswitch 212 0 12 #[67, 82, 100, 212, 212, 212, 118, 145, 156, 167, 175, 183, 190], 67) := by decide +kernel
theorem dX4_doShared_68 : decode cX4_doShared 68 = .ok (.aload_n 0, 1) := by decide +kernel
theorem dX4_doShared_69 : decode cX4_doShared 69 = .ok (.getfield 12, 3) := by decide +kernel
theorem dX4_doShared_72 : decode cX4_doShared 72 = .ok (.iconst 1, 1) := by decide +kernel
theorem dX4_doShared_73 : decode cX4_doShared 73 = .ok (.iload_n 2, 1) := by decide +kernel
theorem dX4_doShared_74 : decode cX4_doShared 74 = .ok (.invokestatic 90, 3) := by decide +kernel
theorem dX4_doShared_77 : decode cX4_doShared 77 = .ok (.invokevirtual 143, 3) := by decide +kernel
theorem dX4_doShared_80 : decode cX4_doShared 80 = .ok (.goto 138, 3) := by decide +kernel
theorem dX4_doShared_83 : decode cX4_doShared 83 = .ok (.aload_n 0, 1) := by decide +kernel
theorem dX4_doShared_84 : decode cX4_doShared 84 = .ok (.getfield 12, 3) := by decide +kernel
theorem dX4_doShared_87 : decode cX4_doShared 87 = .ok (.aload_n 0, 1) := by decide +kernel
theorem dX4_doShared_88 : decode cX4_doShared 88 = .ok (.getfield 12, 3) := by decide +kernel
theorem dX4_doShared_91 : decode cX4_doShared 91 = .ok (.iload_n 2, 1) := by decide +kernel
theorem dX4_doShared_92 : decode cX4_doShared 92 = .ok (.invokevirtual 147, 3) := by decide +kernel
theorem dX4_doShared_95 : decode cX4_doShared 95 = .ok (.invokevirtual 143, 3) := by decide +kernel
theorem dX4_doShared_98 : decode cX4_doShared 98 = .ok (.goto 120, 3) := by decide +kernel
theorem dX4_doShared_101 : decode cX4_doShared 101 = .ok (.aload_n 0, 1) := by decide +kernel
theorem dX4_doShared_102 : decode cX4_doShared 102 = .ok (.getfield 12, 3) := by decide +kernel
theorem dX4_doShared_105 : decode cX4_doShared 105 = .ok (.iload_n 2, 1) := by decide +kernel
theorem dX4_doShared_106 : decode cX4_doShared 106 = .ok (.aload_n 0, 1) := by decide +kernel
theorem dX4_doShared_107 : decode cX4_doShared 107 = .ok (.getfield 12, 3) := by decide +kernel
theorem dX4_doShared_110 : decode cX4_doShared 110 = .ok (.invokevirtual 151, 3) := by decide +kernel
theorem dX4_doShared_113 : decode cX4_doShared 113 = .ok (.invokevirtual 94, 3) := by decide +kernel
theorem dX4_doShared_116 : decode cX4_doShared 116 = .ok (.goto 102, 3) := by decide +kernel
theorem dX4_doShared_119 : decode cX4_doShared 119 = .ok (.aload_n 0, 1) := by decide +kernel
theorem dX4_doShared_120 : decode cX4_doShared 120 = .ok (.getfield 12, 3) := by decide +kernel
theorem dX4_doShared_123 : decode cX4_doShared 123 = .ok (.invokevirtual 151, 3) := by decide +kernel
theorem dX4_doShared_126 : decode cX4_doShared 126 = .ok (.lstore_n 3, 1) := by decide +kernel
theorem dX4_doShared_127 : decode cX4_doShared 127 = .ok (.aload_n 0, 1) := by decide +kernel
theorem dX4_doShared_128 : decode cX4_doShared 128 = .ok (.getfield 12, 3) := by decide +kernel
theorem dX4_doShared_131 : decode cX4_doShared 131 = .ok (.lload_n 3, 1) := by decide +kernel
theorem dX4_doShared_132 : decode cX4_doShared 132 = .ok (.invokevirtual 143, 3) := by decide +kernel
theorem dX4_doShared_135 : decode cX4_doShared 135 = .ok (.aload_n 0, 1) := by decide +kernel
theorem dX4_doShared_136 : decode cX4_doShared 136 = .ok (.getfield 12, 3) := by decide +kernel
theorem dX4_doShared_139 : decode cX4_doShared 139 = .ok (.lload_n 3, 1) := by decide +kernel
theorem dX4_doShared_140 : decode cX4_doShared 140 = .ok (.invokevirtual 143, 3) := by decide +kernel
theorem dX4_doShared_143 : decode cX4_doShared 143 = .ok (.goto 75, 3) := by decide +kernel
theorem dX4_doShared_146 : decode cX4_doShared 146 = .ok (.aload_n 0, 1) := by decide +kernel
theorem dX4_doShared_147 : decode cX4_doShared 147 = .ok (.getfield 12, 3) := by decide +kernel
theorem dX4_doShared_150 : decode cX4_doShared 150 = .ok (.invokevirtual 151, 3) := by decide +kernel
theorem dX4_doShared_153 : decode cX4_doShared 153 = .ok (.pop2, 1) := by decide +kernel
theorem dX4_doShared_154 : decode cX4_doShared 154 = .ok (.goto 64, 3) := by decide +kernel
theorem dX4_doShared_157 : decode cX4_doShared 157 = .ok (.aload_n 0, 1) := by decide +kernel
theorem dX4_doShared_158 : decode cX4_doShared 158 = .ok (.getfield 12, 3) := by decide +kernel
theorem dX4_doShared_161 : decode cX4_doShared 161 = .ok (.iload_n 2, 1) := by decide +kernel
theorem dX4_doShared_162 : decode cX4_doShared 162 = .ok (.invokevirtual 118, 3) := by decide +kernel
theorem dX4_doShared_165 : decode cX4_doShared 165 = .ok (.goto 53, 3) := by decide +kernel
theorem dX4_doShared_168 : decode cX4_doShared 168 = .ok (.aload_n 0, 1) := by decide +kernel
theorem dX4_doShared_169 : decode cX4_doShared 169 = .ok (.iload_n 2, 1) := by decide +kernel
theorem dX4_doShared_170 : decode cX4_doShared 170 = .ok (.invokevirtual 155, 3) := by decide +kernel
theorem dX4_doShared_173 : decode cX4_doShared 173 = .ok (.goto 45, 3) := by decide +kernel
theorem dX4_doShared_176 : decode cX4_doShared 176 = .ok (.aload_n 0, 1) := by decide +kernel
theorem dX4_doShared_177 : decode cX4_doShared 177 = .ok (.iload_n 2, 1) := by decide +kernel
theorem dX4_doShared_178 : decode cX4_doShared 178 = .ok (.invokevirtual 158, 3) := by decide +kernel
theorem dX4_doShared_181 : decode cX4_doShared 181 = .ok (.goto 37, 3) := by decide +kernel
theorem dX4_doShared_184 : decode cX4_doShared 184 = .ok (.aload_n 0, 1) := by decide +kernel
theorem dX4_doShared_185 : decode cX4_doShared 185 = .ok (.invokevirtual 161, 3) := by decide +kernel
theorem dX4_doShared_188 : decode cX4_doShared 188 = .ok (.goto 30, 3) := by decide +kernel
theorem dX4_doShared_191 : decode cX4_doShared 191 = .ok (.aload_n 0, 1) := by decide +kernel
theorem dX4_doShared_192 : decode cX4_doShared 192 = .ok (.aload_n 0, 1) := by decide +kernel
theorem dX4_doShared_193 : decode cX4_doShared 193 = .ok (.getfield 28, 3) := by decide +kernel
theorem dX4_doShared_196 : decode cX4_doShared 196 = .ok (.aload_n 0, 1) := by decide +kernel
theorem dX4_doShared_197 : decode cX4_doShared 197 = .ok (.getfield 12, 3) := by decide +kernel
theorem dX4_doShared_200 : decode cX4_doShared 200 = .ok (.invokevirtual 151, 3) := by decide +kernel
theorem dX4_doShared_203 : decode cX4_doShared 203 = .ok (.invokevirtual 164, 3) := by decide +kernel
theorem dX4_doShared_206 : decode cX4_doShared 206 = .ok (.iconst 5, 1) := by decide +kernel
theorem dX4_doShared_207 : decode cX4_doShared 207 = .ok (.invokevirtual 168, 3) := by decide +kernel
theorem dX4_doShared_210 : decode cX4_doShared 210 = .ok (.goto 8, 3) := by decide +kernel
theorem dX4_doShared_213 : decode cX4_doShared 213 = .ok (.aload_n 0, 1) := by decide +kernel
theorem dX4_doShared_214 : decode cX4_doShared 214 = .ok (.iload_n 1, 1) := by decide +kernel
theorem dX4_doShared_215 : decode cX4_doShared 215 = .ok (.invokevirtual 172, 3) := by decide +kernel
theorem dX4_doShared_218 : decode cX4_doShared 218 = .ok (.return_, 1) := by decide +kernel
theorem dX4_doFirst_0 : decode cX4_doFirst 0 = .ok (.iload_n 1, 1) := by decide +kernel
theorem dX4_doFirst_1 : decode cX4_doFirst 1 = .ok (.bipush 13, 2) := by decide +kernel
theorem dX4_doFirst_3 : decode cX4_doFirst 3 = .ok (.if_icmp .ne 72, 3) := by decide +kernel
theorem dX4_doFirst_6 : decode cX4_doFirst 6 = .ok (.aload_n 0, 1) := by decide +kernel
theorem dX4_doFirst_7 : decode cX4_doFirst 7 = .ok (.getfield 12, 3) := by decide +kernel
theorem dX4_doFirst_10 : decode cX4_doFirst 10 = .ok (.iload_n 3, 1) := by decide +kernel
theorem dX4_doFirst_11 : decode cX4_doFirst 11 = .ok (.invokevirtual 175, 3) := by decide +kernel
theorem dX4_doFirst_14 : decode cX4_doFirst 14 = .ok (.aload_n 0, 1) := by decide +kernel
theorem dX4_doFirst_15 : decode cX4_doFirst 15 = .ok (.getfield 21, 3) := by decide +kernel
theorem dX4_doFirst_18 : decode cX4_doFirst 18 = .ok (.iload_n 2, 1) := by decide +kernel
theorem dX4_doFirst_19 : decode cX4_doFirst 19 = .ok (.iload_n 3, 1) := by decide +kernel
theorem dX4_doFirst_20 : decode cX4_doFirst 20 = .ok (.invokevirtual 178, 3) := by decide +kernel
theorem dX4_doFirst_23 : decode cX4_doFirst 23 = .ok (.lstore 4, 2) := by decide +kernel
theorem dX4_doFirst_25 : decode cX4_doFirst 25 = .ok (.iconst 0, 1) := by decide +kernel
theorem dX4_doFirst_26 : decode cX4_doFirst 26 = .ok (.istore 6, 2) := by decide +kernel
theorem dX4_doFirst_28 : decode cX4_doFirst 28 = .ok (.iload 6, 2) := by decide +kernel
theorem dX4_doFirst_30 : decode cX4_doFirst 30 = .ok (.iload_n 3, 1) := by decide +kernel
theorem dX4_doFirst_31 : decode cX4_doFirst 31 = .ok (.if_icmp .ge 32, 3) := by decide +kernel
theorem dX4_doFirst_34 : decode cX4_doFirst 34 = .ok (.aload_n 0, 1) := by decide +kernel
theorem dX4_doFirst_35 : decode cX4_doFirst 35 = .ok (.getfield 21, 3) := by decide +kernel
theorem dX4_doFirst_38 : decode cX4_doFirst 38 = .ok (.lload 4, 2) := by decide +kernel
theorem dX4_doFirst_40 : decode cX4_doFirst 40 = .ok (.invokestatic 67, 3) := by decide +kernel
theorem dX4_doFirst_43 : decode cX4_doFirst 43 = .ok (.iload 6, 2) := by decide +kernel
theorem dX4_doFirst_45 : decode cX4_doFirst 45 = .ok (.aload_n 0, 1) := by decide +kernel
theorem dX4_doFirst_46 : decode cX4_doFirst 46 = .ok (.getfield 12, 3) := by decide +kernel
theorem dX4_doFirst_49 : decode cX4_doFirst 49 = .ok (.iload 6, 2) := by decide +kernel
theorem dX4_doFirst_51 : decode cX4_doFirst 51 = .ok (.invokevirtual 181, 3) := by decide +kernel
theorem dX4_doFirst_54 : decode cX4_doFirst 54 = .ok (.invokevirtual 184, 3) := by decide +kernel
theorem dX4_doFirst_57 : decode cX4_doFirst 57 = .ok (.iinc 6 1, 3) := by decide +kernel
theorem dX4_doFirst_60 : decode cX4_doFirst 60 = .ok (.goto (-32), 3) := by decide +kernel
theorem dX4_doFirst_63 : decode cX4_doFirst 63 = .ok (.aload_n 0, 1) := by decide +kernel
theorem dX4_doFirst_64 : decode cX4_doFirst 64 = .ok (.getfield 12, 3) := by decide +kernel
theorem dX4_doFirst_67 : decode cX4_doFirst 67 = .ok (.lload 4, 2) := by decide +kernel
theorem dX4_doFirst_69 : decode cX4_doFirst 69 = .ok (.invokevirtual 143, 3) := by decide +kernel
theorem dX4_doFirst_72 : decode cX4_doFirst 72 = .ok (.goto 29, 3) := by decide +kernel
theorem dX4_doFirst_75 : decode cX4_doFirst 75 = .ok (.iload_n 1, 1) := by decide +kernel
theorem dX4_doFirst_76 : decode cX4_doFirst 76 = .ok (.bipush 14, 2) := by decide +kernel
theorem dX4_doFirst_78 : decode cX4_doFirst 78 = .ok (.if_icmp .ne 11, 3) := by decide +kernel
theorem dX4_doFirst_81 : decode cX4_doFirst 81 = .ok (.aload_n 0, 1) := by decide +kernel
theorem dX4_doFirst_82 : decode cX4_doFirst 82 = .ok (.iload_n 2, 1) := by decide +kernel
theorem dX4_doFirst_83 : decode cX4_doFirst 83 = .ok (.invokevirtual 188, 3) := by decide +kernel
theorem dX4_doFirst_86 : decode cX4_doFirst 86 = .ok (.goto 15, 3) := by decide +kernel
theorem dX4_doFirst_89 : decode cX4_doFirst 89 = .ok (.aload_n 0, 1) := by decide +kernel
theorem dX4_doFirst_90 : decode cX4_doFirst 90 = .ok (.iload_n 2, 1) := by decide +kernel
theorem dX4_doFirst_91 : decode cX4_doFirst 91 = .ok (.aload_n 0, 1) := by decide +kernel
theorem dX4_doFirst_92 : decode cX4_doFirst 92 = .ok (.getfield 36, 3) := by decide +kernel
theorem dX4_doFirst_95 : decode cX4_doFirst 95 = .ok (.invokevirtual 191, 3) := by decide +kernel
theorem dX4_doFirst_98 : decode cX4_doFirst 98 = .ok (.invokevirtual 195, 3) := by decide +kernel
theorem dX4_doFirst_101 : decode cX4_doFirst 101 = .ok (.return_, 1) := by decide +kernel
theorem dX4_doPlain_0 : decode cX4_doPlain 0 = .ok (.iload_n 1, 1) := by decide +kernel
theorem dX4_doPlain_1 : decode cX4_doPlain 1 = .ok (.tableswitch 181 20 25 #[39, 65, 118, 126, 155, 172], 39) := by decide +kernel
theorem dX4_doPlain_40 : decode cX4_doPlain 40 = .ok (.aload_n 0, 1) := by decide +kernel
theorem dX4_doPlain_41 : decode cX4_doPlain 41 = .ok (.getfield 12, 3) := by decide +kernel
theorem dX4_doPlain_44 : decode cX4_doPlain 44 = .ok (.aload_n 0, 1) := by decide +kernel
theorem dX4_doPlain_45 : decode cX4_doPlain 45 = .ok (.getfield 21, 3) := by decide +kernel
theorem dX4_doPlain_48 : decode cX4_doPlain 48 = .ok (.iload_n 2, 1) := by decide +kernel
theorem dX4_doPlain_49 : decode cX4_doPlain 49 = .ok (.aload_n 0, 1) := by decide +kernel
theorem dX4_doPlain_50 : decode cX4_doPlain 50 = .ok (.getfield 40, 3) := by decide +kernel
theorem dX4_doPlain_53 : decode cX4_doPlain 53 = .ok (.iload_n 2, 1) := by decide +kernel
theorem dX4_doPlain_54 : decode cX4_doPlain 54 = .ok (.invokevirtual 199, 3) := by decide +kernel
theorem dX4_doPlain_57 : decode cX4_doPlain 57 = .ok (.invokevirtual 178, 3) := by decide +kernel
theorem dX4_doPlain_60 : decode cX4_doPlain 60 = .ok (.invokevirtual 143, 3) := by decide +kernel
theorem dX4_doPlain_63 : decode cX4_doPlain 63 = .ok (.goto 177, 3) := by decide +kernel
theorem dX4_doPlain_66 : decode cX4_doPlain 66 = .ok (.aload_n 0, 1) := by decide +kernel
theorem dX4_doPlain_67 : decode cX4_doPlain 67 = .ok (.getfield 12, 3) := by decide +kernel
theorem dX4_doPlain_70 : decode cX4_doPlain 70 = .ok (.iconst 2, 1) := by decide +kernel
theorem dX4_doPlain_71 : decode cX4_doPlain 71 = .ok (.invokevirtual 175, 3) := by decide +kernel
theorem dX4_doPlain_74 : decode cX4_doPlain 74 = .ok (.aload_n 0, 1) := by decide +kernel
theorem dX4_doPlain_75 : decode cX4_doPlain 75 = .ok (.getfield 21, 3) := by decide +kernel
theorem dX4_doPlain_78 : decode cX4_doPlain 78 = .ok (.aload_n 0, 1) := by decide +kernel
theorem dX4_doPlain_79 : decode cX4_doPlain 79 = .ok (.getfield 12, 3) := by decide +kernel
theorem dX4_doPlain_82 : decode cX4_doPlain 82 = .ok (.iconst 0, 1) := by decide +kernel
theorem dX4_doPlain_83 : decode cX4_doPlain 83 = .ok (.invokevirtual 181, 3) := by decide +kernel
theorem dX4_doPlain_86 : decode cX4_doPlain 86 = .ok (.invokestatic 67, 3) := by decide +kernel
theorem dX4_doPlain_89 : decode cX4_doPlain 89 = .ok (.iload_n 2, 1) := by decide +kernel
theorem dX4_doPlain_90 : decode cX4_doPlain 90 = .ok (.aload_n 0, 1) := by decide +kernel
theorem dX4_doPlain_91 : decode cX4_doPlain 91 = .ok (.getfield 12, 3) := by decide +kernel
theorem dX4_doPlain_94 : decode cX4_doPlain 94 = .ok (.iconst 1, 1) := by decide +kernel
theorem dX4_doPlain_95 : decode cX4_doPlain 95 = .ok (.invokevirtual 181, 3) := by decide +kernel
theorem dX4_doPlain_98 : decode cX4_doPlain 98 = .ok (.invokevirtual 184, 3) := by decide +kernel
theorem dX4_doPlain_101 : decode cX4_doPlain 101 = .ok (.aload_n 0, 1) := by decide +kernel
theorem dX4_doPlain_102 : decode cX4_doPlain 102 = .ok (.getfield 12, 3) := by decide +kernel
theorem dX4_doPlain_105 : decode cX4_doPlain 105 = .ok (.aload_n 0, 1) := by decide +kernel
theorem dX4_doPlain_106 : decode cX4_doPlain 106 = .ok (.getfield 12, 3) := by decide +kernel
theorem dX4_doPlain_109 : decode cX4_doPlain 109 = .ok (.iconst 0, 1) := by decide +kernel
theorem dX4_doPlain_110 : decode cX4_doPlain 110 = .ok (.invokevirtual 181, 3) := by decide +kernel
theorem dX4_doPlain_113 : decode cX4_doPlain 113 = .ok (.invokevirtual 143, 3) := by decide +kernel
theorem dX4_doPlain_116 : decode cX4_doPlain 116 = .ok (.goto 124, 3) := by decide +kernel
theorem dX4_doPlain_119 : decode cX4_doPlain 119 = .ok (.aload_n 0, 1) := by decide +kernel
theorem dX4_doPlain_120 : decode cX4_doPlain 120 = .ok (.iload_n 2, 1) := by decide +kernel
theorem dX4_doPlain_121 : decode cX4_doPlain 121 = .ok (.invokevirtual 204, 3) := by decide +kernel
theorem dX4_doPlain_124 : decode cX4_doPlain 124 = .ok (.goto 116, 3) := by decide +kernel
theorem dX4_doPlain_127 : decode cX4_doPlain 127 = .ok (.aload_n 0, 1) := by decide +kernel
theorem dX4_doPlain_128 : decode cX4_doPlain 128 = .ok (.getfield 12, 3) := by decide +kernel
theorem dX4_doPlain_131 : decode cX4_doPlain 131 = .ok (.aload_n 0, 1) := by decide +kernel
theorem dX4_doPlain_132 : decode cX4_doPlain 132 = .ok (.getfield 21, 3) := by decide +kernel
theorem dX4_doPlain_135 : decode cX4_doPlain 135 = .ok (.aload_n 0, 1) := by decide +kernel
theorem dX4_doPlain_136 : decode cX4_doPlain 136 = .ok (.getfield 12, 3) := by decide +kernel
theorem dX4_doPlain_139 : decode cX4_doPlain 139 = .ok (.iconst 0, 1) := by decide +kernel
theorem dX4_doPlain_140 : decode cX4_doPlain 140 = .ok (.invokevirtual 147, 3) := by decide +kernel
theorem dX4_doPlain_143 : decode cX4_doPlain 143 = .ok (.invokestatic 67, 3) := by decide +kernel
theorem dX4_doPlain_146 : decode cX4_doPlain 146 = .ok (.iload_n 2, 1) := by decide +kernel
theorem dX4_doPlain_147 : decode cX4_doPlain 147 = .ok (.invokevirtual 207, 3) := by decide +kernel
theorem dX4_doPlain_150 : decode cX4_doPlain 150 = .ok (.invokevirtual 143, 3) := by decide +kernel
theorem dX4_doPlain_153 : decode cX4_doPlain 153 = .ok (.goto 87, 3) := by decide +kernel
theorem dX4_doPlain_156 : decode cX4_doPlain 156 = .ok (.aload_n 0, 1) := by decide +kernel
theorem dX4_doPlain_157 : decode cX4_doPlain 157 = .ok (.getfield 12, 3) := by decide +kernel
theorem dX4_doPlain_160 : decode cX4_doPlain 160 = .ok (.aload_n 0, 1) := by decide +kernel
theorem dX4_doPlain_161 : decode cX4_doPlain 161 = .ok (.getfield 28, 3) := by decide +kernel
theorem dX4_doPlain_164 : decode cX4_doPlain 164 = .ok (.invokevirtual 210, 3) := by decide +kernel
theorem dX4_doPlain_167 : decode cX4_doPlain 167 = .ok (.invokevirtual 143, 3) := by decide +kernel
theorem dX4_doPlain_170 : decode cX4_doPlain 170 = .ok (.goto 70, 3) := by decide +kernel
theorem dX4_doPlain_173 : decode cX4_doPlain 173 = .ok (.aload_n 0, 1) := by decide +kernel
theorem dX4_doPlain_174 : decode cX4_doPlain 174 = .ok (.iload_n 2, 1) := by decide +kernel
theorem dX4_doPlain_175 : decode cX4_doPlain 175 = .ok (.iload_n 3, 1) := by decide +kernel
theorem dX4_doPlain_176 : decode cX4_doPlain 176 = .ok (.invokevirtual 213, 3) := by decide +kernel
theorem dX4_doPlain_179 : decode cX4_doPlain 179 = .ok (.goto 61, 3) := by decide +kernel
theorem dX4_doPlain_182 : decode cX4_doPlain 182 = .ok (.aload_n 0, 1) := by decide +kernel
theorem dX4_doPlain_183 : decode cX4_doPlain 183 = .ok (.getfield 12, 3) := by decide +kernel
theorem dX4_doPlain_186 : decode cX4_doPlain 186 = .ok (.iconst 2, 1) := by decide +kernel
theorem dX4_doPlain_187 : decode cX4_doPlain 187 = .ok (.invokevirtual 175, 3) := by decide +kernel
theorem dX4_doPlain_190 : decode cX4_doPlain 190 = .ok (.aload_n 0, 1) := by decide +kernel
theorem dX4_doPlain_191 : decode cX4_doPlain 191 = .ok (.getfield 28, 3) := by decide +kernel
theorem dX4_doPlain_194 : decode cX4_doPlain 194 = .ok (.aload_n 0, 1) := by decide +kernel
theorem dX4_doPlain_195 : decode cX4_doPlain 195 = .ok (.getfield 12, 3) := by decide +kernel
theorem dX4_doPlain_198 : decode cX4_doPlain 198 = .ok (.iconst 0, 1) := by decide +kernel
theorem dX4_doPlain_199 : decode cX4_doPlain 199 = .ok (.invokevirtual 181, 3) := by decide +kernel
theorem dX4_doPlain_202 : decode cX4_doPlain 202 = .ok (.invokestatic 67, 3) := by decide +kernel
theorem dX4_doPlain_205 : decode cX4_doPlain 205 = .ok (.aload_n 0, 1) := by decide +kernel
theorem dX4_doPlain_206 : decode cX4_doPlain 206 = .ok (.getfield 12, 3) := by decide +kernel
theorem dX4_doPlain_209 : decode cX4_doPlain 209 = .ok (.iconst 1, 1) := by decide +kernel
theorem dX4_doPlain_210 : decode cX4_doPlain 210 = .ok (.invokevirtual 181, 3) := by decide +kernel
theorem dX4_doPlain_213 : decode cX4_doPlain 213 = .ok (.invokevirtual 216, 3) := by decide +kernel
theorem dX4_doPlain_216 : decode cX4_doPlain 216 = .ok (.istore 4, 2) := by decide +kernel
theorem dX4_doPlain_218 : decode cX4_doPlain 218 = .ok (.aload_n 0, 1) := by decide +kernel
theorem dX4_doPlain_219 : decode cX4_doPlain 219 = .ok (.iload 4, 2) := by decide +kernel
theorem dX4_doPlain_221 : decode cX4_doPlain 221 = .ok (.iconst 5, 1) := by decide +kernel
theorem dX4_doPlain_222 : decode cX4_doPlain 222 = .ok (.invokevirtual 168, 3) := by decide +kernel
theorem dX4_doPlain_225 : decode cX4_doPlain 225 = .ok (.aload_n 0, 1) := by decide +kernel
theorem dX4_doPlain_226 : decode cX4_doPlain 226 = .ok (.getfield 12, 3) := by decide +kernel
theorem dX4_doPlain_229 : decode cX4_doPlain 229 = .ok (.aload_n 0, 1) := by decide +kernel
theorem dX4_doPlain_230 : decode cX4_doPlain 230 = .ok (.getfield 12, 3) := by decide +kernel
theorem dX4_doPlain_233 : decode cX4_doPlain 233 = .ok (.iconst 0, 1) := by decide +kernel
theorem dX4_doPlain_234 : decode cX4_doPlain 234 = .ok (.invokevirtual 181, 3) := by decide +kernel
theorem dX4_doPlain_237 : decode cX4_doPlain 237 = .ok (.invokevirtual 143, 3) := by decide +kernel
theorem dX4_doPlain_240 : decode cX4_doPlain 240 = .ok (.return_, 1) := by decide +kernel
theorem dX4_faultUnless_0 : decode cX4_faultUnless 0 = .ok (.iload_n 1, 1) := by decide +kernel
theorem dX4_faultUnless_1 : decode cX4_faultUnless 1 = .ok (.ifCond .ne 8, 3) := by decide +kernel
theorem dX4_faultUnless_4 : decode cX4_faultUnless 4 = .ok (.aload_n 0, 1) := by decide +kernel
theorem dX4_faultUnless_5 : decode cX4_faultUnless 5 = .ok (.iload_n 2, 1) := by decide +kernel
theorem dX4_faultUnless_6 : decode cX4_faultUnless 6 = .ok (.putfield 78, 3) := by decide +kernel
theorem dX4_faultUnless_9 : decode cX4_faultUnless 9 = .ok (.return_, 1) := by decide +kernel
theorem dX4_reckon_0 : decode cX4_reckon 0 = .ok (.aload_n 0, 1) := by decide +kernel
theorem dX4_reckon_1 : decode cX4_reckon 1 = .ok (.getfield 12, 3) := by decide +kernel
theorem dX4_reckon_4 : decode cX4_reckon 4 = .ok (.iconst 2, 1) := by decide +kernel
theorem dX4_reckon_5 : decode cX4_reckon 5 = .ok (.invokevirtual 175, 3) := by decide +kernel
theorem dX4_reckon_8 : decode cX4_reckon 8 = .ok (.aload_n 0, 1) := by decide +kernel
theorem dX4_reckon_9 : decode cX4_reckon 9 = .ok (.getfield 12, 3) := by decide +kernel
theorem dX4_reckon_12 : decode cX4_reckon 12 = .ok (.iconst 0, 1) := by decide +kernel
theorem dX4_reckon_13 : decode cX4_reckon 13 = .ok (.invokevirtual 181, 3) := by decide +kernel
theorem dX4_reckon_16 : decode cX4_reckon 16 = .ok (.lstore_n 2, 1) := by decide +kernel
theorem dX4_reckon_17 : decode cX4_reckon 17 = .ok (.aload_n 0, 1) := by decide +kernel
theorem dX4_reckon_18 : decode cX4_reckon 18 = .ok (.getfield 12, 3) := by decide +kernel
theorem dX4_reckon_21 : decode cX4_reckon 21 = .ok (.iconst 1, 1) := by decide +kernel
theorem dX4_reckon_22 : decode cX4_reckon 22 = .ok (.invokevirtual 181, 3) := by decide +kernel
theorem dX4_reckon_25 : decode cX4_reckon 25 = .ok (.lstore 4, 2) := by decide +kernel
theorem dX4_reckon_27 : decode cX4_reckon 27 = .ok (.lload_n 2, 1) := by decide +kernel
theorem dX4_reckon_28 : decode cX4_reckon 28 = .ok (.invokestatic 60, 3) := by decide +kernel
theorem dX4_reckon_31 : decode cX4_reckon 31 = .ok (.iconst 1, 1) := by decide +kernel
theorem dX4_reckon_32 : decode cX4_reckon 32 = .ok (.if_icmp .ne 12, 3) := by decide +kernel
theorem dX4_reckon_35 : decode cX4_reckon 35 = .ok (.lload 4, 2) := by decide +kernel
theorem dX4_reckon_37 : decode cX4_reckon 37 = .ok (.invokestatic 60, 3) := by decide +kernel
theorem dX4_reckon_40 : decode cX4_reckon 40 = .ok (.iconst 1, 1) := by decide +kernel
theorem dX4_reckon_41 : decode cX4_reckon 41 = .ok (.if_icmp .eq 9, 3) := by decide +kernel
theorem dX4_reckon_44 : decode cX4_reckon 44 = .ok (.aload_n 0, 1) := by decide +kernel
theorem dX4_reckon_45 : decode cX4_reckon 45 = .ok (.iconst 1, 1) := by decide +kernel
theorem dX4_reckon_46 : decode cX4_reckon 46 = .ok (.putfield 78, 3) := by decide +kernel
theorem dX4_reckon_49 : decode cX4_reckon 49 = .ok (.return_, 1) := by decide +kernel
theorem dX4_reckon_50 : decode cX4_reckon 50 = .ok (.lload_n 2, 1) := by decide +kernel
theorem dX4_reckon_51 : decode cX4_reckon 51 = .ok (.invokestatic 67, 3) := by decide +kernel
theorem dX4_reckon_54 : decode cX4_reckon 54 = .ok (.istore 6, 2) := by decide +kernel
theorem dX4_reckon_56 : decode cX4_reckon 56 = .ok (.lload 4, 2) := by decide +kernel
theorem dX4_reckon_58 : decode cX4_reckon 58 = .ok (.invokestatic 67, 3) := by decide +kernel
theorem dX4_reckon_61 : decode cX4_reckon 61 = .ok (.istore 7, 2) := by decide +kernel
theorem dX4_reckon_63 : decode cX4_reckon 63 = .ok (.iload_n 1, 1) := by decide +kernel
theorem dX4_reckon_64 : decode cX4_reckon 64 = .ok (.iconst 3, 1) := by decide +kernel
theorem dX4_reckon_65 : decode cX4_reckon 65 = .ok (.if_icmp .ne 11, 3) := by decide +kernel
theorem dX4_reckon_68 : decode cX4_reckon 68 = .ok (.iload 6, 2) := by decide +kernel
theorem dX4_reckon_70 : decode cX4_reckon 70 = .ok (.iload 7, 2) := by decide +kernel
theorem dX4_reckon_72 : decode cX4_reckon 72 = .ok (.iadd, 1) := by decide +kernel
theorem dX4_reckon_73 : decode cX4_reckon 73 = .ok (.goto 21, 3) := by decide +kernel
theorem dX4_reckon_76 : decode cX4_reckon 76 = .ok (.iload_n 1, 1) := by decide +kernel
theorem dX4_reckon_77 : decode cX4_reckon 77 = .ok (.iconst 4, 1) := by decide +kernel
theorem dX4_reckon_78 : decode cX4_reckon 78 = .ok (.if_icmp .ne 11, 3) := by decide +kernel
theorem dX4_reckon_81 : decode cX4_reckon 81 = .ok (.iload 6, 2) := by decide +kernel
theorem dX4_reckon_83 : decode cX4_reckon 83 = .ok (.iload 7, 2) := by decide +kernel
theorem dX4_reckon_85 : decode cX4_reckon 85 = .ok (.isub, 1) := by decide +kernel
theorem dX4_reckon_86 : decode cX4_reckon 86 = .ok (.goto 8, 3) := by decide +kernel
theorem dX4_reckon_89 : decode cX4_reckon 89 = .ok (.iload 6, 2) := by decide +kernel
theorem dX4_reckon_91 : decode cX4_reckon 91 = .ok (.iload 7, 2) := by decide +kernel
theorem dX4_reckon_93 : decode cX4_reckon 93 = .ok (.imul, 1) := by decide +kernel
theorem dX4_reckon_94 : decode cX4_reckon 94 = .ok (.istore 8, 2) := by decide +kernel
theorem dX4_reckon_96 : decode cX4_reckon 96 = .ok (.aload_n 0, 1) := by decide +kernel
theorem dX4_reckon_97 : decode cX4_reckon 97 = .ok (.getfield 12, 3) := by decide +kernel
theorem dX4_reckon_100 : decode cX4_reckon 100 = .ok (.iconst 1, 1) := by decide +kernel
theorem dX4_reckon_101 : decode cX4_reckon 101 = .ok (.iload 8, 2) := by decide +kernel
theorem dX4_reckon_103 : decode cX4_reckon 103 = .ok (.invokestatic 90, 3) := by decide +kernel
theorem dX4_reckon_106 : decode cX4_reckon 106 = .ok (.invokevirtual 143, 3) := by decide +kernel
theorem dX4_reckon_109 : decode cX4_reckon 109 = .ok (.return_, 1) := by decide +kernel
theorem dX4_goIfZero_0 : decode cX4_goIfZero 0 = .ok (.aload_n 0, 1) := by decide +kernel
theorem dX4_goIfZero_1 : decode cX4_goIfZero 1 = .ok (.getfield 12, 3) := by decide +kernel
theorem dX4_goIfZero_4 : decode cX4_goIfZero 4 = .ok (.invokevirtual 151, 3) := by decide +kernel
theorem dX4_goIfZero_7 : decode cX4_goIfZero 7 = .ok (.lstore_n 2, 1) := by decide +kernel
theorem dX4_goIfZero_8 : decode cX4_goIfZero 8 = .ok (.lload_n 2, 1) := by decide +kernel
theorem dX4_goIfZero_9 : decode cX4_goIfZero 9 = .ok (.invokestatic 60, 3) := by decide +kernel
theorem dX4_goIfZero_12 : decode cX4_goIfZero 12 = .ok (.iconst 1, 1) := by decide +kernel
theorem dX4_goIfZero_13 : decode cX4_goIfZero 13 = .ok (.if_icmp .eq 11, 3) := by decide +kernel
theorem dX4_goIfZero_16 : decode cX4_goIfZero 16 = .ok (.aload_n 0, 1) := by decide +kernel
theorem dX4_goIfZero_17 : decode cX4_goIfZero 17 = .ok (.iconst 1, 1) := by decide +kernel
theorem dX4_goIfZero_18 : decode cX4_goIfZero 18 = .ok (.putfield 78, 3) := by decide +kernel
theorem dX4_goIfZero_21 : decode cX4_goIfZero 21 = .ok (.goto 18, 3) := by decide +kernel
theorem dX4_goIfZero_24 : decode cX4_goIfZero 24 = .ok (.lload_n 2, 1) := by decide +kernel
theorem dX4_goIfZero_25 : decode cX4_goIfZero 25 = .ok (.invokestatic 67, 3) := by decide +kernel
theorem dX4_goIfZero_28 : decode cX4_goIfZero 28 = .ok (.ifCond .ne 11, 3) := by decide +kernel
theorem dX4_goIfZero_31 : decode cX4_goIfZero 31 = .ok (.aload_n 0, 1) := by decide +kernel
theorem dX4_goIfZero_32 : decode cX4_goIfZero 32 = .ok (.getfield 12, 3) := by decide +kernel
theorem dX4_goIfZero_35 : decode cX4_goIfZero 35 = .ok (.iload_n 1, 1) := by decide +kernel
theorem dX4_goIfZero_36 : decode cX4_goIfZero 36 = .ok (.invokevirtual 118, 3) := by decide +kernel
theorem dX4_goIfZero_39 : decode cX4_goIfZero 39 = .ok (.return_, 1) := by decide +kernel
theorem dX4_beginFunction_0 : decode cX4_beginFunction 0 = .ok (.aload_n 0, 1) := by decide +kernel
theorem dX4_beginFunction_1 : decode cX4_beginFunction 1 = .ok (.getfield 75, 3) := by decide +kernel
theorem dX4_beginFunction_4 : decode cX4_beginFunction 4 = .ok (.bipush 30, 2) := by decide +kernel
theorem dX4_beginFunction_6 : decode cX4_beginFunction 6 = .ok (.if_icmp .ne 10, 3) := by decide +kernel
theorem dX4_beginFunction_9 : decode cX4_beginFunction 9 = .ok (.aload_n 0, 1) := by decide +kernel
theorem dX4_beginFunction_10 : decode cX4_beginFunction 10 = .ok (.iconst 3, 1) := by decide +kernel
theorem dX4_beginFunction_11 : decode cX4_beginFunction 11 = .ok (.putfield 78, 3) := by decide +kernel
theorem dX4_beginFunction_14 : decode cX4_beginFunction 14 = .ok (.iconst 0, 1) := by decide +kernel
theorem dX4_beginFunction_15 : decode cX4_beginFunction 15 = .ok (.ireturn, 1) := by decide +kernel
theorem dX4_beginFunction_16 : decode cX4_beginFunction 16 = .ok (.aload_n 0, 1) := by decide +kernel
theorem dX4_beginFunction_17 : decode cX4_beginFunction 17 = .ok (.dup, 1) := by decide +kernel
theorem dX4_beginFunction_18 : decode cX4_beginFunction 18 = .ok (.getfield 75, 3) := by decide +kernel
theorem dX4_beginFunction_21 : decode cX4_beginFunction 21 = .ok (.iconst 1, 1) := by decide +kernel
theorem dX4_beginFunction_22 : decode cX4_beginFunction 22 = .ok (.iadd, 1) := by decide +kernel
theorem dX4_beginFunction_23 : decode cX4_beginFunction 23 = .ok (.putfield 75, 3) := by decide +kernel
theorem dX4_beginFunction_26 : decode cX4_beginFunction 26 = .ok (.aload_n 0, 1) := by decide +kernel
theorem dX4_beginFunction_27 : decode cX4_beginFunction 27 = .ok (.getfield 12, 3) := by decide +kernel
theorem dX4_beginFunction_30 : decode cX4_beginFunction 30 = .ok (.iload_n 1, 1) := by decide +kernel
theorem dX4_beginFunction_31 : decode cX4_beginFunction 31 = .ok (.invokevirtual 220, 3) := by decide +kernel
theorem dX4_beginFunction_34 : decode cX4_beginFunction 34 = .ok (.iconst 1, 1) := by decide +kernel
theorem dX4_beginFunction_35 : decode cX4_beginFunction 35 = .ok (.ireturn, 1) := by decide +kernel
theorem dX4_callFunction_0 : decode cX4_callFunction 0 = .ok (.aload_n 0, 1) := by decide +kernel
theorem dX4_callFunction_1 : decode cX4_callFunction 1 = .ok (.getfield 36, 3) := by decide +kernel
theorem dX4_callFunction_4 : decode cX4_callFunction 4 = .ok (.iload_n 1, 1) := by decide +kernel
theorem dX4_callFunction_5 : decode cX4_callFunction 5 = .ok (.invokevirtual 85, 3) := by decide +kernel
theorem dX4_callFunction_8 : decode cX4_callFunction 8 = .ok (.istore_n 2, 1) := by decide +kernel
theorem dX4_callFunction_9 : decode cX4_callFunction 9 = .ok (.aload_n 0, 1) := by decide +kernel
theorem dX4_callFunction_10 : decode cX4_callFunction 10 = .ok (.getfield 12, 3) := by decide +kernel
theorem dX4_callFunction_13 : decode cX4_callFunction 13 = .ok (.iload_n 2, 1) := by decide +kernel
theorem dX4_callFunction_14 : decode cX4_callFunction 14 = .ok (.invokevirtual 175, 3) := by decide +kernel
theorem dX4_callFunction_17 : decode cX4_callFunction 17 = .ok (.aload_n 0, 1) := by decide +kernel
theorem dX4_callFunction_18 : decode cX4_callFunction 18 = .ok (.iload_n 1, 1) := by decide +kernel
theorem dX4_callFunction_19 : decode cX4_callFunction 19 = .ok (.invokevirtual 81, 3) := by decide +kernel
theorem dX4_callFunction_22 : decode cX4_callFunction 22 = .ok (.ifCond .eq 12, 3) := by decide +kernel
theorem dX4_callFunction_25 : decode cX4_callFunction 25 = .ok (.aload_n 0, 1) := by decide +kernel
theorem dX4_callFunction_26 : decode cX4_callFunction 26 = .ok (.getfield 12, 3) := by decide +kernel
theorem dX4_callFunction_29 : decode cX4_callFunction 29 = .ok (.iconst 0, 1) := by decide +kernel
theorem dX4_callFunction_30 : decode cX4_callFunction 30 = .ok (.iload_n 2, 1) := by decide +kernel
theorem dX4_callFunction_31 : decode cX4_callFunction 31 = .ok (.invokevirtual 223, 3) := by decide +kernel
theorem dX4_callFunction_34 : decode cX4_callFunction 34 = .ok (.return_, 1) := by decide +kernel
theorem dX4_giveBack_0 : decode cX4_giveBack 0 = .ok (.aload_n 0, 1) := by decide +kernel
theorem dX4_giveBack_1 : decode cX4_giveBack 1 = .ok (.getfield 12, 3) := by decide +kernel
theorem dX4_giveBack_4 : decode cX4_giveBack 4 = .ok (.invokevirtual 151, 3) := by decide +kernel
theorem dX4_giveBack_7 : decode cX4_giveBack 7 = .ok (.lstore_n 1, 1) := by decide +kernel
theorem dX4_giveBack_8 : decode cX4_giveBack 8 = .ok (.aload_n 0, 1) := by decide +kernel
theorem dX4_giveBack_9 : decode cX4_giveBack 9 = .ok (.getfield 40, 3) := by decide +kernel
theorem dX4_giveBack_12 : decode cX4_giveBack 12 = .ok (.aload_n 0, 1) := by decide +kernel
theorem dX4_giveBack_13 : decode cX4_giveBack 13 = .ok (.getfield 12, 3) := by decide +kernel
theorem dX4_giveBack_16 : decode cX4_giveBack 16 = .ok (.invokevirtual 106, 3) := by decide +kernel
theorem dX4_giveBack_19 : decode cX4_giveBack 19 = .ok (.invokevirtual 226, 3) := by decide +kernel
theorem dX4_giveBack_22 : decode cX4_giveBack 22 = .ok (.ifCond .ne 13, 3) := by decide +kernel
theorem dX4_giveBack_25 : decode cX4_giveBack 25 = .ok (.aload_n 0, 1) := by decide +kernel
theorem dX4_giveBack_26 : decode cX4_giveBack 26 = .ok (.dup, 1) := by decide +kernel
theorem dX4_giveBack_27 : decode cX4_giveBack 27 = .ok (.getfield 75, 3) := by decide +kernel
theorem dX4_giveBack_30 : decode cX4_giveBack 30 = .ok (.iconst 1, 1) := by decide +kernel
theorem dX4_giveBack_31 : decode cX4_giveBack 31 = .ok (.isub, 1) := by decide +kernel
theorem dX4_giveBack_32 : decode cX4_giveBack 32 = .ok (.putfield 75, 3) := by decide +kernel
theorem dX4_giveBack_35 : decode cX4_giveBack 35 = .ok (.aload_n 0, 1) := by decide +kernel
theorem dX4_giveBack_36 : decode cX4_giveBack 36 = .ok (.getfield 12, 3) := by decide +kernel
theorem dX4_giveBack_39 : decode cX4_giveBack 39 = .ok (.invokevirtual 229, 3) := by decide +kernel
theorem dX4_giveBack_42 : decode cX4_giveBack 42 = .ok (.aload_n 0, 1) := by decide +kernel
theorem dX4_giveBack_43 : decode cX4_giveBack 43 = .ok (.getfield 12, 3) := by decide +kernel
theorem dX4_giveBack_46 : decode cX4_giveBack 46 = .ok (.invokevirtual 99, 3) := by decide +kernel
theorem dX4_giveBack_49 : decode cX4_giveBack 49 = .ok (.ifCond .eq 14, 3) := by decide +kernel
theorem dX4_giveBack_52 : decode cX4_giveBack 52 = .ok (.aload_n 0, 1) := by decide +kernel
theorem dX4_giveBack_53 : decode cX4_giveBack 53 = .ok (.getfield 12, 3) := by decide +kernel
theorem dX4_giveBack_56 : decode cX4_giveBack 56 = .ok (.lload_n 1, 1) := by decide +kernel
theorem dX4_giveBack_57 : decode cX4_giveBack 57 = .ok (.invokevirtual 143, 3) := by decide +kernel
theorem dX4_giveBack_60 : decode cX4_giveBack 60 = .ok (.goto 8, 3) := by decide +kernel
theorem dX4_giveBack_63 : decode cX4_giveBack 63 = .ok (.aload_n 0, 1) := by decide +kernel
theorem dX4_giveBack_64 : decode cX4_giveBack 64 = .ok (.lload_n 1, 1) := by decide +kernel
theorem dX4_giveBack_65 : decode cX4_giveBack 65 = .ok (.putfield 32, 3) := by decide +kernel
theorem dX4_giveBack_68 : decode cX4_giveBack 68 = .ok (.return_, 1) := by decide +kernel
theorem dX4_applyTo_0 : decode cX4_applyTo 0 = .ok (.aload_n 0, 1) := by decide +kernel
theorem dX4_applyTo_1 : decode cX4_applyTo 1 = .ok (.getfield 12, 3) := by decide +kernel
theorem dX4_applyTo_4 : decode cX4_applyTo 4 = .ok (.iload_n 1, 1) := by decide +kernel
theorem dX4_applyTo_5 : decode cX4_applyTo 5 = .ok (.invokevirtual 175, 3) := by decide +kernel
theorem dX4_applyTo_8 : decode cX4_applyTo 8 = .ok (.aload_n 0, 1) := by decide +kernel
theorem dX4_applyTo_9 : decode cX4_applyTo 9 = .ok (.getfield 12, 3) := by decide +kernel
theorem dX4_applyTo_12 : decode cX4_applyTo 12 = .ok (.invokevirtual 151, 3) := by decide +kernel
theorem dX4_applyTo_15 : decode cX4_applyTo 15 = .ok (.lstore_n 2, 1) := by decide +kernel
theorem dX4_applyTo_16 : decode cX4_applyTo 16 = .ok (.lload_n 2, 1) := by decide +kernel
theorem dX4_applyTo_17 : decode cX4_applyTo 17 = .ok (.invokestatic 60, 3) := by decide +kernel
theorem dX4_applyTo_20 : decode cX4_applyTo 20 = .ok (.iconst 3, 1) := by decide +kernel
theorem dX4_applyTo_21 : decode cX4_applyTo 21 = .ok (.if_icmp .eq 9, 3) := by decide +kernel
theorem dX4_applyTo_24 : decode cX4_applyTo 24 = .ok (.aload_n 0, 1) := by decide +kernel
theorem dX4_applyTo_25 : decode cX4_applyTo 25 = .ok (.iconst 1, 1) := by decide +kernel
theorem dX4_applyTo_26 : decode cX4_applyTo 26 = .ok (.putfield 78, 3) := by decide +kernel
theorem dX4_applyTo_29 : decode cX4_applyTo 29 = .ok (.return_, 1) := by decide +kernel
theorem dX4_applyTo_30 : decode cX4_applyTo 30 = .ok (.lload_n 2, 1) := by decide +kernel
theorem dX4_applyTo_31 : decode cX4_applyTo 31 = .ok (.invokestatic 67, 3) := by decide +kernel
theorem dX4_applyTo_34 : decode cX4_applyTo 34 = .ok (.istore 4, 2) := by decide +kernel
theorem dX4_applyTo_36 : decode cX4_applyTo 36 = .ok (.aload_n 0, 1) := by decide +kernel
theorem dX4_applyTo_37 : decode cX4_applyTo 37 = .ok (.getfield 21, 3) := by decide +kernel
theorem dX4_applyTo_40 : decode cX4_applyTo 40 = .ok (.iload 4, 2) := by decide +kernel
theorem dX4_applyTo_42 : decode cX4_applyTo 42 = .ok (.invokevirtual 232, 3) := by decide +kernel
theorem dX4_applyTo_45 : decode cX4_applyTo 45 = .ok (.istore 5, 2) := by decide +kernel
theorem dX4_applyTo_47 : decode cX4_applyTo 47 = .ok (.aload_n 0, 1) := by decide +kernel
theorem dX4_applyTo_48 : decode cX4_applyTo 48 = .ok (.getfield 21, 3) := by decide +kernel
theorem dX4_applyTo_51 : decode cX4_applyTo 51 = .ok (.iload 4, 2) := by decide +kernel
theorem dX4_applyTo_53 : decode cX4_applyTo 53 = .ok (.invokevirtual 235, 3) := by decide +kernel
theorem dX4_applyTo_56 : decode cX4_applyTo 56 = .ok (.istore 6, 2) := by decide +kernel
theorem dX4_applyTo_58 : decode cX4_applyTo 58 = .ok (.iload 6, 2) := by decide +kernel
theorem dX4_applyTo_60 : decode cX4_applyTo 60 = .ok (.iload_n 1, 1) := by decide +kernel
theorem dX4_applyTo_61 : decode cX4_applyTo 61 = .ok (.iadd, 1) := by decide +kernel
theorem dX4_applyTo_62 : decode cX4_applyTo 62 = .ok (.aload_n 0, 1) := by decide +kernel
theorem dX4_applyTo_63 : decode cX4_applyTo 63 = .ok (.getfield 36, 3) := by decide +kernel
theorem dX4_applyTo_66 : decode cX4_applyTo 66 = .ok (.iload 5, 2) := by decide +kernel
theorem dX4_applyTo_68 : decode cX4_applyTo 68 = .ok (.invokevirtual 85, 3) := by decide +kernel
theorem dX4_applyTo_71 : decode cX4_applyTo 71 = .ok (.if_icmp .eq 9, 3) := by decide +kernel
theorem dX4_applyTo_74 : decode cX4_applyTo 74 = .ok (.aload_n 0, 1) := by decide +kernel
theorem dX4_applyTo_75 : decode cX4_applyTo 75 = .ok (.iconst 2, 1) := by decide +kernel
theorem dX4_applyTo_76 : decode cX4_applyTo 76 = .ok (.putfield 78, 3) := by decide +kernel
theorem dX4_applyTo_79 : decode cX4_applyTo 79 = .ok (.return_, 1) := by decide +kernel
theorem dX4_applyTo_80 : decode cX4_applyTo 80 = .ok (.aload_n 0, 1) := by decide +kernel
theorem dX4_applyTo_81 : decode cX4_applyTo 81 = .ok (.iload 5, 2) := by decide +kernel
theorem dX4_applyTo_83 : decode cX4_applyTo 83 = .ok (.invokevirtual 81, 3) := by decide +kernel
theorem dX4_applyTo_86 : decode cX4_applyTo 86 = .ok (.ifCond .eq 49, 3) := by decide +kernel
theorem dX4_applyTo_89 : decode cX4_applyTo 89 = .ok (.iconst 0, 1) := by decide +kernel
theorem dX4_applyTo_90 : decode cX4_applyTo 90 = .ok (.istore 7, 2) := by decide +kernel
theorem dX4_applyTo_92 : decode cX4_applyTo 92 = .ok (.iload 7, 2) := by decide +kernel
theorem dX4_applyTo_94 : decode cX4_applyTo 94 = .ok (.iload 6, 2) := by decide +kernel
theorem dX4_applyTo_96 : decode cX4_applyTo 96 = .ok (.if_icmp .ge 29, 3) := by decide +kernel
theorem dX4_applyTo_99 : decode cX4_applyTo 99 = .ok (.aload_n 0, 1) := by decide +kernel
theorem dX4_applyTo_100 : decode cX4_applyTo 100 = .ok (.getfield 12, 3) := by decide +kernel
theorem dX4_applyTo_103 : decode cX4_applyTo 103 = .ok (.iload 7, 2) := by decide +kernel
theorem dX4_applyTo_105 : decode cX4_applyTo 105 = .ok (.aload_n 0, 1) := by decide +kernel
theorem dX4_applyTo_106 : decode cX4_applyTo 106 = .ok (.getfield 21, 3) := by decide +kernel
theorem dX4_applyTo_109 : decode cX4_applyTo 109 = .ok (.iload 4, 2) := by decide +kernel
theorem dX4_applyTo_111 : decode cX4_applyTo 111 = .ok (.iload 7, 2) := by decide +kernel
theorem dX4_applyTo_113 : decode cX4_applyTo 113 = .ok (.invokevirtual 207, 3) := by decide +kernel
theorem dX4_applyTo_116 : decode cX4_applyTo 116 = .ok (.invokevirtual 94, 3) := by decide +kernel
theorem dX4_applyTo_119 : decode cX4_applyTo 119 = .ok (.iinc 7 1, 3) := by decide +kernel
theorem dX4_applyTo_122 : decode cX4_applyTo 122 = .ok (.goto (-30), 3) := by decide +kernel
theorem dX4_applyTo_125 : decode cX4_applyTo 125 = .ok (.aload_n 0, 1) := by decide +kernel
theorem dX4_applyTo_126 : decode cX4_applyTo 126 = .ok (.getfield 12, 3) := by decide +kernel
theorem dX4_applyTo_129 : decode cX4_applyTo 129 = .ok (.iload 6, 2) := by decide +kernel
theorem dX4_applyTo_131 : decode cX4_applyTo 131 = .ok (.iload_n 1, 1) := by decide +kernel
theorem dX4_applyTo_132 : decode cX4_applyTo 132 = .ok (.invokevirtual 223, 3) := by decide +kernel
theorem dX4_applyTo_135 : decode cX4_applyTo 135 = .ok (.return_, 1) := by decide +kernel
theorem dX4_invoke_0 : decode cX4_invoke 0 = .ok (.aload_n 0, 1) := by decide +kernel
theorem dX4_invoke_1 : decode cX4_invoke 1 = .ok (.getfield 12, 3) := by decide +kernel
theorem dX4_invoke_4 : decode cX4_invoke 4 = .ok (.iload_n 1, 1) := by decide +kernel
theorem dX4_invoke_5 : decode cX4_invoke 5 = .ok (.invokevirtual 175, 3) := by decide +kernel
theorem dX4_invoke_8 : decode cX4_invoke 8 = .ok (.aload_n 0, 1) := by decide +kernel
theorem dX4_invoke_9 : decode cX4_invoke 9 = .ok (.getfield 12, 3) := by decide +kernel
theorem dX4_invoke_12 : decode cX4_invoke 12 = .ok (.invokevirtual 151, 3) := by decide +kernel
theorem dX4_invoke_15 : decode cX4_invoke 15 = .ok (.lstore_n 2, 1) := by decide +kernel
theorem dX4_invoke_16 : decode cX4_invoke 16 = .ok (.lload_n 2, 1) := by decide +kernel
theorem dX4_invoke_17 : decode cX4_invoke 17 = .ok (.invokestatic 60, 3) := by decide +kernel
theorem dX4_invoke_20 : decode cX4_invoke 20 = .ok (.iconst 3, 1) := by decide +kernel
theorem dX4_invoke_21 : decode cX4_invoke 21 = .ok (.if_icmp .eq 9, 3) := by decide +kernel
theorem dX4_invoke_24 : decode cX4_invoke 24 = .ok (.aload_n 0, 1) := by decide +kernel
theorem dX4_invoke_25 : decode cX4_invoke 25 = .ok (.iconst 1, 1) := by decide +kernel
theorem dX4_invoke_26 : decode cX4_invoke 26 = .ok (.putfield 78, 3) := by decide +kernel
theorem dX4_invoke_29 : decode cX4_invoke 29 = .ok (.return_, 1) := by decide +kernel
theorem dX4_invoke_30 : decode cX4_invoke 30 = .ok (.aload_n 0, 1) := by decide +kernel
theorem dX4_invoke_31 : decode cX4_invoke 31 = .ok (.getfield 21, 3) := by decide +kernel
theorem dX4_invoke_34 : decode cX4_invoke 34 = .ok (.lload_n 2, 1) := by decide +kernel
theorem dX4_invoke_35 : decode cX4_invoke 35 = .ok (.invokestatic 67, 3) := by decide +kernel
theorem dX4_invoke_38 : decode cX4_invoke 38 = .ok (.invokevirtual 232, 3) := by decide +kernel
theorem dX4_invoke_41 : decode cX4_invoke 41 = .ok (.istore 4, 2) := by decide +kernel
theorem dX4_invoke_43 : decode cX4_invoke 43 = .ok (.aload_n 0, 1) := by decide +kernel
theorem dX4_invoke_44 : decode cX4_invoke 44 = .ok (.getfield 36, 3) := by decide +kernel
theorem dX4_invoke_47 : decode cX4_invoke 47 = .ok (.aload_n 0, 1) := by decide +kernel
theorem dX4_invoke_48 : decode cX4_invoke 48 = .ok (.getfield 40, 3) := by decide +kernel
theorem dX4_invoke_51 : decode cX4_invoke 51 = .ok (.iload 4, 2) := by decide +kernel
theorem dX4_invoke_53 : decode cX4_invoke 53 = .ok (.invokevirtual 238, 3) := by decide +kernel
theorem dX4_invoke_56 : decode cX4_invoke 56 = .ok (.invokevirtual 85, 3) := by decide +kernel
theorem dX4_invoke_59 : decode cX4_invoke 59 = .ok (.istore 5, 2) := by decide +kernel
theorem dX4_invoke_61 : decode cX4_invoke 61 = .ok (.aload_n 0, 1) := by decide +kernel
theorem dX4_invoke_62 : decode cX4_invoke 62 = .ok (.getfield 40, 3) := by decide +kernel
theorem dX4_invoke_65 : decode cX4_invoke 65 = .ok (.iload 4, 2) := by decide +kernel
theorem dX4_invoke_67 : decode cX4_invoke 67 = .ok (.invokevirtual 199, 3) := by decide +kernel
theorem dX4_invoke_70 : decode cX4_invoke 70 = .ok (.iload_n 1, 1) := by decide +kernel
theorem dX4_invoke_71 : decode cX4_invoke 71 = .ok (.iadd, 1) := by decide +kernel
theorem dX4_invoke_72 : decode cX4_invoke 72 = .ok (.iload 5, 2) := by decide +kernel
theorem dX4_invoke_74 : decode cX4_invoke 74 = .ok (.if_icmp .eq 9, 3) := by decide +kernel
theorem dX4_invoke_77 : decode cX4_invoke 77 = .ok (.aload_n 0, 1) := by decide +kernel
theorem dX4_invoke_78 : decode cX4_invoke 78 = .ok (.iconst 2, 1) := by decide +kernel
theorem dX4_invoke_79 : decode cX4_invoke 79 = .ok (.putfield 78, 3) := by decide +kernel
theorem dX4_invoke_82 : decode cX4_invoke 82 = .ok (.return_, 1) := by decide +kernel
theorem dX4_invoke_83 : decode cX4_invoke 83 = .ok (.aload_n 0, 1) := by decide +kernel
theorem dX4_invoke_84 : decode cX4_invoke 84 = .ok (.getfield 12, 3) := by decide +kernel
theorem dX4_invoke_87 : decode cX4_invoke 87 = .ok (.aload_n 0, 1) := by decide +kernel
theorem dX4_invoke_88 : decode cX4_invoke 88 = .ok (.getfield 40, 3) := by decide +kernel
theorem dX4_invoke_91 : decode cX4_invoke 91 = .ok (.iload 4, 2) := by decide +kernel
theorem dX4_invoke_93 : decode cX4_invoke 93 = .ok (.invokevirtual 241, 3) := by decide +kernel
theorem dX4_invoke_96 : decode cX4_invoke 96 = .ok (.invokevirtual 220, 3) := by decide +kernel
theorem dX4_invoke_99 : decode cX4_invoke 99 = .ok (.aload_n 0, 1) := by decide +kernel
theorem dX4_invoke_100 : decode cX4_invoke 100 = .ok (.getfield 12, 3) := by decide +kernel
theorem dX4_invoke_103 : decode cX4_invoke 103 = .ok (.iconst 0, 1) := by decide +kernel
theorem dX4_invoke_104 : decode cX4_invoke 104 = .ok (.lload_n 2, 1) := by decide +kernel
theorem dX4_invoke_105 : decode cX4_invoke 105 = .ok (.invokevirtual 94, 3) := by decide +kernel
theorem dX4_invoke_108 : decode cX4_invoke 108 = .ok (.aload_n 0, 1) := by decide +kernel
theorem dX4_invoke_109 : decode cX4_invoke 109 = .ok (.getfield 12, 3) := by decide +kernel
theorem dX4_invoke_112 : decode cX4_invoke 112 = .ok (.iconst 1, 1) := by decide +kernel
theorem dX4_invoke_113 : decode cX4_invoke 113 = .ok (.iload_n 1, 1) := by decide +kernel
theorem dX4_invoke_114 : decode cX4_invoke 114 = .ok (.invokevirtual 223, 3) := by decide +kernel
theorem dX4_invoke_117 : decode cX4_invoke 117 = .ok (.return_, 1) := by decide +kernel
theorem dX4_join_0 : decode cX4_join 0 = .ok (.aload_n 0, 1) := by decide +kernel
theorem dX4_join_1 : decode cX4_join 1 = .ok (.getfield 12, 3) := by decide +kernel
theorem dX4_join_4 : decode cX4_join 4 = .ok (.aload_n 2, 1) := by decide +kernel
theorem dX4_join_5 : decode cX4_join 5 = .ok (.iload_n 1, 1) := by decide +kernel
theorem dX4_join_6 : decode cX4_join 6 = .ok (.invokevirtual 244, 3) := by decide +kernel
theorem dX4_join_9 : decode cX4_join 9 = .ok (.invokevirtual 175, 3) := by decide +kernel
theorem dX4_join_12 : decode cX4_join 12 = .ok (.aload_n 0, 1) := by decide +kernel
theorem dX4_join_13 : decode cX4_join 13 = .ok (.getfield 28, 3) := by decide +kernel
theorem dX4_join_16 : decode cX4_join 16 = .ok (.invokevirtual 210, 3) := by decide +kernel
theorem dX4_join_19 : decode cX4_join 19 = .ok (.lstore_n 3, 1) := by decide +kernel
theorem dX4_join_20 : decode cX4_join 20 = .ok (.lload_n 3, 1) := by decide +kernel
theorem dX4_join_21 : decode cX4_join 21 = .ok (.invokestatic 67, 3) := by decide +kernel
theorem dX4_join_24 : decode cX4_join 24 = .ok (.istore 5, 2) := by decide +kernel
theorem dX4_join_26 : decode cX4_join 26 = .ok (.aload_n 2, 1) := by decide +kernel
theorem dX4_join_27 : decode cX4_join 27 = .ok (.iload_n 1, 1) := by decide +kernel
theorem dX4_join_28 : decode cX4_join 28 = .ok (.invokevirtual 249, 3) := by decide +kernel
theorem dX4_join_31 : decode cX4_join 31 = .ok (.istore 6, 2) := by decide +kernel
theorem dX4_join_33 : decode cX4_join 33 = .ok (.iconst 0, 1) := by decide +kernel
theorem dX4_join_34 : decode cX4_join 34 = .ok (.istore 7, 2) := by decide +kernel
theorem dX4_join_36 : decode cX4_join 36 = .ok (.iconst 0, 1) := by decide +kernel
theorem dX4_join_37 : decode cX4_join 37 = .ok (.istore 8, 2) := by decide +kernel
theorem dX4_join_39 : decode cX4_join 39 = .ok (.iload 8, 2) := by decide +kernel
theorem dX4_join_41 : decode cX4_join 41 = .ok (.aload_n 2, 1) := by decide +kernel
theorem dX4_join_42 : decode cX4_join 42 = .ok (.iload_n 1, 1) := by decide +kernel
theorem dX4_join_43 : decode cX4_join 43 = .ok (.invokevirtual 252, 3) := by decide +kernel
theorem dX4_join_46 : decode cX4_join 46 = .ok (.if_icmp .ge 78, 3) := by decide +kernel
theorem dX4_join_49 : decode cX4_join 49 = .ok (.aload_n 0, 1) := by decide +kernel
theorem dX4_join_50 : decode cX4_join 50 = .ok (.getfield 78, 3) := by decide +kernel
theorem dX4_join_53 : decode cX4_join 53 = .ok (.ifCond .ne 71, 3) := by decide +kernel
theorem dX4_join_56 : decode cX4_join 56 = .ok (.aload_n 2, 1) := by decide +kernel
theorem dX4_join_57 : decode cX4_join 57 = .ok (.iload_n 1, 1) := by decide +kernel
theorem dX4_join_58 : decode cX4_join 58 = .ok (.iload 8, 2) := by decide +kernel
theorem dX4_join_60 : decode cX4_join 60 = .ok (.invokevirtual 255, 3) := by decide +kernel
theorem dX4_join_63 : decode cX4_join 63 = .ok (.ifCond .eq 32, 3) := by decide +kernel
theorem dX4_join_66 : decode cX4_join 66 = .ok (.aload_n 0, 1) := by decide +kernel
theorem dX4_join_67 : decode cX4_join 67 = .ok (.aload_n 0, 1) := by decide +kernel
theorem dX4_join_68 : decode cX4_join 68 = .ok (.getfield 28, 3) := by decide +kernel
theorem dX4_join_71 : decode cX4_join 71 = .ok (.iload 5, 2) := by decide +kernel
theorem dX4_join_73 : decode cX4_join 73 = .ok (.aload_n 0, 1) := by decide +kernel
theorem dX4_join_74 : decode cX4_join 74 = .ok (.getfield 12, 3) := by decide +kernel
theorem dX4_join_77 : decode cX4_join 77 = .ok (.iload 7, 2) := by decide +kernel
theorem dX4_join_79 : decode cX4_join 79 = .ok (.invokevirtual 181, 3) := by decide +kernel
theorem dX4_join_82 : decode cX4_join 82 = .ok (.invokevirtual 216, 3) := by decide +kernel
theorem dX4_join_85 : decode cX4_join 85 = .ok (.iconst 5, 1) := by decide +kernel
theorem dX4_join_86 : decode cX4_join 86 = .ok (.invokevirtual 168, 3) := by decide +kernel
theorem dX4_join_89 : decode cX4_join 89 = .ok (.iinc 7 1, 3) := by decide +kernel
theorem dX4_join_92 : decode cX4_join 92 = .ok (.goto 26, 3) := by decide +kernel
theorem dX4_join_95 : decode cX4_join 95 = .ok (.aload_n 0, 1) := by decide +kernel
theorem dX4_join_96 : decode cX4_join 96 = .ok (.aload_n 0, 1) := by decide +kernel
theorem dX4_join_97 : decode cX4_join 97 = .ok (.getfield 28, 3) := by decide +kernel
theorem dX4_join_100 : decode cX4_join 100 = .ok (.iload 5, 2) := by decide +kernel
theorem dX4_join_102 : decode cX4_join 102 = .ok (.aload_n 2, 1) := by decide +kernel
theorem dX4_join_103 : decode cX4_join 103 = .ok (.iload 6, 2) := by decide +kernel
theorem dX4_join_105 : decode cX4_join 105 = .ok (.invokevirtual 258, 3) := by decide +kernel
theorem dX4_join_108 : decode cX4_join 108 = .ok (.invokevirtual 261, 3) := by decide +kernel
theorem dX4_join_111 : decode cX4_join 111 = .ok (.iconst 5, 1) := by decide +kernel
theorem dX4_join_112 : decode cX4_join 112 = .ok (.invokevirtual 168, 3) := by decide +kernel
theorem dX4_join_115 : decode cX4_join 115 = .ok (.iinc 6 1, 3) := by decide +kernel
theorem dX4_join_118 : decode cX4_join 118 = .ok (.iinc 8 1, 3) := by decide +kernel
theorem dX4_join_121 : decode cX4_join 121 = .ok (.goto (-82), 3) := by decide +kernel
theorem dX4_join_124 : decode cX4_join 124 = .ok (.aload_n 0, 1) := by decide +kernel
theorem dX4_join_125 : decode cX4_join 125 = .ok (.getfield 12, 3) := by decide +kernel
theorem dX4_join_128 : decode cX4_join 128 = .ok (.lload_n 3, 1) := by decide +kernel
theorem dX4_join_129 : decode cX4_join 129 = .ok (.invokevirtual 143, 3) := by decide +kernel
theorem dX4_join_132 : decode cX4_join 132 = .ok (.return_, 1) := by decide +kernel
theorem dX4_appendCharacters_0 : decode cX4_appendCharacters 0 = .ok (.aload_n 0, 1) := by decide +kernel
theorem dX4_appendCharacters_1 : decode cX4_appendCharacters 1 = .ok (.getfield 12, 3) := by decide +kernel
theorem dX4_appendCharacters_4 : decode cX4_appendCharacters 4 = .ok (.invokevirtual 151, 3) := by decide +kernel
theorem dX4_appendCharacters_7 : decode cX4_appendCharacters 7 = .ok (.lstore_n 3, 1) := by decide +kernel
theorem dX4_appendCharacters_8 : decode cX4_appendCharacters 8 = .ok (.lload_n 3, 1) := by decide +kernel
theorem dX4_appendCharacters_9 : decode cX4_appendCharacters 9 = .ok (.invokestatic 67, 3) := by decide +kernel
theorem dX4_appendCharacters_12 : decode cX4_appendCharacters 12 = .ok (.istore 5, 2) := by decide +kernel
theorem dX4_appendCharacters_14 : decode cX4_appendCharacters 14 = .ok (.iconst 0, 1) := by decide +kernel
theorem dX4_appendCharacters_15 : decode cX4_appendCharacters 15 = .ok (.istore 6, 2) := by decide +kernel
theorem dX4_appendCharacters_17 : decode cX4_appendCharacters 17 = .ok (.iload 6, 2) := by decide +kernel
theorem dX4_appendCharacters_19 : decode cX4_appendCharacters 19 = .ok (.iload_n 2, 1) := by decide +kernel
theorem dX4_appendCharacters_20 : decode cX4_appendCharacters 20 = .ok (.if_icmp .ge 48, 3) := by decide +kernel
theorem dX4_appendCharacters_23 : decode cX4_appendCharacters 23 = .ok (.aload_n 0, 1) := by decide +kernel
theorem dX4_appendCharacters_24 : decode cX4_appendCharacters 24 = .ok (.getfield 78, 3) := by decide +kernel
theorem dX4_appendCharacters_27 : decode cX4_appendCharacters 27 = .ok (.ifCond .ne 41, 3) := by decide +kernel
theorem dX4_appendCharacters_30 : decode cX4_appendCharacters 30 = .ok (.aload_n 0, 1) := by decide +kernel
theorem dX4_appendCharacters_31 : decode cX4_appendCharacters 31 = .ok (.getfield 36, 3) := by decide +kernel
theorem dX4_appendCharacters_34 : decode cX4_appendCharacters 34 = .ok (.invokevirtual 191, 3) := by decide +kernel
theorem dX4_appendCharacters_37 : decode cX4_appendCharacters 37 = .ok (.iload_n 1, 1) := by decide +kernel
theorem dX4_appendCharacters_38 : decode cX4_appendCharacters 38 = .ok (.iload 6, 2) := by decide +kernel
theorem dX4_appendCharacters_40 : decode cX4_appendCharacters 40 = .ok (.iadd, 1) := by decide +kernel
theorem dX4_appendCharacters_41 : decode cX4_appendCharacters 41 = .ok (.invokevirtual 258, 3) := by decide +kernel
theorem dX4_appendCharacters_44 : decode cX4_appendCharacters 44 = .ok (.istore 7, 2) := by decide +kernel
theorem dX4_appendCharacters_46 : decode cX4_appendCharacters 46 = .ok (.aload_n 0, 1) := by decide +kernel
theorem dX4_appendCharacters_47 : decode cX4_appendCharacters 47 = .ok (.aload_n 0, 1) := by decide +kernel
theorem dX4_appendCharacters_48 : decode cX4_appendCharacters 48 = .ok (.getfield 28, 3) := by decide +kernel
theorem dX4_appendCharacters_51 : decode cX4_appendCharacters 51 = .ok (.iload 5, 2) := by decide +kernel
theorem dX4_appendCharacters_53 : decode cX4_appendCharacters 53 = .ok (.iload 7, 2) := by decide +kernel
theorem dX4_appendCharacters_55 : decode cX4_appendCharacters 55 = .ok (.invokevirtual 261, 3) := by decide +kernel
theorem dX4_appendCharacters_58 : decode cX4_appendCharacters 58 = .ok (.iconst 5, 1) := by decide +kernel
theorem dX4_appendCharacters_59 : decode cX4_appendCharacters 59 = .ok (.invokevirtual 168, 3) := by decide +kernel
theorem dX4_appendCharacters_62 : decode cX4_appendCharacters 62 = .ok (.iinc 6 1, 3) := by decide +kernel
theorem dX4_appendCharacters_65 : decode cX4_appendCharacters 65 = .ok (.goto (-48), 3) := by decide +kernel
theorem dX4_appendCharacters_68 : decode cX4_appendCharacters 68 = .ok (.aload_n 0, 1) := by decide +kernel
theorem dX4_appendCharacters_69 : decode cX4_appendCharacters 69 = .ok (.getfield 12, 3) := by decide +kernel
theorem dX4_appendCharacters_72 : decode cX4_appendCharacters 72 = .ok (.lload_n 3, 1) := by decide +kernel
theorem dX4_appendCharacters_73 : decode cX4_appendCharacters 73 = .ok (.invokevirtual 143, 3) := by decide +kernel
theorem dX4_appendCharacters_76 : decode cX4_appendCharacters 76 = .ok (.return_, 1) := by decide +kernel
theorem dX5_init_0 : decode cX5_init 0 = .ok (.aload_n 0, 1) := by decide +kernel
theorem dX5_init_1 : decode cX5_init 1 = .ok (.invokespecial 3, 3) := by decide +kernel
theorem dX5_init_4 : decode cX5_init 4 = .ok (.aload_n 0, 1) := by decide +kernel
theorem dX5_init_5 : decode cX5_init 5 = .ok (.new 9, 3) := by decide +kernel
theorem dX5_init_8 : decode cX5_init 8 = .ok (.dup, 1) := by decide +kernel
theorem dX5_init_9 : decode cX5_init 9 = .ok (.invokespecial 11, 3) := by decide +kernel
theorem dX5_init_12 : decode cX5_init 12 = .ok (.putfield 12, 3) := by decide +kernel
theorem dX5_init_15 : decode cX5_init 15 = .ok (.aload_n 0, 1) := by decide +kernel
theorem dX5_init_16 : decode cX5_init 16 = .ok (.sipush 493, 3) := by decide +kernel
theorem dX5_init_19 : decode cX5_init 19 = .ok (.newarray .int, 2) := by decide +kernel
theorem dX5_init_21 : decode cX5_init 21 = .ok (.putfield 18, 3) := by decide +kernel
theorem dX5_init_24 : decode cX5_init 24 = .ok (.aload_n 0, 1) := by decide +kernel
theorem dX5_init_25 : decode cX5_init 25 = .ok (.sipush 480, 3) := by decide +kernel
theorem dX5_init_28 : decode cX5_init 28 = .ok (.newarray .int, 2) := by decide +kernel
theorem dX5_init_30 : decode cX5_init 30 = .ok (.putfield 22, 3) := by decide +kernel
theorem dX5_init_33 : decode cX5_init 33 = .ok (.aload_n 0, 1) := by decide +kernel
theorem dX5_init_34 : decode cX5_init 34 = .ok (.sipush 480, 3) := by decide +kernel
theorem dX5_init_37 : decode cX5_init 37 = .ok (.newarray .int, 2) := by decide +kernel
theorem dX5_init_39 : decode cX5_init 39 = .ok (.putfield 25, 3) := by decide +kernel
theorem dX5_init_42 : decode cX5_init 42 = .ok (.aload_n 0, 1) := by decide +kernel
theorem dX5_init_43 : decode cX5_init 43 = .ok (.bipush 12, 2) := by decide +kernel
theorem dX5_init_45 : decode cX5_init 45 = .ok (.newarray .int, 2) := by decide +kernel
theorem dX5_init_47 : decode cX5_init 47 = .ok (.putfield 28, 3) := by decide +kernel
theorem dX5_init_50 : decode cX5_init 50 = .ok (.aload_n 0, 1) := by decide +kernel
theorem dX5_init_51 : decode cX5_init 51 = .ok (.bipush 12, 2) := by decide +kernel
theorem dX5_init_53 : decode cX5_init 53 = .ok (.newarray .int, 2) := by decide +kernel
theorem dX5_init_55 : decode cX5_init 55 = .ok (.putfield 31, 3) := by decide +kernel
theorem dX5_init_58 : decode cX5_init 58 = .ok (.aload_n 0, 1) := by decide +kernel
theorem dX5_init_59 : decode cX5_init 59 = .ok (.bipush 40, 2) := by decide +kernel
theorem dX5_init_61 : decode cX5_init 61 = .ok (.newarray .int, 2) := by decide +kernel
theorem dX5_init_63 : decode cX5_init 63 = .ok (.putfield 34, 3) := by decide +kernel
theorem dX5_init_66 : decode cX5_init 66 = .ok (.aload_n 0, 1) := by decide +kernel
theorem dX5_init_67 : decode cX5_init 67 = .ok (.aload_n 1, 1) := by decide +kernel
theorem dX5_init_68 : decode cX5_init 68 = .ok (.putfield 37, 3) := by decide +kernel
theorem dX5_init_71 : decode cX5_init 71 = .ok (.aload_n 0, 1) := by decide +kernel
theorem dX5_init_72 : decode cX5_init 72 = .ok (.aload_n 2, 1) := by decide +kernel
theorem dX5_init_73 : decode cX5_init 73 = .ok (.putfield 41, 3) := by decide +kernel
theorem dX5_init_76 : decode cX5_init 76 = .ok (.return_, 1) := by decide +kernel
theorem dX5_forget_0 : decode cX5_forget 0 = .ok (.aload_n 0, 1) := by decide +kernel
theorem dX5_forget_1 : decode cX5_forget 1 = .ok (.iconst 0, 1) := by decide +kernel
theorem dX5_forget_2 : decode cX5_forget 2 = .ok (.putfield 45, 3) := by decide +kernel
theorem dX5_forget_5 : decode cX5_forget 5 = .ok (.return_, 1) := by decide +kernel
theorem dX5_isMade_0 : decode cX5_isMade 0 = .ok (.aload_n 0, 1) := by decide +kernel
theorem dX5_isMade_1 : decode cX5_isMade 1 = .ok (.getfield 45, 3) := by decide +kernel
theorem dX5_isMade_4 : decode cX5_isMade 4 = .ok (.ireturn, 1) := by decide +kernel
theorem dX5_classTotal_0 : decode cX5_classTotal 0 = .ok (.aload_n 0, 1) := by decide +kernel
theorem dX5_classTotal_1 : decode cX5_classTotal 1 = .ok (.getfield 49, 3) := by decide +kernel
theorem dX5_classTotal_4 : decode cX5_classTotal 4 = .ok (.ireturn, 1) := by decide +kernel
theorem dX5_valuesOfClass_0 : decode cX5_valuesOfClass 0 = .ok (.aload_n 0, 1) := by decide +kernel
theorem dX5_valuesOfClass_1 : decode cX5_valuesOfClass 1 = .ok (.getfield 25, 3) := by decide +kernel
theorem dX5_valuesOfClass_4 : decode cX5_valuesOfClass 4 = .ok (.iload_n 1, 1) := by decide +kernel
theorem dX5_valuesOfClass_5 : decode cX5_valuesOfClass 5 = .ok (.iaload, 1) := by decide +kernel
theorem dX5_valuesOfClass_6 : decode cX5_valuesOfClass 6 = .ok (.ireturn, 1) := by decide +kernel
theorem dX5_functionOfClass_0 : decode cX5_functionOfClass 0 = .ok (.aload_n 0, 1) := by decide +kernel
theorem dX5_functionOfClass_1 : decode cX5_functionOfClass 1 = .ok (.getfield 22, 3) := by decide +kernel
theorem dX5_functionOfClass_4 : decode cX5_functionOfClass 4 = .ok (.iload_n 1, 1) := by decide +kernel
theorem dX5_functionOfClass_5 : decode cX5_functionOfClass 5 = .ok (.iaload, 1) := by decide +kernel
theorem dX5_functionOfClass_6 : decode cX5_functionOfClass 6 = .ok (.ireturn, 1) := by decide +kernel
theorem dX5_methodOfClass_0 : decode cX5_methodOfClass 0 = .ok (.aload_n 0, 1) := by decide +kernel
theorem dX5_methodOfClass_1 : decode cX5_methodOfClass 1 = .ok (.getfield 37, 3) := by decide +kernel
theorem dX5_methodOfClass_4 : decode cX5_methodOfClass 4 = .ok (.invokevirtual 53, 3) := by decide +kernel
theorem dX5_methodOfClass_7 : decode cX5_methodOfClass 7 = .ok (.iload_n 1, 1) := by decide +kernel
theorem dX5_methodOfClass_8 : decode cX5_methodOfClass 8 = .ok (.iadd, 1) := by decide +kernel
theorem dX5_methodOfClass_9 : decode cX5_methodOfClass 9 = .ok (.ireturn, 1) := by decide +kernel
theorem dX5_isMethod_0 : decode cX5_isMethod 0 = .ok (.iload_n 1, 1) := by decide +kernel
theorem dX5_isMethod_1 : decode cX5_isMethod 1 = .ok (.aload_n 0, 1) := by decide +kernel
theorem dX5_isMethod_2 : decode cX5_isMethod 2 = .ok (.getfield 37, 3) := by decide +kernel
theorem dX5_isMethod_5 : decode cX5_isMethod 5 = .ok (.invokevirtual 53, 3) := by decide +kernel
theorem dX5_isMethod_8 : decode cX5_isMethod 8 = .ok (.if_icmp .lt 7, 3) := by decide +kernel
theorem dX5_isMethod_11 : decode cX5_isMethod 11 = .ok (.iconst 1, 1) := by decide +kernel
theorem dX5_isMethod_12 : decode cX5_isMethod 12 = .ok (.goto 4, 3) := by decide +kernel
theorem dX5_isMethod_15 : decode cX5_isMethod 15 = .ok (.iconst 0, 1) := by decide +kernel
theorem dX5_isMethod_16 : decode cX5_isMethod 16 = .ok (.ireturn, 1) := by decide +kernel
theorem dX5_sourceHeightOf_0 : decode cX5_sourceHeightOf 0 = .ok (.aload_n 0, 1) := by decide +kernel
theorem dX5_sourceHeightOf_1 : decode cX5_sourceHeightOf 1 = .ok (.getfield 28, 3) := by decide +kernel
theorem dX5_sourceHeightOf_4 : decode cX5_sourceHeightOf 4 = .ok (.iload_n 1, 1) := by decide +kernel
theorem dX5_sourceHeightOf_5 : decode cX5_sourceHeightOf 5 = .ok (.iaload, 1) := by decide +kernel
theorem dX5_sourceHeightOf_6 : decode cX5_sourceHeightOf 6 = .ok (.ireturn, 1) := by decide +kernel
theorem dX5_plainHeightOf_0 : decode cX5_plainHeightOf 0 = .ok (.aload_n 0, 1) := by decide +kernel
theorem dX5_plainHeightOf_1 : decode cX5_plainHeightOf 1 = .ok (.getfield 31, 3) := by decide +kernel
theorem dX5_plainHeightOf_4 : decode cX5_plainHeightOf 4 = .ok (.iload_n 1, 1) := by decide +kernel
theorem dX5_plainHeightOf_5 : decode cX5_plainHeightOf 5 = .ok (.iaload, 1) := by decide +kernel
theorem dX5_plainHeightOf_6 : decode cX5_plainHeightOf 6 = .ok (.ireturn, 1) := by decide +kernel
theorem dX5_lengthOf_0 : decode cX5_lengthOf 0 = .ok (.aload_n 0, 1) := by decide +kernel
theorem dX5_lengthOf_1 : decode cX5_lengthOf 1 = .ok (.getfield 18, 3) := by decide +kernel
theorem dX5_lengthOf_4 : decode cX5_lengthOf 4 = .ok (.iload_n 1, 1) := by decide +kernel
theorem dX5_lengthOf_5 : decode cX5_lengthOf 5 = .ok (.iconst 1, 1) := by decide +kernel
theorem dX5_lengthOf_6 : decode cX5_lengthOf 6 = .ok (.iadd, 1) := by decide +kernel
theorem dX5_lengthOf_7 : decode cX5_lengthOf 7 = .ok (.iaload, 1) := by decide +kernel
theorem dX5_lengthOf_8 : decode cX5_lengthOf 8 = .ok (.aload_n 0, 1) := by decide +kernel
theorem dX5_lengthOf_9 : decode cX5_lengthOf 9 = .ok (.getfield 18, 3) := by decide +kernel
theorem dX5_lengthOf_12 : decode cX5_lengthOf 12 = .ok (.iload_n 1, 1) := by decide +kernel
theorem dX5_lengthOf_13 : decode cX5_lengthOf 13 = .ok (.iaload, 1) := by decide +kernel
theorem dX5_lengthOf_14 : decode cX5_lengthOf 14 = .ok (.isub, 1) := by decide +kernel
theorem dX5_lengthOf_15 : decode cX5_lengthOf 15 = .ok (.ireturn, 1) := by decide +kernel
theorem dX5_wordAt_0 : decode cX5_wordAt 0 = .ok (.aload_n 0, 1) := by decide +kernel
theorem dX5_wordAt_1 : decode cX5_wordAt 1 = .ok (.getfield 12, 3) := by decide +kernel
theorem dX5_wordAt_4 : decode cX5_wordAt 4 = .ok (.aload_n 0, 1) := by decide +kernel
theorem dX5_wordAt_5 : decode cX5_wordAt 5 = .ok (.getfield 18, 3) := by decide +kernel
theorem dX5_wordAt_8 : decode cX5_wordAt 8 = .ok (.iload_n 1, 1) := by decide +kernel
theorem dX5_wordAt_9 : decode cX5_wordAt 9 = .ok (.iaload, 1) := by decide +kernel
theorem dX5_wordAt_10 : decode cX5_wordAt 10 = .ok (.iload_n 2, 1) := by decide +kernel
theorem dX5_wordAt_11 : decode cX5_wordAt 11 = .ok (.iadd, 1) := by decide +kernel
theorem dX5_wordAt_12 : decode cX5_wordAt 12 = .ok (.invokevirtual 59, 3) := by decide +kernel
theorem dX5_wordAt_15 : decode cX5_wordAt 15 = .ok (.ireturn, 1) := by decide +kernel
theorem dX5_firstNumberAt_0 : decode cX5_firstNumberAt 0 = .ok (.aload_n 0, 1) := by decide +kernel
theorem dX5_firstNumberAt_1 : decode cX5_firstNumberAt 1 = .ok (.getfield 12, 3) := by decide +kernel
theorem dX5_firstNumberAt_4 : decode cX5_firstNumberAt 4 = .ok (.aload_n 0, 1) := by decide +kernel
theorem dX5_firstNumberAt_5 : decode cX5_firstNumberAt 5 = .ok (.getfield 18, 3) := by decide +kernel
theorem dX5_firstNumberAt_8 : decode cX5_firstNumberAt 8 = .ok (.iload_n 1, 1) := by decide +kernel
theorem dX5_firstNumberAt_9 : decode cX5_firstNumberAt 9 = .ok (.iaload, 1) := by decide +kernel
theorem dX5_firstNumberAt_10 : decode cX5_firstNumberAt 10 = .ok (.iload_n 2, 1) := by decide +kernel
theorem dX5_firstNumberAt_11 : decode cX5_firstNumberAt 11 = .ok (.iadd, 1) := by decide +kernel
theorem dX5_firstNumberAt_12 : decode cX5_firstNumberAt 12 = .ok (.invokevirtual 63, 3) := by decide +kernel
theorem dX5_firstNumberAt_15 : decode cX5_firstNumberAt 15 = .ok (.ireturn, 1) := by decide +kernel
theorem dX5_secondNumberAt_0 : decode cX5_secondNumberAt 0 = .ok (.aload_n 0, 1) := by decide +kernel
theorem dX5_secondNumberAt_1 : decode cX5_secondNumberAt 1 = .ok (.getfield 12, 3) := by decide +kernel
theorem dX5_secondNumberAt_4 : decode cX5_secondNumberAt 4 = .ok (.aload_n 0, 1) := by decide +kernel
theorem dX5_secondNumberAt_5 : decode cX5_secondNumberAt 5 = .ok (.getfield 18, 3) := by decide +kernel
theorem dX5_secondNumberAt_8 : decode cX5_secondNumberAt 8 = .ok (.iload_n 1, 1) := by decide +kernel
theorem dX5_secondNumberAt_9 : decode cX5_secondNumberAt 9 = .ok (.iaload, 1) := by decide +kernel
theorem dX5_secondNumberAt_10 : decode cX5_secondNumberAt 10 = .ok (.iload_n 2, 1) := by decide +kernel
theorem dX5_secondNumberAt_11 : decode cX5_secondNumberAt 11 = .ok (.iadd, 1) := by decide +kernel
theorem dX5_secondNumberAt_12 : decode cX5_secondNumberAt 12 = .ok (.invokevirtual 66, 3) := by decide +kernel
theorem dX5_secondNumberAt_15 : decode cX5_secondNumberAt 15 = .ok (.ireturn, 1) := by decide +kernel
theorem dX5_isStepAt_0 : decode cX5_isStepAt 0 = .ok (.aload_n 0, 1) := by decide +kernel
theorem dX5_isStepAt_1 : decode cX5_isStepAt 1 = .ok (.getfield 12, 3) := by decide +kernel
theorem dX5_isStepAt_4 : decode cX5_isStepAt 4 = .ok (.aload_n 0, 1) := by decide +kernel
theorem dX5_isStepAt_5 : decode cX5_isStepAt 5 = .ok (.getfield 18, 3) := by decide +kernel
theorem dX5_isStepAt_8 : decode cX5_isStepAt 8 = .ok (.iload_n 1, 1) := by decide +kernel
theorem dX5_isStepAt_9 : decode cX5_isStepAt 9 = .ok (.iaload, 1) := by decide +kernel
theorem dX5_isStepAt_10 : decode cX5_isStepAt 10 = .ok (.iload_n 2, 1) := by decide +kernel
theorem dX5_isStepAt_11 : decode cX5_isStepAt 11 = .ok (.iadd, 1) := by decide +kernel
theorem dX5_isStepAt_12 : decode cX5_isStepAt 12 = .ok (.invokevirtual 69, 3) := by decide +kernel
theorem dX5_isStepAt_15 : decode cX5_isStepAt 15 = .ok (.ireturn, 1) := by decide +kernel
theorem dX5_make_0 : decode cX5_make 0 = .ok (.aload_n 0, 1) := by decide +kernel
theorem dX5_make_1 : decode cX5_make 1 = .ok (.getfield 12, 3) := by decide +kernel
theorem dX5_make_4 : decode cX5_make 4 = .ok (.invokevirtual 73, 3) := by decide +kernel
theorem dX5_make_7 : decode cX5_make 7 = .ok (.aload_n 0, 1) := by decide +kernel
theorem dX5_make_8 : decode cX5_make 8 = .ok (.iconst 0, 1) := by decide +kernel
theorem dX5_make_9 : decode cX5_make 9 = .ok (.putfield 49, 3) := by decide +kernel
theorem dX5_make_12 : decode cX5_make 12 = .ok (.iconst 0, 1) := by decide +kernel
theorem dX5_make_13 : decode cX5_make 13 = .ok (.istore_n 1, 1) := by decide +kernel
theorem dX5_make_14 : decode cX5_make 14 = .ok (.iload_n 1, 1) := by decide +kernel
theorem dX5_make_15 : decode cX5_make 15 = .ok (.aload_n 0, 1) := by decide +kernel
theorem dX5_make_16 : decode cX5_make 16 = .ok (.getfield 37, 3) := by decide +kernel
theorem dX5_make_19 : decode cX5_make 19 = .ok (.invokevirtual 53, 3) := by decide +kernel
theorem dX5_make_22 : decode cX5_make 22 = .ok (.if_icmp .ge 14, 3) := by decide +kernel
theorem dX5_make_25 : decode cX5_make 25 = .ok (.aload_n 0, 1) := by decide +kernel
theorem dX5_make_26 : decode cX5_make 26 = .ok (.iload_n 1, 1) := by decide +kernel
theorem dX5_make_27 : decode cX5_make 27 = .ok (.invokevirtual 76, 3) := by decide +kernel
theorem dX5_make_30 : decode cX5_make 30 = .ok (.iinc 1 1, 3) := by decide +kernel
theorem dX5_make_33 : decode cX5_make 33 = .ok (.goto (-19), 3) := by decide +kernel
theorem dX5_make_36 : decode cX5_make 36 = .ok (.aload_n 0, 1) := by decide +kernel
theorem dX5_make_37 : decode cX5_make 37 = .ok (.getfield 12, 3) := by decide +kernel
theorem dX5_make_40 : decode cX5_make 40 = .ok (.invokevirtual 80, 3) := by decide +kernel
theorem dX5_make_43 : decode cX5_make 43 = .ok (.istore_n 1, 1) := by decide +kernel
theorem dX5_make_44 : decode cX5_make 44 = .ok (.iconst 0, 1) := by decide +kernel
theorem dX5_make_45 : decode cX5_make 45 = .ok (.istore_n 2, 1) := by decide +kernel
theorem dX5_make_46 : decode cX5_make 46 = .ok (.iload_n 2, 1) := by decide +kernel
theorem dX5_make_47 : decode cX5_make 47 = .ok (.aload_n 0, 1) := by decide +kernel
theorem dX5_make_48 : decode cX5_make 48 = .ok (.getfield 49, 3) := by decide +kernel
theorem dX5_make_51 : decode cX5_make 51 = .ok (.if_icmp .ge 14, 3) := by decide +kernel
theorem dX5_make_54 : decode cX5_make 54 = .ok (.aload_n 0, 1) := by decide +kernel
theorem dX5_make_55 : decode cX5_make 55 = .ok (.iload_n 2, 1) := by decide +kernel
theorem dX5_make_56 : decode cX5_make 56 = .ok (.invokevirtual 83, 3) := by decide +kernel
theorem dX5_make_59 : decode cX5_make 59 = .ok (.iinc 2 1, 3) := by decide +kernel
theorem dX5_make_62 : decode cX5_make 62 = .ok (.goto (-16), 3) := by decide +kernel
theorem dX5_make_65 : decode cX5_make 65 = .ok (.aload_n 0, 1) := by decide +kernel
theorem dX5_make_66 : decode cX5_make 66 = .ok (.iconst 1, 1) := by decide +kernel
theorem dX5_make_67 : decode cX5_make 67 = .ok (.putfield 45, 3) := by decide +kernel
theorem dX5_make_70 : decode cX5_make 70 = .ok (.iload_n 1, 1) := by decide +kernel
theorem dX5_make_71 : decode cX5_make 71 = .ok (.ireturn, 1) := by decide +kernel
theorem dX5_makeFunction_0 : decode cX5_makeFunction 0 = .ok (.aload_n 0, 1) := by decide +kernel
theorem dX5_makeFunction_1 : decode cX5_makeFunction 1 = .ok (.getfield 12, 3) := by decide +kernel
theorem dX5_makeFunction_4 : decode cX5_makeFunction 4 = .ok (.invokevirtual 80, 3) := by decide +kernel
theorem dX5_makeFunction_7 : decode cX5_makeFunction 7 = .ok (.istore_n 2, 1) := by decide +kernel
theorem dX5_makeFunction_8 : decode cX5_makeFunction 8 = .ok (.aload_n 0, 1) := by decide +kernel
theorem dX5_makeFunction_9 : decode cX5_makeFunction 9 = .ok (.getfield 18, 3) := by decide +kernel
theorem dX5_makeFunction_12 : decode cX5_makeFunction 12 = .ok (.iload_n 1, 1) := by decide +kernel
theorem dX5_makeFunction_13 : decode cX5_makeFunction 13 = .ok (.iload_n 2, 1) := by decide +kernel
theorem dX5_makeFunction_14 : decode cX5_makeFunction 14 = .ok (.iastore, 1) := by decide +kernel
theorem dX5_makeFunction_15 : decode cX5_makeFunction 15 = .ok (.aload_n 0, 1) := by decide +kernel
theorem dX5_makeFunction_16 : decode cX5_makeFunction 16 = .ok (.getfield 28, 3) := by decide +kernel
theorem dX5_makeFunction_19 : decode cX5_makeFunction 19 = .ok (.iload_n 1, 1) := by decide +kernel
theorem dX5_makeFunction_20 : decode cX5_makeFunction 20 = .ok (.iconst 0, 1) := by decide +kernel
theorem dX5_makeFunction_21 : decode cX5_makeFunction 21 = .ok (.iastore, 1) := by decide +kernel
theorem dX5_makeFunction_22 : decode cX5_makeFunction 22 = .ok (.aload_n 0, 1) := by decide +kernel
theorem dX5_makeFunction_23 : decode cX5_makeFunction 23 = .ok (.getfield 31, 3) := by decide +kernel
theorem dX5_makeFunction_26 : decode cX5_makeFunction 26 = .ok (.iload_n 1, 1) := by decide +kernel
theorem dX5_makeFunction_27 : decode cX5_makeFunction 27 = .ok (.iconst 0, 1) := by decide +kernel
theorem dX5_makeFunction_28 : decode cX5_makeFunction 28 = .ok (.iastore, 1) := by decide +kernel
theorem dX5_makeFunction_29 : decode cX5_makeFunction 29 = .ok (.aload_n 0, 1) := by decide +kernel
theorem dX5_makeFunction_30 : decode cX5_makeFunction 30 = .ok (.getfield 41, 3) := by decide +kernel
theorem dX5_makeFunction_33 : decode cX5_makeFunction 33 = .ok (.iload_n 1, 1) := by decide +kernel
theorem dX5_makeFunction_34 : decode cX5_makeFunction 34 = .ok (.invokevirtual 86, 3) := by decide +kernel
theorem dX5_makeFunction_37 : decode cX5_makeFunction 37 = .ok (.pop, 1) := by decide +kernel
theorem dX5_makeFunction_38 : decode cX5_makeFunction 38 = .ok (.iconst 0, 1) := by decide +kernel
theorem dX5_makeFunction_39 : decode cX5_makeFunction 39 = .ok (.istore_n 3, 1) := by decide +kernel
theorem dX5_makeFunction_40 : decode cX5_makeFunction 40 = .ok (.iload_n 3, 1) := by decide +kernel
theorem dX5_makeFunction_41 : decode cX5_makeFunction 41 = .ok (.aload_n 0, 1) := by decide +kernel
theorem dX5_makeFunction_42 : decode cX5_makeFunction 42 = .ok (.getfield 37, 3) := by decide +kernel
theorem dX5_makeFunction_45 : decode cX5_makeFunction 45 = .ok (.iload_n 1, 1) := by decide +kernel
theorem dX5_makeFunction_46 : decode cX5_makeFunction 46 = .ok (.invokevirtual 91, 3) := by decide +kernel
theorem dX5_makeFunction_49 : decode cX5_makeFunction 49 = .ok (.if_icmp .ge 62, 3) := by decide +kernel
theorem dX5_makeFunction_52 : decode cX5_makeFunction 52 = .ok (.aload_n 0, 1) := by decide +kernel
theorem dX5_makeFunction_53 : decode cX5_makeFunction 53 = .ok (.getfield 12, 3) := by decide +kernel
theorem dX5_makeFunction_56 : decode cX5_makeFunction 56 = .ok (.invokevirtual 80, 3) := by decide +kernel
theorem dX5_makeFunction_59 : decode cX5_makeFunction 59 = .ok (.istore 4, 2) := by decide +kernel
theorem dX5_makeFunction_61 : decode cX5_makeFunction 61 = .ok (.aload_n 0, 1) := by decide +kernel
theorem dX5_makeFunction_62 : decode cX5_makeFunction 62 = .ok (.getfield 34, 3) := by decide +kernel
theorem dX5_makeFunction_65 : decode cX5_makeFunction 65 = .ok (.iload_n 3, 1) := by decide +kernel
theorem dX5_makeFunction_66 : decode cX5_makeFunction 66 = .ok (.iload 4, 2) := by decide +kernel
theorem dX5_makeFunction_68 : decode cX5_makeFunction 68 = .ok (.iload_n 2, 1) := by decide +kernel
theorem dX5_makeFunction_69 : decode cX5_makeFunction 69 = .ok (.isub, 1) := by decide +kernel
theorem dX5_makeFunction_70 : decode cX5_makeFunction 70 = .ok (.iastore, 1) := by decide +kernel
theorem dX5_makeFunction_71 : decode cX5_makeFunction 71 = .ok (.aload_n 0, 1) := by decide +kernel
theorem dX5_makeFunction_72 : decode cX5_makeFunction 72 = .ok (.iload_n 1, 1) := by decide +kernel
theorem dX5_makeFunction_73 : decode cX5_makeFunction 73 = .ok (.iload_n 3, 1) := by decide +kernel
theorem dX5_makeFunction_74 : decode cX5_makeFunction 74 = .ok (.invokevirtual 94, 3) := by decide +kernel
theorem dX5_makeFunction_77 : decode cX5_makeFunction 77 = .ok (.aload_n 0, 1) := by decide +kernel
theorem dX5_makeFunction_78 : decode cX5_makeFunction 78 = .ok (.getfield 12, 3) := by decide +kernel
theorem dX5_makeFunction_81 : decode cX5_makeFunction 81 = .ok (.iload 4, 2) := by decide +kernel
theorem dX5_makeFunction_83 : decode cX5_makeFunction 83 = .ok (.invokevirtual 98, 3) := by decide +kernel
theorem dX5_makeFunction_86 : decode cX5_makeFunction 86 = .ok (.aload_n 0, 1) := by decide +kernel
theorem dX5_makeFunction_87 : decode cX5_makeFunction 87 = .ok (.getfield 41, 3) := by decide +kernel
theorem dX5_makeFunction_90 : decode cX5_makeFunction 90 = .ok (.iload_n 3, 1) := by decide +kernel
theorem dX5_makeFunction_91 : decode cX5_makeFunction 91 = .ok (.invokevirtual 101, 3) := by decide +kernel
theorem dX5_makeFunction_94 : decode cX5_makeFunction 94 = .ok (.ifCond .eq 11, 3) := by decide +kernel
theorem dX5_makeFunction_97 : decode cX5_makeFunction 97 = .ok (.aload_n 0, 1) := by decide +kernel
theorem dX5_makeFunction_98 : decode cX5_makeFunction 98 = .ok (.iload_n 1, 1) := by decide +kernel
theorem dX5_makeFunction_99 : decode cX5_makeFunction 99 = .ok (.iload_n 3, 1) := by decide +kernel
theorem dX5_makeFunction_100 : decode cX5_makeFunction 100 = .ok (.iload 4, 2) := by decide +kernel
theorem dX5_makeFunction_102 : decode cX5_makeFunction 102 = .ok (.invokevirtual 104, 3) := by decide +kernel
theorem dX5_makeFunction_105 : decode cX5_makeFunction 105 = .ok (.iinc 3 1, 3) := by decide +kernel
theorem dX5_makeFunction_108 : decode cX5_makeFunction 108 = .ok (.goto (-68), 3) := by decide +kernel
theorem dX5_makeFunction_111 : decode cX5_makeFunction 111 = .ok (.aload_n 0, 1) := by decide +kernel
theorem dX5_makeFunction_112 : decode cX5_makeFunction 112 = .ok (.getfield 18, 3) := by decide +kernel
theorem dX5_makeFunction_115 : decode cX5_makeFunction 115 = .ok (.iload_n 1, 1) := by decide +kernel
theorem dX5_makeFunction_116 : decode cX5_makeFunction 116 = .ok (.iconst 1, 1) := by decide +kernel
theorem dX5_makeFunction_117 : decode cX5_makeFunction 117 = .ok (.iadd, 1) := by decide +kernel
theorem dX5_makeFunction_118 : decode cX5_makeFunction 118 = .ok (.aload_n 0, 1) := by decide +kernel
theorem dX5_makeFunction_119 : decode cX5_makeFunction 119 = .ok (.getfield 12, 3) := by decide +kernel
theorem dX5_makeFunction_122 : decode cX5_makeFunction 122 = .ok (.invokevirtual 80, 3) := by decide +kernel
theorem dX5_makeFunction_125 : decode cX5_makeFunction 125 = .ok (.iastore, 1) := by decide +kernel
theorem dX5_makeFunction_126 : decode cX5_makeFunction 126 = .ok (.aload_n 0, 1) := by decide +kernel
theorem dX5_makeFunction_127 : decode cX5_makeFunction 127 = .ok (.iload_n 2, 1) := by decide +kernel
theorem dX5_makeFunction_128 : decode cX5_makeFunction 128 = .ok (.invokevirtual 108, 3) := by decide +kernel
theorem dX5_makeFunction_131 : decode cX5_makeFunction 131 = .ok (.return_, 1) := by decide +kernel
theorem dX5_makeGroup_0 : decode cX5_makeGroup 0 = .ok (.aload_n 0, 1) := by decide +kernel
theorem dX5_makeGroup_1 : decode cX5_makeGroup 1 = .ok (.getfield 37, 3) := by decide +kernel
theorem dX5_makeGroup_4 : decode cX5_makeGroup 4 = .ok (.iload_n 1, 1) := by decide +kernel
theorem dX5_makeGroup_5 : decode cX5_makeGroup 5 = .ok (.iload_n 2, 1) := by decide +kernel
theorem dX5_makeGroup_6 : decode cX5_makeGroup 6 = .ok (.invokevirtual 111, 3) := by decide +kernel
theorem dX5_makeGroup_9 : decode cX5_makeGroup 9 = .ok (.istore_n 3, 1) := by decide +kernel
theorem dX5_makeGroup_10 : decode cX5_makeGroup 10 = .ok (.aload_n 0, 1) := by decide +kernel
theorem dX5_makeGroup_11 : decode cX5_makeGroup 11 = .ok (.getfield 37, 3) := by decide +kernel
theorem dX5_makeGroup_14 : decode cX5_makeGroup 14 = .ok (.iload_n 1, 1) := by decide +kernel
theorem dX5_makeGroup_15 : decode cX5_makeGroup 15 = .ok (.iload_n 2, 1) := by decide +kernel
theorem dX5_makeGroup_16 : decode cX5_makeGroup 16 = .ok (.invokevirtual 115, 3) := by decide +kernel
theorem dX5_makeGroup_19 : decode cX5_makeGroup 19 = .ok (.istore 4, 2) := by decide +kernel
theorem dX5_makeGroup_21 : decode cX5_makeGroup 21 = .ok (.iload_n 3, 1) := by decide +kernel
theorem dX5_makeGroup_22 : decode cX5_makeGroup 22 = .ok (.bipush 13, 2) := by decide +kernel
theorem dX5_makeGroup_24 : decode cX5_makeGroup 24 = .ok (.if_icmp .ne 21, 3) := by decide +kernel
theorem dX5_makeGroup_27 : decode cX5_makeGroup 27 = .ok (.aload_n 0, 1) := by decide +kernel
theorem dX5_makeGroup_28 : decode cX5_makeGroup 28 = .ok (.iload 4, 2) := by decide +kernel
theorem dX5_makeGroup_30 : decode cX5_makeGroup 30 = .ok (.aload_n 0, 1) := by decide +kernel
theorem dX5_makeGroup_31 : decode cX5_makeGroup 31 = .ok (.getfield 37, 3) := by decide +kernel
theorem dX5_makeGroup_34 : decode cX5_makeGroup 34 = .ok (.iload_n 1, 1) := by decide +kernel
theorem dX5_makeGroup_35 : decode cX5_makeGroup 35 = .ok (.iload_n 2, 1) := by decide +kernel
theorem dX5_makeGroup_36 : decode cX5_makeGroup 36 = .ok (.invokevirtual 118, 3) := by decide +kernel
theorem dX5_makeGroup_39 : decode cX5_makeGroup 39 = .ok (.invokevirtual 121, 3) := by decide +kernel
theorem dX5_makeGroup_42 : decode cX5_makeGroup 42 = .ok (.goto 57, 3) := by decide +kernel
theorem dX5_makeGroup_45 : decode cX5_makeGroup 45 = .ok (.iload_n 3, 1) := by decide +kernel
theorem dX5_makeGroup_46 : decode cX5_makeGroup 46 = .ok (.bipush 14, 2) := by decide +kernel
theorem dX5_makeGroup_48 : decode cX5_makeGroup 48 = .ok (.if_icmp .ne 18, 3) := by decide +kernel
theorem dX5_makeGroup_51 : decode cX5_makeGroup 51 = .ok (.aload_n 0, 1) := by decide +kernel
theorem dX5_makeGroup_52 : decode cX5_makeGroup 52 = .ok (.getfield 12, 3) := by decide +kernel
theorem dX5_makeGroup_55 : decode cX5_makeGroup 55 = .ok (.bipush 22, 2) := by decide +kernel
theorem dX5_makeGroup_57 : decode cX5_makeGroup 57 = .ok (.iload 4, 2) := by decide +kernel
theorem dX5_makeGroup_59 : decode cX5_makeGroup 59 = .ok (.iconst 0, 1) := by decide +kernel
theorem dX5_makeGroup_60 : decode cX5_makeGroup 60 = .ok (.invokevirtual 124, 3) := by decide +kernel
theorem dX5_makeGroup_63 : decode cX5_makeGroup 63 = .ok (.goto 36, 3) := by decide +kernel
theorem dX5_makeGroup_66 : decode cX5_makeGroup 66 = .ok (.iload_n 3, 1) := by decide +kernel
theorem dX5_makeGroup_67 : decode cX5_makeGroup 67 = .ok (.bipush 15, 2) := by decide +kernel
theorem dX5_makeGroup_69 : decode cX5_makeGroup 69 = .ok (.if_icmp .ne 19, 3) := by decide +kernel
theorem dX5_makeGroup_72 : decode cX5_makeGroup 72 = .ok (.aload_n 0, 1) := by decide +kernel
theorem dX5_makeGroup_73 : decode cX5_makeGroup 73 = .ok (.iload 4, 2) := by decide +kernel
theorem dX5_makeGroup_75 : decode cX5_makeGroup 75 = .ok (.aload_n 0, 1) := by decide +kernel
theorem dX5_makeGroup_76 : decode cX5_makeGroup 76 = .ok (.getfield 37, 3) := by decide +kernel
theorem dX5_makeGroup_79 : decode cX5_makeGroup 79 = .ok (.invokevirtual 127, 3) := by decide +kernel
theorem dX5_makeGroup_82 : decode cX5_makeGroup 82 = .ok (.invokevirtual 131, 3) := by decide +kernel
theorem dX5_makeGroup_85 : decode cX5_makeGroup 85 = .ok (.goto 14, 3) := by decide +kernel
theorem dX5_makeGroup_88 : decode cX5_makeGroup 88 = .ok (.aload_n 0, 1) := by decide +kernel
theorem dX5_makeGroup_89 : decode cX5_makeGroup 89 = .ok (.getfield 12, 3) := by decide +kernel
theorem dX5_makeGroup_92 : decode cX5_makeGroup 92 = .ok (.iload_n 3, 1) := by decide +kernel
theorem dX5_makeGroup_93 : decode cX5_makeGroup 93 = .ok (.iload 4, 2) := by decide +kernel
theorem dX5_makeGroup_95 : decode cX5_makeGroup 95 = .ok (.iconst 0, 1) := by decide +kernel
theorem dX5_makeGroup_96 : decode cX5_makeGroup 96 = .ok (.invokevirtual 124, 3) := by decide +kernel
theorem dX5_makeGroup_99 : decode cX5_makeGroup 99 = .ok (.return_, 1) := by decide +kernel
theorem dX5_makeNew_0 : decode cX5_makeNew 0 = .ok (.aload_n 0, 1) := by decide +kernel
theorem dX5_makeNew_1 : decode cX5_makeNew 1 = .ok (.getfield 22, 3) := by decide +kernel
theorem dX5_makeNew_4 : decode cX5_makeNew 4 = .ok (.aload_n 0, 1) := by decide +kernel
theorem dX5_makeNew_5 : decode cX5_makeNew 5 = .ok (.getfield 49, 3) := by decide +kernel
theorem dX5_makeNew_8 : decode cX5_makeNew 8 = .ok (.iload_n 1, 1) := by decide +kernel
theorem dX5_makeNew_9 : decode cX5_makeNew 9 = .ok (.iastore, 1) := by decide +kernel
theorem dX5_makeNew_10 : decode cX5_makeNew 10 = .ok (.aload_n 0, 1) := by decide +kernel
theorem dX5_makeNew_11 : decode cX5_makeNew 11 = .ok (.getfield 25, 3) := by decide +kernel
theorem dX5_makeNew_14 : decode cX5_makeNew 14 = .ok (.aload_n 0, 1) := by decide +kernel
theorem dX5_makeNew_15 : decode cX5_makeNew 15 = .ok (.getfield 49, 3) := by decide +kernel
theorem dX5_makeNew_18 : decode cX5_makeNew 18 = .ok (.iload_n 2, 1) := by decide +kernel
theorem dX5_makeNew_19 : decode cX5_makeNew 19 = .ok (.iastore, 1) := by decide +kernel
theorem dX5_makeNew_20 : decode cX5_makeNew 20 = .ok (.aload_n 0, 1) := by decide +kernel
theorem dX5_makeNew_21 : decode cX5_makeNew 21 = .ok (.getfield 12, 3) := by decide +kernel
theorem dX5_makeNew_24 : decode cX5_makeNew 24 = .ok (.bipush 20, 2) := by decide +kernel
theorem dX5_makeNew_26 : decode cX5_makeNew 26 = .ok (.aload_n 0, 1) := by decide +kernel
theorem dX5_makeNew_27 : decode cX5_makeNew 27 = .ok (.getfield 49, 3) := by decide +kernel
theorem dX5_makeNew_30 : decode cX5_makeNew 30 = .ok (.iconst 0, 1) := by decide +kernel
theorem dX5_makeNew_31 : decode cX5_makeNew 31 = .ok (.invokevirtual 124, 3) := by decide +kernel
theorem dX5_makeNew_34 : decode cX5_makeNew 34 = .ok (.aload_n 0, 1) := by decide +kernel
theorem dX5_makeNew_35 : decode cX5_makeNew 35 = .ok (.dup, 1) := by decide +kernel
theorem dX5_makeNew_36 : decode cX5_makeNew 36 = .ok (.getfield 49, 3) := by decide +kernel
theorem dX5_makeNew_39 : decode cX5_makeNew 39 = .ok (.iconst 1, 1) := by decide +kernel
theorem dX5_makeNew_40 : decode cX5_makeNew 40 = .ok (.iadd, 1) := by decide +kernel
theorem dX5_makeNew_41 : decode cX5_makeNew 41 = .ok (.putfield 49, 3) := by decide +kernel
theorem dX5_makeNew_44 : decode cX5_makeNew 44 = .ok (.iload_n 2, 1) := by decide +kernel
theorem dX5_makeNew_45 : decode cX5_makeNew 45 = .ok (.ifCond .ne 4, 3) := by decide +kernel
theorem dX5_makeNew_48 : decode cX5_makeNew 48 = .ok (.return_, 1) := by decide +kernel
theorem dX5_makeNew_49 : decode cX5_makeNew 49 = .ok (.aload_n 0, 1) := by decide +kernel
theorem dX5_makeNew_50 : decode cX5_makeNew 50 = .ok (.getfield 12, 3) := by decide +kernel
theorem dX5_makeNew_53 : decode cX5_makeNew 53 = .ok (.iconst 2, 1) := by decide +kernel
theorem dX5_makeNew_54 : decode cX5_makeNew 54 = .ok (.bipush 8, 2) := by decide +kernel
theorem dX5_makeNew_56 : decode cX5_makeNew 56 = .ok (.iconst 0, 1) := by decide +kernel
theorem dX5_makeNew_57 : decode cX5_makeNew 57 = .ok (.invokevirtual 124, 3) := by decide +kernel
theorem dX5_makeNew_60 : decode cX5_makeNew 60 = .ok (.iload_n 2, 1) := by decide +kernel
theorem dX5_makeNew_61 : decode cX5_makeNew 61 = .ok (.istore_n 3, 1) := by decide +kernel
theorem dX5_makeNew_62 : decode cX5_makeNew 62 = .ok (.iload_n 3, 1) := by decide +kernel
theorem dX5_makeNew_63 : decode cX5_makeNew 63 = .ok (.ifCond .le 22, 3) := by decide +kernel
theorem dX5_makeNew_66 : decode cX5_makeNew 66 = .ok (.aload_n 0, 1) := by decide +kernel
theorem dX5_makeNew_67 : decode cX5_makeNew 67 = .ok (.getfield 12, 3) := by decide +kernel
theorem dX5_makeNew_70 : decode cX5_makeNew 70 = .ok (.iconst 2, 1) := by decide +kernel
theorem dX5_makeNew_71 : decode cX5_makeNew 71 = .ok (.bipush 8, 2) := by decide +kernel
theorem dX5_makeNew_73 : decode cX5_makeNew 73 = .ok (.iload_n 3, 1) := by decide +kernel
theorem dX5_makeNew_74 : decode cX5_makeNew 74 = .ok (.iadd, 1) := by decide +kernel
theorem dX5_makeNew_75 : decode cX5_makeNew 75 = .ok (.iconst 0, 1) := by decide +kernel
theorem dX5_makeNew_76 : decode cX5_makeNew 76 = .ok (.invokevirtual 124, 3) := by decide +kernel
theorem dX5_makeNew_79 : decode cX5_makeNew 79 = .ok (.iinc 3 (-1), 3) := by decide +kernel
theorem dX5_makeNew_82 : decode cX5_makeNew 82 = .ok (.goto (-20), 3) := by decide +kernel
theorem dX5_makeNew_85 : decode cX5_makeNew 85 = .ok (.aload_n 0, 1) := by decide +kernel
theorem dX5_makeNew_86 : decode cX5_makeNew 86 = .ok (.getfield 12, 3) := by decide +kernel
theorem dX5_makeNew_89 : decode cX5_makeNew 89 = .ok (.iconst 1, 1) := by decide +kernel
theorem dX5_makeNew_90 : decode cX5_makeNew 90 = .ok (.bipush 8, 2) := by decide +kernel
theorem dX5_makeNew_92 : decode cX5_makeNew 92 = .ok (.iconst 0, 1) := by decide +kernel
theorem dX5_makeNew_93 : decode cX5_makeNew 93 = .ok (.invokevirtual 124, 3) := by decide +kernel
theorem dX5_makeNew_96 : decode cX5_makeNew 96 = .ok (.iconst 0, 1) := by decide +kernel
theorem dX5_makeNew_97 : decode cX5_makeNew 97 = .ok (.istore_n 3, 1) := by decide +kernel
theorem dX5_makeNew_98 : decode cX5_makeNew 98 = .ok (.iload_n 3, 1) := by decide +kernel
theorem dX5_makeNew_99 : decode cX5_makeNew 99 = .ok (.iload_n 2, 1) := by decide +kernel
theorem dX5_makeNew_100 : decode cX5_makeNew 100 = .ok (.if_icmp .ge 33, 3) := by decide +kernel
theorem dX5_makeNew_103 : decode cX5_makeNew 103 = .ok (.aload_n 0, 1) := by decide +kernel
theorem dX5_makeNew_104 : decode cX5_makeNew 104 = .ok (.getfield 12, 3) := by decide +kernel
theorem dX5_makeNew_107 : decode cX5_makeNew 107 = .ok (.iconst 1, 1) := by decide +kernel
theorem dX5_makeNew_108 : decode cX5_makeNew 108 = .ok (.bipush 9, 2) := by decide +kernel
theorem dX5_makeNew_110 : decode cX5_makeNew 110 = .ok (.iload_n 3, 1) := by decide +kernel
theorem dX5_makeNew_111 : decode cX5_makeNew 111 = .ok (.iadd, 1) := by decide +kernel
theorem dX5_makeNew_112 : decode cX5_makeNew 112 = .ok (.iconst 0, 1) := by decide +kernel
theorem dX5_makeNew_113 : decode cX5_makeNew 113 = .ok (.invokevirtual 124, 3) := by decide +kernel
theorem dX5_makeNew_116 : decode cX5_makeNew 116 = .ok (.aload_n 0, 1) := by decide +kernel
theorem dX5_makeNew_117 : decode cX5_makeNew 117 = .ok (.getfield 12, 3) := by decide +kernel
theorem dX5_makeNew_120 : decode cX5_makeNew 120 = .ok (.bipush 21, 2) := by decide +kernel
theorem dX5_makeNew_122 : decode cX5_makeNew 122 = .ok (.iload_n 3, 1) := by decide +kernel
theorem dX5_makeNew_123 : decode cX5_makeNew 123 = .ok (.iconst 0, 1) := by decide +kernel
theorem dX5_makeNew_124 : decode cX5_makeNew 124 = .ok (.invokevirtual 124, 3) := by decide +kernel
theorem dX5_makeNew_127 : decode cX5_makeNew 127 = .ok (.iinc 3 1, 3) := by decide +kernel
theorem dX5_makeNew_130 : decode cX5_makeNew 130 = .ok (.goto (-32), 3) := by decide +kernel
theorem dX5_makeNew_133 : decode cX5_makeNew 133 = .ok (.return_, 1) := by decide +kernel
theorem dX5_makeJoin_0 : decode cX5_makeJoin 0 = .ok (.aload_n 2, 1) := by decide +kernel
theorem dX5_makeJoin_1 : decode cX5_makeJoin 1 = .ok (.iload_n 1, 1) := by decide +kernel
theorem dX5_makeJoin_2 : decode cX5_makeJoin 2 = .ok (.invokevirtual 135, 3) := by decide +kernel
theorem dX5_makeJoin_5 : decode cX5_makeJoin 5 = .ok (.iconst 1, 1) := by decide +kernel
theorem dX5_makeJoin_6 : decode cX5_makeJoin 6 = .ok (.isub, 1) := by decide +kernel
theorem dX5_makeJoin_7 : decode cX5_makeJoin 7 = .ok (.istore_n 3, 1) := by decide +kernel
theorem dX5_makeJoin_8 : decode cX5_makeJoin 8 = .ok (.iload_n 3, 1) := by decide +kernel
theorem dX5_makeJoin_9 : decode cX5_makeJoin 9 = .ok (.ifCond .lt 22, 3) := by decide +kernel
theorem dX5_makeJoin_12 : decode cX5_makeJoin 12 = .ok (.aload_n 0, 1) := by decide +kernel
theorem dX5_makeJoin_13 : decode cX5_makeJoin 13 = .ok (.getfield 12, 3) := by decide +kernel
theorem dX5_makeJoin_16 : decode cX5_makeJoin 16 = .ok (.iconst 2, 1) := by decide +kernel
theorem dX5_makeJoin_17 : decode cX5_makeJoin 17 = .ok (.bipush 8, 2) := by decide +kernel
theorem dX5_makeJoin_19 : decode cX5_makeJoin 19 = .ok (.iload_n 3, 1) := by decide +kernel
theorem dX5_makeJoin_20 : decode cX5_makeJoin 20 = .ok (.iadd, 1) := by decide +kernel
theorem dX5_makeJoin_21 : decode cX5_makeJoin 21 = .ok (.iconst 0, 1) := by decide +kernel
theorem dX5_makeJoin_22 : decode cX5_makeJoin 22 = .ok (.invokevirtual 124, 3) := by decide +kernel
theorem dX5_makeJoin_25 : decode cX5_makeJoin 25 = .ok (.iinc 3 (-1), 3) := by decide +kernel
theorem dX5_makeJoin_28 : decode cX5_makeJoin 28 = .ok (.goto (-20), 3) := by decide +kernel
theorem dX5_makeJoin_31 : decode cX5_makeJoin 31 = .ok (.aload_n 0, 1) := by decide +kernel
theorem dX5_makeJoin_32 : decode cX5_makeJoin 32 = .ok (.getfield 12, 3) := by decide +kernel
theorem dX5_makeJoin_35 : decode cX5_makeJoin 35 = .ok (.bipush 24, 2) := by decide +kernel
theorem dX5_makeJoin_37 : decode cX5_makeJoin 37 = .ok (.iconst 0, 1) := by decide +kernel
theorem dX5_makeJoin_38 : decode cX5_makeJoin 38 = .ok (.iconst 0, 1) := by decide +kernel
theorem dX5_makeJoin_39 : decode cX5_makeJoin 39 = .ok (.invokevirtual 124, 3) := by decide +kernel
theorem dX5_makeJoin_42 : decode cX5_makeJoin 42 = .ok (.iconst 0, 1) := by decide +kernel
theorem dX5_makeJoin_43 : decode cX5_makeJoin 43 = .ok (.istore_n 3, 1) := by decide +kernel
theorem dX5_makeJoin_44 : decode cX5_makeJoin 44 = .ok (.aload_n 2, 1) := by decide +kernel
theorem dX5_makeJoin_45 : decode cX5_makeJoin 45 = .ok (.iload_n 1, 1) := by decide +kernel
theorem dX5_makeJoin_46 : decode cX5_makeJoin 46 = .ok (.invokevirtual 140, 3) := by decide +kernel
theorem dX5_makeJoin_49 : decode cX5_makeJoin 49 = .ok (.istore 4, 2) := by decide +kernel
theorem dX5_makeJoin_51 : decode cX5_makeJoin 51 = .ok (.iconst 0, 1) := by decide +kernel
theorem dX5_makeJoin_52 : decode cX5_makeJoin 52 = .ok (.istore 5, 2) := by decide +kernel
theorem dX5_makeJoin_54 : decode cX5_makeJoin 54 = .ok (.iconst 0, 1) := by decide +kernel
theorem dX5_makeJoin_55 : decode cX5_makeJoin 55 = .ok (.istore 6, 2) := by decide +kernel
theorem dX5_makeJoin_57 : decode cX5_makeJoin 57 = .ok (.iload 6, 2) := by decide +kernel
theorem dX5_makeJoin_59 : decode cX5_makeJoin 59 = .ok (.aload_n 2, 1) := by decide +kernel
theorem dX5_makeJoin_60 : decode cX5_makeJoin 60 = .ok (.iload_n 1, 1) := by decide +kernel
theorem dX5_makeJoin_61 : decode cX5_makeJoin 61 = .ok (.invokevirtual 143, 3) := by decide +kernel
theorem dX5_makeJoin_64 : decode cX5_makeJoin 64 = .ok (.if_icmp .ge 80, 3) := by decide +kernel
theorem dX5_makeJoin_67 : decode cX5_makeJoin 67 = .ok (.aload_n 2, 1) := by decide +kernel
theorem dX5_makeJoin_68 : decode cX5_makeJoin 68 = .ok (.iload_n 1, 1) := by decide +kernel
theorem dX5_makeJoin_69 : decode cX5_makeJoin 69 = .ok (.iload 6, 2) := by decide +kernel
theorem dX5_makeJoin_71 : decode cX5_makeJoin 71 = .ok (.invokevirtual 144, 3) := by decide +kernel
theorem dX5_makeJoin_74 : decode cX5_makeJoin 74 = .ok (.ifCond .ne 9, 3) := by decide +kernel
theorem dX5_makeJoin_77 : decode cX5_makeJoin 77 = .ok (.iinc 5 1, 3) := by decide +kernel
theorem dX5_makeJoin_80 : decode cX5_makeJoin 80 = .ok (.goto 58, 3) := by decide +kernel
theorem dX5_makeJoin_83 : decode cX5_makeJoin 83 = .ok (.iload 5, 2) := by decide +kernel
theorem dX5_makeJoin_85 : decode cX5_makeJoin 85 = .ok (.ifCond .le 26, 3) := by decide +kernel
theorem dX5_makeJoin_88 : decode cX5_makeJoin 88 = .ok (.aload_n 0, 1) := by decide +kernel
theorem dX5_makeJoin_89 : decode cX5_makeJoin 89 = .ok (.getfield 12, 3) := by decide +kernel
theorem dX5_makeJoin_92 : decode cX5_makeJoin 92 = .ok (.bipush 25, 2) := by decide +kernel
theorem dX5_makeJoin_94 : decode cX5_makeJoin 94 = .ok (.iload 4, 2) := by decide +kernel
theorem dX5_makeJoin_96 : decode cX5_makeJoin 96 = .ok (.iload 5, 2) := by decide +kernel
theorem dX5_makeJoin_98 : decode cX5_makeJoin 98 = .ok (.invokevirtual 124, 3) := by decide +kernel
theorem dX5_makeJoin_101 : decode cX5_makeJoin 101 = .ok (.iload 4, 2) := by decide +kernel
theorem dX5_makeJoin_103 : decode cX5_makeJoin 103 = .ok (.iload 5, 2) := by decide +kernel
theorem dX5_makeJoin_105 : decode cX5_makeJoin 105 = .ok (.iadd, 1) := by decide +kernel
theorem dX5_makeJoin_106 : decode cX5_makeJoin 106 = .ok (.istore 4, 2) := by decide +kernel
theorem dX5_makeJoin_108 : decode cX5_makeJoin 108 = .ok (.iconst 0, 1) := by decide +kernel
theorem dX5_makeJoin_109 : decode cX5_makeJoin 109 = .ok (.istore 5, 2) := by decide +kernel
theorem dX5_makeJoin_111 : decode cX5_makeJoin 111 = .ok (.aload_n 0, 1) := by decide +kernel
theorem dX5_makeJoin_112 : decode cX5_makeJoin 112 = .ok (.getfield 12, 3) := by decide +kernel
theorem dX5_makeJoin_115 : decode cX5_makeJoin 115 = .ok (.iconst 1, 1) := by decide +kernel
theorem dX5_makeJoin_116 : decode cX5_makeJoin 116 = .ok (.bipush 8, 2) := by decide +kernel
theorem dX5_makeJoin_118 : decode cX5_makeJoin 118 = .ok (.iload_n 3, 1) := by decide +kernel
theorem dX5_makeJoin_119 : decode cX5_makeJoin 119 = .ok (.iadd, 1) := by decide +kernel
theorem dX5_makeJoin_120 : decode cX5_makeJoin 120 = .ok (.iconst 0, 1) := by decide +kernel
theorem dX5_makeJoin_121 : decode cX5_makeJoin 121 = .ok (.invokevirtual 124, 3) := by decide +kernel
theorem dX5_makeJoin_124 : decode cX5_makeJoin 124 = .ok (.aload_n 0, 1) := by decide +kernel
theorem dX5_makeJoin_125 : decode cX5_makeJoin 125 = .ok (.getfield 12, 3) := by decide +kernel
theorem dX5_makeJoin_128 : decode cX5_makeJoin 128 = .ok (.bipush 26, 2) := by decide +kernel
theorem dX5_makeJoin_130 : decode cX5_makeJoin 130 = .ok (.iconst 0, 1) := by decide +kernel
theorem dX5_makeJoin_131 : decode cX5_makeJoin 131 = .ok (.iconst 0, 1) := by decide +kernel
theorem dX5_makeJoin_132 : decode cX5_makeJoin 132 = .ok (.invokevirtual 124, 3) := by decide +kernel
theorem dX5_makeJoin_135 : decode cX5_makeJoin 135 = .ok (.iinc 3 1, 3) := by decide +kernel
theorem dX5_makeJoin_138 : decode cX5_makeJoin 138 = .ok (.iinc 6 1, 3) := by decide +kernel
theorem dX5_makeJoin_141 : decode cX5_makeJoin 141 = .ok (.goto (-84), 3) := by decide +kernel
theorem dX5_makeJoin_144 : decode cX5_makeJoin 144 = .ok (.iload 5, 2) := by decide +kernel
theorem dX5_makeJoin_146 : decode cX5_makeJoin 146 = .ok (.ifCond .le 16, 3) := by decide +kernel
theorem dX5_makeJoin_149 : decode cX5_makeJoin 149 = .ok (.aload_n 0, 1) := by decide +kernel
theorem dX5_makeJoin_150 : decode cX5_makeJoin 150 = .ok (.getfield 12, 3) := by decide +kernel
theorem dX5_makeJoin_153 : decode cX5_makeJoin 153 = .ok (.bipush 25, 2) := by decide +kernel
theorem dX5_makeJoin_155 : decode cX5_makeJoin 155 = .ok (.iload 4, 2) := by decide +kernel
theorem dX5_makeJoin_157 : decode cX5_makeJoin 157 = .ok (.iload 5, 2) := by decide +kernel
theorem dX5_makeJoin_159 : decode cX5_makeJoin 159 = .ok (.invokevirtual 124, 3) := by decide +kernel
theorem dX5_makeJoin_162 : decode cX5_makeJoin 162 = .ok (.return_, 1) := by decide +kernel
theorem dX5_makeMethod_0 : decode cX5_makeMethod 0 = .ok (.aload_n 0, 1) := by decide +kernel
theorem dX5_makeMethod_1 : decode cX5_makeMethod 1 = .ok (.iload_n 1, 1) := by decide +kernel
theorem dX5_makeMethod_2 : decode cX5_makeMethod 2 = .ok (.invokevirtual 148, 3) := by decide +kernel
theorem dX5_makeMethod_5 : decode cX5_makeMethod 5 = .ok (.istore_n 2, 1) := by decide +kernel
theorem dX5_makeMethod_6 : decode cX5_makeMethod 6 = .ok (.aload_n 0, 1) := by decide +kernel
theorem dX5_makeMethod_7 : decode cX5_makeMethod 7 = .ok (.getfield 18, 3) := by decide +kernel
theorem dX5_makeMethod_10 : decode cX5_makeMethod 10 = .ok (.iload_n 2, 1) := by decide +kernel
theorem dX5_makeMethod_11 : decode cX5_makeMethod 11 = .ok (.aload_n 0, 1) := by decide +kernel
theorem dX5_makeMethod_12 : decode cX5_makeMethod 12 = .ok (.getfield 12, 3) := by decide +kernel
theorem dX5_makeMethod_15 : decode cX5_makeMethod 15 = .ok (.invokevirtual 80, 3) := by decide +kernel
theorem dX5_makeMethod_18 : decode cX5_makeMethod 18 = .ok (.iastore, 1) := by decide +kernel
theorem dX5_makeMethod_19 : decode cX5_makeMethod 19 = .ok (.aload_n 0, 1) := by decide +kernel
theorem dX5_makeMethod_20 : decode cX5_makeMethod 20 = .ok (.getfield 25, 3) := by decide +kernel
theorem dX5_makeMethod_23 : decode cX5_makeMethod 23 = .ok (.iload_n 1, 1) := by decide +kernel
theorem dX5_makeMethod_24 : decode cX5_makeMethod 24 = .ok (.iaload, 1) := by decide +kernel
theorem dX5_makeMethod_25 : decode cX5_makeMethod 25 = .ok (.istore_n 3, 1) := by decide +kernel
theorem dX5_makeMethod_26 : decode cX5_makeMethod 26 = .ok (.iconst 0, 1) := by decide +kernel
theorem dX5_makeMethod_27 : decode cX5_makeMethod 27 = .ok (.istore 4, 2) := by decide +kernel
theorem dX5_makeMethod_29 : decode cX5_makeMethod 29 = .ok (.iload 4, 2) := by decide +kernel
theorem dX5_makeMethod_31 : decode cX5_makeMethod 31 = .ok (.iload_n 3, 1) := by decide +kernel
theorem dX5_makeMethod_32 : decode cX5_makeMethod 32 = .ok (.if_icmp .ge 21, 3) := by decide +kernel
theorem dX5_makeMethod_35 : decode cX5_makeMethod 35 = .ok (.aload_n 0, 1) := by decide +kernel
theorem dX5_makeMethod_36 : decode cX5_makeMethod 36 = .ok (.getfield 12, 3) := by decide +kernel
theorem dX5_makeMethod_39 : decode cX5_makeMethod 39 = .ok (.bipush 23, 2) := by decide +kernel
theorem dX5_makeMethod_41 : decode cX5_makeMethod 41 = .ok (.iload 4, 2) := by decide +kernel
theorem dX5_makeMethod_43 : decode cX5_makeMethod 43 = .ok (.iconst 0, 1) := by decide +kernel
theorem dX5_makeMethod_44 : decode cX5_makeMethod 44 = .ok (.invokevirtual 124, 3) := by decide +kernel
theorem dX5_makeMethod_47 : decode cX5_makeMethod 47 = .ok (.iinc 4 1, 3) := by decide +kernel
theorem dX5_makeMethod_50 : decode cX5_makeMethod 50 = .ok (.goto (-21), 3) := by decide +kernel
theorem dX5_makeMethod_53 : decode cX5_makeMethod 53 = .ok (.aload_n 0, 1) := by decide +kernel
theorem dX5_makeMethod_54 : decode cX5_makeMethod 54 = .ok (.getfield 37, 3) := by decide +kernel
theorem dX5_makeMethod_57 : decode cX5_makeMethod 57 = .ok (.aload_n 0, 1) := by decide +kernel
theorem dX5_makeMethod_58 : decode cX5_makeMethod 58 = .ok (.getfield 22, 3) := by decide +kernel
theorem dX5_makeMethod_61 : decode cX5_makeMethod 61 = .ok (.iload_n 1, 1) := by decide +kernel
theorem dX5_makeMethod_62 : decode cX5_makeMethod 62 = .ok (.iaload, 1) := by decide +kernel
theorem dX5_makeMethod_63 : decode cX5_makeMethod 63 = .ok (.invokevirtual 151, 3) := by decide +kernel
theorem dX5_makeMethod_66 : decode cX5_makeMethod 66 = .ok (.iload_n 3, 1) := by decide +kernel
theorem dX5_makeMethod_67 : decode cX5_makeMethod 67 = .ok (.isub, 1) := by decide +kernel
theorem dX5_makeMethod_68 : decode cX5_makeMethod 68 = .ok (.istore 4, 2) := by decide +kernel
theorem dX5_makeMethod_70 : decode cX5_makeMethod 70 = .ok (.iconst 1, 1) := by decide +kernel
theorem dX5_makeMethod_71 : decode cX5_makeMethod 71 = .ok (.istore 5, 2) := by decide +kernel
theorem dX5_makeMethod_73 : decode cX5_makeMethod 73 = .ok (.iload 5, 2) := by decide +kernel
theorem dX5_makeMethod_75 : decode cX5_makeMethod 75 = .ok (.iload 4, 2) := by decide +kernel
theorem dX5_makeMethod_77 : decode cX5_makeMethod 77 = .ok (.if_icmp .gt 20, 3) := by decide +kernel
theorem dX5_makeMethod_80 : decode cX5_makeMethod 80 = .ok (.aload_n 0, 1) := by decide +kernel
theorem dX5_makeMethod_81 : decode cX5_makeMethod 81 = .ok (.getfield 12, 3) := by decide +kernel
theorem dX5_makeMethod_84 : decode cX5_makeMethod 84 = .ok (.iconst 1, 1) := by decide +kernel
theorem dX5_makeMethod_85 : decode cX5_makeMethod 85 = .ok (.iload 5, 2) := by decide +kernel
theorem dX5_makeMethod_87 : decode cX5_makeMethod 87 = .ok (.iconst 0, 1) := by decide +kernel
theorem dX5_makeMethod_88 : decode cX5_makeMethod 88 = .ok (.invokevirtual 124, 3) := by decide +kernel
theorem dX5_makeMethod_91 : decode cX5_makeMethod 91 = .ok (.iinc 5 1, 3) := by decide +kernel
theorem dX5_makeMethod_94 : decode cX5_makeMethod 94 = .ok (.goto (-21), 3) := by decide +kernel
theorem dX5_makeMethod_97 : decode cX5_makeMethod 97 = .ok (.aload_n 0, 1) := by decide +kernel
theorem dX5_makeMethod_98 : decode cX5_makeMethod 98 = .ok (.getfield 12, 3) := by decide +kernel
theorem dX5_makeMethod_101 : decode cX5_makeMethod 101 = .ok (.bipush 10, 2) := by decide +kernel
theorem dX5_makeMethod_103 : decode cX5_makeMethod 103 = .ok (.aload_n 0, 1) := by decide +kernel
theorem dX5_makeMethod_104 : decode cX5_makeMethod 104 = .ok (.getfield 22, 3) := by decide +kernel
theorem dX5_makeMethod_107 : decode cX5_makeMethod 107 = .ok (.iload_n 1, 1) := by decide +kernel
theorem dX5_makeMethod_108 : decode cX5_makeMethod 108 = .ok (.iaload, 1) := by decide +kernel
theorem dX5_makeMethod_109 : decode cX5_makeMethod 109 = .ok (.iconst 0, 1) := by decide +kernel
theorem dX5_makeMethod_110 : decode cX5_makeMethod 110 = .ok (.invokevirtual 124, 3) := by decide +kernel
theorem dX5_makeMethod_113 : decode cX5_makeMethod 113 = .ok (.aload_n 0, 1) := by decide +kernel
theorem dX5_makeMethod_114 : decode cX5_makeMethod 114 = .ok (.getfield 12, 3) := by decide +kernel
theorem dX5_makeMethod_117 : decode cX5_makeMethod 117 = .ok (.bipush 11, 2) := by decide +kernel
theorem dX5_makeMethod_119 : decode cX5_makeMethod 119 = .ok (.iconst 0, 1) := by decide +kernel
theorem dX5_makeMethod_120 : decode cX5_makeMethod 120 = .ok (.iconst 0, 1) := by decide +kernel
theorem dX5_makeMethod_121 : decode cX5_makeMethod 121 = .ok (.invokevirtual 124, 3) := by decide +kernel
theorem dX5_makeMethod_124 : decode cX5_makeMethod 124 = .ok (.aload_n 0, 1) := by decide +kernel
theorem dX5_makeMethod_125 : decode cX5_makeMethod 125 = .ok (.getfield 18, 3) := by decide +kernel
theorem dX5_makeMethod_128 : decode cX5_makeMethod 128 = .ok (.iload_n 2, 1) := by decide +kernel
theorem dX5_makeMethod_129 : decode cX5_makeMethod 129 = .ok (.iconst 1, 1) := by decide +kernel
theorem dX5_makeMethod_130 : decode cX5_makeMethod 130 = .ok (.iadd, 1) := by decide +kernel
theorem dX5_makeMethod_131 : decode cX5_makeMethod 131 = .ok (.aload_n 0, 1) := by decide +kernel
theorem dX5_makeMethod_132 : decode cX5_makeMethod 132 = .ok (.getfield 12, 3) := by decide +kernel
theorem dX5_makeMethod_135 : decode cX5_makeMethod 135 = .ok (.invokevirtual 80, 3) := by decide +kernel
theorem dX5_makeMethod_138 : decode cX5_makeMethod 138 = .ok (.iastore, 1) := by decide +kernel
theorem dX5_makeMethod_139 : decode cX5_makeMethod 139 = .ok (.return_, 1) := by decide +kernel
theorem dX5_measure_0 : decode cX5_measure 0 = .ok (.aload_n 0, 1) := by decide +kernel
theorem dX5_measure_1 : decode cX5_measure 1 = .ok (.getfield 41, 3) := by decide +kernel
theorem dX5_measure_4 : decode cX5_measure 4 = .ok (.iload_n 2, 1) := by decide +kernel
theorem dX5_measure_5 : decode cX5_measure 5 = .ok (.invokevirtual 154, 3) := by decide +kernel
theorem dX5_measure_8 : decode cX5_measure 8 = .ok (.istore 4, 2) := by decide +kernel
theorem dX5_measure_10 : decode cX5_measure 10 = .ok (.aload_n 0, 1) := by decide +kernel
theorem dX5_measure_11 : decode cX5_measure 11 = .ok (.getfield 37, 3) := by decide +kernel
theorem dX5_measure_14 : decode cX5_measure 14 = .ok (.iload_n 1, 1) := by decide +kernel
theorem dX5_measure_15 : decode cX5_measure 15 = .ok (.iload_n 2, 1) := by decide +kernel
theorem dX5_measure_16 : decode cX5_measure 16 = .ok (.invokevirtual 115, 3) := by decide +kernel
theorem dX5_measure_19 : decode cX5_measure 19 = .ok (.istore 5, 2) := by decide +kernel
theorem dX5_measure_21 : decode cX5_measure 21 = .ok (.aload_n 0, 1) := by decide +kernel
theorem dX5_measure_22 : decode cX5_measure 22 = .ok (.getfield 37, 3) := by decide +kernel
theorem dX5_measure_25 : decode cX5_measure 25 = .ok (.iload_n 1, 1) := by decide +kernel
theorem dX5_measure_26 : decode cX5_measure 26 = .ok (.iload_n 2, 1) := by decide +kernel
theorem dX5_measure_27 : decode cX5_measure 27 = .ok (.invokevirtual 118, 3) := by decide +kernel
theorem dX5_measure_30 : decode cX5_measure 30 = .ok (.istore 6, 2) := by decide +kernel
theorem dX5_measure_32 : decode cX5_measure 32 = .ok (.iload 4, 2) := by decide +kernel
theorem dX5_measure_34 : decode cX5_measure 34 = .ok (.aload_n 0, 1) := by decide +kernel
theorem dX5_measure_35 : decode cX5_measure 35 = .ok (.aload_n 0, 1) := by decide +kernel
theorem dX5_measure_36 : decode cX5_measure 36 = .ok (.getfield 37, 3) := by decide +kernel
theorem dX5_measure_39 : decode cX5_measure 39 = .ok (.iload_n 1, 1) := by decide +kernel
theorem dX5_measure_40 : decode cX5_measure 40 = .ok (.iload_n 2, 1) := by decide +kernel
theorem dX5_measure_41 : decode cX5_measure 41 = .ok (.invokevirtual 111, 3) := by decide +kernel
theorem dX5_measure_44 : decode cX5_measure 44 = .ok (.iload 5, 2) := by decide +kernel
theorem dX5_measure_46 : decode cX5_measure 46 = .ok (.iload 6, 2) := by decide +kernel
theorem dX5_measure_48 : decode cX5_measure 48 = .ok (.invokevirtual 157, 3) := by decide +kernel
theorem dX5_measure_51 : decode cX5_measure 51 = .ok (.iadd, 1) := by decide +kernel
theorem dX5_measure_52 : decode cX5_measure 52 = .ok (.istore 7, 2) := by decide +kernel
theorem dX5_measure_54 : decode cX5_measure 54 = .ok (.aload_n 0, 1) := by decide +kernel
theorem dX5_measure_55 : decode cX5_measure 55 = .ok (.getfield 28, 3) := by decide +kernel
theorem dX5_measure_58 : decode cX5_measure 58 = .ok (.iload_n 1, 1) := by decide +kernel
theorem dX5_measure_59 : decode cX5_measure 59 = .ok (.aload_n 0, 1) := by decide +kernel
theorem dX5_measure_60 : decode cX5_measure 60 = .ok (.getfield 28, 3) := by decide +kernel
theorem dX5_measure_63 : decode cX5_measure 63 = .ok (.iload_n 1, 1) := by decide +kernel
theorem dX5_measure_64 : decode cX5_measure 64 = .ok (.iaload, 1) := by decide +kernel
theorem dX5_measure_65 : decode cX5_measure 65 = .ok (.iload 7, 2) := by decide +kernel
theorem dX5_measure_67 : decode cX5_measure 67 = .ok (.invokestatic 161, 3) := by decide +kernel
theorem dX5_measure_70 : decode cX5_measure 70 = .ok (.iastore, 1) := by decide +kernel
theorem dX5_measure_71 : decode cX5_measure 71 = .ok (.iload 4, 2) := by decide +kernel
theorem dX5_measure_73 : decode cX5_measure 73 = .ok (.istore 8, 2) := by decide +kernel
theorem dX5_measure_75 : decode cX5_measure 75 = .ok (.iload_n 3, 1) := by decide +kernel
theorem dX5_measure_76 : decode cX5_measure 76 = .ok (.istore 9, 2) := by decide +kernel
theorem dX5_measure_78 : decode cX5_measure 78 = .ok (.iload 9, 2) := by decide +kernel
theorem dX5_measure_80 : decode cX5_measure 80 = .ok (.aload_n 0, 1) := by decide +kernel
theorem dX5_measure_81 : decode cX5_measure 81 = .ok (.getfield 12, 3) := by decide +kernel
theorem dX5_measure_84 : decode cX5_measure 84 = .ok (.invokevirtual 80, 3) := by decide +kernel
theorem dX5_measure_87 : decode cX5_measure 87 = .ok (.if_icmp .ge 62, 3) := by decide +kernel
theorem dX5_measure_90 : decode cX5_measure 90 = .ok (.iload 8, 2) := by decide +kernel
theorem dX5_measure_92 : decode cX5_measure 92 = .ok (.aload_n 0, 1) := by decide +kernel
theorem dX5_measure_93 : decode cX5_measure 93 = .ok (.aload_n 0, 1) := by decide +kernel
theorem dX5_measure_94 : decode cX5_measure 94 = .ok (.getfield 12, 3) := by decide +kernel
theorem dX5_measure_97 : decode cX5_measure 97 = .ok (.iload 9, 2) := by decide +kernel
theorem dX5_measure_99 : decode cX5_measure 99 = .ok (.invokevirtual 59, 3) := by decide +kernel
theorem dX5_measure_102 : decode cX5_measure 102 = .ok (.aload_n 0, 1) := by decide +kernel
theorem dX5_measure_103 : decode cX5_measure 103 = .ok (.getfield 12, 3) := by decide +kernel
theorem dX5_measure_106 : decode cX5_measure 106 = .ok (.iload 9, 2) := by decide +kernel
theorem dX5_measure_108 : decode cX5_measure 108 = .ok (.invokevirtual 63, 3) := by decide +kernel
theorem dX5_measure_111 : decode cX5_measure 111 = .ok (.aload_n 0, 1) := by decide +kernel
theorem dX5_measure_112 : decode cX5_measure 112 = .ok (.getfield 12, 3) := by decide +kernel
theorem dX5_measure_115 : decode cX5_measure 115 = .ok (.iload 9, 2) := by decide +kernel
theorem dX5_measure_117 : decode cX5_measure 117 = .ok (.invokevirtual 66, 3) := by decide +kernel
theorem dX5_measure_120 : decode cX5_measure 120 = .ok (.invokevirtual 157, 3) := by decide +kernel
theorem dX5_measure_123 : decode cX5_measure 123 = .ok (.iadd, 1) := by decide +kernel
theorem dX5_measure_124 : decode cX5_measure 124 = .ok (.istore 8, 2) := by decide +kernel
theorem dX5_measure_126 : decode cX5_measure 126 = .ok (.aload_n 0, 1) := by decide +kernel
theorem dX5_measure_127 : decode cX5_measure 127 = .ok (.getfield 31, 3) := by decide +kernel
theorem dX5_measure_130 : decode cX5_measure 130 = .ok (.iload_n 1, 1) := by decide +kernel
theorem dX5_measure_131 : decode cX5_measure 131 = .ok (.aload_n 0, 1) := by decide +kernel
theorem dX5_measure_132 : decode cX5_measure 132 = .ok (.getfield 31, 3) := by decide +kernel
theorem dX5_measure_135 : decode cX5_measure 135 = .ok (.iload_n 1, 1) := by decide +kernel
theorem dX5_measure_136 : decode cX5_measure 136 = .ok (.iaload, 1) := by decide +kernel
theorem dX5_measure_137 : decode cX5_measure 137 = .ok (.iload 8, 2) := by decide +kernel
theorem dX5_measure_139 : decode cX5_measure 139 = .ok (.invokestatic 161, 3) := by decide +kernel
theorem dX5_measure_142 : decode cX5_measure 142 = .ok (.iastore, 1) := by decide +kernel
theorem dX5_measure_143 : decode cX5_measure 143 = .ok (.iinc 9 1, 3) := by decide +kernel
theorem dX5_measure_146 : decode cX5_measure 146 = .ok (.goto (-68), 3) := by decide +kernel
theorem dX5_measure_149 : decode cX5_measure 149 = .ok (.return_, 1) := by decide +kernel
theorem dX5_risesBy_0 : decode cX5_risesBy 0 = .ok (.aload_n 0, 1) := by decide +kernel
theorem dX5_risesBy_1 : decode cX5_risesBy 1 = .ok (.getfield 37, 3) := by decide +kernel
theorem dX5_risesBy_4 : decode cX5_risesBy 4 = .ok (.iload_n 1, 1) := by decide +kernel
theorem dX5_risesBy_5 : decode cX5_risesBy 5 = .ok (.invokevirtual 166, 3) := by decide +kernel
theorem dX5_risesBy_8 : decode cX5_risesBy 8 = .ok (.aload_n 0, 1) := by decide +kernel
theorem dX5_risesBy_9 : decode cX5_risesBy 9 = .ok (.getfield 37, 3) := by decide +kernel
theorem dX5_risesBy_12 : decode cX5_risesBy 12 = .ok (.iload_n 1, 1) := by decide +kernel
theorem dX5_risesBy_13 : decode cX5_risesBy 13 = .ok (.iload_n 2, 1) := by decide +kernel
theorem dX5_risesBy_14 : decode cX5_risesBy 14 = .ok (.iload_n 3, 1) := by decide +kernel
theorem dX5_risesBy_15 : decode cX5_risesBy 15 = .ok (.invokevirtual 169, 3) := by decide +kernel
theorem dX5_risesBy_18 : decode cX5_risesBy 18 = .ok (.isub, 1) := by decide +kernel
theorem dX5_risesBy_19 : decode cX5_risesBy 19 = .ok (.ireturn, 1) := by decide +kernel
theorem dX5_movePlaces_0 : decode cX5_movePlaces 0 = .ok (.iload_n 1, 1) := by decide +kernel
theorem dX5_movePlaces_1 : decode cX5_movePlaces 1 = .ok (.istore_n 2, 1) := by decide +kernel
theorem dX5_movePlaces_2 : decode cX5_movePlaces 2 = .ok (.iload_n 2, 1) := by decide +kernel
theorem dX5_movePlaces_3 : decode cX5_movePlaces 3 = .ok (.aload_n 0, 1) := by decide +kernel
theorem dX5_movePlaces_4 : decode cX5_movePlaces 4 = .ok (.getfield 12, 3) := by decide +kernel
theorem dX5_movePlaces_7 : decode cX5_movePlaces 7 = .ok (.invokevirtual 80, 3) := by decide +kernel
theorem dX5_movePlaces_10 : decode cX5_movePlaces 10 = .ok (.if_icmp .ge 51, 3) := by decide +kernel
theorem dX5_movePlaces_13 : decode cX5_movePlaces 13 = .ok (.aload_n 0, 1) := by decide +kernel
theorem dX5_movePlaces_14 : decode cX5_movePlaces 14 = .ok (.getfield 12, 3) := by decide +kernel
theorem dX5_movePlaces_17 : decode cX5_movePlaces 17 = .ok (.iload_n 2, 1) := by decide +kernel
theorem dX5_movePlaces_18 : decode cX5_movePlaces 18 = .ok (.invokevirtual 59, 3) := by decide +kernel
theorem dX5_movePlaces_21 : decode cX5_movePlaces 21 = .ok (.istore_n 3, 1) := by decide +kernel
theorem dX5_movePlaces_22 : decode cX5_movePlaces 22 = .ok (.iload_n 3, 1) := by decide +kernel
theorem dX5_movePlaces_23 : decode cX5_movePlaces 23 = .ok (.bipush 8, 2) := by decide +kernel
theorem dX5_movePlaces_25 : decode cX5_movePlaces 25 = .ok (.if_icmp .eq 9, 3) := by decide +kernel
theorem dX5_movePlaces_28 : decode cX5_movePlaces 28 = .ok (.iload_n 3, 1) := by decide +kernel
theorem dX5_movePlaces_29 : decode cX5_movePlaces 29 = .ok (.bipush 9, 2) := by decide +kernel
theorem dX5_movePlaces_31 : decode cX5_movePlaces 31 = .ok (.if_icmp .ne 24, 3) := by decide +kernel
theorem dX5_movePlaces_34 : decode cX5_movePlaces 34 = .ok (.aload_n 0, 1) := by decide +kernel
theorem dX5_movePlaces_35 : decode cX5_movePlaces 35 = .ok (.getfield 12, 3) := by decide +kernel
theorem dX5_movePlaces_38 : decode cX5_movePlaces 38 = .ok (.iload_n 2, 1) := by decide +kernel
theorem dX5_movePlaces_39 : decode cX5_movePlaces 39 = .ok (.aload_n 0, 1) := by decide +kernel
theorem dX5_movePlaces_40 : decode cX5_movePlaces 40 = .ok (.getfield 34, 3) := by decide +kernel
theorem dX5_movePlaces_43 : decode cX5_movePlaces 43 = .ok (.aload_n 0, 1) := by decide +kernel
theorem dX5_movePlaces_44 : decode cX5_movePlaces 44 = .ok (.getfield 12, 3) := by decide +kernel
theorem dX5_movePlaces_47 : decode cX5_movePlaces 47 = .ok (.iload_n 2, 1) := by decide +kernel
theorem dX5_movePlaces_48 : decode cX5_movePlaces 48 = .ok (.invokevirtual 63, 3) := by decide +kernel
theorem dX5_movePlaces_51 : decode cX5_movePlaces 51 = .ok (.iaload, 1) := by decide +kernel
theorem dX5_movePlaces_52 : decode cX5_movePlaces 52 = .ok (.invokevirtual 172, 3) := by decide +kernel
theorem dX5_movePlaces_55 : decode cX5_movePlaces 55 = .ok (.iinc 2 1, 3) := by decide +kernel
theorem dX5_movePlaces_58 : decode cX5_movePlaces 58 = .ok (.goto (-56), 3) := by decide +kernel
theorem dX5_movePlaces_61 : decode cX5_movePlaces 61 = .ok (.return_, 1) := by decide +kernel
