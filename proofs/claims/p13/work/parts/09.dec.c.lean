theorem dX10_init_0 : decode cX10_init 0 = .ok (.aload_n 0, 1) := by decide +kernel
theorem dX10_init_1 : decode cX10_init 1 = .ok (.invokespecial 3, 3) := by decide +kernel
theorem dX10_init_4 : decode cX10_init 4 = .ok (.aload_n 0, 1) := by decide +kernel
theorem dX10_init_5 : decode cX10_init 5 = .ok (.new 9, 3) := by decide +kernel
theorem dX10_init_8 : decode cX10_init 8 = .ok (.dup, 1) := by decide +kernel
theorem dX10_init_9 : decode cX10_init 9 = .ok (.invokespecial 11, 3) := by decide +kernel
theorem dX10_init_12 : decode cX10_init 12 = .ok (.putfield 12, 3) := by decide +kernel
theorem dX10_init_15 : decode cX10_init 15 = .ok (.aload_n 0, 1) := by decide +kernel
theorem dX10_init_16 : decode cX10_init 16 = .ok (.new 16, 3) := by decide +kernel
theorem dX10_init_19 : decode cX10_init 19 = .ok (.dup, 1) := by decide +kernel
theorem dX10_init_20 : decode cX10_init 20 = .ok (.aload_n 0, 1) := by decide +kernel
theorem dX10_init_21 : decode cX10_init 21 = .ok (.getfield 12, 3) := by decide +kernel
theorem dX10_init_24 : decode cX10_init 24 = .ok (.invokespecial 18, 3) := by decide +kernel
theorem dX10_init_27 : decode cX10_init 27 = .ok (.putfield 21, 3) := by decide +kernel
theorem dX10_init_30 : decode cX10_init 30 = .ok (.aload_n 0, 1) := by decide +kernel
theorem dX10_init_31 : decode cX10_init 31 = .ok (.new 25, 3) := by decide +kernel
theorem dX10_init_34 : decode cX10_init 34 = .ok (.dup, 1) := by decide +kernel
theorem dX10_init_35 : decode cX10_init 35 = .ok (.aload_n 0, 1) := by decide +kernel
theorem dX10_init_36 : decode cX10_init 36 = .ok (.getfield 12, 3) := by decide +kernel
theorem dX10_init_39 : decode cX10_init 39 = .ok (.aload_n 0, 1) := by decide +kernel
theorem dX10_init_40 : decode cX10_init 40 = .ok (.getfield 21, 3) := by decide +kernel
theorem dX10_init_43 : decode cX10_init 43 = .ok (.invokespecial 27, 3) := by decide +kernel
theorem dX10_init_46 : decode cX10_init 46 = .ok (.putfield 30, 3) := by decide +kernel
theorem dX10_init_49 : decode cX10_init 49 = .ok (.aload_n 0, 1) := by decide +kernel
theorem dX10_init_50 : decode cX10_init 50 = .ok (.new 34, 3) := by decide +kernel
theorem dX10_init_53 : decode cX10_init 53 = .ok (.dup, 1) := by decide +kernel
theorem dX10_init_54 : decode cX10_init 54 = .ok (.aload_n 0, 1) := by decide +kernel
theorem dX10_init_55 : decode cX10_init 55 = .ok (.getfield 12, 3) := by decide +kernel
theorem dX10_init_58 : decode cX10_init 58 = .ok (.aload_n 0, 1) := by decide +kernel
theorem dX10_init_59 : decode cX10_init 59 = .ok (.getfield 30, 3) := by decide +kernel
theorem dX10_init_62 : decode cX10_init 62 = .ok (.invokespecial 36, 3) := by decide +kernel
theorem dX10_init_65 : decode cX10_init 65 = .ok (.putfield 39, 3) := by decide +kernel
theorem dX10_init_68 : decode cX10_init 68 = .ok (.return_, 1) := by decide +kernel
theorem dX10_function_0 : decode cX10_function 0 = .ok (.iload_n 1, 1) := by decide +kernel
theorem dX10_function_1 : decode cX10_function 1 = .ok (.ifCond .lt 8, 3) := by decide +kernel
theorem dX10_function_4 : decode cX10_function 4 = .ok (.iload_n 1, 1) := by decide +kernel
theorem dX10_function_5 : decode cX10_function 5 = .ok (.iconst 3, 1) := by decide +kernel
theorem dX10_function_6 : decode cX10_function 6 = .ok (.if_icmp .le 11, 3) := by decide +kernel
theorem dX10_function_9 : decode cX10_function 9 = .ok (.new 43, 3) := by decide +kernel
theorem dX10_function_12 : decode cX10_function 12 = .ok (.dup, 1) := by decide +kernel
theorem dX10_function_13 : decode cX10_function 13 = .ok (.invokespecial 45, 3) := by decide +kernel
theorem dX10_function_16 : decode cX10_function 16 = .ok (.athrow, 1) := by decide +kernel
theorem dX10_function_17 : decode cX10_function 17 = .ok (.aload_n 0, 1) := by decide +kernel
theorem dX10_function_18 : decode cX10_function 18 = .ok (.getfield 12, 3) := by decide +kernel
theorem dX10_function_21 : decode cX10_function 21 = .ok (.invokevirtual 46, 3) := by decide +kernel
theorem dX10_function_24 : decode cX10_function 24 = .ok (.bipush 12, 2) := by decide +kernel
theorem dX10_function_26 : decode cX10_function 26 = .ok (.if_icmp .ne 11, 3) := by decide +kernel
theorem dX10_function_29 : decode cX10_function 29 = .ok (.new 50, 3) := by decide +kernel
theorem dX10_function_32 : decode cX10_function 32 = .ok (.dup, 1) := by decide +kernel
theorem dX10_function_33 : decode cX10_function 33 = .ok (.invokespecial 52, 3) := by decide +kernel
theorem dX10_function_36 : decode cX10_function 36 = .ok (.athrow, 1) := by decide +kernel
theorem dX10_function_37 : decode cX10_function 37 = .ok (.aload_n 0, 1) := by decide +kernel
theorem dX10_function_38 : decode cX10_function 38 = .ok (.getfield 30, 3) := by decide +kernel
theorem dX10_function_41 : decode cX10_function 41 = .ok (.invokevirtual 53, 3) := by decide +kernel
theorem dX10_function_44 : decode cX10_function 44 = .ok (.aload_n 0, 1) := by decide +kernel
theorem dX10_function_45 : decode cX10_function 45 = .ok (.getfield 12, 3) := by decide +kernel
theorem dX10_function_48 : decode cX10_function 48 = .ok (.iload_n 1, 1) := by decide +kernel
theorem dX10_function_49 : decode cX10_function 49 = .ok (.invokevirtual 56, 3) := by decide +kernel
theorem dX10_function_52 : decode cX10_function 52 = .ok (.ireturn, 1) := by decide +kernel
theorem dX10_code_0 : decode cX10_code 0 = .ok (.aload_n 0, 1) := by decide +kernel
theorem dX10_code_1 : decode cX10_code 1 = .ok (.getfield 12, 3) := by decide +kernel
theorem dX10_code_4 : decode cX10_code 4 = .ok (.iload_n 1, 1) := by decide +kernel
theorem dX10_code_5 : decode cX10_code 5 = .ok (.invokevirtual 60, 3) := by decide +kernel
theorem dX10_code_8 : decode cX10_code 8 = .ok (.ifCond .eq 13, 3) := by decide +kernel
theorem dX10_code_11 : decode cX10_code 11 = .ok (.iload_n 2, 1) := by decide +kernel
theorem dX10_code_12 : decode cX10_code 12 = .ok (.ifCond .lt 9, 3) := by decide +kernel
theorem dX10_code_15 : decode cX10_code 15 = .ok (.iload_n 2, 1) := by decide +kernel
theorem dX10_code_16 : decode cX10_code 16 = .ok (.bipush 15, 2) := by decide +kernel
theorem dX10_code_18 : decode cX10_code 18 = .ok (.if_icmp .le 11, 3) := by decide +kernel
theorem dX10_code_21 : decode cX10_code 21 = .ok (.new 43, 3) := by decide +kernel
theorem dX10_code_24 : decode cX10_code 24 = .ok (.dup, 1) := by decide +kernel
theorem dX10_code_25 : decode cX10_code 25 = .ok (.invokespecial 45, 3) := by decide +kernel
theorem dX10_code_28 : decode cX10_code 28 = .ok (.athrow, 1) := by decide +kernel
theorem dX10_code_29 : decode cX10_code 29 = .ok (.aload_n 0, 1) := by decide +kernel
theorem dX10_code_30 : decode cX10_code 30 = .ok (.getfield 12, 3) := by decide +kernel
theorem dX10_code_33 : decode cX10_code 33 = .ok (.iload_n 1, 1) := by decide +kernel
theorem dX10_code_34 : decode cX10_code 34 = .ok (.invokevirtual 64, 3) := by decide +kernel
theorem dX10_code_37 : decode cX10_code 37 = .ok (.bipush 40, 2) := by decide +kernel
theorem dX10_code_39 : decode cX10_code 39 = .ok (.if_icmp .ne 11, 3) := by decide +kernel
theorem dX10_code_42 : decode cX10_code 42 = .ok (.new 50, 3) := by decide +kernel
theorem dX10_code_45 : decode cX10_code 45 = .ok (.dup, 1) := by decide +kernel
theorem dX10_code_46 : decode cX10_code 46 = .ok (.invokespecial 52, 3) := by decide +kernel
theorem dX10_code_49 : decode cX10_code 49 = .ok (.athrow, 1) := by decide +kernel
theorem dX10_code_50 : decode cX10_code 50 = .ok (.aload_n 0, 1) := by decide +kernel
theorem dX10_code_51 : decode cX10_code 51 = .ok (.getfield 30, 3) := by decide +kernel
theorem dX10_code_54 : decode cX10_code 54 = .ok (.invokevirtual 53, 3) := by decide +kernel
theorem dX10_code_57 : decode cX10_code 57 = .ok (.aload_n 0, 1) := by decide +kernel
theorem dX10_code_58 : decode cX10_code 58 = .ok (.getfield 12, 3) := by decide +kernel
theorem dX10_code_61 : decode cX10_code 61 = .ok (.iload_n 1, 1) := by decide +kernel
theorem dX10_code_62 : decode cX10_code 62 = .ok (.iload_n 2, 1) := by decide +kernel
theorem dX10_code_63 : decode cX10_code 63 = .ok (.iload_n 3, 1) := by decide +kernel
theorem dX10_code_64 : decode cX10_code 64 = .ok (.iload 4, 2) := by decide +kernel
theorem dX10_code_66 : decode cX10_code 66 = .ok (.invokevirtual 67, 3) := by decide +kernel
theorem dX10_code_69 : decode cX10_code 69 = .ok (.ireturn, 1) := by decide +kernel
theorem dX10_recipe_0 : decode cX10_recipe 0 = .ok (.lload_n 1, 1) := by decide +kernel
theorem dX10_recipe_1 : decode cX10_recipe 1 = .ok (.invokestatic 71, 3) := by decide +kernel
theorem dX10_recipe_4 : decode cX10_recipe 4 = .ok (.ifCond .ne 11, 3) := by decide +kernel
theorem dX10_recipe_7 : decode cX10_recipe 7 = .ok (.new 43, 3) := by decide +kernel
theorem dX10_recipe_10 : decode cX10_recipe 10 = .ok (.dup, 1) := by decide +kernel
theorem dX10_recipe_11 : decode cX10_recipe 11 = .ok (.invokespecial 45, 3) := by decide +kernel
theorem dX10_recipe_14 : decode cX10_recipe 14 = .ok (.athrow, 1) := by decide +kernel
theorem dX10_recipe_15 : decode cX10_recipe 15 = .ok (.aload_n 0, 1) := by decide +kernel
theorem dX10_recipe_16 : decode cX10_recipe 16 = .ok (.getfield 12, 3) := by decide +kernel
theorem dX10_recipe_19 : decode cX10_recipe 19 = .ok (.invokevirtual 77, 3) := by decide +kernel
theorem dX10_recipe_22 : decode cX10_recipe 22 = .ok (.invokevirtual 81, 3) := by decide +kernel
theorem dX10_recipe_25 : decode cX10_recipe 25 = .ok (.bipush 8, 2) := by decide +kernel
theorem dX10_recipe_27 : decode cX10_recipe 27 = .ok (.if_icmp .ne 11, 3) := by decide +kernel
theorem dX10_recipe_30 : decode cX10_recipe 30 = .ok (.new 50, 3) := by decide +kernel
theorem dX10_recipe_33 : decode cX10_recipe 33 = .ok (.dup, 1) := by decide +kernel
theorem dX10_recipe_34 : decode cX10_recipe 34 = .ok (.invokespecial 52, 3) := by decide +kernel
theorem dX10_recipe_37 : decode cX10_recipe 37 = .ok (.athrow, 1) := by decide +kernel
theorem dX10_recipe_38 : decode cX10_recipe 38 = .ok (.aload_n 0, 1) := by decide +kernel
theorem dX10_recipe_39 : decode cX10_recipe 39 = .ok (.getfield 30, 3) := by decide +kernel
theorem dX10_recipe_42 : decode cX10_recipe 42 = .ok (.invokevirtual 53, 3) := by decide +kernel
theorem dX10_recipe_45 : decode cX10_recipe 45 = .ok (.aload_n 0, 1) := by decide +kernel
theorem dX10_recipe_46 : decode cX10_recipe 46 = .ok (.getfield 12, 3) := by decide +kernel
theorem dX10_recipe_49 : decode cX10_recipe 49 = .ok (.invokevirtual 77, 3) := by decide +kernel
theorem dX10_recipe_52 : decode cX10_recipe 52 = .ok (.lload_n 1, 1) := by decide +kernel
theorem dX10_recipe_53 : decode cX10_recipe 53 = .ok (.invokevirtual 84, 3) := by decide +kernel
theorem dX10_recipe_56 : decode cX10_recipe 56 = .ok (.ireturn, 1) := by decide +kernel
theorem dX10_check_0 : decode cX10_check 0 = .ok (.iconst 0, 1) := by decide +kernel
theorem dX10_check_1 : decode cX10_check 1 = .ok (.istore_n 1, 1) := by decide +kernel
theorem dX10_check_2 : decode cX10_check 2 = .ok (.iload_n 1, 1) := by decide +kernel
theorem dX10_check_3 : decode cX10_check 3 = .ok (.aload_n 0, 1) := by decide +kernel
theorem dX10_check_4 : decode cX10_check 4 = .ok (.getfield 12, 3) := by decide +kernel
theorem dX10_check_7 : decode cX10_check 7 = .ok (.invokevirtual 46, 3) := by decide +kernel
theorem dX10_check_10 : decode cX10_check 10 = .ok (.if_icmp .ge 30, 3) := by decide +kernel
theorem dX10_check_13 : decode cX10_check 13 = .ok (.aload_n 0, 1) := by decide +kernel
theorem dX10_check_14 : decode cX10_check 14 = .ok (.getfield 21, 3) := by decide +kernel
theorem dX10_check_17 : decode cX10_check 17 = .ok (.iload_n 1, 1) := by decide +kernel
theorem dX10_check_18 : decode cX10_check 18 = .ok (.invokevirtual 88, 3) := by decide +kernel
theorem dX10_check_21 : decode cX10_check 21 = .ok (.istore_n 2, 1) := by decide +kernel
theorem dX10_check_22 : decode cX10_check 22 = .ok (.iload_n 2, 1) := by decide +kernel
theorem dX10_check_23 : decode cX10_check 23 = .ok (.iconst (-1), 1) := by decide +kernel
theorem dX10_check_24 : decode cX10_check 24 = .ok (.if_icmp .eq 10, 3) := by decide +kernel
theorem dX10_check_27 : decode cX10_check 27 = .ok (.bipush 64, 2) := by decide +kernel
theorem dX10_check_29 : decode cX10_check 29 = .ok (.iload_n 1, 1) := by decide +kernel
theorem dX10_check_30 : decode cX10_check 30 = .ok (.imul, 1) := by decide +kernel
theorem dX10_check_31 : decode cX10_check 31 = .ok (.iload_n 2, 1) := by decide +kernel
theorem dX10_check_32 : decode cX10_check 32 = .ok (.iadd, 1) := by decide +kernel
theorem dX10_check_33 : decode cX10_check 33 = .ok (.ireturn, 1) := by decide +kernel
theorem dX10_check_34 : decode cX10_check 34 = .ok (.iinc 1 1, 3) := by decide +kernel
theorem dX10_check_37 : decode cX10_check 37 = .ok (.goto (-35), 3) := by decide +kernel
theorem dX10_check_40 : decode cX10_check 40 = .ok (.iconst (-1), 1) := by decide +kernel
theorem dX10_check_41 : decode cX10_check 41 = .ok (.ireturn, 1) := by decide +kernel
theorem dX10_lower_0 : decode cX10_lower 0 = .ok (.aload_n 0, 1) := by decide +kernel
theorem dX10_lower_1 : decode cX10_lower 1 = .ok (.invokevirtual 91, 3) := by decide +kernel
theorem dX10_lower_4 : decode cX10_lower 4 = .ok (.iconst (-1), 1) := by decide +kernel
theorem dX10_lower_5 : decode cX10_lower 5 = .ok (.if_icmp .ne 13, 3) := by decide +kernel
theorem dX10_lower_8 : decode cX10_lower 8 = .ok (.aload_n 0, 1) := by decide +kernel
theorem dX10_lower_9 : decode cX10_lower 9 = .ok (.getfield 30, 3) := by decide +kernel
theorem dX10_lower_12 : decode cX10_lower 12 = .ok (.invokevirtual 94, 3) := by decide +kernel
theorem dX10_lower_15 : decode cX10_lower 15 = .ok (.goto 4, 3) := by decide +kernel
theorem dX10_lower_18 : decode cX10_lower 18 = .ok (.iconst (-1), 1) := by decide +kernel
theorem dX10_lower_19 : decode cX10_lower 19 = .ok (.ireturn, 1) := by decide +kernel
theorem dX10_count_0 : decode cX10_count 0 = .ok (.iload_n 1, 1) := by decide +kernel
theorem dX10_count_1 : decode cX10_count 1 = .ok (.ifCond .lt 8, 3) := by decide +kernel
theorem dX10_count_4 : decode cX10_count 4 = .ok (.iload_n 1, 1) := by decide +kernel
theorem dX10_count_5 : decode cX10_count 5 = .ok (.iconst 3, 1) := by decide +kernel
theorem dX10_count_6 : decode cX10_count 6 = .ok (.if_icmp .le 11, 3) := by decide +kernel
theorem dX10_count_9 : decode cX10_count 9 = .ok (.new 43, 3) := by decide +kernel
theorem dX10_count_12 : decode cX10_count 12 = .ok (.dup, 1) := by decide +kernel
theorem dX10_count_13 : decode cX10_count 13 = .ok (.invokespecial 45, 3) := by decide +kernel
theorem dX10_count_16 : decode cX10_count 16 = .ok (.athrow, 1) := by decide +kernel
theorem dX10_count_17 : decode cX10_count 17 = .ok (.iload_n 1, 1) := by decide +kernel
theorem dX10_count_18 : decode cX10_count 18 = .ok (.ifCond .ne 11, 3) := by decide +kernel
theorem dX10_count_21 : decode cX10_count 21 = .ok (.aload_n 0, 1) := by decide +kernel
theorem dX10_count_22 : decode cX10_count 22 = .ok (.getfield 12, 3) := by decide +kernel
theorem dX10_count_25 : decode cX10_count 25 = .ok (.invokevirtual 46, 3) := by decide +kernel
theorem dX10_count_28 : decode cX10_count 28 = .ok (.ireturn, 1) := by decide +kernel
theorem dX10_count_29 : decode cX10_count 29 = .ok (.iload_n 1, 1) := by decide +kernel
theorem dX10_count_30 : decode cX10_count 30 = .ok (.iconst 1, 1) := by decide +kernel
theorem dX10_count_31 : decode cX10_count 31 = .ok (.if_icmp .ne 14, 3) := by decide +kernel
theorem dX10_count_34 : decode cX10_count 34 = .ok (.aload_n 0, 1) := by decide +kernel
theorem dX10_count_35 : decode cX10_count 35 = .ok (.getfield 12, 3) := by decide +kernel
theorem dX10_count_38 : decode cX10_count 38 = .ok (.invokevirtual 77, 3) := by decide +kernel
theorem dX10_count_41 : decode cX10_count 41 = .ok (.invokevirtual 81, 3) := by decide +kernel
theorem dX10_count_44 : decode cX10_count 44 = .ok (.ireturn, 1) := by decide +kernel
theorem dX10_count_45 : decode cX10_count 45 = .ok (.aload_n 0, 1) := by decide +kernel
theorem dX10_count_46 : decode cX10_count 46 = .ok (.getfield 30, 3) := by decide +kernel
theorem dX10_count_49 : decode cX10_count 49 = .ok (.invokevirtual 97, 3) := by decide +kernel
theorem dX10_count_52 : decode cX10_count 52 = .ok (.ifCond .ne 11, 3) := by decide +kernel
theorem dX10_count_55 : decode cX10_count 55 = .ok (.new 50, 3) := by decide +kernel
theorem dX10_count_58 : decode cX10_count 58 = .ok (.dup, 1) := by decide +kernel
theorem dX10_count_59 : decode cX10_count 59 = .ok (.invokespecial 52, 3) := by decide +kernel
theorem dX10_count_62 : decode cX10_count 62 = .ok (.athrow, 1) := by decide +kernel
theorem dX10_count_63 : decode cX10_count 63 = .ok (.iload_n 1, 1) := by decide +kernel
theorem dX10_count_64 : decode cX10_count 64 = .ok (.iconst 2, 1) := by decide +kernel
theorem dX10_count_65 : decode cX10_count 65 = .ok (.if_icmp .ne 13, 3) := by decide +kernel
theorem dX10_count_68 : decode cX10_count 68 = .ok (.aload_n 0, 1) := by decide +kernel
theorem dX10_count_69 : decode cX10_count 69 = .ok (.getfield 30, 3) := by decide +kernel
theorem dX10_count_72 : decode cX10_count 72 = .ok (.invokevirtual 101, 3) := by decide +kernel
theorem dX10_count_75 : decode cX10_count 75 = .ok (.goto 13, 3) := by decide +kernel
theorem dX10_count_78 : decode cX10_count 78 = .ok (.aload_n 0, 1) := by decide +kernel
theorem dX10_count_79 : decode cX10_count 79 = .ok (.getfield 12, 3) := by decide +kernel
theorem dX10_count_82 : decode cX10_count 82 = .ok (.invokevirtual 77, 3) := by decide +kernel
theorem dX10_count_85 : decode cX10_count 85 = .ok (.invokevirtual 104, 3) := by decide +kernel
theorem dX10_count_88 : decode cX10_count 88 = .ok (.ireturn, 1) := by decide +kernel
theorem dX10_size_0 : decode cX10_size 0 = .ok (.aload_n 0, 1) := by decide +kernel
theorem dX10_size_1 : decode cX10_size 1 = .ok (.getfield 12, 3) := by decide +kernel
theorem dX10_size_4 : decode cX10_size 4 = .ok (.iload_n 1, 1) := by decide +kernel
theorem dX10_size_5 : decode cX10_size 5 = .ok (.invokevirtual 60, 3) := by decide +kernel
theorem dX10_size_8 : decode cX10_size 8 = .ok (.ifCond .eq 12, 3) := by decide +kernel
theorem dX10_size_11 : decode cX10_size 11 = .ok (.iload_n 2, 1) := by decide +kernel
theorem dX10_size_12 : decode cX10_size 12 = .ok (.ifCond .lt 8, 3) := by decide +kernel
theorem dX10_size_15 : decode cX10_size 15 = .ok (.iload_n 2, 1) := by decide +kernel
theorem dX10_size_16 : decode cX10_size 16 = .ok (.iconst 3, 1) := by decide +kernel
theorem dX10_size_17 : decode cX10_size 17 = .ok (.if_icmp .le 11, 3) := by decide +kernel
theorem dX10_size_20 : decode cX10_size 20 = .ok (.new 43, 3) := by decide +kernel
theorem dX10_size_23 : decode cX10_size 23 = .ok (.dup, 1) := by decide +kernel
theorem dX10_size_24 : decode cX10_size 24 = .ok (.invokespecial 45, 3) := by decide +kernel
theorem dX10_size_27 : decode cX10_size 27 = .ok (.athrow, 1) := by decide +kernel
theorem dX10_size_28 : decode cX10_size 28 = .ok (.iload_n 2, 1) := by decide +kernel
theorem dX10_size_29 : decode cX10_size 29 = .ok (.ifCond .ne 12, 3) := by decide +kernel
theorem dX10_size_32 : decode cX10_size 32 = .ok (.aload_n 0, 1) := by decide +kernel
theorem dX10_size_33 : decode cX10_size 33 = .ok (.getfield 12, 3) := by decide +kernel
theorem dX10_size_36 : decode cX10_size 36 = .ok (.iload_n 1, 1) := by decide +kernel
theorem dX10_size_37 : decode cX10_size 37 = .ok (.invokevirtual 64, 3) := by decide +kernel
theorem dX10_size_40 : decode cX10_size 40 = .ok (.ireturn, 1) := by decide +kernel
theorem dX10_size_41 : decode cX10_size 41 = .ok (.aload_n 0, 1) := by decide +kernel
theorem dX10_size_42 : decode cX10_size 42 = .ok (.getfield 30, 3) := by decide +kernel
theorem dX10_size_45 : decode cX10_size 45 = .ok (.invokevirtual 97, 3) := by decide +kernel
theorem dX10_size_48 : decode cX10_size 48 = .ok (.ifCond .ne 11, 3) := by decide +kernel
theorem dX10_size_51 : decode cX10_size 51 = .ok (.new 50, 3) := by decide +kernel
theorem dX10_size_54 : decode cX10_size 54 = .ok (.dup, 1) := by decide +kernel
theorem dX10_size_55 : decode cX10_size 55 = .ok (.invokespecial 52, 3) := by decide +kernel
theorem dX10_size_58 : decode cX10_size 58 = .ok (.athrow, 1) := by decide +kernel
theorem dX10_size_59 : decode cX10_size 59 = .ok (.iload_n 2, 1) := by decide +kernel
theorem dX10_size_60 : decode cX10_size 60 = .ok (.iconst 1, 1) := by decide +kernel
theorem dX10_size_61 : decode cX10_size 61 = .ok (.if_icmp .ne 12, 3) := by decide +kernel
theorem dX10_size_64 : decode cX10_size 64 = .ok (.aload_n 0, 1) := by decide +kernel
theorem dX10_size_65 : decode cX10_size 65 = .ok (.getfield 30, 3) := by decide +kernel
theorem dX10_size_68 : decode cX10_size 68 = .ok (.iload_n 1, 1) := by decide +kernel
theorem dX10_size_69 : decode cX10_size 69 = .ok (.invokevirtual 107, 3) := by decide +kernel
theorem dX10_size_72 : decode cX10_size 72 = .ok (.ireturn, 1) := by decide +kernel
theorem dX10_size_73 : decode cX10_size 73 = .ok (.iload_n 2, 1) := by decide +kernel
theorem dX10_size_74 : decode cX10_size 74 = .ok (.iconst 2, 1) := by decide +kernel
theorem dX10_size_75 : decode cX10_size 75 = .ok (.if_icmp .ne 14, 3) := by decide +kernel
theorem dX10_size_78 : decode cX10_size 78 = .ok (.aload_n 0, 1) := by decide +kernel
theorem dX10_size_79 : decode cX10_size 79 = .ok (.getfield 30, 3) := by decide +kernel
theorem dX10_size_82 : decode cX10_size 82 = .ok (.iload_n 1, 1) := by decide +kernel
theorem dX10_size_83 : decode cX10_size 83 = .ok (.invokevirtual 108, 3) := by decide +kernel
theorem dX10_size_86 : decode cX10_size 86 = .ok (.goto 11, 3) := by decide +kernel
theorem dX10_size_89 : decode cX10_size 89 = .ok (.aload_n 0, 1) := by decide +kernel
theorem dX10_size_90 : decode cX10_size 90 = .ok (.getfield 30, 3) := by decide +kernel
theorem dX10_size_93 : decode cX10_size 93 = .ok (.iload_n 1, 1) := by decide +kernel
theorem dX10_size_94 : decode cX10_size 94 = .ok (.invokevirtual 111, 3) := by decide +kernel
theorem dX10_size_97 : decode cX10_size 97 = .ok (.ireturn, 1) := by decide +kernel
theorem dX10_plain_0 : decode cX10_plain 0 = .ok (.aload_n 0, 1) := by decide +kernel
theorem dX10_plain_1 : decode cX10_plain 1 = .ok (.getfield 12, 3) := by decide +kernel
theorem dX10_plain_4 : decode cX10_plain 4 = .ok (.iload_n 1, 1) := by decide +kernel
theorem dX10_plain_5 : decode cX10_plain 5 = .ok (.invokevirtual 60, 3) := by decide +kernel
theorem dX10_plain_8 : decode cX10_plain 8 = .ok (.ifCond .eq 16, 3) := by decide +kernel
theorem dX10_plain_11 : decode cX10_plain 11 = .ok (.iload_n 2, 1) := by decide +kernel
theorem dX10_plain_12 : decode cX10_plain 12 = .ok (.ifCond .lt 12, 3) := by decide +kernel
theorem dX10_plain_15 : decode cX10_plain 15 = .ok (.iload_n 3, 1) := by decide +kernel
theorem dX10_plain_16 : decode cX10_plain 16 = .ok (.ifCond .lt 8, 3) := by decide +kernel
theorem dX10_plain_19 : decode cX10_plain 19 = .ok (.iload_n 3, 1) := by decide +kernel
theorem dX10_plain_20 : decode cX10_plain 20 = .ok (.iconst 2, 1) := by decide +kernel
theorem dX10_plain_21 : decode cX10_plain 21 = .ok (.if_icmp .le 11, 3) := by decide +kernel
theorem dX10_plain_24 : decode cX10_plain 24 = .ok (.new 43, 3) := by decide +kernel
theorem dX10_plain_27 : decode cX10_plain 27 = .ok (.dup, 1) := by decide +kernel
theorem dX10_plain_28 : decode cX10_plain 28 = .ok (.invokespecial 45, 3) := by decide +kernel
theorem dX10_plain_31 : decode cX10_plain 31 = .ok (.athrow, 1) := by decide +kernel
theorem dX10_plain_32 : decode cX10_plain 32 = .ok (.aload_n 0, 1) := by decide +kernel
theorem dX10_plain_33 : decode cX10_plain 33 = .ok (.getfield 30, 3) := by decide +kernel
theorem dX10_plain_36 : decode cX10_plain 36 = .ok (.invokevirtual 97, 3) := by decide +kernel
theorem dX10_plain_39 : decode cX10_plain 39 = .ok (.ifCond .ne 11, 3) := by decide +kernel
theorem dX10_plain_42 : decode cX10_plain 42 = .ok (.new 50, 3) := by decide +kernel
theorem dX10_plain_45 : decode cX10_plain 45 = .ok (.dup, 1) := by decide +kernel
theorem dX10_plain_46 : decode cX10_plain 46 = .ok (.invokespecial 52, 3) := by decide +kernel
theorem dX10_plain_49 : decode cX10_plain 49 = .ok (.athrow, 1) := by decide +kernel
theorem dX10_plain_50 : decode cX10_plain 50 = .ok (.iload_n 2, 1) := by decide +kernel
theorem dX10_plain_51 : decode cX10_plain 51 = .ok (.aload_n 0, 1) := by decide +kernel
theorem dX10_plain_52 : decode cX10_plain 52 = .ok (.getfield 30, 3) := by decide +kernel
theorem dX10_plain_55 : decode cX10_plain 55 = .ok (.iload_n 1, 1) := by decide +kernel
theorem dX10_plain_56 : decode cX10_plain 56 = .ok (.invokevirtual 107, 3) := by decide +kernel
theorem dX10_plain_59 : decode cX10_plain 59 = .ok (.if_icmp .lt 11, 3) := by decide +kernel
theorem dX10_plain_62 : decode cX10_plain 62 = .ok (.new 43, 3) := by decide +kernel
theorem dX10_plain_65 : decode cX10_plain 65 = .ok (.dup, 1) := by decide +kernel
theorem dX10_plain_66 : decode cX10_plain 66 = .ok (.invokespecial 45, 3) := by decide +kernel
theorem dX10_plain_69 : decode cX10_plain 69 = .ok (.athrow, 1) := by decide +kernel
theorem dX10_plain_70 : decode cX10_plain 70 = .ok (.iload_n 3, 1) := by decide +kernel
theorem dX10_plain_71 : decode cX10_plain 71 = .ok (.ifCond .ne 13, 3) := by decide +kernel
theorem dX10_plain_74 : decode cX10_plain 74 = .ok (.aload_n 0, 1) := by decide +kernel
theorem dX10_plain_75 : decode cX10_plain 75 = .ok (.getfield 30, 3) := by decide +kernel
theorem dX10_plain_78 : decode cX10_plain 78 = .ok (.iload_n 1, 1) := by decide +kernel
theorem dX10_plain_79 : decode cX10_plain 79 = .ok (.iload_n 2, 1) := by decide +kernel
theorem dX10_plain_80 : decode cX10_plain 80 = .ok (.invokevirtual 114, 3) := by decide +kernel
theorem dX10_plain_83 : decode cX10_plain 83 = .ok (.ireturn, 1) := by decide +kernel
theorem dX10_plain_84 : decode cX10_plain 84 = .ok (.iload_n 3, 1) := by decide +kernel
theorem dX10_plain_85 : decode cX10_plain 85 = .ok (.iconst 1, 1) := by decide +kernel
theorem dX10_plain_86 : decode cX10_plain 86 = .ok (.if_icmp .ne 15, 3) := by decide +kernel
theorem dX10_plain_89 : decode cX10_plain 89 = .ok (.aload_n 0, 1) := by decide +kernel
theorem dX10_plain_90 : decode cX10_plain 90 = .ok (.getfield 30, 3) := by decide +kernel
theorem dX10_plain_93 : decode cX10_plain 93 = .ok (.iload_n 1, 1) := by decide +kernel
theorem dX10_plain_94 : decode cX10_plain 94 = .ok (.iload_n 2, 1) := by decide +kernel
theorem dX10_plain_95 : decode cX10_plain 95 = .ok (.invokevirtual 118, 3) := by decide +kernel
theorem dX10_plain_98 : decode cX10_plain 98 = .ok (.goto 12, 3) := by decide +kernel
theorem dX10_plain_101 : decode cX10_plain 101 = .ok (.aload_n 0, 1) := by decide +kernel
theorem dX10_plain_102 : decode cX10_plain 102 = .ok (.getfield 30, 3) := by decide +kernel
theorem dX10_plain_105 : decode cX10_plain 105 = .ok (.iload_n 1, 1) := by decide +kernel
theorem dX10_plain_106 : decode cX10_plain 106 = .ok (.iload_n 2, 1) := by decide +kernel
theorem dX10_plain_107 : decode cX10_plain 107 = .ok (.invokevirtual 121, 3) := by decide +kernel
theorem dX10_plain_110 : decode cX10_plain 110 = .ok (.ireturn, 1) := by decide +kernel
theorem dX10_made_0 : decode cX10_made 0 = .ok (.iload_n 1, 1) := by decide +kernel
theorem dX10_made_1 : decode cX10_made 1 = .ok (.ifCond .lt 12, 3) := by decide +kernel
theorem dX10_made_4 : decode cX10_made 4 = .ok (.iload_n 2, 1) := by decide +kernel
theorem dX10_made_5 : decode cX10_made 5 = .ok (.ifCond .lt 8, 3) := by decide +kernel
theorem dX10_made_8 : decode cX10_made 8 = .ok (.iload_n 2, 1) := by decide +kernel
theorem dX10_made_9 : decode cX10_made 9 = .ok (.iconst 2, 1) := by decide +kernel
theorem dX10_made_10 : decode cX10_made 10 = .ok (.if_icmp .le 11, 3) := by decide +kernel
theorem dX10_made_13 : decode cX10_made 13 = .ok (.new 43, 3) := by decide +kernel
theorem dX10_made_16 : decode cX10_made 16 = .ok (.dup, 1) := by decide +kernel
theorem dX10_made_17 : decode cX10_made 17 = .ok (.invokespecial 45, 3) := by decide +kernel
theorem dX10_made_20 : decode cX10_made 20 = .ok (.athrow, 1) := by decide +kernel
theorem dX10_made_21 : decode cX10_made 21 = .ok (.aload_n 0, 1) := by decide +kernel
theorem dX10_made_22 : decode cX10_made 22 = .ok (.getfield 30, 3) := by decide +kernel
theorem dX10_made_25 : decode cX10_made 25 = .ok (.invokevirtual 97, 3) := by decide +kernel
theorem dX10_made_28 : decode cX10_made 28 = .ok (.ifCond .ne 11, 3) := by decide +kernel
theorem dX10_made_31 : decode cX10_made 31 = .ok (.new 50, 3) := by decide +kernel
theorem dX10_made_34 : decode cX10_made 34 = .ok (.dup, 1) := by decide +kernel
theorem dX10_made_35 : decode cX10_made 35 = .ok (.invokespecial 52, 3) := by decide +kernel
theorem dX10_made_38 : decode cX10_made 38 = .ok (.athrow, 1) := by decide +kernel
theorem dX10_made_39 : decode cX10_made 39 = .ok (.iload_n 1, 1) := by decide +kernel
theorem dX10_made_40 : decode cX10_made 40 = .ok (.aload_n 0, 1) := by decide +kernel
theorem dX10_made_41 : decode cX10_made 41 = .ok (.getfield 30, 3) := by decide +kernel
theorem dX10_made_44 : decode cX10_made 44 = .ok (.invokevirtual 101, 3) := by decide +kernel
theorem dX10_made_47 : decode cX10_made 47 = .ok (.if_icmp .lt 11, 3) := by decide +kernel
theorem dX10_made_50 : decode cX10_made 50 = .ok (.new 43, 3) := by decide +kernel
theorem dX10_made_53 : decode cX10_made 53 = .ok (.dup, 1) := by decide +kernel
theorem dX10_made_54 : decode cX10_made 54 = .ok (.invokespecial 45, 3) := by decide +kernel
theorem dX10_made_57 : decode cX10_made 57 = .ok (.athrow, 1) := by decide +kernel
theorem dX10_made_58 : decode cX10_made 58 = .ok (.iload_n 2, 1) := by decide +kernel
theorem dX10_made_59 : decode cX10_made 59 = .ok (.ifCond .ne 12, 3) := by decide +kernel
theorem dX10_made_62 : decode cX10_made 62 = .ok (.aload_n 0, 1) := by decide +kernel
theorem dX10_made_63 : decode cX10_made 63 = .ok (.getfield 30, 3) := by decide +kernel
theorem dX10_made_66 : decode cX10_made 66 = .ok (.iload_n 1, 1) := by decide +kernel
theorem dX10_made_67 : decode cX10_made 67 = .ok (.invokevirtual 124, 3) := by decide +kernel
theorem dX10_made_70 : decode cX10_made 70 = .ok (.ireturn, 1) := by decide +kernel
theorem dX10_made_71 : decode cX10_made 71 = .ok (.iload_n 2, 1) := by decide +kernel
theorem dX10_made_72 : decode cX10_made 72 = .ok (.iconst 1, 1) := by decide +kernel
theorem dX10_made_73 : decode cX10_made 73 = .ok (.if_icmp .ne 14, 3) := by decide +kernel
theorem dX10_made_76 : decode cX10_made 76 = .ok (.aload_n 0, 1) := by decide +kernel
theorem dX10_made_77 : decode cX10_made 77 = .ok (.getfield 30, 3) := by decide +kernel
theorem dX10_made_80 : decode cX10_made 80 = .ok (.iload_n 1, 1) := by decide +kernel
theorem dX10_made_81 : decode cX10_made 81 = .ok (.invokevirtual 127, 3) := by decide +kernel
theorem dX10_made_84 : decode cX10_made 84 = .ok (.goto 18, 3) := by decide +kernel
theorem dX10_made_87 : decode cX10_made 87 = .ok (.aload_n 0, 1) := by decide +kernel
theorem dX10_made_88 : decode cX10_made 88 = .ok (.getfield 30, 3) := by decide +kernel
theorem dX10_made_91 : decode cX10_made 91 = .ok (.aload_n 0, 1) := by decide +kernel
theorem dX10_made_92 : decode cX10_made 92 = .ok (.getfield 30, 3) := by decide +kernel
theorem dX10_made_95 : decode cX10_made 95 = .ok (.iload_n 1, 1) := by decide +kernel
theorem dX10_made_96 : decode cX10_made 96 = .ok (.invokevirtual 130, 3) := by decide +kernel
theorem dX10_made_99 : decode cX10_made 99 = .ok (.invokevirtual 107, 3) := by decide +kernel
theorem dX10_made_102 : decode cX10_made 102 = .ok (.ireturn, 1) := by decide +kernel
theorem dX10_character_0 : decode cX10_character 0 = .ok (.iload_n 1, 1) := by decide +kernel
theorem dX10_character_1 : decode cX10_character 1 = .ok (.ifCond .ge 11, 3) := by decide +kernel
theorem dX10_character_4 : decode cX10_character 4 = .ok (.new 43, 3) := by decide +kernel
theorem dX10_character_7 : decode cX10_character 7 = .ok (.dup, 1) := by decide +kernel
theorem dX10_character_8 : decode cX10_character 8 = .ok (.invokespecial 45, 3) := by decide +kernel
theorem dX10_character_11 : decode cX10_character 11 = .ok (.athrow, 1) := by decide +kernel
theorem dX10_character_12 : decode cX10_character 12 = .ok (.aload_n 0, 1) := by decide +kernel
theorem dX10_character_13 : decode cX10_character 13 = .ok (.getfield 30, 3) := by decide +kernel
theorem dX10_character_16 : decode cX10_character 16 = .ok (.invokevirtual 97, 3) := by decide +kernel
theorem dX10_character_19 : decode cX10_character 19 = .ok (.ifCond .ne 11, 3) := by decide +kernel
theorem dX10_character_22 : decode cX10_character 22 = .ok (.new 50, 3) := by decide +kernel
theorem dX10_character_25 : decode cX10_character 25 = .ok (.dup, 1) := by decide +kernel
theorem dX10_character_26 : decode cX10_character 26 = .ok (.invokespecial 52, 3) := by decide +kernel
theorem dX10_character_29 : decode cX10_character 29 = .ok (.athrow, 1) := by decide +kernel
theorem dX10_character_30 : decode cX10_character 30 = .ok (.iload_n 1, 1) := by decide +kernel
theorem dX10_character_31 : decode cX10_character 31 = .ok (.aload_n 0, 1) := by decide +kernel
theorem dX10_character_32 : decode cX10_character 32 = .ok (.getfield 12, 3) := by decide +kernel
theorem dX10_character_35 : decode cX10_character 35 = .ok (.invokevirtual 77, 3) := by decide +kernel
theorem dX10_character_38 : decode cX10_character 38 = .ok (.invokevirtual 104, 3) := by decide +kernel
theorem dX10_character_41 : decode cX10_character 41 = .ok (.if_icmp .lt 11, 3) := by decide +kernel
theorem dX10_character_44 : decode cX10_character 44 = .ok (.new 43, 3) := by decide +kernel
theorem dX10_character_47 : decode cX10_character 47 = .ok (.dup, 1) := by decide +kernel
theorem dX10_character_48 : decode cX10_character 48 = .ok (.invokespecial 45, 3) := by decide +kernel
theorem dX10_character_51 : decode cX10_character 51 = .ok (.athrow, 1) := by decide +kernel
theorem dX10_character_52 : decode cX10_character 52 = .ok (.aload_n 0, 1) := by decide +kernel
theorem dX10_character_53 : decode cX10_character 53 = .ok (.getfield 12, 3) := by decide +kernel
theorem dX10_character_56 : decode cX10_character 56 = .ok (.invokevirtual 77, 3) := by decide +kernel
theorem dX10_character_59 : decode cX10_character 59 = .ok (.iload_n 1, 1) := by decide +kernel
theorem dX10_character_60 : decode cX10_character 60 = .ok (.invokevirtual 133, 3) := by decide +kernel
theorem dX10_character_63 : decode cX10_character 63 = .ok (.ireturn, 1) := by decide +kernel
theorem dX10_run_0 : decode cX10_run 0 = .ok (.aload_n 0, 1) := by decide +kernel
theorem dX10_run_1 : decode cX10_run 1 = .ok (.getfield 12, 3) := by decide +kernel
theorem dX10_run_4 : decode cX10_run 4 = .ok (.iload_n 1, 1) := by decide +kernel
theorem dX10_run_5 : decode cX10_run 5 = .ok (.invokevirtual 60, 3) := by decide +kernel
theorem dX10_run_8 : decode cX10_run 8 = .ok (.ifCond .ne 11, 3) := by decide +kernel
theorem dX10_run_11 : decode cX10_run 11 = .ok (.new 43, 3) := by decide +kernel
theorem dX10_run_14 : decode cX10_run 14 = .ok (.dup, 1) := by decide +kernel
theorem dX10_run_15 : decode cX10_run 15 = .ok (.invokespecial 45, 3) := by decide +kernel
theorem dX10_run_18 : decode cX10_run 18 = .ok (.athrow, 1) := by decide +kernel
theorem dX10_run_19 : decode cX10_run 19 = .ok (.aload_n 0, 1) := by decide +kernel
theorem dX10_run_20 : decode cX10_run 20 = .ok (.getfield 30, 3) := by decide +kernel
theorem dX10_run_23 : decode cX10_run 23 = .ok (.invokevirtual 97, 3) := by decide +kernel
theorem dX10_run_26 : decode cX10_run 26 = .ok (.ifCond .ne 11, 3) := by decide +kernel
theorem dX10_run_29 : decode cX10_run 29 = .ok (.new 50, 3) := by decide +kernel
theorem dX10_run_32 : decode cX10_run 32 = .ok (.dup, 1) := by decide +kernel
theorem dX10_run_33 : decode cX10_run 33 = .ok (.invokespecial 52, 3) := by decide +kernel
theorem dX10_run_36 : decode cX10_run 36 = .ok (.athrow, 1) := by decide +kernel
theorem dX10_run_37 : decode cX10_run 37 = .ok (.aload_n 0, 1) := by decide +kernel
theorem dX10_run_38 : decode cX10_run 38 = .ok (.getfield 39, 3) := by decide +kernel
theorem dX10_run_41 : decode cX10_run 41 = .ok (.iload_n 1, 1) := by decide +kernel
theorem dX10_run_42 : decode cX10_run 42 = .ok (.iload_n 2, 1) := by decide +kernel
theorem dX10_run_43 : decode cX10_run 43 = .ok (.iload_n 3, 1) := by decide +kernel
theorem dX10_run_44 : decode cX10_run 44 = .ok (.iload 4, 2) := by decide +kernel
theorem dX10_run_46 : decode cX10_run 46 = .ok (.iload 5, 2) := by decide +kernel
theorem dX10_run_48 : decode cX10_run 48 = .ok (.invokevirtual 136, 3) := by decide +kernel
theorem dX10_run_51 : decode cX10_run 51 = .ok (.ireturn, 1) := by decide +kernel
theorem dX10_told_0 : decode cX10_told 0 = .ok (.iload_n 1, 1) := by decide +kernel
theorem dX10_told_1 : decode cX10_told 1 = .ok (.tableswitch 63 0 3 #[31, 39, 47, 55], 31) := by decide +kernel
theorem dX10_told_32 : decode cX10_told 32 = .ok (.aload_n 0, 1) := by decide +kernel
theorem dX10_told_33 : decode cX10_told 33 = .ok (.getfield 39, 3) := by decide +kernel
theorem dX10_told_36 : decode cX10_told 36 = .ok (.invokevirtual 140, 3) := by decide +kernel
theorem dX10_told_39 : decode cX10_told 39 = .ok (.ireturn, 1) := by decide +kernel
theorem dX10_told_40 : decode cX10_told 40 = .ok (.aload_n 0, 1) := by decide +kernel
theorem dX10_told_41 : decode cX10_told 41 = .ok (.getfield 39, 3) := by decide +kernel
theorem dX10_told_44 : decode cX10_told 44 = .ok (.invokevirtual 143, 3) := by decide +kernel
theorem dX10_told_47 : decode cX10_told 47 = .ok (.ireturn, 1) := by decide +kernel
theorem dX10_told_48 : decode cX10_told 48 = .ok (.aload_n 0, 1) := by decide +kernel
theorem dX10_told_49 : decode cX10_told 49 = .ok (.getfield 39, 3) := by decide +kernel
theorem dX10_told_52 : decode cX10_told 52 = .ok (.invokevirtual 146, 3) := by decide +kernel
theorem dX10_told_55 : decode cX10_told 55 = .ok (.ireturn, 1) := by decide +kernel
theorem dX10_told_56 : decode cX10_told 56 = .ok (.aload_n 0, 1) := by decide +kernel
theorem dX10_told_57 : decode cX10_told 57 = .ok (.getfield 39, 3) := by decide +kernel
theorem dX10_told_60 : decode cX10_told 60 = .ok (.invokevirtual 149, 3) := by decide +kernel
theorem dX10_told_63 : decode cX10_told 63 = .ok (.ireturn, 1) := by decide +kernel
theorem dX10_told_64 : decode cX10_told 64 = .ok (.new 43, 3) := by decide +kernel
theorem dX10_told_67 : decode cX10_told 67 = .ok (.dup, 1) := by decide +kernel
theorem dX10_told_68 : decode cX10_told 68 = .ok (.invokespecial 45, 3) := by decide +kernel
theorem dX10_told_71 : decode cX10_told 71 = .ok (.athrow, 1) := by decide +kernel
theorem dX10_said_0 : decode cX10_said 0 = .ok (.iload_n 1, 1) := by decide +kernel
theorem dX10_said_1 : decode cX10_said 1 = .ok (.ifCond .lt 14, 3) := by decide +kernel
theorem dX10_said_4 : decode cX10_said 4 = .ok (.iload_n 1, 1) := by decide +kernel
theorem dX10_said_5 : decode cX10_said 5 = .ok (.aload_n 0, 1) := by decide +kernel
theorem dX10_said_6 : decode cX10_said 6 = .ok (.getfield 39, 3) := by decide +kernel
theorem dX10_said_9 : decode cX10_said 9 = .ok (.invokevirtual 140, 3) := by decide +kernel
theorem dX10_said_12 : decode cX10_said 12 = .ok (.if_icmp .lt 11, 3) := by decide +kernel
theorem dX10_said_15 : decode cX10_said 15 = .ok (.new 43, 3) := by decide +kernel
theorem dX10_said_18 : decode cX10_said 18 = .ok (.dup, 1) := by decide +kernel
theorem dX10_said_19 : decode cX10_said 19 = .ok (.invokespecial 45, 3) := by decide +kernel
theorem dX10_said_22 : decode cX10_said 22 = .ok (.athrow, 1) := by decide +kernel
theorem dX10_said_23 : decode cX10_said 23 = .ok (.aload_n 0, 1) := by decide +kernel
theorem dX10_said_24 : decode cX10_said 24 = .ok (.getfield 39, 3) := by decide +kernel
theorem dX10_said_27 : decode cX10_said 27 = .ok (.iload_n 1, 1) := by decide +kernel
theorem dX10_said_28 : decode cX10_said 28 = .ok (.invokevirtual 152, 3) := by decide +kernel
theorem dX10_said_31 : decode cX10_said 31 = .ok (.ireturn, 1) := by decide +kernel
theorem dX10_valueOf_0 : decode cX10_valueOf 0 = .ok (.iload_n 0, 1) := by decide +kernel
theorem dX10_valueOf_1 : decode cX10_valueOf 1 = .ok (.i2l, 1) := by decide +kernel
theorem dX10_valueOf_2 : decode cX10_valueOf 2 = .ok (.bipush 32, 2) := by decide +kernel
theorem dX10_valueOf_4 : decode cX10_valueOf 4 = .ok (.lshl, 1) := by decide +kernel
theorem dX10_valueOf_5 : decode cX10_valueOf 5 = .ok (.iload_n 1, 1) := by decide +kernel
theorem dX10_valueOf_6 : decode cX10_valueOf 6 = .ok (.i2l, 1) := by decide +kernel
theorem dX10_valueOf_7 : decode cX10_valueOf 7 = .ok (.ldc2_w 155, 3) := by decide +kernel
theorem dX10_valueOf_10 : decode cX10_valueOf 10 = .ok (.land, 1) := by decide +kernel
theorem dX10_valueOf_11 : decode cX10_valueOf 11 = .ok (.lor, 1) := by decide +kernel
theorem dX10_valueOf_12 : decode cX10_valueOf 12 = .ok (.lreturn, 1) := by decide +kernel
theorem dX10_kindOf_0 : decode cX10_kindOf 0 = .ok (.lload_n 0, 1) := by decide +kernel
theorem dX10_kindOf_1 : decode cX10_kindOf 1 = .ok (.bipush 32, 2) := by decide +kernel
theorem dX10_kindOf_3 : decode cX10_kindOf 3 = .ok (.lshr, 1) := by decide +kernel
theorem dX10_kindOf_4 : decode cX10_kindOf 4 = .ok (.l2i, 1) := by decide +kernel
theorem dX10_kindOf_5 : decode cX10_kindOf 5 = .ok (.ireturn, 1) := by decide +kernel
theorem dX10_contentOf_0 : decode cX10_contentOf 0 = .ok (.lload_n 0, 1) := by decide +kernel
theorem dX10_contentOf_1 : decode cX10_contentOf 1 = .ok (.l2i, 1) := by decide +kernel
theorem dX10_contentOf_2 : decode cX10_contentOf 2 = .ok (.ireturn, 1) := by decide +kernel
theorem dL_function_0 : decode cL_function 0 = .ok (.aload_n 2, 1) := by decide +kernel
theorem dL_function_1 : decode cL_function 1 = .ok (.iconst 0, 1) := by decide +kernel
theorem dL_function_2 : decode cL_function 2 = .ok (.aload_n 0, 1) := by decide +kernel
theorem dL_function_3 : decode cL_function 3 = .ok (.iload_n 1, 1) := by decide +kernel
theorem dL_function_4 : decode cL_function 4 = .ok (.invokevirtual 7, 3) := by decide +kernel
theorem dL_function_7 : decode cL_function 7 = .ok (.i2l, 1) := by decide +kernel
theorem dL_function_8 : decode cL_function 8 = .ok (.lastore, 1) := by decide +kernel
theorem dL_function_9 : decode cL_function 9 = .ok (.goto 9, 3) := by decide +kernel
theorem dL_function_12 : decode cL_function 12 = .ok (.astore_n 3, 1) := by decide +kernel
theorem dL_function_13 : decode cL_function 13 = .ok (.iconst 1, 1) := by decide +kernel
theorem dL_function_14 : decode cL_function 14 = .ok (.ireturn, 1) := by decide +kernel
theorem dL_function_15 : decode cL_function 15 = .ok (.astore_n 3, 1) := by decide +kernel
theorem dL_function_16 : decode cL_function 16 = .ok (.iconst 2, 1) := by decide +kernel
theorem dL_function_17 : decode cL_function 17 = .ok (.ireturn, 1) := by decide +kernel
theorem dL_function_18 : decode cL_function 18 = .ok (.iconst 0, 1) := by decide +kernel
theorem dL_function_19 : decode cL_function 19 = .ok (.ireturn, 1) := by decide +kernel
theorem dL_code_0 : decode cL_code 0 = .ok (.aload 5, 2) := by decide +kernel
theorem dL_code_2 : decode cL_code 2 = .ok (.iconst 0, 1) := by decide +kernel
theorem dL_code_3 : decode cL_code 3 = .ok (.aload_n 0, 1) := by decide +kernel
theorem dL_code_4 : decode cL_code 4 = .ok (.iload_n 1, 1) := by decide +kernel
theorem dL_code_5 : decode cL_code 5 = .ok (.iload_n 2, 1) := by decide +kernel
theorem dL_code_6 : decode cL_code 6 = .ok (.iload_n 3, 1) := by decide +kernel
theorem dL_code_7 : decode cL_code 7 = .ok (.iload 4, 2) := by decide +kernel
theorem dL_code_9 : decode cL_code 9 = .ok (.invokevirtual 17, 3) := by decide +kernel
theorem dL_code_12 : decode cL_code 12 = .ok (.i2l, 1) := by decide +kernel
theorem dL_code_13 : decode cL_code 13 = .ok (.lastore, 1) := by decide +kernel
theorem dL_code_14 : decode cL_code 14 = .ok (.goto 11, 3) := by decide +kernel
theorem dL_code_17 : decode cL_code 17 = .ok (.astore 6, 2) := by decide +kernel
theorem dL_code_19 : decode cL_code 19 = .ok (.iconst 1, 1) := by decide +kernel
theorem dL_code_20 : decode cL_code 20 = .ok (.ireturn, 1) := by decide +kernel
theorem dL_code_21 : decode cL_code 21 = .ok (.astore 6, 2) := by decide +kernel
theorem dL_code_23 : decode cL_code 23 = .ok (.iconst 2, 1) := by decide +kernel
theorem dL_code_24 : decode cL_code 24 = .ok (.ireturn, 1) := by decide +kernel
theorem dL_code_25 : decode cL_code 25 = .ok (.iconst 0, 1) := by decide +kernel
theorem dL_code_26 : decode cL_code 26 = .ok (.ireturn, 1) := by decide +kernel
theorem dL_recipe_0 : decode cL_recipe 0 = .ok (.aload_n 3, 1) := by decide +kernel
theorem dL_recipe_1 : decode cL_recipe 1 = .ok (.iconst 0, 1) := by decide +kernel
theorem dL_recipe_2 : decode cL_recipe 2 = .ok (.aload_n 0, 1) := by decide +kernel
theorem dL_recipe_3 : decode cL_recipe 3 = .ok (.lload_n 1, 1) := by decide +kernel
theorem dL_recipe_4 : decode cL_recipe 4 = .ok (.invokevirtual 21, 3) := by decide +kernel
theorem dL_recipe_7 : decode cL_recipe 7 = .ok (.i2l, 1) := by decide +kernel
theorem dL_recipe_8 : decode cL_recipe 8 = .ok (.lastore, 1) := by decide +kernel
theorem dL_recipe_9 : decode cL_recipe 9 = .ok (.goto 11, 3) := by decide +kernel
theorem dL_recipe_12 : decode cL_recipe 12 = .ok (.astore 4, 2) := by decide +kernel
theorem dL_recipe_14 : decode cL_recipe 14 = .ok (.iconst 1, 1) := by decide +kernel
theorem dL_recipe_15 : decode cL_recipe 15 = .ok (.ireturn, 1) := by decide +kernel
theorem dL_recipe_16 : decode cL_recipe 16 = .ok (.astore 4, 2) := by decide +kernel
theorem dL_recipe_18 : decode cL_recipe 18 = .ok (.iconst 2, 1) := by decide +kernel
theorem dL_recipe_19 : decode cL_recipe 19 = .ok (.ireturn, 1) := by decide +kernel
theorem dL_recipe_20 : decode cL_recipe 20 = .ok (.iconst 0, 1) := by decide +kernel
theorem dL_recipe_21 : decode cL_recipe 21 = .ok (.ireturn, 1) := by decide +kernel
theorem dL_count_0 : decode cL_count 0 = .ok (.aload_n 2, 1) := by decide +kernel
theorem dL_count_1 : decode cL_count 1 = .ok (.iconst 0, 1) := by decide +kernel
theorem dL_count_2 : decode cL_count 2 = .ok (.aload_n 0, 1) := by decide +kernel
theorem dL_count_3 : decode cL_count 3 = .ok (.iload_n 1, 1) := by decide +kernel
theorem dL_count_4 : decode cL_count 4 = .ok (.invokevirtual 25, 3) := by decide +kernel
theorem dL_count_7 : decode cL_count 7 = .ok (.i2l, 1) := by decide +kernel
theorem dL_count_8 : decode cL_count 8 = .ok (.lastore, 1) := by decide +kernel
theorem dL_count_9 : decode cL_count 9 = .ok (.goto 9, 3) := by decide +kernel
theorem dL_count_12 : decode cL_count 12 = .ok (.astore_n 3, 1) := by decide +kernel
theorem dL_count_13 : decode cL_count 13 = .ok (.iconst 1, 1) := by decide +kernel
theorem dL_count_14 : decode cL_count 14 = .ok (.ireturn, 1) := by decide +kernel
theorem dL_count_15 : decode cL_count 15 = .ok (.astore_n 3, 1) := by decide +kernel
theorem dL_count_16 : decode cL_count 16 = .ok (.iconst 2, 1) := by decide +kernel
theorem dL_count_17 : decode cL_count 17 = .ok (.ireturn, 1) := by decide +kernel
theorem dL_count_18 : decode cL_count 18 = .ok (.iconst 0, 1) := by decide +kernel
theorem dL_count_19 : decode cL_count 19 = .ok (.ireturn, 1) := by decide +kernel
theorem dL_size_0 : decode cL_size 0 = .ok (.aload_n 3, 1) := by decide +kernel
theorem dL_size_1 : decode cL_size 1 = .ok (.iconst 0, 1) := by decide +kernel
theorem dL_size_2 : decode cL_size 2 = .ok (.aload_n 0, 1) := by decide +kernel
theorem dL_size_3 : decode cL_size 3 = .ok (.iload_n 1, 1) := by decide +kernel
theorem dL_size_4 : decode cL_size 4 = .ok (.iload_n 2, 1) := by decide +kernel
theorem dL_size_5 : decode cL_size 5 = .ok (.invokevirtual 28, 3) := by decide +kernel
theorem dL_size_8 : decode cL_size 8 = .ok (.i2l, 1) := by decide +kernel
theorem dL_size_9 : decode cL_size 9 = .ok (.lastore, 1) := by decide +kernel
theorem dL_size_10 : decode cL_size 10 = .ok (.goto 11, 3) := by decide +kernel
theorem dL_size_13 : decode cL_size 13 = .ok (.astore 4, 2) := by decide +kernel
theorem dL_size_15 : decode cL_size 15 = .ok (.iconst 1, 1) := by decide +kernel
theorem dL_size_16 : decode cL_size 16 = .ok (.ireturn, 1) := by decide +kernel
theorem dL_size_17 : decode cL_size 17 = .ok (.astore 4, 2) := by decide +kernel
theorem dL_size_19 : decode cL_size 19 = .ok (.iconst 2, 1) := by decide +kernel
theorem dL_size_20 : decode cL_size 20 = .ok (.ireturn, 1) := by decide +kernel
theorem dL_size_21 : decode cL_size 21 = .ok (.iconst 0, 1) := by decide +kernel
theorem dL_size_22 : decode cL_size 22 = .ok (.ireturn, 1) := by decide +kernel
theorem dL_plain_0 : decode cL_plain 0 = .ok (.aload 4, 2) := by decide +kernel
theorem dL_plain_2 : decode cL_plain 2 = .ok (.iconst 0, 1) := by decide +kernel
theorem dL_plain_3 : decode cL_plain 3 = .ok (.aload_n 0, 1) := by decide +kernel
theorem dL_plain_4 : decode cL_plain 4 = .ok (.iload_n 1, 1) := by decide +kernel
theorem dL_plain_5 : decode cL_plain 5 = .ok (.iload_n 2, 1) := by decide +kernel
theorem dL_plain_6 : decode cL_plain 6 = .ok (.iload_n 3, 1) := by decide +kernel
theorem dL_plain_7 : decode cL_plain 7 = .ok (.invokevirtual 32, 3) := by decide +kernel
theorem dL_plain_10 : decode cL_plain 10 = .ok (.i2l, 1) := by decide +kernel
theorem dL_plain_11 : decode cL_plain 11 = .ok (.lastore, 1) := by decide +kernel
theorem dL_plain_12 : decode cL_plain 12 = .ok (.goto 11, 3) := by decide +kernel
theorem dL_plain_15 : decode cL_plain 15 = .ok (.astore 5, 2) := by decide +kernel
theorem dL_plain_17 : decode cL_plain 17 = .ok (.iconst 1, 1) := by decide +kernel
theorem dL_plain_18 : decode cL_plain 18 = .ok (.ireturn, 1) := by decide +kernel
theorem dL_plain_19 : decode cL_plain 19 = .ok (.astore 5, 2) := by decide +kernel
theorem dL_plain_21 : decode cL_plain 21 = .ok (.iconst 2, 1) := by decide +kernel
theorem dL_plain_22 : decode cL_plain 22 = .ok (.ireturn, 1) := by decide +kernel
theorem dL_plain_23 : decode cL_plain 23 = .ok (.iconst 0, 1) := by decide +kernel
theorem dL_plain_24 : decode cL_plain 24 = .ok (.ireturn, 1) := by decide +kernel
theorem dL_made_0 : decode cL_made 0 = .ok (.aload_n 3, 1) := by decide +kernel
theorem dL_made_1 : decode cL_made 1 = .ok (.iconst 0, 1) := by decide +kernel
theorem dL_made_2 : decode cL_made 2 = .ok (.aload_n 0, 1) := by decide +kernel
theorem dL_made_3 : decode cL_made 3 = .ok (.iload_n 1, 1) := by decide +kernel
theorem dL_made_4 : decode cL_made 4 = .ok (.iload_n 2, 1) := by decide +kernel
theorem dL_made_5 : decode cL_made 5 = .ok (.invokevirtual 36, 3) := by decide +kernel
theorem dL_made_8 : decode cL_made 8 = .ok (.i2l, 1) := by decide +kernel
theorem dL_made_9 : decode cL_made 9 = .ok (.lastore, 1) := by decide +kernel
theorem dL_made_10 : decode cL_made 10 = .ok (.goto 11, 3) := by decide +kernel
theorem dL_made_13 : decode cL_made 13 = .ok (.astore 4, 2) := by decide +kernel
theorem dL_made_15 : decode cL_made 15 = .ok (.iconst 1, 1) := by decide +kernel
theorem dL_made_16 : decode cL_made 16 = .ok (.ireturn, 1) := by decide +kernel
theorem dL_made_17 : decode cL_made 17 = .ok (.astore 4, 2) := by decide +kernel
theorem dL_made_19 : decode cL_made 19 = .ok (.iconst 2, 1) := by decide +kernel
theorem dL_made_20 : decode cL_made 20 = .ok (.ireturn, 1) := by decide +kernel
theorem dL_made_21 : decode cL_made 21 = .ok (.iconst 0, 1) := by decide +kernel
theorem dL_made_22 : decode cL_made 22 = .ok (.ireturn, 1) := by decide +kernel
theorem dL_character_0 : decode cL_character 0 = .ok (.aload_n 2, 1) := by decide +kernel
theorem dL_character_1 : decode cL_character 1 = .ok (.iconst 0, 1) := by decide +kernel
theorem dL_character_2 : decode cL_character 2 = .ok (.aload_n 0, 1) := by decide +kernel
theorem dL_character_3 : decode cL_character 3 = .ok (.iload_n 1, 1) := by decide +kernel
theorem dL_character_4 : decode cL_character 4 = .ok (.invokevirtual 39, 3) := by decide +kernel
theorem dL_character_7 : decode cL_character 7 = .ok (.i2l, 1) := by decide +kernel
theorem dL_character_8 : decode cL_character 8 = .ok (.lastore, 1) := by decide +kernel
theorem dL_character_9 : decode cL_character 9 = .ok (.goto 9, 3) := by decide +kernel
theorem dL_character_12 : decode cL_character 12 = .ok (.astore_n 3, 1) := by decide +kernel
theorem dL_character_13 : decode cL_character 13 = .ok (.iconst 1, 1) := by decide +kernel
theorem dL_character_14 : decode cL_character 14 = .ok (.ireturn, 1) := by decide +kernel
theorem dL_character_15 : decode cL_character 15 = .ok (.astore_n 3, 1) := by decide +kernel
theorem dL_character_16 : decode cL_character 16 = .ok (.iconst 2, 1) := by decide +kernel
theorem dL_character_17 : decode cL_character 17 = .ok (.ireturn, 1) := by decide +kernel
theorem dL_character_18 : decode cL_character 18 = .ok (.iconst 0, 1) := by decide +kernel
theorem dL_character_19 : decode cL_character 19 = .ok (.ireturn, 1) := by decide +kernel
theorem dL_run_0 : decode cL_run 0 = .ok (.aload 6, 2) := by decide +kernel
theorem dL_run_2 : decode cL_run 2 = .ok (.iconst 0, 1) := by decide +kernel
theorem dL_run_3 : decode cL_run 3 = .ok (.aload_n 0, 1) := by decide +kernel
theorem dL_run_4 : decode cL_run 4 = .ok (.iload_n 1, 1) := by decide +kernel
theorem dL_run_5 : decode cL_run 5 = .ok (.iload_n 2, 1) := by decide +kernel
theorem dL_run_6 : decode cL_run 6 = .ok (.iload_n 3, 1) := by decide +kernel
theorem dL_run_7 : decode cL_run 7 = .ok (.iload 4, 2) := by decide +kernel
theorem dL_run_9 : decode cL_run 9 = .ok (.iload 5, 2) := by decide +kernel
theorem dL_run_11 : decode cL_run 11 = .ok (.invokevirtual 42, 3) := by decide +kernel
theorem dL_run_14 : decode cL_run 14 = .ok (.i2l, 1) := by decide +kernel
theorem dL_run_15 : decode cL_run 15 = .ok (.lastore, 1) := by decide +kernel
theorem dL_run_16 : decode cL_run 16 = .ok (.goto 11, 3) := by decide +kernel
theorem dL_run_19 : decode cL_run 19 = .ok (.astore 7, 2) := by decide +kernel
theorem dL_run_21 : decode cL_run 21 = .ok (.iconst 1, 1) := by decide +kernel
theorem dL_run_22 : decode cL_run 22 = .ok (.ireturn, 1) := by decide +kernel
theorem dL_run_23 : decode cL_run 23 = .ok (.astore 7, 2) := by decide +kernel
theorem dL_run_25 : decode cL_run 25 = .ok (.iconst 2, 1) := by decide +kernel
theorem dL_run_26 : decode cL_run 26 = .ok (.ireturn, 1) := by decide +kernel
theorem dL_run_27 : decode cL_run 27 = .ok (.iconst 0, 1) := by decide +kernel
theorem dL_run_28 : decode cL_run 28 = .ok (.ireturn, 1) := by decide +kernel
theorem dL_told_0 : decode cL_told 0 = .ok (.aload_n 2, 1) := by decide +kernel
theorem dL_told_1 : decode cL_told 1 = .ok (.iconst 0, 1) := by decide +kernel
theorem dL_told_2 : decode cL_told 2 = .ok (.aload_n 0, 1) := by decide +kernel
theorem dL_told_3 : decode cL_told 3 = .ok (.iload_n 1, 1) := by decide +kernel
theorem dL_told_4 : decode cL_told 4 = .ok (.invokevirtual 46, 3) := by decide +kernel
theorem dL_told_7 : decode cL_told 7 = .ok (.i2l, 1) := by decide +kernel
theorem dL_told_8 : decode cL_told 8 = .ok (.lastore, 1) := by decide +kernel
theorem dL_told_9 : decode cL_told 9 = .ok (.goto 6, 3) := by decide +kernel
theorem dL_told_12 : decode cL_told 12 = .ok (.astore_n 3, 1) := by decide +kernel
theorem dL_told_13 : decode cL_told 13 = .ok (.iconst 1, 1) := by decide +kernel
theorem dL_told_14 : decode cL_told 14 = .ok (.ireturn, 1) := by decide +kernel
theorem dL_told_15 : decode cL_told 15 = .ok (.iconst 0, 1) := by decide +kernel
theorem dL_told_16 : decode cL_told 16 = .ok (.ireturn, 1) := by decide +kernel
theorem dL_said_0 : decode cL_said 0 = .ok (.aload_n 2, 1) := by decide +kernel
theorem dL_said_1 : decode cL_said 1 = .ok (.iconst 0, 1) := by decide +kernel
theorem dL_said_2 : decode cL_said 2 = .ok (.aload_n 0, 1) := by decide +kernel
theorem dL_said_3 : decode cL_said 3 = .ok (.iload_n 1, 1) := by decide +kernel
theorem dL_said_4 : decode cL_said 4 = .ok (.invokevirtual 49, 3) := by decide +kernel
theorem dL_said_7 : decode cL_said 7 = .ok (.i2l, 1) := by decide +kernel
theorem dL_said_8 : decode cL_said 8 = .ok (.lastore, 1) := by decide +kernel
theorem dL_said_9 : decode cL_said 9 = .ok (.goto 6, 3) := by decide +kernel
theorem dL_said_12 : decode cL_said 12 = .ok (.astore_n 3, 1) := by decide +kernel
theorem dL_said_13 : decode cL_said 13 = .ok (.iconst 1, 1) := by decide +kernel
theorem dL_said_14 : decode cL_said 14 = .ok (.ireturn, 1) := by decide +kernel
theorem dL_said_15 : decode cL_said 15 = .ok (.iconst 0, 1) := by decide +kernel
theorem dL_said_16 : decode cL_said 16 = .ok (.ireturn, 1) := by decide +kernel
theorem dL_law_0 : decode cL_law 0 = .ok (.new 8, 3) := by decide +kernel
theorem dL_law_3 : decode cL_law 3 = .ok (.dup, 1) := by decide +kernel
theorem dL_law_4 : decode cL_law 4 = .ok (.invokespecial 52, 3) := by decide +kernel
theorem dL_law_7 : decode cL_law 7 = .ok (.astore_n 1, 1) := by decide +kernel
theorem dL_law_8 : decode cL_law 8 = .ok (.new 53, 3) := by decide +kernel
theorem dL_law_11 : decode cL_law 11 = .ok (.dup, 1) := by decide +kernel
theorem dL_law_12 : decode cL_law 12 = .ok (.invokespecial 55, 3) := by decide +kernel
theorem dL_law_15 : decode cL_law 15 = .ok (.astore_n 2, 1) := by decide +kernel
theorem dL_law_16 : decode cL_law 16 = .ok (.iconst 1, 1) := by decide +kernel
theorem dL_law_17 : decode cL_law 17 = .ok (.newarray .long, 2) := by decide +kernel
theorem dL_law_19 : decode cL_law 19 = .ok (.astore_n 3, 1) := by decide +kernel
theorem dL_law_20 : decode cL_law 20 = .ok (.iconst 0, 1) := by decide +kernel
theorem dL_law_21 : decode cL_law 21 = .ok (.istore 4, 2) := by decide +kernel
theorem dL_law_23 : decode cL_law 23 = .ok (.iload 4, 2) := by decide +kernel
theorem dL_law_25 : decode cL_law 25 = .ok (.aload_n 0, 1) := by decide +kernel
theorem dL_law_26 : decode cL_law 26 = .ok (.arraylength, 1) := by decide +kernel
theorem dL_law_27 : decode cL_law 27 = .ok (.bipush 6, 2) := by decide +kernel
theorem dL_law_29 : decode cL_law 29 = .ok (.isub, 1) := by decide +kernel
theorem dL_law_30 : decode cL_law 30 = .ok (.if_icmp .gt 626, 3) := by decide +kernel
theorem dL_law_33 : decode cL_law 33 = .ok (.aload_n 0, 1) := by decide +kernel
theorem dL_law_34 : decode cL_law 34 = .ok (.iload 4, 2) := by decide +kernel
theorem dL_law_36 : decode cL_law 36 = .ok (.iaload, 1) := by decide +kernel
theorem dL_law_37 : decode cL_law 37 = .ok (.bipush 15, 2) := by decide +kernel
theorem dL_law_39 : decode cL_law 39 = .ok (.iand, 1) := by decide +kernel
theorem dL_law_40 : decode cL_law 40 = .ok (.tableswitch 610 0 12 #[68, 96, 160, 220, 233, 246, 274, 314, 366, 406, 434, 526, 582], 68) := by decide +kernel
theorem dL_law_108 : decode cL_law 108 = .ok (.aload_n 1, 1) := by decide +kernel
theorem dL_law_109 : decode cL_law 109 = .ok (.aload_n 0, 1) := by decide +kernel
theorem dL_law_110 : decode cL_law 110 = .ok (.iload 4, 2) := by decide +kernel
theorem dL_law_112 : decode cL_law 112 = .ok (.iconst 1, 1) := by decide +kernel
theorem dL_law_113 : decode cL_law 113 = .ok (.iadd, 1) := by decide +kernel
theorem dL_law_114 : decode cL_law 114 = .ok (.iaload, 1) := by decide +kernel
theorem dL_law_115 : decode cL_law 115 = .ok (.aload_n 3, 1) := by decide +kernel
theorem dL_law_116 : decode cL_law 116 = .ok (.invokestatic 56, 3) := by decide +kernel
theorem dL_law_119 : decode cL_law 119 = .ok (.istore 5, 2) := by decide +kernel
theorem dL_law_121 : decode cL_law 121 = .ok (.aload_n 2, 1) := by decide +kernel
theorem dL_law_122 : decode cL_law 122 = .ok (.aload_n 0, 1) := by decide +kernel
theorem dL_law_123 : decode cL_law 123 = .ok (.iload 4, 2) := by decide +kernel
theorem dL_law_125 : decode cL_law 125 = .ok (.iconst 1, 1) := by decide +kernel
theorem dL_law_126 : decode cL_law 126 = .ok (.iadd, 1) := by decide +kernel
theorem dL_law_127 : decode cL_law 127 = .ok (.iaload, 1) := by decide +kernel
theorem dL_law_128 : decode cL_law 128 = .ok (.invokevirtual 61, 3) := by decide +kernel
theorem dL_law_131 : decode cL_law 131 = .ok (.istore 6, 2) := by decide +kernel
theorem dL_law_133 : decode cL_law 133 = .ok (.goto 517, 3) := by decide +kernel
theorem dL_law_136 : decode cL_law 136 = .ok (.aload_n 1, 1) := by decide +kernel
theorem dL_law_137 : decode cL_law 137 = .ok (.aload_n 0, 1) := by decide +kernel
theorem dL_law_138 : decode cL_law 138 = .ok (.iload 4, 2) := by decide +kernel
theorem dL_law_140 : decode cL_law 140 = .ok (.iconst 1, 1) := by decide +kernel
theorem dL_law_141 : decode cL_law 141 = .ok (.iadd, 1) := by decide +kernel
theorem dL_law_142 : decode cL_law 142 = .ok (.iaload, 1) := by decide +kernel
theorem dL_law_143 : decode cL_law 143 = .ok (.aload_n 0, 1) := by decide +kernel
theorem dL_law_144 : decode cL_law 144 = .ok (.iload 4, 2) := by decide +kernel
theorem dL_law_146 : decode cL_law 146 = .ok (.iconst 2, 1) := by decide +kernel
theorem dL_law_147 : decode cL_law 147 = .ok (.iadd, 1) := by decide +kernel
theorem dL_law_148 : decode cL_law 148 = .ok (.iaload, 1) := by decide +kernel
theorem dL_law_149 : decode cL_law 149 = .ok (.aload_n 0, 1) := by decide +kernel
theorem dL_law_150 : decode cL_law 150 = .ok (.iload 4, 2) := by decide +kernel
theorem dL_law_152 : decode cL_law 152 = .ok (.iconst 3, 1) := by decide +kernel
theorem dL_law_153 : decode cL_law 153 = .ok (.iadd, 1) := by decide +kernel
theorem dL_law_154 : decode cL_law 154 = .ok (.iaload, 1) := by decide +kernel
theorem dL_law_155 : decode cL_law 155 = .ok (.aload_n 0, 1) := by decide +kernel
theorem dL_law_156 : decode cL_law 156 = .ok (.iload 4, 2) := by decide +kernel
theorem dL_law_158 : decode cL_law 158 = .ok (.iconst 4, 1) := by decide +kernel
theorem dL_law_159 : decode cL_law 159 = .ok (.iadd, 1) := by decide +kernel
theorem dL_law_160 : decode cL_law 160 = .ok (.iaload, 1) := by decide +kernel
theorem dL_law_161 : decode cL_law 161 = .ok (.aload_n 3, 1) := by decide +kernel
theorem dL_law_162 : decode cL_law 162 = .ok (.invokestatic 62, 3) := by decide +kernel
theorem dL_law_165 : decode cL_law 165 = .ok (.istore 5, 2) := by decide +kernel
theorem dL_law_167 : decode cL_law 167 = .ok (.aload_n 2, 1) := by decide +kernel
theorem dL_law_168 : decode cL_law 168 = .ok (.aload_n 0, 1) := by decide +kernel
theorem dL_law_169 : decode cL_law 169 = .ok (.iload 4, 2) := by decide +kernel
theorem dL_law_171 : decode cL_law 171 = .ok (.iconst 1, 1) := by decide +kernel
theorem dL_law_172 : decode cL_law 172 = .ok (.iadd, 1) := by decide +kernel
theorem dL_law_173 : decode cL_law 173 = .ok (.iaload, 1) := by decide +kernel
theorem dL_law_174 : decode cL_law 174 = .ok (.aload_n 0, 1) := by decide +kernel
theorem dL_law_175 : decode cL_law 175 = .ok (.iload 4, 2) := by decide +kernel
theorem dL_law_177 : decode cL_law 177 = .ok (.iconst 2, 1) := by decide +kernel
theorem dL_law_178 : decode cL_law 178 = .ok (.iadd, 1) := by decide +kernel
theorem dL_law_179 : decode cL_law 179 = .ok (.iaload, 1) := by decide +kernel
theorem dL_law_180 : decode cL_law 180 = .ok (.aload_n 0, 1) := by decide +kernel
theorem dL_law_181 : decode cL_law 181 = .ok (.iload 4, 2) := by decide +kernel
theorem dL_law_183 : decode cL_law 183 = .ok (.iconst 3, 1) := by decide +kernel
theorem dL_law_184 : decode cL_law 184 = .ok (.iadd, 1) := by decide +kernel
theorem dL_law_185 : decode cL_law 185 = .ok (.iaload, 1) := by decide +kernel
theorem dL_law_186 : decode cL_law 186 = .ok (.aload_n 0, 1) := by decide +kernel
theorem dL_law_187 : decode cL_law 187 = .ok (.iload 4, 2) := by decide +kernel
theorem dL_law_189 : decode cL_law 189 = .ok (.iconst 4, 1) := by decide +kernel
theorem dL_law_190 : decode cL_law 190 = .ok (.iadd, 1) := by decide +kernel
theorem dL_law_191 : decode cL_law 191 = .ok (.iaload, 1) := by decide +kernel
theorem dL_law_192 : decode cL_law 192 = .ok (.invokevirtual 65, 3) := by decide +kernel
theorem dL_law_195 : decode cL_law 195 = .ok (.istore 6, 2) := by decide +kernel
theorem dL_law_197 : decode cL_law 197 = .ok (.goto 453, 3) := by decide +kernel
theorem dL_law_200 : decode cL_law 200 = .ok (.aload_n 1, 1) := by decide +kernel
theorem dL_law_201 : decode cL_law 201 = .ok (.aload_n 0, 1) := by decide +kernel
theorem dL_law_202 : decode cL_law 202 = .ok (.iload 4, 2) := by decide +kernel
theorem dL_law_204 : decode cL_law 204 = .ok (.iconst 1, 1) := by decide +kernel
theorem dL_law_205 : decode cL_law 205 = .ok (.iadd, 1) := by decide +kernel
theorem dL_law_206 : decode cL_law 206 = .ok (.iaload, 1) := by decide +kernel
theorem dL_law_207 : decode cL_law 207 = .ok (.i2l, 1) := by decide +kernel
theorem dL_law_208 : decode cL_law 208 = .ok (.bipush 32, 2) := by decide +kernel
theorem dL_law_210 : decode cL_law 210 = .ok (.lshl, 1) := by decide +kernel
theorem dL_law_211 : decode cL_law 211 = .ok (.aload_n 0, 1) := by decide +kernel
theorem dL_law_212 : decode cL_law 212 = .ok (.iload 4, 2) := by decide +kernel
theorem dL_law_214 : decode cL_law 214 = .ok (.iconst 2, 1) := by decide +kernel
theorem dL_law_215 : decode cL_law 215 = .ok (.iadd, 1) := by decide +kernel
theorem dL_law_216 : decode cL_law 216 = .ok (.iaload, 1) := by decide +kernel
theorem dL_law_217 : decode cL_law 217 = .ok (.i2l, 1) := by decide +kernel
theorem dL_law_218 : decode cL_law 218 = .ok (.ldc2_w 66, 3) := by decide +kernel
theorem dL_law_221 : decode cL_law 221 = .ok (.land, 1) := by decide +kernel
theorem dL_law_222 : decode cL_law 222 = .ok (.lor, 1) := by decide +kernel
theorem dL_law_223 : decode cL_law 223 = .ok (.aload_n 3, 1) := by decide +kernel
theorem dL_law_224 : decode cL_law 224 = .ok (.invokestatic 68, 3) := by decide +kernel
theorem dL_law_227 : decode cL_law 227 = .ok (.istore 5, 2) := by decide +kernel
theorem dL_law_229 : decode cL_law 229 = .ok (.aload_n 2, 1) := by decide +kernel
theorem dL_law_230 : decode cL_law 230 = .ok (.aload_n 0, 1) := by decide +kernel
theorem dL_law_231 : decode cL_law 231 = .ok (.iload 4, 2) := by decide +kernel
theorem dL_law_233 : decode cL_law 233 = .ok (.iconst 1, 1) := by decide +kernel
theorem dL_law_234 : decode cL_law 234 = .ok (.iadd, 1) := by decide +kernel
theorem dL_law_235 : decode cL_law 235 = .ok (.iaload, 1) := by decide +kernel
theorem dL_law_236 : decode cL_law 236 = .ok (.i2l, 1) := by decide +kernel
theorem dL_law_237 : decode cL_law 237 = .ok (.bipush 32, 2) := by decide +kernel
theorem dL_law_239 : decode cL_law 239 = .ok (.lshl, 1) := by decide +kernel
theorem dL_law_240 : decode cL_law 240 = .ok (.aload_n 0, 1) := by decide +kernel
theorem dL_law_241 : decode cL_law 241 = .ok (.iload 4, 2) := by decide +kernel
theorem dL_law_243 : decode cL_law 243 = .ok (.iconst 2, 1) := by decide +kernel
theorem dL_law_244 : decode cL_law 244 = .ok (.iadd, 1) := by decide +kernel
theorem dL_law_245 : decode cL_law 245 = .ok (.iaload, 1) := by decide +kernel
theorem dL_law_246 : decode cL_law 246 = .ok (.i2l, 1) := by decide +kernel
theorem dL_law_247 : decode cL_law 247 = .ok (.ldc2_w 66, 3) := by decide +kernel
theorem dL_law_250 : decode cL_law 250 = .ok (.land, 1) := by decide +kernel
theorem dL_law_251 : decode cL_law 251 = .ok (.lor, 1) := by decide +kernel
theorem dL_law_252 : decode cL_law 252 = .ok (.invokevirtual 71, 3) := by decide +kernel
theorem dL_law_255 : decode cL_law 255 = .ok (.istore 6, 2) := by decide +kernel
theorem dL_law_257 : decode cL_law 257 = .ok (.goto 393, 3) := by decide +kernel
theorem dL_law_260 : decode cL_law 260 = .ok (.aload_n 1, 1) := by decide +kernel
theorem dL_law_261 : decode cL_law 261 = .ok (.invokevirtual 72, 3) := by decide +kernel
theorem dL_law_264 : decode cL_law 264 = .ok (.pop, 1) := by decide +kernel
theorem dL_law_265 : decode cL_law 265 = .ok (.aload_n 2, 1) := by decide +kernel
theorem dL_law_266 : decode cL_law 266 = .ok (.invokevirtual 76, 3) := by decide +kernel
theorem dL_law_269 : decode cL_law 269 = .ok (.pop, 1) := by decide +kernel
theorem dL_law_270 : decode cL_law 270 = .ok (.goto 380, 3) := by decide +kernel
theorem dL_law_273 : decode cL_law 273 = .ok (.aload_n 1, 1) := by decide +kernel
theorem dL_law_274 : decode cL_law 274 = .ok (.invokevirtual 77, 3) := by decide +kernel
theorem dL_law_277 : decode cL_law 277 = .ok (.pop, 1) := by decide +kernel
theorem dL_law_278 : decode cL_law 278 = .ok (.aload_n 2, 1) := by decide +kernel
theorem dL_law_279 : decode cL_law 279 = .ok (.invokevirtual 80, 3) := by decide +kernel
theorem dL_law_282 : decode cL_law 282 = .ok (.pop, 1) := by decide +kernel
theorem dL_law_283 : decode cL_law 283 = .ok (.goto 367, 3) := by decide +kernel
theorem dL_law_286 : decode cL_law 286 = .ok (.aload_n 1, 1) := by decide +kernel
theorem dL_law_287 : decode cL_law 287 = .ok (.aload_n 0, 1) := by decide +kernel
theorem dL_law_288 : decode cL_law 288 = .ok (.iload 4, 2) := by decide +kernel
theorem dL_law_290 : decode cL_law 290 = .ok (.iconst 1, 1) := by decide +kernel
theorem dL_law_291 : decode cL_law 291 = .ok (.iadd, 1) := by decide +kernel
theorem dL_law_292 : decode cL_law 292 = .ok (.iaload, 1) := by decide +kernel
theorem dL_law_293 : decode cL_law 293 = .ok (.aload_n 3, 1) := by decide +kernel
theorem dL_law_294 : decode cL_law 294 = .ok (.invokestatic 81, 3) := by decide +kernel
theorem dL_law_297 : decode cL_law 297 = .ok (.istore 5, 2) := by decide +kernel
theorem dL_law_299 : decode cL_law 299 = .ok (.aload_n 2, 1) := by decide +kernel
theorem dL_law_300 : decode cL_law 300 = .ok (.aload_n 0, 1) := by decide +kernel
theorem dL_law_301 : decode cL_law 301 = .ok (.iload 4, 2) := by decide +kernel
theorem dL_law_303 : decode cL_law 303 = .ok (.iconst 1, 1) := by decide +kernel
theorem dL_law_304 : decode cL_law 304 = .ok (.iadd, 1) := by decide +kernel
theorem dL_law_305 : decode cL_law 305 = .ok (.iaload, 1) := by decide +kernel
theorem dL_law_306 : decode cL_law 306 = .ok (.invokevirtual 83, 3) := by decide +kernel
theorem dL_law_309 : decode cL_law 309 = .ok (.istore 6, 2) := by decide +kernel
theorem dL_law_311 : decode cL_law 311 = .ok (.goto 339, 3) := by decide +kernel
theorem dL_law_314 : decode cL_law 314 = .ok (.aload_n 1, 1) := by decide +kernel
theorem dL_law_315 : decode cL_law 315 = .ok (.aload_n 0, 1) := by decide +kernel
theorem dL_law_316 : decode cL_law 316 = .ok (.iload 4, 2) := by decide +kernel
theorem dL_law_318 : decode cL_law 318 = .ok (.iconst 1, 1) := by decide +kernel
theorem dL_law_319 : decode cL_law 319 = .ok (.iadd, 1) := by decide +kernel
theorem dL_law_320 : decode cL_law 320 = .ok (.iaload, 1) := by decide +kernel
theorem dL_law_321 : decode cL_law 321 = .ok (.aload_n 0, 1) := by decide +kernel
theorem dL_law_322 : decode cL_law 322 = .ok (.iload 4, 2) := by decide +kernel
theorem dL_law_324 : decode cL_law 324 = .ok (.iconst 2, 1) := by decide +kernel
theorem dL_law_325 : decode cL_law 325 = .ok (.iadd, 1) := by decide +kernel
theorem dL_law_326 : decode cL_law 326 = .ok (.iaload, 1) := by decide +kernel
theorem dL_law_327 : decode cL_law 327 = .ok (.aload_n 3, 1) := by decide +kernel
theorem dL_law_328 : decode cL_law 328 = .ok (.invokestatic 84, 3) := by decide +kernel
theorem dL_law_331 : decode cL_law 331 = .ok (.istore 5, 2) := by decide +kernel
theorem dL_law_333 : decode cL_law 333 = .ok (.aload_n 2, 1) := by decide +kernel
theorem dL_law_334 : decode cL_law 334 = .ok (.aload_n 0, 1) := by decide +kernel
theorem dL_law_335 : decode cL_law 335 = .ok (.iload 4, 2) := by decide +kernel
theorem dL_law_337 : decode cL_law 337 = .ok (.iconst 1, 1) := by decide +kernel
theorem dL_law_338 : decode cL_law 338 = .ok (.iadd, 1) := by decide +kernel
theorem dL_law_339 : decode cL_law 339 = .ok (.iaload, 1) := by decide +kernel
theorem dL_law_340 : decode cL_law 340 = .ok (.aload_n 0, 1) := by decide +kernel
theorem dL_law_341 : decode cL_law 341 = .ok (.iload 4, 2) := by decide +kernel
theorem dL_law_343 : decode cL_law 343 = .ok (.iconst 2, 1) := by decide +kernel
theorem dL_law_344 : decode cL_law 344 = .ok (.iadd, 1) := by decide +kernel
theorem dL_law_345 : decode cL_law 345 = .ok (.iaload, 1) := by decide +kernel
theorem dL_law_346 : decode cL_law 346 = .ok (.invokevirtual 87, 3) := by decide +kernel
theorem dL_law_349 : decode cL_law 349 = .ok (.istore 6, 2) := by decide +kernel
theorem dL_law_351 : decode cL_law 351 = .ok (.goto 299, 3) := by decide +kernel
theorem dL_law_354 : decode cL_law 354 = .ok (.aload_n 1, 1) := by decide +kernel
theorem dL_law_355 : decode cL_law 355 = .ok (.aload_n 0, 1) := by decide +kernel
theorem dL_law_356 : decode cL_law 356 = .ok (.iload 4, 2) := by decide +kernel
theorem dL_law_358 : decode cL_law 358 = .ok (.iconst 1, 1) := by decide +kernel
theorem dL_law_359 : decode cL_law 359 = .ok (.iadd, 1) := by decide +kernel
theorem dL_law_360 : decode cL_law 360 = .ok (.iaload, 1) := by decide +kernel
theorem dL_law_361 : decode cL_law 361 = .ok (.aload_n 0, 1) := by decide +kernel
theorem dL_law_362 : decode cL_law 362 = .ok (.iload 4, 2) := by decide +kernel
theorem dL_law_364 : decode cL_law 364 = .ok (.iconst 2, 1) := by decide +kernel
theorem dL_law_365 : decode cL_law 365 = .ok (.iadd, 1) := by decide +kernel
theorem dL_law_366 : decode cL_law 366 = .ok (.iaload, 1) := by decide +kernel
theorem dL_law_367 : decode cL_law 367 = .ok (.aload_n 0, 1) := by decide +kernel
theorem dL_law_368 : decode cL_law 368 = .ok (.iload 4, 2) := by decide +kernel
theorem dL_law_370 : decode cL_law 370 = .ok (.iconst 3, 1) := by decide +kernel
theorem dL_law_371 : decode cL_law 371 = .ok (.iadd, 1) := by decide +kernel
theorem dL_law_372 : decode cL_law 372 = .ok (.iaload, 1) := by decide +kernel
theorem dL_law_373 : decode cL_law 373 = .ok (.aload_n 3, 1) := by decide +kernel
theorem dL_law_374 : decode cL_law 374 = .ok (.invokestatic 88, 3) := by decide +kernel
theorem dL_law_377 : decode cL_law 377 = .ok (.istore 5, 2) := by decide +kernel
theorem dL_law_379 : decode cL_law 379 = .ok (.aload_n 2, 1) := by decide +kernel
theorem dL_law_380 : decode cL_law 380 = .ok (.aload_n 0, 1) := by decide +kernel
theorem dL_law_381 : decode cL_law 381 = .ok (.iload 4, 2) := by decide +kernel
theorem dL_law_383 : decode cL_law 383 = .ok (.iconst 1, 1) := by decide +kernel
theorem dL_law_384 : decode cL_law 384 = .ok (.iadd, 1) := by decide +kernel
theorem dL_law_385 : decode cL_law 385 = .ok (.iaload, 1) := by decide +kernel
theorem dL_law_386 : decode cL_law 386 = .ok (.aload_n 0, 1) := by decide +kernel
theorem dL_law_387 : decode cL_law 387 = .ok (.iload 4, 2) := by decide +kernel
theorem dL_law_389 : decode cL_law 389 = .ok (.iconst 2, 1) := by decide +kernel
theorem dL_law_390 : decode cL_law 390 = .ok (.iadd, 1) := by decide +kernel
theorem dL_law_391 : decode cL_law 391 = .ok (.iaload, 1) := by decide +kernel
theorem dL_law_392 : decode cL_law 392 = .ok (.aload_n 0, 1) := by decide +kernel
theorem dL_law_393 : decode cL_law 393 = .ok (.iload 4, 2) := by decide +kernel
theorem dL_law_395 : decode cL_law 395 = .ok (.iconst 3, 1) := by decide +kernel
theorem dL_law_396 : decode cL_law 396 = .ok (.iadd, 1) := by decide +kernel
theorem dL_law_397 : decode cL_law 397 = .ok (.iaload, 1) := by decide +kernel
theorem dL_law_398 : decode cL_law 398 = .ok (.invokevirtual 91, 3) := by decide +kernel
theorem dL_law_401 : decode cL_law 401 = .ok (.istore 6, 2) := by decide +kernel
theorem dL_law_403 : decode cL_law 403 = .ok (.goto 247, 3) := by decide +kernel
theorem dL_law_406 : decode cL_law 406 = .ok (.aload_n 1, 1) := by decide +kernel
theorem dL_law_407 : decode cL_law 407 = .ok (.aload_n 0, 1) := by decide +kernel
theorem dL_law_408 : decode cL_law 408 = .ok (.iload 4, 2) := by decide +kernel
theorem dL_law_410 : decode cL_law 410 = .ok (.iconst 1, 1) := by decide +kernel
theorem dL_law_411 : decode cL_law 411 = .ok (.iadd, 1) := by decide +kernel
theorem dL_law_412 : decode cL_law 412 = .ok (.iaload, 1) := by decide +kernel
theorem dL_law_413 : decode cL_law 413 = .ok (.aload_n 0, 1) := by decide +kernel
theorem dL_law_414 : decode cL_law 414 = .ok (.iload 4, 2) := by decide +kernel
theorem dL_law_416 : decode cL_law 416 = .ok (.iconst 2, 1) := by decide +kernel
theorem dL_law_417 : decode cL_law 417 = .ok (.iadd, 1) := by decide +kernel
theorem dL_law_418 : decode cL_law 418 = .ok (.iaload, 1) := by decide +kernel
theorem dL_law_419 : decode cL_law 419 = .ok (.aload_n 3, 1) := by decide +kernel
theorem dL_law_420 : decode cL_law 420 = .ok (.invokestatic 92, 3) := by decide +kernel
theorem dL_law_423 : decode cL_law 423 = .ok (.istore 5, 2) := by decide +kernel
theorem dL_law_425 : decode cL_law 425 = .ok (.aload_n 2, 1) := by decide +kernel
theorem dL_law_426 : decode cL_law 426 = .ok (.aload_n 0, 1) := by decide +kernel
theorem dL_law_427 : decode cL_law 427 = .ok (.iload 4, 2) := by decide +kernel
theorem dL_law_429 : decode cL_law 429 = .ok (.iconst 1, 1) := by decide +kernel
theorem dL_law_430 : decode cL_law 430 = .ok (.iadd, 1) := by decide +kernel
theorem dL_law_431 : decode cL_law 431 = .ok (.iaload, 1) := by decide +kernel
theorem dL_law_432 : decode cL_law 432 = .ok (.aload_n 0, 1) := by decide +kernel
theorem dL_law_433 : decode cL_law 433 = .ok (.iload 4, 2) := by decide +kernel
theorem dL_law_435 : decode cL_law 435 = .ok (.iconst 2, 1) := by decide +kernel
theorem dL_law_436 : decode cL_law 436 = .ok (.iadd, 1) := by decide +kernel
theorem dL_law_437 : decode cL_law 437 = .ok (.iaload, 1) := by decide +kernel
theorem dL_law_438 : decode cL_law 438 = .ok (.invokevirtual 94, 3) := by decide +kernel
theorem dL_law_441 : decode cL_law 441 = .ok (.istore 6, 2) := by decide +kernel
theorem dL_law_443 : decode cL_law 443 = .ok (.goto 207, 3) := by decide +kernel
theorem dL_law_446 : decode cL_law 446 = .ok (.aload_n 1, 1) := by decide +kernel
theorem dL_law_447 : decode cL_law 447 = .ok (.aload_n 0, 1) := by decide +kernel
theorem dL_law_448 : decode cL_law 448 = .ok (.iload 4, 2) := by decide +kernel
theorem dL_law_450 : decode cL_law 450 = .ok (.iconst 1, 1) := by decide +kernel
theorem dL_law_451 : decode cL_law 451 = .ok (.iadd, 1) := by decide +kernel
theorem dL_law_452 : decode cL_law 452 = .ok (.iaload, 1) := by decide +kernel
theorem dL_law_453 : decode cL_law 453 = .ok (.aload_n 3, 1) := by decide +kernel
theorem dL_law_454 : decode cL_law 454 = .ok (.invokestatic 95, 3) := by decide +kernel
theorem dL_law_457 : decode cL_law 457 = .ok (.istore 5, 2) := by decide +kernel
theorem dL_law_459 : decode cL_law 459 = .ok (.aload_n 2, 1) := by decide +kernel
theorem dL_law_460 : decode cL_law 460 = .ok (.aload_n 0, 1) := by decide +kernel
theorem dL_law_461 : decode cL_law 461 = .ok (.iload 4, 2) := by decide +kernel
theorem dL_law_463 : decode cL_law 463 = .ok (.iconst 1, 1) := by decide +kernel
theorem dL_law_464 : decode cL_law 464 = .ok (.iadd, 1) := by decide +kernel
theorem dL_law_465 : decode cL_law 465 = .ok (.iaload, 1) := by decide +kernel
theorem dL_law_466 : decode cL_law 466 = .ok (.invokevirtual 97, 3) := by decide +kernel
theorem dL_law_469 : decode cL_law 469 = .ok (.istore 6, 2) := by decide +kernel
theorem dL_law_471 : decode cL_law 471 = .ok (.goto 179, 3) := by decide +kernel
theorem dL_law_474 : decode cL_law 474 = .ok (.aload_n 1, 1) := by decide +kernel
theorem dL_law_475 : decode cL_law 475 = .ok (.aload_n 0, 1) := by decide +kernel
theorem dL_law_476 : decode cL_law 476 = .ok (.iload 4, 2) := by decide +kernel
theorem dL_law_478 : decode cL_law 478 = .ok (.iconst 1, 1) := by decide +kernel
theorem dL_law_479 : decode cL_law 479 = .ok (.iadd, 1) := by decide +kernel
theorem dL_law_480 : decode cL_law 480 = .ok (.iaload, 1) := by decide +kernel
theorem dL_law_481 : decode cL_law 481 = .ok (.aload_n 0, 1) := by decide +kernel
theorem dL_law_482 : decode cL_law 482 = .ok (.iload 4, 2) := by decide +kernel
theorem dL_law_484 : decode cL_law 484 = .ok (.iconst 2, 1) := by decide +kernel
theorem dL_law_485 : decode cL_law 485 = .ok (.iadd, 1) := by decide +kernel
theorem dL_law_486 : decode cL_law 486 = .ok (.iaload, 1) := by decide +kernel
theorem dL_law_487 : decode cL_law 487 = .ok (.aload_n 0, 1) := by decide +kernel
theorem dL_law_488 : decode cL_law 488 = .ok (.iload 4, 2) := by decide +kernel
theorem dL_law_490 : decode cL_law 490 = .ok (.iconst 3, 1) := by decide +kernel
theorem dL_law_491 : decode cL_law 491 = .ok (.iadd, 1) := by decide +kernel
theorem dL_law_492 : decode cL_law 492 = .ok (.iaload, 1) := by decide +kernel
theorem dL_law_493 : decode cL_law 493 = .ok (.aload_n 0, 1) := by decide +kernel
theorem dL_law_494 : decode cL_law 494 = .ok (.iload 4, 2) := by decide +kernel
theorem dL_law_496 : decode cL_law 496 = .ok (.iconst 4, 1) := by decide +kernel
theorem dL_law_497 : decode cL_law 497 = .ok (.iadd, 1) := by decide +kernel
theorem dL_law_498 : decode cL_law 498 = .ok (.iaload, 1) := by decide +kernel
theorem dL_law_499 : decode cL_law 499 = .ok (.aload_n 0, 1) := by decide +kernel
theorem dL_law_500 : decode cL_law 500 = .ok (.iload 4, 2) := by decide +kernel
theorem dL_law_502 : decode cL_law 502 = .ok (.iconst 5, 1) := by decide +kernel
theorem dL_law_503 : decode cL_law 503 = .ok (.iadd, 1) := by decide +kernel
theorem dL_law_504 : decode cL_law 504 = .ok (.iaload, 1) := by decide +kernel
theorem dL_law_505 : decode cL_law 505 = .ok (.ifCond .eq 7, 3) := by decide +kernel
theorem dL_law_508 : decode cL_law 508 = .ok (.iconst 1, 1) := by decide +kernel
theorem dL_law_509 : decode cL_law 509 = .ok (.goto 4, 3) := by decide +kernel
theorem dL_law_512 : decode cL_law 512 = .ok (.iconst 0, 1) := by decide +kernel
theorem dL_law_513 : decode cL_law 513 = .ok (.aload_n 3, 1) := by decide +kernel
theorem dL_law_514 : decode cL_law 514 = .ok (.invokestatic 98, 3) := by decide +kernel
theorem dL_law_517 : decode cL_law 517 = .ok (.istore 5, 2) := by decide +kernel
theorem dL_law_519 : decode cL_law 519 = .ok (.aload_n 2, 1) := by decide +kernel
theorem dL_law_520 : decode cL_law 520 = .ok (.aload_n 0, 1) := by decide +kernel
theorem dL_law_521 : decode cL_law 521 = .ok (.iload 4, 2) := by decide +kernel
theorem dL_law_523 : decode cL_law 523 = .ok (.iconst 1, 1) := by decide +kernel
theorem dL_law_524 : decode cL_law 524 = .ok (.iadd, 1) := by decide +kernel
theorem dL_law_525 : decode cL_law 525 = .ok (.iaload, 1) := by decide +kernel
theorem dL_law_526 : decode cL_law 526 = .ok (.aload_n 0, 1) := by decide +kernel
theorem dL_law_527 : decode cL_law 527 = .ok (.iload 4, 2) := by decide +kernel
theorem dL_law_529 : decode cL_law 529 = .ok (.iconst 2, 1) := by decide +kernel
theorem dL_law_530 : decode cL_law 530 = .ok (.iadd, 1) := by decide +kernel
theorem dL_law_531 : decode cL_law 531 = .ok (.iaload, 1) := by decide +kernel
theorem dL_law_532 : decode cL_law 532 = .ok (.aload_n 0, 1) := by decide +kernel
theorem dL_law_533 : decode cL_law 533 = .ok (.iload 4, 2) := by decide +kernel
theorem dL_law_535 : decode cL_law 535 = .ok (.iconst 3, 1) := by decide +kernel
theorem dL_law_536 : decode cL_law 536 = .ok (.iadd, 1) := by decide +kernel
theorem dL_law_537 : decode cL_law 537 = .ok (.iaload, 1) := by decide +kernel
theorem dL_law_538 : decode cL_law 538 = .ok (.aload_n 0, 1) := by decide +kernel
theorem dL_law_539 : decode cL_law 539 = .ok (.iload 4, 2) := by decide +kernel
theorem dL_law_541 : decode cL_law 541 = .ok (.iconst 4, 1) := by decide +kernel
theorem dL_law_542 : decode cL_law 542 = .ok (.iadd, 1) := by decide +kernel
theorem dL_law_543 : decode cL_law 543 = .ok (.iaload, 1) := by decide +kernel
theorem dL_law_544 : decode cL_law 544 = .ok (.aload_n 0, 1) := by decide +kernel
theorem dL_law_545 : decode cL_law 545 = .ok (.iload 4, 2) := by decide +kernel
theorem dL_law_547 : decode cL_law 547 = .ok (.iconst 5, 1) := by decide +kernel
theorem dL_law_548 : decode cL_law 548 = .ok (.iadd, 1) := by decide +kernel
theorem dL_law_549 : decode cL_law 549 = .ok (.iaload, 1) := by decide +kernel
theorem dL_law_550 : decode cL_law 550 = .ok (.ifCond .eq 7, 3) := by decide +kernel
theorem dL_law_553 : decode cL_law 553 = .ok (.iconst 1, 1) := by decide +kernel
theorem dL_law_554 : decode cL_law 554 = .ok (.goto 4, 3) := by decide +kernel
theorem dL_law_557 : decode cL_law 557 = .ok (.iconst 0, 1) := by decide +kernel
theorem dL_law_558 : decode cL_law 558 = .ok (.invokevirtual 101, 3) := by decide +kernel
theorem dL_law_561 : decode cL_law 561 = .ok (.istore 6, 2) := by decide +kernel
theorem dL_law_563 : decode cL_law 563 = .ok (.goto 87, 3) := by decide +kernel
theorem dL_law_566 : decode cL_law 566 = .ok (.aload_n 1, 1) := by decide +kernel
theorem dL_law_567 : decode cL_law 567 = .ok (.aload_n 0, 1) := by decide +kernel
theorem dL_law_568 : decode cL_law 568 = .ok (.iload 4, 2) := by decide +kernel
theorem dL_law_570 : decode cL_law 570 = .ok (.iconst 1, 1) := by decide +kernel
theorem dL_law_571 : decode cL_law 571 = .ok (.iadd, 1) := by decide +kernel
theorem dL_law_572 : decode cL_law 572 = .ok (.iaload, 1) := by decide +kernel
theorem dL_law_573 : decode cL_law 573 = .ok (.aload_n 3, 1) := by decide +kernel
theorem dL_law_574 : decode cL_law 574 = .ok (.invokestatic 102, 3) := by decide +kernel
theorem dL_law_577 : decode cL_law 577 = .ok (.istore 5, 2) := by decide +kernel
theorem dL_law_579 : decode cL_law 579 = .ok (.aload_n 2, 1) := by decide +kernel
theorem dL_law_580 : decode cL_law 580 = .ok (.aload_n 0, 1) := by decide +kernel
theorem dL_law_581 : decode cL_law 581 = .ok (.iload 4, 2) := by decide +kernel
theorem dL_law_583 : decode cL_law 583 = .ok (.iconst 1, 1) := by decide +kernel
theorem dL_law_584 : decode cL_law 584 = .ok (.iadd, 1) := by decide +kernel
theorem dL_law_585 : decode cL_law 585 = .ok (.iaload, 1) := by decide +kernel
theorem dL_law_586 : decode cL_law 586 = .ok (.invokevirtual 104, 3) := by decide +kernel
theorem dL_law_589 : decode cL_law 589 = .ok (.istore 6, 2) := by decide +kernel
theorem dL_law_591 : decode cL_law 591 = .ok (.aload_n 2, 1) := by decide +kernel
theorem dL_law_592 : decode cL_law 592 = .ok (.invokevirtual 105, 3) := by decide +kernel
theorem dL_law_595 : decode cL_law 595 = .ok (.iload 5, 2) := by decide +kernel
theorem dL_law_597 : decode cL_law 597 = .ok (.if_icmp .eq 5, 3) := by decide +kernel
theorem dL_law_600 : decode cL_law 600 = .ok (.iconst 0, 1) := by decide +kernel
theorem dL_law_601 : decode cL_law 601 = .ok (.ireturn, 1) := by decide +kernel
theorem dL_law_602 : decode cL_law 602 = .ok (.iload 5, 2) := by decide +kernel
theorem dL_law_604 : decode cL_law 604 = .ok (.ifCond .ne 15, 3) := by decide +kernel
theorem dL_law_607 : decode cL_law 607 = .ok (.aload_n 3, 1) := by decide +kernel
theorem dL_law_608 : decode cL_law 608 = .ok (.iconst 0, 1) := by decide +kernel
theorem dL_law_609 : decode cL_law 609 = .ok (.laload, 1) := by decide +kernel
theorem dL_law_610 : decode cL_law 610 = .ok (.iload 6, 2) := by decide +kernel
theorem dL_law_612 : decode cL_law 612 = .ok (.i2l, 1) := by decide +kernel
theorem dL_law_613 : decode cL_law 613 = .ok (.lcmp, 1) := by decide +kernel
theorem dL_law_614 : decode cL_law 614 = .ok (.ifCond .eq 5, 3) := by decide +kernel
theorem dL_law_617 : decode cL_law 617 = .ok (.iconst 0, 1) := by decide +kernel
theorem dL_law_618 : decode cL_law 618 = .ok (.ireturn, 1) := by decide +kernel
theorem dL_law_619 : decode cL_law 619 = .ok (.goto 31, 3) := by decide +kernel
theorem dL_law_622 : decode cL_law 622 = .ok (.aload_n 1, 1) := by decide +kernel
theorem dL_law_623 : decode cL_law 623 = .ok (.aload_n 0, 1) := by decide +kernel
theorem dL_law_624 : decode cL_law 624 = .ok (.iload 4, 2) := by decide +kernel
theorem dL_law_626 : decode cL_law 626 = .ok (.iconst 1, 1) := by decide +kernel
theorem dL_law_627 : decode cL_law 627 = .ok (.iadd, 1) := by decide +kernel
theorem dL_law_628 : decode cL_law 628 = .ok (.iaload, 1) := by decide +kernel
theorem dL_law_629 : decode cL_law 629 = .ok (.aload_n 3, 1) := by decide +kernel
theorem dL_law_630 : decode cL_law 630 = .ok (.invokestatic 108, 3) := by decide +kernel
theorem dL_law_633 : decode cL_law 633 = .ok (.istore 5, 2) := by decide +kernel
theorem dL_law_635 : decode cL_law 635 = .ok (.aload_n 2, 1) := by decide +kernel
theorem dL_law_636 : decode cL_law 636 = .ok (.aload_n 0, 1) := by decide +kernel
theorem dL_law_637 : decode cL_law 637 = .ok (.iload 4, 2) := by decide +kernel
theorem dL_law_639 : decode cL_law 639 = .ok (.iconst 1, 1) := by decide +kernel
theorem dL_law_640 : decode cL_law 640 = .ok (.iadd, 1) := by decide +kernel
theorem dL_law_641 : decode cL_law 641 = .ok (.iaload, 1) := by decide +kernel
theorem dL_law_642 : decode cL_law 642 = .ok (.invokevirtual 110, 3) := by decide +kernel
theorem dL_law_645 : decode cL_law 645 = .ok (.istore 6, 2) := by decide +kernel
theorem dL_law_647 : decode cL_law 647 = .ok (.goto 3, 3) := by decide +kernel
theorem dL_law_650 : decode cL_law 650 = .ok (.iinc 4 6, 3) := by decide +kernel
theorem dL_law_653 : decode cL_law 653 = .ok (.goto (-630), 3) := by decide +kernel
theorem dL_law_656 : decode cL_law 656 = .ok (.iconst 1, 1) := by decide +kernel
theorem dL_law_657 : decode cL_law 657 = .ok (.ireturn, 1) := by decide +kernel
theorem dJ9_max_7cf53_0 : decode cJ9_max_7cf53 0 = .ok (.iload_n 0, 1) := by decide +kernel
theorem dJ9_max_7cf53_1 : decode cJ9_max_7cf53 1 = .ok (.iload_n 1, 1) := by decide +kernel
theorem dJ9_max_7cf53_2 : decode cJ9_max_7cf53 2 = .ok (.if_icmp .lt 7, 3) := by decide +kernel
theorem dJ9_max_7cf53_5 : decode cJ9_max_7cf53 5 = .ok (.iload_n 0, 1) := by decide +kernel
theorem dJ9_max_7cf53_6 : decode cJ9_max_7cf53 6 = .ok (.goto 4, 3) := by decide +kernel
theorem dJ9_max_7cf53_9 : decode cJ9_max_7cf53 9 = .ok (.iload_n 1, 1) := by decide +kernel
theorem dJ9_max_7cf53_10 : decode cJ9_max_7cf53 10 = .ok (.ireturn, 1) := by decide +kernel
theorem dJ9_min_7cf53_0 : decode cJ9_min_7cf53 0 = .ok (.iload_n 0, 1) := by decide +kernel
theorem dJ9_min_7cf53_1 : decode cJ9_min_7cf53 1 = .ok (.iload_n 1, 1) := by decide +kernel
theorem dJ9_min_7cf53_2 : decode cJ9_min_7cf53 2 = .ok (.if_icmp .gt 7, 3) := by decide +kernel
theorem dJ9_min_7cf53_5 : decode cJ9_min_7cf53 5 = .ok (.iload_n 0, 1) := by decide +kernel
theorem dJ9_min_7cf53_6 : decode cJ9_min_7cf53 6 = .ok (.goto 4, 3) := by decide +kernel
theorem dJ9_min_7cf53_9 : decode cJ9_min_7cf53 9 = .ok (.iload_n 1, 1) := by decide +kernel
theorem dJ9_min_7cf53_10 : decode cJ9_min_7cf53 10 = .ok (.ireturn, 1) := by decide +kernel
theorem dJ7_copyOf_9075b_0 : decode cJ7_copyOf_9075b 0 = .ok (.iload_n 1, 1) := by decide +kernel
theorem dJ7_copyOf_9075b_1 : decode cJ7_copyOf_9075b 1 = .ok (.aload_n 0, 1) := by decide +kernel
theorem dJ7_copyOf_9075b_2 : decode cJ7_copyOf_9075b 2 = .ok (.arraylength, 1) := by decide +kernel
theorem dJ7_copyOf_9075b_3 : decode cJ7_copyOf_9075b 3 = .ok (.if_icmp .ne 11, 3) := by decide +kernel
theorem dJ7_copyOf_9075b_6 : decode cJ7_copyOf_9075b 6 = .ok (.aload_n 0, 1) := by decide +kernel
theorem dJ7_copyOf_9075b_7 : decode cJ7_copyOf_9075b 7 = .ok (.invokevirtual 310, 3) := by decide +kernel
theorem dJ7_copyOf_9075b_10 : decode cJ7_copyOf_9075b 10 = .ok (.checkcast 311, 3) := by decide +kernel
theorem dJ7_copyOf_9075b_13 : decode cJ7_copyOf_9075b 13 = .ok (.areturn, 1) := by decide +kernel
theorem dJ7_copyOf_9075b_14 : decode cJ7_copyOf_9075b 14 = .ok (.iload_n 1, 1) := by decide +kernel
theorem dJ7_copyOf_9075b_15 : decode cJ7_copyOf_9075b 15 = .ok (.newarray .byte, 2) := by decide +kernel
theorem dJ7_copyOf_9075b_17 : decode cJ7_copyOf_9075b 17 = .ok (.astore_n 2, 1) := by decide +kernel
theorem dJ7_copyOf_9075b_18 : decode cJ7_copyOf_9075b 18 = .ok (.aload_n 0, 1) := by decide +kernel
theorem dJ7_copyOf_9075b_19 : decode cJ7_copyOf_9075b 19 = .ok (.iconst 0, 1) := by decide +kernel
theorem dJ7_copyOf_9075b_20 : decode cJ7_copyOf_9075b 20 = .ok (.aload_n 2, 1) := by decide +kernel
theorem dJ7_copyOf_9075b_21 : decode cJ7_copyOf_9075b 21 = .ok (.iconst 0, 1) := by decide +kernel
theorem dJ7_copyOf_9075b_22 : decode cJ7_copyOf_9075b 22 = .ok (.aload_n 0, 1) := by decide +kernel
theorem dJ7_copyOf_9075b_23 : decode cJ7_copyOf_9075b 23 = .ok (.arraylength, 1) := by decide +kernel
theorem dJ7_copyOf_9075b_24 : decode cJ7_copyOf_9075b 24 = .ok (.iload_n 1, 1) := by decide +kernel
theorem dJ7_copyOf_9075b_25 : decode cJ7_copyOf_9075b 25 = .ok (.invokestatic 304, 3) := by decide +kernel
theorem dJ7_copyOf_9075b_28 : decode cJ7_copyOf_9075b 28 = .ok (.invokestatic 150, 3) := by decide +kernel
theorem dJ7_copyOf_9075b_31 : decode cJ7_copyOf_9075b 31 = .ok (.aload_n 2, 1) := by decide +kernel
theorem dJ7_copyOf_9075b_32 : decode cJ7_copyOf_9075b 32 = .ok (.areturn, 1) := by decide +kernel
theorem dJ7_copyOf_59c91_0 : decode cJ7_copyOf_59c91 0 = .ok (.iload_n 1, 1) := by decide +kernel
theorem dJ7_copyOf_59c91_1 : decode cJ7_copyOf_59c91 1 = .ok (.aload_n 0, 1) := by decide +kernel
theorem dJ7_copyOf_59c91_2 : decode cJ7_copyOf_59c91 2 = .ok (.arraylength, 1) := by decide +kernel
theorem dJ7_copyOf_59c91_3 : decode cJ7_copyOf_59c91 3 = .ok (.if_icmp .ne 11, 3) := by decide +kernel
theorem dJ7_copyOf_59c91_6 : decode cJ7_copyOf_59c91 6 = .ok (.aload_n 0, 1) := by decide +kernel
theorem dJ7_copyOf_59c91_7 : decode cJ7_copyOf_59c91 7 = .ok (.invokevirtual 316, 3) := by decide +kernel
theorem dJ7_copyOf_59c91_10 : decode cJ7_copyOf_59c91 10 = .ok (.checkcast 317, 3) := by decide +kernel
theorem dJ7_copyOf_59c91_13 : decode cJ7_copyOf_59c91 13 = .ok (.areturn, 1) := by decide +kernel
theorem dJ7_copyOf_59c91_14 : decode cJ7_copyOf_59c91 14 = .ok (.iload_n 1, 1) := by decide +kernel
theorem dJ7_copyOf_59c91_15 : decode cJ7_copyOf_59c91 15 = .ok (.newarray .int, 2) := by decide +kernel
theorem dJ7_copyOf_59c91_17 : decode cJ7_copyOf_59c91 17 = .ok (.astore_n 2, 1) := by decide +kernel
theorem dJ7_copyOf_59c91_18 : decode cJ7_copyOf_59c91 18 = .ok (.aload_n 0, 1) := by decide +kernel
theorem dJ7_copyOf_59c91_19 : decode cJ7_copyOf_59c91 19 = .ok (.iconst 0, 1) := by decide +kernel
theorem dJ7_copyOf_59c91_20 : decode cJ7_copyOf_59c91 20 = .ok (.aload_n 2, 1) := by decide +kernel
theorem dJ7_copyOf_59c91_21 : decode cJ7_copyOf_59c91 21 = .ok (.iconst 0, 1) := by decide +kernel
theorem dJ7_copyOf_59c91_22 : decode cJ7_copyOf_59c91 22 = .ok (.aload_n 0, 1) := by decide +kernel
theorem dJ7_copyOf_59c91_23 : decode cJ7_copyOf_59c91 23 = .ok (.arraylength, 1) := by decide +kernel
theorem dJ7_copyOf_59c91_24 : decode cJ7_copyOf_59c91 24 = .ok (.iload_n 1, 1) := by decide +kernel
theorem dJ7_copyOf_59c91_25 : decode cJ7_copyOf_59c91 25 = .ok (.invokestatic 304, 3) := by decide +kernel
theorem dJ7_copyOf_59c91_28 : decode cJ7_copyOf_59c91 28 = .ok (.invokestatic 150, 3) := by decide +kernel
theorem dJ7_copyOf_59c91_31 : decode cJ7_copyOf_59c91 31 = .ok (.aload_n 2, 1) := by decide +kernel
theorem dJ7_copyOf_59c91_32 : decode cJ7_copyOf_59c91 32 = .ok (.areturn, 1) := by decide +kernel
