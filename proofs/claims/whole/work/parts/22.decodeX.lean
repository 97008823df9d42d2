/-! decode rows: by program -/
theorem dX_init_0 : decode cX_init 0 = .ok (.aload_n 0, 1) := by decide +kernel
theorem dX_init_1 : decode cX_init 1 = .ok (.invokespecial 1, 3) := by decide +kernel
theorem dX_init_4 : decode cX_init 4 = .ok (.aload_n 0, 1) := by decide +kernel
theorem dX_init_5 : decode cX_init 5 = .ok (.bipush 8, 2) := by decide +kernel
theorem dX_init_7 : decode cX_init 7 = .ok (.newarray .int, 2) := by decide +kernel
theorem dX_init_9 : decode cX_init 9 = .ok (.putfield 9, 3) := by decide +kernel
theorem dX_init_12 : decode cX_init 12 = .ok (.aload_n 0, 1) := by decide +kernel
theorem dX_init_13 : decode cX_init 13 = .ok (.bipush 32, 2) := by decide +kernel
theorem dX_init_15 : decode cX_init 15 = .ok (.newarray .int, 2) := by decide +kernel
theorem dX_init_17 : decode cX_init 17 = .ok (.putfield 13, 3) := by decide +kernel
theorem dX_init_20 : decode cX_init 20 = .ok (.aload_n 0, 1) := by decide +kernel
theorem dX_init_21 : decode cX_init 21 = .ok (.sipush 512, 3) := by decide +kernel
theorem dX_init_24 : decode cX_init 24 = .ok (.newarray .int, 2) := by decide +kernel
theorem dX_init_26 : decode cX_init 26 = .ok (.putfield 16, 3) := by decide +kernel
theorem dX_init_29 : decode cX_init 29 = .ok (.aload_n 0, 1) := by decide +kernel
theorem dX_init_30 : decode cX_init 30 = .ok (.sipush 512, 3) := by decide +kernel
theorem dX_init_33 : decode cX_init 33 = .ok (.newarray .long, 2) := by decide +kernel
theorem dX_init_35 : decode cX_init 35 = .ok (.putfield 19, 3) := by decide +kernel
theorem dX_init_38 : decode cX_init 38 = .ok (.aload_n 0, 1) := by decide +kernel
theorem dX_init_39 : decode cX_init 39 = .ok (.bipush 16, 2) := by decide +kernel
theorem dX_init_41 : decode cX_init 41 = .ok (.newarray .int, 2) := by decide +kernel
theorem dX_init_43 : decode cX_init 43 = .ok (.putfield 23, 3) := by decide +kernel
theorem dX_init_46 : decode cX_init 46 = .ok (.aload_n 0, 1) := by decide +kernel
theorem dX_init_47 : decode cX_init 47 = .ok (.iconst 0, 1) := by decide +kernel
theorem dX_init_48 : decode cX_init 48 = .ok (.putfield 26, 3) := by decide +kernel
theorem dX_init_51 : decode cX_init 51 = .ok (.aload_n 0, 1) := by decide +kernel
theorem dX_init_52 : decode cX_init 52 = .ok (.iconst 1, 1) := by decide +kernel
theorem dX_init_53 : decode cX_init 53 = .ok (.putfield 30, 3) := by decide +kernel
theorem dX_init_56 : decode cX_init 56 = .ok (.aload_n 0, 1) := by decide +kernel
theorem dX_init_57 : decode cX_init 57 = .ok (.iconst 0, 1) := by decide +kernel
theorem dX_init_58 : decode cX_init 58 = .ok (.putfield 33, 3) := by decide +kernel
theorem dX_init_61 : decode cX_init 61 = .ok (.aload_n 0, 1) := by decide +kernel
theorem dX_init_62 : decode cX_init 62 = .ok (.iconst 0, 1) := by decide +kernel
theorem dX_init_63 : decode cX_init 63 = .ok (.putfield 36, 3) := by decide +kernel
theorem dX_init_66 : decode cX_init 66 = .ok (.return_, 1) := by decide +kernel
theorem dX_dimension_0 : decode cX_dimension 0 = .ok (.iload_n 1, 1) := by decide +kernel
theorem dX_dimension_1 : decode cX_dimension 1 = .ok (.iconst 1, 1) := by decide +kernel
theorem dX_dimension_2 : decode cX_dimension 2 = .ok (.if_icmp .lt 8, 3) := by decide +kernel
theorem dX_dimension_5 : decode cX_dimension 5 = .ok (.iload_n 1, 1) := by decide +kernel
theorem dX_dimension_6 : decode cX_dimension 6 = .ok (.iconst 4, 1) := by decide +kernel
theorem dX_dimension_7 : decode cX_dimension 7 = .ok (.if_icmp .le 13, 3) := by decide +kernel
theorem dX_dimension_10 : decode cX_dimension 10 = .ok (.new 39, 3) := by decide +kernel
theorem dX_dimension_13 : decode cX_dimension 13 = .ok (.dup, 1) := by decide +kernel
theorem dX_dimension_14 : decode cX_dimension 14 = .ok (.ldc 41, 2) := by decide +kernel
theorem dX_dimension_16 : decode cX_dimension 16 = .ok (.invokespecial 43, 3) := by decide +kernel
theorem dX_dimension_19 : decode cX_dimension 19 = .ok (.athrow, 1) := by decide +kernel
theorem dX_dimension_20 : decode cX_dimension 20 = .ok (.aload_n 0, 1) := by decide +kernel
theorem dX_dimension_21 : decode cX_dimension 21 = .ok (.getfield 26, 3) := by decide +kernel
theorem dX_dimension_24 : decode cX_dimension 24 = .ok (.bipush 8, 2) := by decide +kernel
theorem dX_dimension_26 : decode cX_dimension 26 = .ok (.if_icmp .lt 13, 3) := by decide +kernel
theorem dX_dimension_29 : decode cX_dimension 29 = .ok (.new 46, 3) := by decide +kernel
theorem dX_dimension_32 : decode cX_dimension 32 = .ok (.dup, 1) := by decide +kernel
theorem dX_dimension_33 : decode cX_dimension 33 = .ok (.ldc 48, 2) := by decide +kernel
theorem dX_dimension_35 : decode cX_dimension 35 = .ok (.invokespecial 50, 3) := by decide +kernel
theorem dX_dimension_38 : decode cX_dimension 38 = .ok (.athrow, 1) := by decide +kernel
theorem dX_dimension_39 : decode cX_dimension 39 = .ok (.aload_n 0, 1) := by decide +kernel
theorem dX_dimension_40 : decode cX_dimension 40 = .ok (.getfield 30, 3) := by decide +kernel
theorem dX_dimension_43 : decode cX_dimension 43 = .ok (.iload_n 1, 1) := by decide +kernel
theorem dX_dimension_44 : decode cX_dimension 44 = .ok (.iconst 1, 1) := by decide +kernel
theorem dX_dimension_45 : decode cX_dimension 45 = .ok (.iadd, 1) := by decide +kernel
theorem dX_dimension_46 : decode cX_dimension 46 = .ok (.imul, 1) := by decide +kernel
theorem dX_dimension_47 : decode cX_dimension 47 = .ok (.sipush 512, 3) := by decide +kernel
theorem dX_dimension_50 : decode cX_dimension 50 = .ok (.if_icmp .le 13, 3) := by decide +kernel
theorem dX_dimension_53 : decode cX_dimension 53 = .ok (.new 46, 3) := by decide +kernel
theorem dX_dimension_56 : decode cX_dimension 56 = .ok (.dup, 1) := by decide +kernel
theorem dX_dimension_57 : decode cX_dimension 57 = .ok (.ldc 51, 2) := by decide +kernel
theorem dX_dimension_59 : decode cX_dimension 59 = .ok (.invokespecial 50, 3) := by decide +kernel
theorem dX_dimension_62 : decode cX_dimension 62 = .ok (.athrow, 1) := by decide +kernel
theorem dX_dimension_63 : decode cX_dimension 63 = .ok (.aload_n 0, 1) := by decide +kernel
theorem dX_dimension_64 : decode cX_dimension 64 = .ok (.getfield 26, 3) := by decide +kernel
theorem dX_dimension_67 : decode cX_dimension 67 = .ok (.istore_n 2, 1) := by decide +kernel
theorem dX_dimension_68 : decode cX_dimension 68 = .ok (.aload_n 0, 1) := by decide +kernel
theorem dX_dimension_69 : decode cX_dimension 69 = .ok (.iload_n 2, 1) := by decide +kernel
theorem dX_dimension_70 : decode cX_dimension 70 = .ok (.iload_n 1, 1) := by decide +kernel
theorem dX_dimension_71 : decode cX_dimension 71 = .ok (.iconst 1, 1) := by decide +kernel
theorem dX_dimension_72 : decode cX_dimension 72 = .ok (.iadd, 1) := by decide +kernel
theorem dX_dimension_73 : decode cX_dimension 73 = .ok (.invokevirtual 53, 3) := by decide +kernel
theorem dX_dimension_76 : decode cX_dimension 76 = .ok (.aload_n 0, 1) := by decide +kernel
theorem dX_dimension_77 : decode cX_dimension 77 = .ok (.getfield 9, 3) := by decide +kernel
theorem dX_dimension_80 : decode cX_dimension 80 = .ok (.iload_n 2, 1) := by decide +kernel
theorem dX_dimension_81 : decode cX_dimension 81 = .ok (.iload_n 1, 1) := by decide +kernel
theorem dX_dimension_82 : decode cX_dimension 82 = .ok (.iastore, 1) := by decide +kernel
theorem dX_dimension_83 : decode cX_dimension 83 = .ok (.aload_n 0, 1) := by decide +kernel
theorem dX_dimension_84 : decode cX_dimension 84 = .ok (.iload_n 2, 1) := by decide +kernel
theorem dX_dimension_85 : decode cX_dimension 85 = .ok (.iconst 1, 1) := by decide +kernel
theorem dX_dimension_86 : decode cX_dimension 86 = .ok (.iadd, 1) := by decide +kernel
theorem dX_dimension_87 : decode cX_dimension 87 = .ok (.putfield 26, 3) := by decide +kernel
theorem dX_dimension_90 : decode cX_dimension 90 = .ok (.aload_n 0, 1) := by decide +kernel
theorem dX_dimension_91 : decode cX_dimension 91 = .ok (.invokevirtual 57, 3) := by decide +kernel
theorem dX_dimension_94 : decode cX_dimension 94 = .ok (.iload_n 2, 1) := by decide +kernel
theorem dX_dimension_95 : decode cX_dimension 95 = .ok (.ireturn, 1) := by decide +kernel
theorem dX_values_0 : decode cX_values 0 = .ok (.aload_n 0, 1) := by decide +kernel
theorem dX_values_1 : decode cX_values 1 = .ok (.iload_n 1, 1) := by decide +kernel
theorem dX_values_2 : decode cX_values 2 = .ok (.invokevirtual 60, 3) := by decide +kernel
theorem dX_values_5 : decode cX_values 5 = .ok (.iload_n 2, 1) := by decide +kernel
theorem dX_values_6 : decode cX_values 6 = .ok (.ifCond .lt 13, 3) := by decide +kernel
theorem dX_values_9 : decode cX_values 9 = .ok (.iload_n 2, 1) := by decide +kernel
theorem dX_values_10 : decode cX_values 10 = .ok (.aload_n 0, 1) := by decide +kernel
theorem dX_values_11 : decode cX_values 11 = .ok (.getfield 9, 3) := by decide +kernel
theorem dX_values_14 : decode cX_values 14 = .ok (.iload_n 1, 1) := by decide +kernel
theorem dX_values_15 : decode cX_values 15 = .ok (.iaload, 1) := by decide +kernel
theorem dX_values_16 : decode cX_values 16 = .ok (.if_icmp .lt 13, 3) := by decide +kernel
theorem dX_values_19 : decode cX_values 19 = .ok (.new 39, 3) := by decide +kernel
theorem dX_values_22 : decode cX_values 22 = .ok (.dup, 1) := by decide +kernel
theorem dX_values_23 : decode cX_values 23 = .ok (.ldc 64, 2) := by decide +kernel
theorem dX_values_25 : decode cX_values 25 = .ok (.invokespecial 43, 3) := by decide +kernel
theorem dX_values_28 : decode cX_values 28 = .ok (.athrow, 1) := by decide +kernel
theorem dX_values_29 : decode cX_values 29 = .ok (.iload_n 3, 1) := by decide +kernel
theorem dX_values_30 : decode cX_values 30 = .ok (.ifCond .lt 9, 3) := by decide +kernel
theorem dX_values_33 : decode cX_values 33 = .ok (.iload_n 3, 1) := by decide +kernel
theorem dX_values_34 : decode cX_values 34 = .ok (.ldc 66, 2) := by decide +kernel
theorem dX_values_36 : decode cX_values 36 = .ok (.if_icmp .le 13, 3) := by decide +kernel
theorem dX_values_39 : decode cX_values 39 = .ok (.new 39, 3) := by decide +kernel
theorem dX_values_42 : decode cX_values 42 = .ok (.dup, 1) := by decide +kernel
theorem dX_values_43 : decode cX_values 43 = .ok (.ldc 67, 2) := by decide +kernel
theorem dX_values_45 : decode cX_values 45 = .ok (.invokespecial 43, 3) := by decide +kernel
theorem dX_values_48 : decode cX_values 48 = .ok (.athrow, 1) := by decide +kernel
theorem dX_values_49 : decode cX_values 49 = .ok (.iload_n 1, 1) := by decide +kernel
theorem dX_values_50 : decode cX_values 50 = .ok (.iconst 4, 1) := by decide +kernel
theorem dX_values_51 : decode cX_values 51 = .ok (.imul, 1) := by decide +kernel
theorem dX_values_52 : decode cX_values 52 = .ok (.iload_n 2, 1) := by decide +kernel
theorem dX_values_53 : decode cX_values 53 = .ok (.iadd, 1) := by decide +kernel
theorem dX_values_54 : decode cX_values 54 = .ok (.istore 4, 2) := by decide +kernel
theorem dX_values_56 : decode cX_values 56 = .ok (.aload_n 0, 1) := by decide +kernel
theorem dX_values_57 : decode cX_values 57 = .ok (.getfield 13, 3) := by decide +kernel
theorem dX_values_60 : decode cX_values 60 = .ok (.iload 4, 2) := by decide +kernel
theorem dX_values_62 : decode cX_values 62 = .ok (.iaload, 1) := by decide +kernel
theorem dX_values_63 : decode cX_values 63 = .ok (.istore 5, 2) := by decide +kernel
theorem dX_values_65 : decode cX_values 65 = .ok (.aload_n 0, 1) := by decide +kernel
theorem dX_values_66 : decode cX_values 66 = .ok (.getfield 13, 3) := by decide +kernel
theorem dX_values_69 : decode cX_values 69 = .ok (.iload 4, 2) := by decide +kernel
theorem dX_values_71 : decode cX_values 71 = .ok (.iload_n 3, 1) := by decide +kernel
theorem dX_values_72 : decode cX_values 72 = .ok (.iastore, 1) := by decide +kernel
theorem dX_values_73 : decode cX_values 73 = .ok (.aload_n 0, 1) := by decide +kernel
theorem dX_values_74 : decode cX_values 74 = .ok (.invokevirtual 57, 3) := by decide +kernel
theorem dX_values_77 : decode cX_values 77 = .ok (.iload 5, 2) := by decide +kernel
theorem dX_values_79 : decode cX_values 79 = .ok (.ireturn, 1) := by decide +kernel
theorem dX_facts_0 : decode cX_facts 0 = .ok (.iload_n 1, 1) := by decide +kernel
theorem dX_facts_1 : decode cX_facts 1 = .ok (.ifCond .ge 13, 3) := by decide +kernel
theorem dX_facts_4 : decode cX_facts 4 = .ok (.new 39, 3) := by decide +kernel
theorem dX_facts_7 : decode cX_facts 7 = .ok (.dup, 1) := by decide +kernel
theorem dX_facts_8 : decode cX_facts 8 = .ok (.ldc 69, 2) := by decide +kernel
theorem dX_facts_10 : decode cX_facts 10 = .ok (.invokespecial 43, 3) := by decide +kernel
theorem dX_facts_13 : decode cX_facts 13 = .ok (.athrow, 1) := by decide +kernel
theorem dX_facts_14 : decode cX_facts 14 = .ok (.aload_n 0, 1) := by decide +kernel
theorem dX_facts_15 : decode cX_facts 15 = .ok (.getfield 33, 3) := by decide +kernel
theorem dX_facts_18 : decode cX_facts 18 = .ok (.istore_n 2, 1) := by decide +kernel
theorem dX_facts_19 : decode cX_facts 19 = .ok (.aload_n 0, 1) := by decide +kernel
theorem dX_facts_20 : decode cX_facts 20 = .ok (.iload_n 1, 1) := by decide +kernel
theorem dX_facts_21 : decode cX_facts 21 = .ok (.putfield 33, 3) := by decide +kernel
theorem dX_facts_24 : decode cX_facts 24 = .ok (.aload_n 0, 1) := by decide +kernel
theorem dX_facts_25 : decode cX_facts 25 = .ok (.invokevirtual 57, 3) := by decide +kernel
theorem dX_facts_28 : decode cX_facts 28 = .ok (.iload_n 2, 1) := by decide +kernel
theorem dX_facts_29 : decode cX_facts 29 = .ok (.ireturn, 1) := by decide +kernel
theorem dX_views_0 : decode cX_views 0 = .ok (.aload_n 0, 1) := by decide +kernel
theorem dX_views_1 : decode cX_views 1 = .ok (.getfield 30, 3) := by decide +kernel
theorem dX_views_4 : decode cX_views 4 = .ok (.ireturn, 1) := by decide +kernel
theorem dX_digit_0 : decode cX_digit 0 = .ok (.aload_n 0, 1) := by decide +kernel
theorem dX_digit_1 : decode cX_digit 1 = .ok (.iload_n 1, 1) := by decide +kernel
theorem dX_digit_2 : decode cX_digit 2 = .ok (.invokevirtual 71, 3) := by decide +kernel
theorem dX_digit_5 : decode cX_digit 5 = .ok (.aload_n 0, 1) := by decide +kernel
theorem dX_digit_6 : decode cX_digit 6 = .ok (.iload_n 2, 1) := by decide +kernel
theorem dX_digit_7 : decode cX_digit 7 = .ok (.invokevirtual 60, 3) := by decide +kernel
theorem dX_digit_10 : decode cX_digit 10 = .ok (.aload_n 0, 1) := by decide +kernel
theorem dX_digit_11 : decode cX_digit 11 = .ok (.getfield 16, 3) := by decide +kernel
theorem dX_digit_14 : decode cX_digit 14 = .ok (.iload_n 1, 1) := by decide +kernel
theorem dX_digit_15 : decode cX_digit 15 = .ok (.iaload, 1) := by decide +kernel
theorem dX_digit_16 : decode cX_digit 16 = .ok (.iload_n 2, 1) := by decide +kernel
theorem dX_digit_17 : decode cX_digit 17 = .ok (.invokestatic 74, 3) := by decide +kernel
theorem dX_digit_20 : decode cX_digit 20 = .ok (.ireturn, 1) := by decide +kernel
theorem dX_isAbove_0 : decode cX_isAbove 0 = .ok (.aload_n 0, 1) := by decide +kernel
theorem dX_isAbove_1 : decode cX_isAbove 1 = .ok (.iload_n 1, 1) := by decide +kernel
theorem dX_isAbove_2 : decode cX_isAbove 2 = .ok (.invokevirtual 71, 3) := by decide +kernel
theorem dX_isAbove_5 : decode cX_isAbove 5 = .ok (.aload_n 0, 1) := by decide +kernel
theorem dX_isAbove_6 : decode cX_isAbove 6 = .ok (.iload_n 2, 1) := by decide +kernel
theorem dX_isAbove_7 : decode cX_isAbove 7 = .ok (.invokevirtual 71, 3) := by decide +kernel
theorem dX_isAbove_10 : decode cX_isAbove 10 = .ok (.aload_n 0, 1) := by decide +kernel
theorem dX_isAbove_11 : decode cX_isAbove 11 = .ok (.getfield 16, 3) := by decide +kernel
theorem dX_isAbove_14 : decode cX_isAbove 14 = .ok (.iload_n 1, 1) := by decide +kernel
theorem dX_isAbove_15 : decode cX_isAbove 15 = .ok (.iaload, 1) := by decide +kernel
theorem dX_isAbove_16 : decode cX_isAbove 16 = .ok (.aload_n 0, 1) := by decide +kernel
theorem dX_isAbove_17 : decode cX_isAbove 17 = .ok (.getfield 16, 3) := by decide +kernel
theorem dX_isAbove_20 : decode cX_isAbove 20 = .ok (.iload_n 2, 1) := by decide +kernel
theorem dX_isAbove_21 : decode cX_isAbove 21 = .ok (.iaload, 1) := by decide +kernel
theorem dX_isAbove_22 : decode cX_isAbove 22 = .ok (.invokestatic 78, 3) := by decide +kernel
theorem dX_isAbove_25 : decode cX_isAbove 25 = .ok (.ireturn, 1) := by decide +kernel
theorem dX_told_0 : decode cX_told 0 = .ok (.aload_n 0, 1) := by decide +kernel
theorem dX_told_1 : decode cX_told 1 = .ok (.iload_n 1, 1) := by decide +kernel
theorem dX_told_2 : decode cX_told 2 = .ok (.invokevirtual 71, 3) := by decide +kernel
theorem dX_told_5 : decode cX_told 5 = .ok (.iload_n 2, 1) := by decide +kernel
theorem dX_told_6 : decode cX_told 6 = .ok (.tableswitch 45 0 2 #[26, 32, 39], 26) := by decide +kernel
theorem dX_told_32 : decode cX_told 32 = .ok (.aload_n 0, 1) := by decide +kernel
theorem dX_told_33 : decode cX_told 33 = .ok (.iload_n 1, 1) := by decide +kernel
theorem dX_told_34 : decode cX_told 34 = .ok (.invokevirtual 82, 3) := by decide +kernel
theorem dX_told_37 : decode cX_told 37 = .ok (.lreturn, 1) := by decide +kernel
theorem dX_told_38 : decode cX_told 38 = .ok (.aload_n 0, 1) := by decide +kernel
theorem dX_told_39 : decode cX_told 39 = .ok (.getfield 19, 3) := by decide +kernel
theorem dX_told_42 : decode cX_told 42 = .ok (.iload_n 1, 1) := by decide +kernel
theorem dX_told_43 : decode cX_told 43 = .ok (.laload, 1) := by decide +kernel
theorem dX_told_44 : decode cX_told 44 = .ok (.lreturn, 1) := by decide +kernel
theorem dX_told_45 : decode cX_told 45 = .ok (.aload_n 0, 1) := by decide +kernel
theorem dX_told_46 : decode cX_told 46 = .ok (.iload_n 1, 1) := by decide +kernel
theorem dX_told_47 : decode cX_told 47 = .ok (.invokevirtual 86, 3) := by decide +kernel
theorem dX_told_50 : decode cX_told 50 = .ok (.lreturn, 1) := by decide +kernel
theorem dX_told_51 : decode cX_told 51 = .ok (.new 39, 3) := by decide +kernel
theorem dX_told_54 : decode cX_told 54 = .ok (.dup, 1) := by decide +kernel
theorem dX_told_55 : decode cX_told 55 = .ok (.ldc 89, 2) := by decide +kernel
theorem dX_told_57 : decode cX_told 57 = .ok (.invokespecial 43, 3) := by decide +kernel
theorem dX_told_60 : decode cX_told 60 = .ok (.athrow, 1) := by decide +kernel
theorem dX_take_0 : decode cX_take 0 = .ok (.aload_n 0, 1) := by decide +kernel
theorem dX_take_1 : decode cX_take 1 = .ok (.iload_n 1, 1) := by decide +kernel
theorem dX_take_2 : decode cX_take 2 = .ok (.invokevirtual 71, 3) := by decide +kernel
theorem dX_take_5 : decode cX_take 5 = .ok (.aload_n 0, 1) := by decide +kernel
theorem dX_take_6 : decode cX_take 6 = .ok (.invokevirtual 91, 3) := by decide +kernel
theorem dX_take_9 : decode cX_take 9 = .ok (.aload_n 0, 1) := by decide +kernel
theorem dX_take_10 : decode cX_take 10 = .ok (.iload_n 1, 1) := by decide +kernel
theorem dX_take_11 : decode cX_take 11 = .ok (.invokevirtual 94, 3) := by decide +kernel
theorem dX_take_14 : decode cX_take 14 = .ok (.aload_n 0, 1) := by decide +kernel
theorem dX_take_15 : decode cX_take 15 = .ok (.getfield 36, 3) := by decide +kernel
theorem dX_take_18 : decode cX_take 18 = .ok (.ireturn, 1) := by decide +kernel
theorem dX_step_0 : decode cX_step 0 = .ok (.aload_n 0, 1) := by decide +kernel
theorem dX_step_1 : decode cX_step 1 = .ok (.invokevirtual 91, 3) := by decide +kernel
theorem dX_step_4 : decode cX_step 4 = .ok (.aload_n 0, 1) := by decide +kernel
theorem dX_step_5 : decode cX_step 5 = .ok (.invokevirtual 97, 3) := by decide +kernel
theorem dX_step_8 : decode cX_step 8 = .ok (.istore_n 1, 1) := by decide +kernel
theorem dX_step_9 : decode cX_step 9 = .ok (.iload_n 1, 1) := by decide +kernel
theorem dX_step_10 : decode cX_step 10 = .ok (.iconst (-1), 1) := by decide +kernel
theorem dX_step_11 : decode cX_step 11 = .ok (.if_icmp .eq 8, 3) := by decide +kernel
theorem dX_step_14 : decode cX_step 14 = .ok (.aload_n 0, 1) := by decide +kernel
theorem dX_step_15 : decode cX_step 15 = .ok (.iload_n 1, 1) := by decide +kernel
theorem dX_step_16 : decode cX_step 16 = .ok (.invokevirtual 94, 3) := by decide +kernel
theorem dX_step_19 : decode cX_step 19 = .ok (.iload_n 1, 1) := by decide +kernel
theorem dX_step_20 : decode cX_step 20 = .ok (.ireturn, 1) := by decide +kernel
theorem dX_choose_0 : decode cX_choose 0 = .ok (.iload_n 1, 1) := by decide +kernel
theorem dX_choose_1 : decode cX_choose 1 = .ok (.ifCond .lt 9, 3) := by decide +kernel
theorem dX_choose_4 : decode cX_choose 4 = .ok (.iload_n 1, 1) := by decide +kernel
theorem dX_choose_5 : decode cX_choose 5 = .ok (.bipush 16, 2) := by decide +kernel
theorem dX_choose_7 : decode cX_choose 7 = .ok (.if_icmp .le 13, 3) := by decide +kernel
theorem dX_choose_10 : decode cX_choose 10 = .ok (.new 39, 3) := by decide +kernel
theorem dX_choose_13 : decode cX_choose 13 = .ok (.dup, 1) := by decide +kernel
theorem dX_choose_14 : decode cX_choose 14 = .ok (.ldc 101, 2) := by decide +kernel
theorem dX_choose_16 : decode cX_choose 16 = .ok (.invokespecial 43, 3) := by decide +kernel
theorem dX_choose_19 : decode cX_choose 19 = .ok (.athrow, 1) := by decide +kernel
theorem dX_choose_20 : decode cX_choose 20 = .ok (.aload_n 0, 1) := by decide +kernel
theorem dX_choose_21 : decode cX_choose 21 = .ok (.getfield 36, 3) := by decide +kernel
theorem dX_choose_24 : decode cX_choose 24 = .ok (.istore_n 2, 1) := by decide +kernel
theorem dX_choose_25 : decode cX_choose 25 = .ok (.iload_n 2, 1) := by decide +kernel
theorem dX_choose_26 : decode cX_choose 26 = .ok (.iload_n 1, 1) := by decide +kernel
theorem dX_choose_27 : decode cX_choose 27 = .ok (.if_icmp .ge 27, 3) := by decide +kernel
theorem dX_choose_30 : decode cX_choose 30 = .ok (.aload_n 0, 1) := by decide +kernel
theorem dX_choose_31 : decode cX_choose 31 = .ok (.invokevirtual 97, 3) := by decide +kernel
theorem dX_choose_34 : decode cX_choose 34 = .ok (.istore_n 3, 1) := by decide +kernel
theorem dX_choose_35 : decode cX_choose 35 = .ok (.iload_n 3, 1) := by decide +kernel
theorem dX_choose_36 : decode cX_choose 36 = .ok (.iconst (-1), 1) := by decide +kernel
theorem dX_choose_37 : decode cX_choose 37 = .ok (.if_icmp .ne 6, 3) := by decide +kernel
theorem dX_choose_40 : decode cX_choose 40 = .ok (.goto 14, 3) := by decide +kernel
theorem dX_choose_43 : decode cX_choose 43 = .ok (.aload_n 0, 1) := by decide +kernel
theorem dX_choose_44 : decode cX_choose 44 = .ok (.iload_n 3, 1) := by decide +kernel
theorem dX_choose_45 : decode cX_choose 45 = .ok (.invokevirtual 94, 3) := by decide +kernel
theorem dX_choose_48 : decode cX_choose 48 = .ok (.iinc 2 1, 3) := by decide +kernel
theorem dX_choose_51 : decode cX_choose 51 = .ok (.goto (-26), 3) := by decide +kernel
theorem dX_choose_54 : decode cX_choose 54 = .ok (.aload_n 0, 1) := by decide +kernel
theorem dX_choose_55 : decode cX_choose 55 = .ok (.getfield 36, 3) := by decide +kernel
theorem dX_choose_58 : decode cX_choose 58 = .ok (.ireturn, 1) := by decide +kernel
theorem dX_chosen_0 : decode cX_chosen 0 = .ok (.iload_n 1, 1) := by decide +kernel
theorem dX_chosen_1 : decode cX_chosen 1 = .ok (.ifCond .lt 11, 3) := by decide +kernel
theorem dX_chosen_4 : decode cX_chosen 4 = .ok (.iload_n 1, 1) := by decide +kernel
theorem dX_chosen_5 : decode cX_chosen 5 = .ok (.aload_n 0, 1) := by decide +kernel
theorem dX_chosen_6 : decode cX_chosen 6 = .ok (.getfield 36, 3) := by decide +kernel
theorem dX_chosen_9 : decode cX_chosen 9 = .ok (.if_icmp .lt 13, 3) := by decide +kernel
theorem dX_chosen_12 : decode cX_chosen 12 = .ok (.new 39, 3) := by decide +kernel
theorem dX_chosen_15 : decode cX_chosen 15 = .ok (.dup, 1) := by decide +kernel
theorem dX_chosen_16 : decode cX_chosen 16 = .ok (.ldc 103, 2) := by decide +kernel
theorem dX_chosen_18 : decode cX_chosen 18 = .ok (.invokespecial 43, 3) := by decide +kernel
theorem dX_chosen_21 : decode cX_chosen 21 = .ok (.athrow, 1) := by decide +kernel
theorem dX_chosen_22 : decode cX_chosen 22 = .ok (.aload_n 0, 1) := by decide +kernel
theorem dX_chosen_23 : decode cX_chosen 23 = .ok (.getfield 23, 3) := by decide +kernel
theorem dX_chosen_26 : decode cX_chosen 26 = .ok (.iload_n 1, 1) := by decide +kernel
theorem dX_chosen_27 : decode cX_chosen 27 = .ok (.iaload, 1) := by decide +kernel
theorem dX_chosen_28 : decode cX_chosen 28 = .ok (.ireturn, 1) := by decide +kernel
theorem dX_drop_0 : decode cX_drop 0 = .ok (.aload_n 0, 1) := by decide +kernel
theorem dX_drop_1 : decode cX_drop 1 = .ok (.getfield 36, 3) := by decide +kernel
theorem dX_drop_4 : decode cX_drop 4 = .ok (.istore_n 1, 1) := by decide +kernel
theorem dX_drop_5 : decode cX_drop 5 = .ok (.aload_n 0, 1) := by decide +kernel
theorem dX_drop_6 : decode cX_drop 6 = .ok (.invokevirtual 57, 3) := by decide +kernel
theorem dX_drop_9 : decode cX_drop 9 = .ok (.iload_n 1, 1) := by decide +kernel
theorem dX_drop_10 : decode cX_drop 10 = .ok (.ireturn, 1) := by decide +kernel
theorem dX_total_0 : decode cX_total 0 = .ok (.lconst 0, 1) := by decide +kernel
theorem dX_total_1 : decode cX_total 1 = .ok (.lstore_n 1, 1) := by decide +kernel
theorem dX_total_2 : decode cX_total 2 = .ok (.iconst 0, 1) := by decide +kernel
theorem dX_total_3 : decode cX_total 3 = .ok (.istore_n 3, 1) := by decide +kernel
theorem dX_total_4 : decode cX_total 4 = .ok (.iload_n 3, 1) := by decide +kernel
theorem dX_total_5 : decode cX_total 5 = .ok (.aload_n 0, 1) := by decide +kernel
theorem dX_total_6 : decode cX_total 6 = .ok (.getfield 30, 3) := by decide +kernel
theorem dX_total_9 : decode cX_total 9 = .ok (.if_icmp .ge 18, 3) := by decide +kernel
theorem dX_total_12 : decode cX_total 12 = .ok (.lload_n 1, 1) := by decide +kernel
theorem dX_total_13 : decode cX_total 13 = .ok (.aload_n 0, 1) := by decide +kernel
theorem dX_total_14 : decode cX_total 14 = .ok (.getfield 19, 3) := by decide +kernel
theorem dX_total_17 : decode cX_total 17 = .ok (.iload_n 3, 1) := by decide +kernel
theorem dX_total_18 : decode cX_total 18 = .ok (.laload, 1) := by decide +kernel
theorem dX_total_19 : decode cX_total 19 = .ok (.ladd, 1) := by decide +kernel
theorem dX_total_20 : decode cX_total 20 = .ok (.lstore_n 1, 1) := by decide +kernel
theorem dX_total_21 : decode cX_total 21 = .ok (.iinc 3 1, 3) := by decide +kernel
theorem dX_total_24 : decode cX_total 24 = .ok (.goto (-20), 3) := by decide +kernel
theorem dX_total_27 : decode cX_total 27 = .ok (.lload_n 1, 1) := by decide +kernel
theorem dX_total_28 : decode cX_total 28 = .ok (.lreturn, 1) := by decide +kernel
theorem dX_checkView_0 : decode cX_checkView 0 = .ok (.iload_n 1, 1) := by decide +kernel
theorem dX_checkView_1 : decode cX_checkView 1 = .ok (.ifCond .lt 11, 3) := by decide +kernel
theorem dX_checkView_4 : decode cX_checkView 4 = .ok (.iload_n 1, 1) := by decide +kernel
theorem dX_checkView_5 : decode cX_checkView 5 = .ok (.aload_n 0, 1) := by decide +kernel
theorem dX_checkView_6 : decode cX_checkView 6 = .ok (.getfield 30, 3) := by decide +kernel
theorem dX_checkView_9 : decode cX_checkView 9 = .ok (.if_icmp .lt 13, 3) := by decide +kernel
theorem dX_checkView_12 : decode cX_checkView 12 = .ok (.new 39, 3) := by decide +kernel
theorem dX_checkView_15 : decode cX_checkView 15 = .ok (.dup, 1) := by decide +kernel
theorem dX_checkView_16 : decode cX_checkView 16 = .ok (.ldc 105, 2) := by decide +kernel
theorem dX_checkView_18 : decode cX_checkView 18 = .ok (.invokespecial 43, 3) := by decide +kernel
theorem dX_checkView_21 : decode cX_checkView 21 = .ok (.athrow, 1) := by decide +kernel
theorem dX_checkView_22 : decode cX_checkView 22 = .ok (.return_, 1) := by decide +kernel
theorem dX_checkDimension_0 : decode cX_checkDimension 0 = .ok (.iload_n 1, 1) := by decide +kernel
theorem dX_checkDimension_1 : decode cX_checkDimension 1 = .ok (.ifCond .lt 11, 3) := by decide +kernel
theorem dX_checkDimension_4 : decode cX_checkDimension 4 = .ok (.iload_n 1, 1) := by decide +kernel
theorem dX_checkDimension_5 : decode cX_checkDimension 5 = .ok (.aload_n 0, 1) := by decide +kernel
theorem dX_checkDimension_6 : decode cX_checkDimension 6 = .ok (.getfield 26, 3) := by decide +kernel
theorem dX_checkDimension_9 : decode cX_checkDimension 9 = .ok (.if_icmp .lt 13, 3) := by decide +kernel
theorem dX_checkDimension_12 : decode cX_checkDimension 12 = .ok (.new 39, 3) := by decide +kernel
theorem dX_checkDimension_15 : decode cX_checkDimension 15 = .ok (.dup, 1) := by decide +kernel
theorem dX_checkDimension_16 : decode cX_checkDimension 16 = .ok (.ldc 107, 2) := by decide +kernel
theorem dX_checkDimension_18 : decode cX_checkDimension 18 = .ok (.invokespecial 43, 3) := by decide +kernel
theorem dX_checkDimension_21 : decode cX_checkDimension 21 = .ok (.athrow, 1) := by decide +kernel
theorem dX_checkDimension_22 : decode cX_checkDimension 22 = .ok (.return_, 1) := by decide +kernel
theorem dX_checkRoomForChosen_0 : decode cX_checkRoomForChosen 0 = .ok (.aload_n 0, 1) := by decide +kernel
theorem dX_checkRoomForChosen_1 : decode cX_checkRoomForChosen 1 = .ok (.getfield 36, 3) := by decide +kernel
theorem dX_checkRoomForChosen_4 : decode cX_checkRoomForChosen 4 = .ok (.bipush 16, 2) := by decide +kernel
theorem dX_checkRoomForChosen_6 : decode cX_checkRoomForChosen 6 = .ok (.if_icmp .lt 13, 3) := by decide +kernel
theorem dX_checkRoomForChosen_9 : decode cX_checkRoomForChosen 9 = .ok (.new 46, 3) := by decide +kernel
theorem dX_checkRoomForChosen_12 : decode cX_checkRoomForChosen 12 = .ok (.dup, 1) := by decide +kernel
theorem dX_checkRoomForChosen_13 : decode cX_checkRoomForChosen 13 = .ok (.ldc 109, 2) := by decide +kernel
theorem dX_checkRoomForChosen_15 : decode cX_checkRoomForChosen 15 = .ok (.invokespecial 50, 3) := by decide +kernel
theorem dX_checkRoomForChosen_18 : decode cX_checkRoomForChosen 18 = .ok (.athrow, 1) := by decide +kernel
theorem dX_checkRoomForChosen_19 : decode cX_checkRoomForChosen 19 = .ok (.return_, 1) := by decide +kernel
theorem dX_splitViews_0 : decode cX_splitViews 0 = .ok (.aload_n 0, 1) := by decide +kernel
theorem dX_splitViews_1 : decode cX_splitViews 1 = .ok (.getfield 30, 3) := by decide +kernel
theorem dX_splitViews_4 : decode cX_splitViews 4 = .ok (.iconst 1, 1) := by decide +kernel
theorem dX_splitViews_5 : decode cX_splitViews 5 = .ok (.isub, 1) := by decide +kernel
theorem dX_splitViews_6 : decode cX_splitViews 6 = .ok (.istore_n 3, 1) := by decide +kernel
theorem dX_splitViews_7 : decode cX_splitViews 7 = .ok (.iload_n 3, 1) := by decide +kernel
theorem dX_splitViews_8 : decode cX_splitViews 8 = .ok (.ifCond .lt 52, 3) := by decide +kernel
theorem dX_splitViews_11 : decode cX_splitViews 11 = .ok (.aload_n 0, 1) := by decide +kernel
theorem dX_splitViews_12 : decode cX_splitViews 12 = .ok (.getfield 16, 3) := by decide +kernel
theorem dX_splitViews_15 : decode cX_splitViews 15 = .ok (.iload_n 3, 1) := by decide +kernel
theorem dX_splitViews_16 : decode cX_splitViews 16 = .ok (.iaload, 1) := by decide +kernel
theorem dX_splitViews_17 : decode cX_splitViews 17 = .ok (.istore 4, 2) := by decide +kernel
theorem dX_splitViews_19 : decode cX_splitViews 19 = .ok (.iconst 0, 1) := by decide +kernel
theorem dX_splitViews_20 : decode cX_splitViews 20 = .ok (.istore 5, 2) := by decide +kernel
theorem dX_splitViews_22 : decode cX_splitViews 22 = .ok (.iload 5, 2) := by decide +kernel
theorem dX_splitViews_24 : decode cX_splitViews 24 = .ok (.iload_n 2, 1) := by decide +kernel
theorem dX_splitViews_25 : decode cX_splitViews 25 = .ok (.if_icmp .ge 29, 3) := by decide +kernel
theorem dX_splitViews_28 : decode cX_splitViews 28 = .ok (.aload_n 0, 1) := by decide +kernel
theorem dX_splitViews_29 : decode cX_splitViews 29 = .ok (.getfield 16, 3) := by decide +kernel
theorem dX_splitViews_32 : decode cX_splitViews 32 = .ok (.iload_n 3, 1) := by decide +kernel
theorem dX_splitViews_33 : decode cX_splitViews 33 = .ok (.iload_n 2, 1) := by decide +kernel
theorem dX_splitViews_34 : decode cX_splitViews 34 = .ok (.imul, 1) := by decide +kernel
theorem dX_splitViews_35 : decode cX_splitViews 35 = .ok (.iload 5, 2) := by decide +kernel
theorem dX_splitViews_37 : decode cX_splitViews 37 = .ok (.iadd, 1) := by decide +kernel
theorem dX_splitViews_38 : decode cX_splitViews 38 = .ok (.iload 4, 2) := by decide +kernel
theorem dX_splitViews_40 : decode cX_splitViews 40 = .ok (.iload 5, 2) := by decide +kernel
theorem dX_splitViews_42 : decode cX_splitViews 42 = .ok (.iload_n 1, 1) := by decide +kernel
theorem dX_splitViews_43 : decode cX_splitViews 43 = .ok (.iconst 4, 1) := by decide +kernel
theorem dX_splitViews_44 : decode cX_splitViews 44 = .ok (.imul, 1) := by decide +kernel
theorem dX_splitViews_45 : decode cX_splitViews 45 = .ok (.ishl, 1) := by decide +kernel
theorem dX_splitViews_46 : decode cX_splitViews 46 = .ok (.ior, 1) := by decide +kernel
theorem dX_splitViews_47 : decode cX_splitViews 47 = .ok (.iastore, 1) := by decide +kernel
theorem dX_splitViews_48 : decode cX_splitViews 48 = .ok (.iinc 5 1, 3) := by decide +kernel
theorem dX_splitViews_51 : decode cX_splitViews 51 = .ok (.goto (-29), 3) := by decide +kernel
theorem dX_splitViews_54 : decode cX_splitViews 54 = .ok (.iinc 3 (-1), 3) := by decide +kernel
theorem dX_splitViews_57 : decode cX_splitViews 57 = .ok (.goto (-50), 3) := by decide +kernel
theorem dX_splitViews_60 : decode cX_splitViews 60 = .ok (.aload_n 0, 1) := by decide +kernel
theorem dX_splitViews_61 : decode cX_splitViews 61 = .ok (.aload_n 0, 1) := by decide +kernel
theorem dX_splitViews_62 : decode cX_splitViews 62 = .ok (.getfield 30, 3) := by decide +kernel
theorem dX_splitViews_65 : decode cX_splitViews 65 = .ok (.iload_n 2, 1) := by decide +kernel
theorem dX_splitViews_66 : decode cX_splitViews 66 = .ok (.imul, 1) := by decide +kernel
theorem dX_splitViews_67 : decode cX_splitViews 67 = .ok (.putfield 30, 3) := by decide +kernel
theorem dX_splitViews_70 : decode cX_splitViews 70 = .ok (.return_, 1) := by decide +kernel
theorem dX_forgetChosen_0 : decode cX_forgetChosen 0 = .ok (.aload_n 0, 1) := by decide +kernel
theorem dX_forgetChosen_1 : decode cX_forgetChosen 1 = .ok (.iconst 0, 1) := by decide +kernel
theorem dX_forgetChosen_2 : decode cX_forgetChosen 2 = .ok (.putfield 36, 3) := by decide +kernel
theorem dX_forgetChosen_5 : decode cX_forgetChosen 5 = .ok (.aload_n 0, 1) := by decide +kernel
theorem dX_forgetChosen_6 : decode cX_forgetChosen 6 = .ok (.getfield 19, 3) := by decide +kernel
theorem dX_forgetChosen_9 : decode cX_forgetChosen 9 = .ok (.aload_n 0, 1) := by decide +kernel
theorem dX_forgetChosen_10 : decode cX_forgetChosen 10 = .ok (.getfield 33, 3) := by decide +kernel
theorem dX_forgetChosen_13 : decode cX_forgetChosen 13 = .ok (.i2l, 1) := by decide +kernel
theorem dX_forgetChosen_14 : decode cX_forgetChosen 14 = .ok (.invokestatic 111, 3) := by decide +kernel
theorem dX_forgetChosen_17 : decode cX_forgetChosen 17 = .ok (.return_, 1) := by decide +kernel
theorem dX_addChosen_0 : decode cX_addChosen 0 = .ok (.aload_n 0, 1) := by decide +kernel
theorem dX_addChosen_1 : decode cX_addChosen 1 = .ok (.getfield 23, 3) := by decide +kernel
theorem dX_addChosen_4 : decode cX_addChosen 4 = .ok (.aload_n 0, 1) := by decide +kernel
theorem dX_addChosen_5 : decode cX_addChosen 5 = .ok (.getfield 36, 3) := by decide +kernel
theorem dX_addChosen_8 : decode cX_addChosen 8 = .ok (.iload_n 1, 1) := by decide +kernel
theorem dX_addChosen_9 : decode cX_addChosen 9 = .ok (.iastore, 1) := by decide +kernel
theorem dX_addChosen_10 : decode cX_addChosen 10 = .ok (.aload_n 0, 1) := by decide +kernel
theorem dX_addChosen_11 : decode cX_addChosen 11 = .ok (.dup, 1) := by decide +kernel
theorem dX_addChosen_12 : decode cX_addChosen 12 = .ok (.getfield 36, 3) := by decide +kernel
theorem dX_addChosen_15 : decode cX_addChosen 15 = .ok (.iconst 1, 1) := by decide +kernel
theorem dX_addChosen_16 : decode cX_addChosen 16 = .ok (.iadd, 1) := by decide +kernel
theorem dX_addChosen_17 : decode cX_addChosen 17 = .ok (.putfield 36, 3) := by decide +kernel
theorem dX_addChosen_20 : decode cX_addChosen 20 = .ok (.aload_n 0, 1) := by decide +kernel
theorem dX_addChosen_21 : decode cX_addChosen 21 = .ok (.iload_n 1, 1) := by decide +kernel
theorem dX_addChosen_22 : decode cX_addChosen 22 = .ok (.invokevirtual 82, 3) := by decide +kernel
theorem dX_addChosen_25 : decode cX_addChosen 25 = .ok (.lstore_n 2, 1) := by decide +kernel
theorem dX_addChosen_26 : decode cX_addChosen 26 = .ok (.aload_n 0, 1) := by decide +kernel
theorem dX_addChosen_27 : decode cX_addChosen 27 = .ok (.getfield 16, 3) := by decide +kernel
theorem dX_addChosen_30 : decode cX_addChosen 30 = .ok (.iload_n 1, 1) := by decide +kernel
theorem dX_addChosen_31 : decode cX_addChosen 31 = .ok (.iaload, 1) := by decide +kernel
theorem dX_addChosen_32 : decode cX_addChosen 32 = .ok (.istore 4, 2) := by decide +kernel
theorem dX_addChosen_34 : decode cX_addChosen 34 = .ok (.iload_n 1, 1) := by decide +kernel
theorem dX_addChosen_35 : decode cX_addChosen 35 = .ok (.istore 5, 2) := by decide +kernel
theorem dX_addChosen_37 : decode cX_addChosen 37 = .ok (.iload 5, 2) := by decide +kernel
theorem dX_addChosen_39 : decode cX_addChosen 39 = .ok (.aload_n 0, 1) := by decide +kernel
theorem dX_addChosen_40 : decode cX_addChosen 40 = .ok (.getfield 30, 3) := by decide +kernel
theorem dX_addChosen_43 : decode cX_addChosen 43 = .ok (.if_icmp .ge 44, 3) := by decide +kernel
theorem dX_addChosen_46 : decode cX_addChosen 46 = .ok (.aload_n 0, 1) := by decide +kernel
theorem dX_addChosen_47 : decode cX_addChosen 47 = .ok (.getfield 19, 3) := by decide +kernel
theorem dX_addChosen_50 : decode cX_addChosen 50 = .ok (.iload 5, 2) := by decide +kernel
theorem dX_addChosen_52 : decode cX_addChosen 52 = .ok (.laload, 1) := by decide +kernel
theorem dX_addChosen_53 : decode cX_addChosen 53 = .ok (.lload_n 2, 1) := by decide +kernel
theorem dX_addChosen_54 : decode cX_addChosen 54 = .ok (.lcmp, 1) := by decide +kernel
theorem dX_addChosen_55 : decode cX_addChosen 55 = .ok (.ifCond .le 26, 3) := by decide +kernel
theorem dX_addChosen_58 : decode cX_addChosen 58 = .ok (.iload 4, 2) := by decide +kernel
theorem dX_addChosen_60 : decode cX_addChosen 60 = .ok (.aload_n 0, 1) := by decide +kernel
theorem dX_addChosen_61 : decode cX_addChosen 61 = .ok (.getfield 16, 3) := by decide +kernel
theorem dX_addChosen_64 : decode cX_addChosen 64 = .ok (.iload 5, 2) := by decide +kernel
theorem dX_addChosen_66 : decode cX_addChosen 66 = .ok (.iaload, 1) := by decide +kernel
theorem dX_addChosen_67 : decode cX_addChosen 67 = .ok (.invokestatic 78, 3) := by decide +kernel
theorem dX_addChosen_70 : decode cX_addChosen 70 = .ok (.ifCond .eq 11, 3) := by decide +kernel
theorem dX_addChosen_73 : decode cX_addChosen 73 = .ok (.aload_n 0, 1) := by decide +kernel
theorem dX_addChosen_74 : decode cX_addChosen 74 = .ok (.getfield 19, 3) := by decide +kernel
theorem dX_addChosen_77 : decode cX_addChosen 77 = .ok (.iload 5, 2) := by decide +kernel
theorem dX_addChosen_79 : decode cX_addChosen 79 = .ok (.lload_n 2, 1) := by decide +kernel
theorem dX_addChosen_80 : decode cX_addChosen 80 = .ok (.lastore, 1) := by decide +kernel
theorem dX_addChosen_81 : decode cX_addChosen 81 = .ok (.iinc 5 1, 3) := by decide +kernel
theorem dX_addChosen_84 : decode cX_addChosen 84 = .ok (.goto (-47), 3) := by decide +kernel
theorem dX_addChosen_87 : decode cX_addChosen 87 = .ok (.return_, 1) := by decide +kernel
theorem dX_mostBeneficial_0 : decode cX_mostBeneficial 0 = .ok (.iconst (-1), 1) := by decide +kernel
theorem dX_mostBeneficial_1 : decode cX_mostBeneficial 1 = .ok (.istore_n 1, 1) := by decide +kernel
theorem dX_mostBeneficial_2 : decode cX_mostBeneficial 2 = .ok (.lconst 0, 1) := by decide +kernel
theorem dX_mostBeneficial_3 : decode cX_mostBeneficial 3 = .ok (.lstore_n 2, 1) := by decide +kernel
theorem dX_mostBeneficial_4 : decode cX_mostBeneficial 4 = .ok (.iconst 0, 1) := by decide +kernel
theorem dX_mostBeneficial_5 : decode cX_mostBeneficial 5 = .ok (.istore 4, 2) := by decide +kernel
theorem dX_mostBeneficial_7 : decode cX_mostBeneficial 7 = .ok (.iload 4, 2) := by decide +kernel
theorem dX_mostBeneficial_9 : decode cX_mostBeneficial 9 = .ok (.aload_n 0, 1) := by decide +kernel
theorem dX_mostBeneficial_10 : decode cX_mostBeneficial 10 = .ok (.getfield 30, 3) := by decide +kernel
theorem dX_mostBeneficial_13 : decode cX_mostBeneficial 13 = .ok (.if_icmp .ge 30, 3) := by decide +kernel
theorem dX_mostBeneficial_16 : decode cX_mostBeneficial 16 = .ok (.aload_n 0, 1) := by decide +kernel
theorem dX_mostBeneficial_17 : decode cX_mostBeneficial 17 = .ok (.iload 4, 2) := by decide +kernel
theorem dX_mostBeneficial_19 : decode cX_mostBeneficial 19 = .ok (.invokevirtual 86, 3) := by decide +kernel
theorem dX_mostBeneficial_22 : decode cX_mostBeneficial 22 = .ok (.lstore 5, 2) := by decide +kernel
theorem dX_mostBeneficial_24 : decode cX_mostBeneficial 24 = .ok (.lload 5, 2) := by decide +kernel
theorem dX_mostBeneficial_26 : decode cX_mostBeneficial 26 = .ok (.lload_n 2, 1) := by decide +kernel
theorem dX_mostBeneficial_27 : decode cX_mostBeneficial 27 = .ok (.lcmp, 1) := by decide +kernel
theorem dX_mostBeneficial_28 : decode cX_mostBeneficial 28 = .ok (.ifCond .le 9, 3) := by decide +kernel
theorem dX_mostBeneficial_31 : decode cX_mostBeneficial 31 = .ok (.lload 5, 2) := by decide +kernel
theorem dX_mostBeneficial_33 : decode cX_mostBeneficial 33 = .ok (.lstore_n 2, 1) := by decide +kernel
theorem dX_mostBeneficial_34 : decode cX_mostBeneficial 34 = .ok (.iload 4, 2) := by decide +kernel
theorem dX_mostBeneficial_36 : decode cX_mostBeneficial 36 = .ok (.istore_n 1, 1) := by decide +kernel
theorem dX_mostBeneficial_37 : decode cX_mostBeneficial 37 = .ok (.iinc 4 1, 3) := by decide +kernel
theorem dX_mostBeneficial_40 : decode cX_mostBeneficial 40 = .ok (.goto (-33), 3) := by decide +kernel
theorem dX_mostBeneficial_43 : decode cX_mostBeneficial 43 = .ok (.iload_n 1, 1) := by decide +kernel
theorem dX_mostBeneficial_44 : decode cX_mostBeneficial 44 = .ok (.ireturn, 1) := by decide +kernel
theorem dX_benefitOf_0 : decode cX_benefitOf 0 = .ok (.aload_n 0, 1) := by decide +kernel
theorem dX_benefitOf_1 : decode cX_benefitOf 1 = .ok (.iload_n 1, 1) := by decide +kernel
theorem dX_benefitOf_2 : decode cX_benefitOf 2 = .ok (.invokevirtual 82, 3) := by decide +kernel
theorem dX_benefitOf_5 : decode cX_benefitOf 5 = .ok (.lstore_n 2, 1) := by decide +kernel
theorem dX_benefitOf_6 : decode cX_benefitOf 6 = .ok (.aload_n 0, 1) := by decide +kernel
theorem dX_benefitOf_7 : decode cX_benefitOf 7 = .ok (.getfield 16, 3) := by decide +kernel
theorem dX_benefitOf_10 : decode cX_benefitOf 10 = .ok (.iload_n 1, 1) := by decide +kernel
theorem dX_benefitOf_11 : decode cX_benefitOf 11 = .ok (.iaload, 1) := by decide +kernel
theorem dX_benefitOf_12 : decode cX_benefitOf 12 = .ok (.istore 4, 2) := by decide +kernel
theorem dX_benefitOf_14 : decode cX_benefitOf 14 = .ok (.lconst 0, 1) := by decide +kernel
theorem dX_benefitOf_15 : decode cX_benefitOf 15 = .ok (.lstore 5, 2) := by decide +kernel
theorem dX_benefitOf_17 : decode cX_benefitOf 17 = .ok (.iload_n 1, 1) := by decide +kernel
theorem dX_benefitOf_18 : decode cX_benefitOf 18 = .ok (.istore 7, 2) := by decide +kernel
theorem dX_benefitOf_20 : decode cX_benefitOf 20 = .ok (.iload 7, 2) := by decide +kernel
theorem dX_benefitOf_22 : decode cX_benefitOf 22 = .ok (.aload_n 0, 1) := by decide +kernel
theorem dX_benefitOf_23 : decode cX_benefitOf 23 = .ok (.getfield 30, 3) := by decide +kernel
theorem dX_benefitOf_26 : decode cX_benefitOf 26 = .ok (.if_icmp .ge 50, 3) := by decide +kernel
theorem dX_benefitOf_29 : decode cX_benefitOf 29 = .ok (.aload_n 0, 1) := by decide +kernel
theorem dX_benefitOf_30 : decode cX_benefitOf 30 = .ok (.getfield 19, 3) := by decide +kernel
theorem dX_benefitOf_33 : decode cX_benefitOf 33 = .ok (.iload 7, 2) := by decide +kernel
theorem dX_benefitOf_35 : decode cX_benefitOf 35 = .ok (.laload, 1) := by decide +kernel
theorem dX_benefitOf_36 : decode cX_benefitOf 36 = .ok (.lload_n 2, 1) := by decide +kernel
theorem dX_benefitOf_37 : decode cX_benefitOf 37 = .ok (.lcmp, 1) := by decide +kernel
theorem dX_benefitOf_38 : decode cX_benefitOf 38 = .ok (.ifCond .le 32, 3) := by decide +kernel
theorem dX_benefitOf_41 : decode cX_benefitOf 41 = .ok (.iload 4, 2) := by decide +kernel
theorem dX_benefitOf_43 : decode cX_benefitOf 43 = .ok (.aload_n 0, 1) := by decide +kernel
theorem dX_benefitOf_44 : decode cX_benefitOf 44 = .ok (.getfield 16, 3) := by decide +kernel
theorem dX_benefitOf_47 : decode cX_benefitOf 47 = .ok (.iload 7, 2) := by decide +kernel
theorem dX_benefitOf_49 : decode cX_benefitOf 49 = .ok (.iaload, 1) := by decide +kernel
theorem dX_benefitOf_50 : decode cX_benefitOf 50 = .ok (.invokestatic 78, 3) := by decide +kernel
theorem dX_benefitOf_53 : decode cX_benefitOf 53 = .ok (.ifCond .eq 17, 3) := by decide +kernel
theorem dX_benefitOf_56 : decode cX_benefitOf 56 = .ok (.lload 5, 2) := by decide +kernel
theorem dX_benefitOf_58 : decode cX_benefitOf 58 = .ok (.aload_n 0, 1) := by decide +kernel
theorem dX_benefitOf_59 : decode cX_benefitOf 59 = .ok (.getfield 19, 3) := by decide +kernel
theorem dX_benefitOf_62 : decode cX_benefitOf 62 = .ok (.iload 7, 2) := by decide +kernel
theorem dX_benefitOf_64 : decode cX_benefitOf 64 = .ok (.laload, 1) := by decide +kernel
theorem dX_benefitOf_65 : decode cX_benefitOf 65 = .ok (.lload_n 2, 1) := by decide +kernel
theorem dX_benefitOf_66 : decode cX_benefitOf 66 = .ok (.lsub, 1) := by decide +kernel
theorem dX_benefitOf_67 : decode cX_benefitOf 67 = .ok (.ladd, 1) := by decide +kernel
theorem dX_benefitOf_68 : decode cX_benefitOf 68 = .ok (.lstore 5, 2) := by decide +kernel
theorem dX_benefitOf_70 : decode cX_benefitOf 70 = .ok (.iinc 7 1, 3) := by decide +kernel
theorem dX_benefitOf_73 : decode cX_benefitOf 73 = .ok (.goto (-53), 3) := by decide +kernel
theorem dX_benefitOf_76 : decode cX_benefitOf 76 = .ok (.lload 5, 2) := by decide +kernel
theorem dX_benefitOf_78 : decode cX_benefitOf 78 = .ok (.lreturn, 1) := by decide +kernel
theorem dX_estimateOf_0 : decode cX_estimateOf 0 = .ok (.aload_n 0, 1) := by decide +kernel
theorem dX_estimateOf_1 : decode cX_estimateOf 1 = .ok (.getfield 16, 3) := by decide +kernel
theorem dX_estimateOf_4 : decode cX_estimateOf 4 = .ok (.iload_n 1, 1) := by decide +kernel
theorem dX_estimateOf_5 : decode cX_estimateOf 5 = .ok (.iaload, 1) := by decide +kernel
theorem dX_estimateOf_6 : decode cX_estimateOf 6 = .ok (.istore_n 2, 1) := by decide +kernel
theorem dX_estimateOf_7 : decode cX_estimateOf 7 = .ok (.iconst 1, 1) := by decide +kernel
theorem dX_estimateOf_8 : decode cX_estimateOf 8 = .ok (.aload_n 0, 1) := by decide +kernel
theorem dX_estimateOf_9 : decode cX_estimateOf 9 = .ok (.getfield 33, 3) := by decide +kernel
theorem dX_estimateOf_12 : decode cX_estimateOf 12 = .ok (.invokestatic 117, 3) := by decide +kernel
theorem dX_estimateOf_15 : decode cX_estimateOf 15 = .ok (.i2l, 1) := by decide +kernel
theorem dX_estimateOf_16 : decode cX_estimateOf 16 = .ok (.lstore_n 3, 1) := by decide +kernel
theorem dX_estimateOf_17 : decode cX_estimateOf 17 = .ok (.iconst 0, 1) := by decide +kernel
theorem dX_estimateOf_18 : decode cX_estimateOf 18 = .ok (.istore 5, 2) := by decide +kernel
theorem dX_estimateOf_20 : decode cX_estimateOf 20 = .ok (.iload 5, 2) := by decide +kernel
theorem dX_estimateOf_22 : decode cX_estimateOf 22 = .ok (.aload_n 0, 1) := by decide +kernel
theorem dX_estimateOf_23 : decode cX_estimateOf 23 = .ok (.getfield 26, 3) := by decide +kernel
theorem dX_estimateOf_26 : decode cX_estimateOf 26 = .ok (.if_icmp .ge 53, 3) := by decide +kernel
theorem dX_estimateOf_29 : decode cX_estimateOf 29 = .ok (.iload_n 2, 1) := by decide +kernel
theorem dX_estimateOf_30 : decode cX_estimateOf 30 = .ok (.iload 5, 2) := by decide +kernel
theorem dX_estimateOf_32 : decode cX_estimateOf 32 = .ok (.invokestatic 74, 3) := by decide +kernel
theorem dX_estimateOf_35 : decode cX_estimateOf 35 = .ok (.istore 6, 2) := by decide +kernel
theorem dX_estimateOf_37 : decode cX_estimateOf 37 = .ok (.iload 6, 2) := by decide +kernel
theorem dX_estimateOf_39 : decode cX_estimateOf 39 = .ok (.aload_n 0, 1) := by decide +kernel
theorem dX_estimateOf_40 : decode cX_estimateOf 40 = .ok (.getfield 9, 3) := by decide +kernel
theorem dX_estimateOf_43 : decode cX_estimateOf 43 = .ok (.iload 5, 2) := by decide +kernel
theorem dX_estimateOf_45 : decode cX_estimateOf 45 = .ok (.iaload, 1) := by decide +kernel
theorem dX_estimateOf_46 : decode cX_estimateOf 46 = .ok (.if_icmp .ge 27, 3) := by decide +kernel
theorem dX_estimateOf_49 : decode cX_estimateOf 49 = .ok (.lload_n 3, 1) := by decide +kernel
theorem dX_estimateOf_50 : decode cX_estimateOf 50 = .ok (.aload_n 0, 1) := by decide +kernel
theorem dX_estimateOf_51 : decode cX_estimateOf 51 = .ok (.getfield 13, 3) := by decide +kernel
theorem dX_estimateOf_54 : decode cX_estimateOf 54 = .ok (.iload 5, 2) := by decide +kernel
theorem dX_estimateOf_56 : decode cX_estimateOf 56 = .ok (.iconst 4, 1) := by decide +kernel
theorem dX_estimateOf_57 : decode cX_estimateOf 57 = .ok (.imul, 1) := by decide +kernel
theorem dX_estimateOf_58 : decode cX_estimateOf 58 = .ok (.iload 6, 2) := by decide +kernel
theorem dX_estimateOf_60 : decode cX_estimateOf 60 = .ok (.iadd, 1) := by decide +kernel
theorem dX_estimateOf_61 : decode cX_estimateOf 61 = .ok (.iaload, 1) := by decide +kernel
theorem dX_estimateOf_62 : decode cX_estimateOf 62 = .ok (.i2l, 1) := by decide +kernel
theorem dX_estimateOf_63 : decode cX_estimateOf 63 = .ok (.lmul, 1) := by decide +kernel
theorem dX_estimateOf_64 : decode cX_estimateOf 64 = .ok (.aload_n 0, 1) := by decide +kernel
theorem dX_estimateOf_65 : decode cX_estimateOf 65 = .ok (.getfield 33, 3) := by decide +kernel
theorem dX_estimateOf_68 : decode cX_estimateOf 68 = .ok (.i2l, 1) := by decide +kernel
theorem dX_estimateOf_69 : decode cX_estimateOf 69 = .ok (.invokestatic 122, 3) := by decide +kernel
theorem dX_estimateOf_72 : decode cX_estimateOf 72 = .ok (.lstore_n 3, 1) := by decide +kernel
theorem dX_estimateOf_73 : decode cX_estimateOf 73 = .ok (.iinc 5 1, 3) := by decide +kernel
theorem dX_estimateOf_76 : decode cX_estimateOf 76 = .ok (.goto (-56), 3) := by decide +kernel
theorem dX_estimateOf_79 : decode cX_estimateOf 79 = .ok (.lload_n 3, 1) := by decide +kernel
theorem dX_estimateOf_80 : decode cX_estimateOf 80 = .ok (.lreturn, 1) := by decide +kernel
theorem dX_unpackDigit_0 : decode cX_unpackDigit 0 = .ok (.iload_n 0, 1) := by decide +kernel
theorem dX_unpackDigit_1 : decode cX_unpackDigit 1 = .ok (.iload_n 1, 1) := by decide +kernel
theorem dX_unpackDigit_2 : decode cX_unpackDigit 2 = .ok (.iconst 4, 1) := by decide +kernel
theorem dX_unpackDigit_3 : decode cX_unpackDigit 3 = .ok (.imul, 1) := by decide +kernel
theorem dX_unpackDigit_4 : decode cX_unpackDigit 4 = .ok (.iushr, 1) := by decide +kernel
theorem dX_unpackDigit_5 : decode cX_unpackDigit 5 = .ok (.bipush 15, 2) := by decide +kernel
theorem dX_unpackDigit_7 : decode cX_unpackDigit 7 = .ok (.iand, 1) := by decide +kernel
theorem dX_unpackDigit_8 : decode cX_unpackDigit 8 = .ok (.ireturn, 1) := by decide +kernel
theorem dX_isAbovePacked_0 : decode cX_isAbovePacked 0 = .ok (.iload_n 1, 1) := by decide +kernel
theorem dX_isAbovePacked_1 : decode cX_isAbovePacked 1 = .ok (.ldc 125, 2) := by decide +kernel
theorem dX_isAbovePacked_3 : decode cX_isAbovePacked 3 = .ok (.ior, 1) := by decide +kernel
theorem dX_isAbovePacked_4 : decode cX_isAbovePacked 4 = .ok (.iload_n 0, 1) := by decide +kernel
theorem dX_isAbovePacked_5 : decode cX_isAbovePacked 5 = .ok (.isub, 1) := by decide +kernel
theorem dX_isAbovePacked_6 : decode cX_isAbovePacked 6 = .ok (.ldc 125, 2) := by decide +kernel
theorem dX_isAbovePacked_8 : decode cX_isAbovePacked 8 = .ok (.iand, 1) := by decide +kernel
theorem dX_isAbovePacked_9 : decode cX_isAbovePacked 9 = .ok (.ldc 125, 2) := by decide +kernel
theorem dX_isAbovePacked_11 : decode cX_isAbovePacked 11 = .ok (.if_icmp .ne 7, 3) := by decide +kernel
theorem dX_isAbovePacked_14 : decode cX_isAbovePacked 14 = .ok (.iconst 1, 1) := by decide +kernel
theorem dX_isAbovePacked_15 : decode cX_isAbovePacked 15 = .ok (.goto 4, 3) := by decide +kernel
theorem dX_isAbovePacked_18 : decode cX_isAbovePacked 18 = .ok (.iconst 0, 1) := by decide +kernel
theorem dX_isAbovePacked_19 : decode cX_isAbovePacked 19 = .ok (.ireturn, 1) := by decide +kernel
theorem dA_fill_0 : decode cA_fill 0 = .ok (.iconst 0, 1) := by decide +kernel
theorem dA_fill_1 : decode cA_fill 1 = .ok (.istore_n 3, 1) := by decide +kernel
theorem dA_fill_2 : decode cA_fill 2 = .ok (.aload_n 0, 1) := by decide +kernel
theorem dA_fill_3 : decode cA_fill 3 = .ok (.arraylength, 1) := by decide +kernel
theorem dA_fill_4 : decode cA_fill 4 = .ok (.istore 4, 2) := by decide +kernel
theorem dA_fill_6 : decode cA_fill 6 = .ok (.iload_n 3, 1) := by decide +kernel
theorem dA_fill_7 : decode cA_fill 7 = .ok (.iload 4, 2) := by decide +kernel
theorem dA_fill_9 : decode cA_fill 9 = .ok (.if_icmp .ge 13, 3) := by decide +kernel
theorem dA_fill_12 : decode cA_fill 12 = .ok (.aload_n 0, 1) := by decide +kernel
theorem dA_fill_13 : decode cA_fill 13 = .ok (.iload_n 3, 1) := by decide +kernel
theorem dA_fill_14 : decode cA_fill 14 = .ok (.lload_n 1, 1) := by decide +kernel
theorem dA_fill_15 : decode cA_fill 15 = .ok (.lastore, 1) := by decide +kernel
theorem dA_fill_16 : decode cA_fill 16 = .ok (.iinc 3 1, 3) := by decide +kernel
theorem dA_fill_19 : decode cA_fill 19 = .ok (.goto (-13), 3) := by decide +kernel
theorem dA_fill_22 : decode cA_fill 22 = .ok (.return_, 1) := by decide +kernel
