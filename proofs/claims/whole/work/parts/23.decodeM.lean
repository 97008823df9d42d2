/-! decode rows: by program -/
theorem dM_init_0 : decode cM_init 0 = .ok (.aload_n 0, 1) := by decide +kernel
theorem dM_init_1 : decode cM_init 1 = .ok (.invokespecial 1, 3) := by decide +kernel
theorem dM_init_4 : decode cM_init 4 = .ok (.aload_n 0, 1) := by decide +kernel
theorem dM_init_5 : decode cM_init 5 = .ok (.bipush 8, 2) := by decide +kernel
theorem dM_init_7 : decode cM_init 7 = .ok (.newarray .int, 2) := by decide +kernel
theorem dM_init_9 : decode cM_init 9 = .ok (.putfield 7, 3) := by decide +kernel
theorem dM_init_12 : decode cM_init 12 = .ok (.aload_n 0, 1) := by decide +kernel
theorem dM_init_13 : decode cM_init 13 = .ok (.bipush 32, 2) := by decide +kernel
theorem dM_init_15 : decode cM_init 15 = .ok (.newarray .int, 2) := by decide +kernel
theorem dM_init_17 : decode cM_init 17 = .ok (.putfield 13, 3) := by decide +kernel
theorem dM_init_20 : decode cM_init 20 = .ok (.aload_n 0, 1) := by decide +kernel
theorem dM_init_21 : decode cM_init 21 = .ok (.iconst 1, 1) := by decide +kernel
theorem dM_init_22 : decode cM_init 22 = .ok (.putfield 16, 3) := by decide +kernel
theorem dM_init_25 : decode cM_init 25 = .ok (.aload_n 0, 1) := by decide +kernel
theorem dM_init_26 : decode cM_init 26 = .ok (.bipush 16, 2) := by decide +kernel
theorem dM_init_28 : decode cM_init 28 = .ok (.newarray .int, 2) := by decide +kernel
theorem dM_init_30 : decode cM_init 30 = .ok (.putfield 20, 3) := by decide +kernel
theorem dM_init_33 : decode cM_init 33 = .ok (.aload_n 0, 1) := by decide +kernel
theorem dM_init_34 : decode cM_init 34 = .ok (.sipush 4096, 3) := by decide +kernel
theorem dM_init_37 : decode cM_init 37 = .ok (.newarray .byte, 2) := by decide +kernel
theorem dM_init_39 : decode cM_init 39 = .ok (.putfield 23, 3) := by decide +kernel
theorem dM_init_42 : decode cM_init 42 = .ok (.aload_n 0, 1) := by decide +kernel
theorem dM_init_43 : decode cM_init 43 = .ok (.sipush 512, 3) := by decide +kernel
theorem dM_init_46 : decode cM_init 46 = .ok (.newarray .long, 2) := by decide +kernel
theorem dM_init_48 : decode cM_init 48 = .ok (.putfield 27, 3) := by decide +kernel
theorem dM_init_51 : decode cM_init 51 = .ok (.aload_n 0, 1) := by decide +kernel
theorem dM_init_52 : decode cM_init 52 = .ok (.sipush 512, 3) := by decide +kernel
theorem dM_init_55 : decode cM_init 55 = .ok (.newarray .long, 2) := by decide +kernel
theorem dM_init_57 : decode cM_init 57 = .ok (.putfield 31, 3) := by decide +kernel
theorem dM_init_60 : decode cM_init 60 = .ok (.return_, 1) := by decide +kernel
theorem dM_thrown_0 : decode cM_thrown 0 = .ok (.aload_n 0, 1) := by decide +kernel
theorem dM_thrown_1 : decode cM_thrown 1 = .ok (.getfield 34, 3) := by decide +kernel
theorem dM_thrown_4 : decode cM_thrown 4 = .ok (.ireturn, 1) := by decide +kernel
theorem dM_dimension_0 : decode cM_dimension 0 = .ok (.aload_n 0, 1) := by decide +kernel
theorem dM_dimension_1 : decode cM_dimension 1 = .ok (.iload_n 1, 1) := by decide +kernel
theorem dM_dimension_2 : decode cM_dimension 2 = .ok (.iconst 1, 1) := by decide +kernel
theorem dM_dimension_3 : decode cM_dimension 3 = .ok (.if_icmp .lt 8, 3) := by decide +kernel
theorem dM_dimension_6 : decode cM_dimension 6 = .ok (.iload_n 1, 1) := by decide +kernel
theorem dM_dimension_7 : decode cM_dimension 7 = .ok (.iconst 4, 1) := by decide +kernel
theorem dM_dimension_8 : decode cM_dimension 8 = .ok (.if_icmp .le 7, 3) := by decide +kernel
theorem dM_dimension_11 : decode cM_dimension 11 = .ok (.iconst 1, 1) := by decide +kernel
theorem dM_dimension_12 : decode cM_dimension 12 = .ok (.goto 31, 3) := by decide +kernel
theorem dM_dimension_15 : decode cM_dimension 15 = .ok (.aload_n 0, 1) := by decide +kernel
theorem dM_dimension_16 : decode cM_dimension 16 = .ok (.getfield 37, 3) := by decide +kernel
theorem dM_dimension_19 : decode cM_dimension 19 = .ok (.bipush 8, 2) := by decide +kernel
theorem dM_dimension_21 : decode cM_dimension 21 = .ok (.if_icmp .eq 17, 3) := by decide +kernel
theorem dM_dimension_24 : decode cM_dimension 24 = .ok (.aload_n 0, 1) := by decide +kernel
theorem dM_dimension_25 : decode cM_dimension 25 = .ok (.getfield 16, 3) := by decide +kernel
theorem dM_dimension_28 : decode cM_dimension 28 = .ok (.iload_n 1, 1) := by decide +kernel
theorem dM_dimension_29 : decode cM_dimension 29 = .ok (.iconst 1, 1) := by decide +kernel
theorem dM_dimension_30 : decode cM_dimension 30 = .ok (.iadd, 1) := by decide +kernel
theorem dM_dimension_31 : decode cM_dimension 31 = .ok (.imul, 1) := by decide +kernel
theorem dM_dimension_32 : decode cM_dimension 32 = .ok (.sipush 512, 3) := by decide +kernel
theorem dM_dimension_35 : decode cM_dimension 35 = .ok (.if_icmp .le 7, 3) := by decide +kernel
theorem dM_dimension_38 : decode cM_dimension 38 = .ok (.iconst 2, 1) := by decide +kernel
theorem dM_dimension_39 : decode cM_dimension 39 = .ok (.goto 4, 3) := by decide +kernel
theorem dM_dimension_42 : decode cM_dimension 42 = .ok (.iconst 0, 1) := by decide +kernel
theorem dM_dimension_43 : decode cM_dimension 43 = .ok (.putfield 34, 3) := by decide +kernel
theorem dM_dimension_46 : decode cM_dimension 46 = .ok (.aload_n 0, 1) := by decide +kernel
theorem dM_dimension_47 : decode cM_dimension 47 = .ok (.getfield 34, 3) := by decide +kernel
theorem dM_dimension_50 : decode cM_dimension 50 = .ok (.ifCond .le 5, 3) := by decide +kernel
theorem dM_dimension_53 : decode cM_dimension 53 = .ok (.iconst 0, 1) := by decide +kernel
theorem dM_dimension_54 : decode cM_dimension 54 = .ok (.ireturn, 1) := by decide +kernel
theorem dM_dimension_55 : decode cM_dimension 55 = .ok (.aload_n 0, 1) := by decide +kernel
theorem dM_dimension_56 : decode cM_dimension 56 = .ok (.getfield 7, 3) := by decide +kernel
theorem dM_dimension_59 : decode cM_dimension 59 = .ok (.aload_n 0, 1) := by decide +kernel
theorem dM_dimension_60 : decode cM_dimension 60 = .ok (.getfield 37, 3) := by decide +kernel
theorem dM_dimension_63 : decode cM_dimension 63 = .ok (.iload_n 1, 1) := by decide +kernel
theorem dM_dimension_64 : decode cM_dimension 64 = .ok (.iastore, 1) := by decide +kernel
theorem dM_dimension_65 : decode cM_dimension 65 = .ok (.iconst 0, 1) := by decide +kernel
theorem dM_dimension_66 : decode cM_dimension 66 = .ok (.istore_n 2, 1) := by decide +kernel
theorem dM_dimension_67 : decode cM_dimension 67 = .ok (.iload_n 2, 1) := by decide +kernel
theorem dM_dimension_68 : decode cM_dimension 68 = .ok (.iload_n 1, 1) := by decide +kernel
theorem dM_dimension_69 : decode cM_dimension 69 = .ok (.if_icmp .ge 23, 3) := by decide +kernel
theorem dM_dimension_72 : decode cM_dimension 72 = .ok (.aload_n 0, 1) := by decide +kernel
theorem dM_dimension_73 : decode cM_dimension 73 = .ok (.getfield 13, 3) := by decide +kernel
theorem dM_dimension_76 : decode cM_dimension 76 = .ok (.iconst 4, 1) := by decide +kernel
theorem dM_dimension_77 : decode cM_dimension 77 = .ok (.aload_n 0, 1) := by decide +kernel
theorem dM_dimension_78 : decode cM_dimension 78 = .ok (.getfield 37, 3) := by decide +kernel
theorem dM_dimension_81 : decode cM_dimension 81 = .ok (.imul, 1) := by decide +kernel
theorem dM_dimension_82 : decode cM_dimension 82 = .ok (.iload_n 2, 1) := by decide +kernel
theorem dM_dimension_83 : decode cM_dimension 83 = .ok (.iadd, 1) := by decide +kernel
theorem dM_dimension_84 : decode cM_dimension 84 = .ok (.iconst 0, 1) := by decide +kernel
theorem dM_dimension_85 : decode cM_dimension 85 = .ok (.iastore, 1) := by decide +kernel
theorem dM_dimension_86 : decode cM_dimension 86 = .ok (.iinc 2 1, 3) := by decide +kernel
theorem dM_dimension_89 : decode cM_dimension 89 = .ok (.goto (-22), 3) := by decide +kernel
theorem dM_dimension_92 : decode cM_dimension 92 = .ok (.aload_n 0, 1) := by decide +kernel
theorem dM_dimension_93 : decode cM_dimension 93 = .ok (.dup, 1) := by decide +kernel
theorem dM_dimension_94 : decode cM_dimension 94 = .ok (.getfield 16, 3) := by decide +kernel
theorem dM_dimension_97 : decode cM_dimension 97 = .ok (.iload_n 1, 1) := by decide +kernel
theorem dM_dimension_98 : decode cM_dimension 98 = .ok (.iconst 1, 1) := by decide +kernel
theorem dM_dimension_99 : decode cM_dimension 99 = .ok (.iadd, 1) := by decide +kernel
theorem dM_dimension_100 : decode cM_dimension 100 = .ok (.imul, 1) := by decide +kernel
theorem dM_dimension_101 : decode cM_dimension 101 = .ok (.putfield 16, 3) := by decide +kernel
theorem dM_dimension_104 : decode cM_dimension 104 = .ok (.aload_n 0, 1) := by decide +kernel
theorem dM_dimension_105 : decode cM_dimension 105 = .ok (.iconst 0, 1) := by decide +kernel
theorem dM_dimension_106 : decode cM_dimension 106 = .ok (.putfield 40, 3) := by decide +kernel
theorem dM_dimension_109 : decode cM_dimension 109 = .ok (.aload_n 0, 1) := by decide +kernel
theorem dM_dimension_110 : decode cM_dimension 110 = .ok (.dup, 1) := by decide +kernel
theorem dM_dimension_111 : decode cM_dimension 111 = .ok (.getfield 37, 3) := by decide +kernel
theorem dM_dimension_114 : decode cM_dimension 114 = .ok (.iconst 1, 1) := by decide +kernel
theorem dM_dimension_115 : decode cM_dimension 115 = .ok (.iadd, 1) := by decide +kernel
theorem dM_dimension_116 : decode cM_dimension 116 = .ok (.putfield 37, 3) := by decide +kernel
theorem dM_dimension_119 : decode cM_dimension 119 = .ok (.aload_n 0, 1) := by decide +kernel
theorem dM_dimension_120 : decode cM_dimension 120 = .ok (.invokevirtual 43, 3) := by decide +kernel
theorem dM_dimension_123 : decode cM_dimension 123 = .ok (.aload_n 0, 1) := by decide +kernel
theorem dM_dimension_124 : decode cM_dimension 124 = .ok (.getfield 37, 3) := by decide +kernel
theorem dM_dimension_127 : decode cM_dimension 127 = .ok (.iconst 1, 1) := by decide +kernel
theorem dM_dimension_128 : decode cM_dimension 128 = .ok (.isub, 1) := by decide +kernel
theorem dM_dimension_129 : decode cM_dimension 129 = .ok (.ireturn, 1) := by decide +kernel
theorem dM_isDimension_0 : decode cM_isDimension 0 = .ok (.iload_n 1, 1) := by decide +kernel
theorem dM_isDimension_1 : decode cM_isDimension 1 = .ok (.ifCond .lt 15, 3) := by decide +kernel
theorem dM_isDimension_4 : decode cM_isDimension 4 = .ok (.iload_n 1, 1) := by decide +kernel
theorem dM_isDimension_5 : decode cM_isDimension 5 = .ok (.aload_n 0, 1) := by decide +kernel
theorem dM_isDimension_6 : decode cM_isDimension 6 = .ok (.getfield 37, 3) := by decide +kernel
theorem dM_isDimension_9 : decode cM_isDimension 9 = .ok (.if_icmp .ge 7, 3) := by decide +kernel
theorem dM_isDimension_12 : decode cM_isDimension 12 = .ok (.iconst 1, 1) := by decide +kernel
theorem dM_isDimension_13 : decode cM_isDimension 13 = .ok (.goto 4, 3) := by decide +kernel
theorem dM_isDimension_16 : decode cM_isDimension 16 = .ok (.iconst 0, 1) := by decide +kernel
theorem dM_isDimension_17 : decode cM_isDimension 17 = .ok (.ireturn, 1) := by decide +kernel
theorem dM_isView_0 : decode cM_isView 0 = .ok (.iload_n 1, 1) := by decide +kernel
theorem dM_isView_1 : decode cM_isView 1 = .ok (.ifCond .lt 15, 3) := by decide +kernel
theorem dM_isView_4 : decode cM_isView 4 = .ok (.iload_n 1, 1) := by decide +kernel
theorem dM_isView_5 : decode cM_isView 5 = .ok (.aload_n 0, 1) := by decide +kernel
theorem dM_isView_6 : decode cM_isView 6 = .ok (.getfield 16, 3) := by decide +kernel
theorem dM_isView_9 : decode cM_isView 9 = .ok (.if_icmp .ge 7, 3) := by decide +kernel
theorem dM_isView_12 : decode cM_isView 12 = .ok (.iconst 1, 1) := by decide +kernel
theorem dM_isView_13 : decode cM_isView 13 = .ok (.goto 4, 3) := by decide +kernel
theorem dM_isView_16 : decode cM_isView 16 = .ok (.iconst 0, 1) := by decide +kernel
theorem dM_isView_17 : decode cM_isView 17 = .ok (.ireturn, 1) := by decide +kernel
theorem dM_values_0 : decode cM_values 0 = .ok (.aload_n 0, 1) := by decide +kernel
theorem dM_values_1 : decode cM_values 1 = .ok (.aload_n 0, 1) := by decide +kernel
theorem dM_values_2 : decode cM_values 2 = .ok (.iload_n 1, 1) := by decide +kernel
theorem dM_values_3 : decode cM_values 3 = .ok (.invokevirtual 46, 3) := by decide +kernel
theorem dM_values_6 : decode cM_values 6 = .ok (.ifCond .eq 27, 3) := by decide +kernel
theorem dM_values_9 : decode cM_values 9 = .ok (.iload_n 2, 1) := by decide +kernel
theorem dM_values_10 : decode cM_values 10 = .ok (.ifCond .lt 23, 3) := by decide +kernel
theorem dM_values_13 : decode cM_values 13 = .ok (.iload_n 2, 1) := by decide +kernel
theorem dM_values_14 : decode cM_values 14 = .ok (.aload_n 0, 1) := by decide +kernel
theorem dM_values_15 : decode cM_values 15 = .ok (.getfield 7, 3) := by decide +kernel
theorem dM_values_18 : decode cM_values 18 = .ok (.iload_n 1, 1) := by decide +kernel
theorem dM_values_19 : decode cM_values 19 = .ok (.iaload, 1) := by decide +kernel
theorem dM_values_20 : decode cM_values 20 = .ok (.if_icmp .ge 13, 3) := by decide +kernel
theorem dM_values_23 : decode cM_values 23 = .ok (.iload_n 3, 1) := by decide +kernel
theorem dM_values_24 : decode cM_values 24 = .ok (.ifCond .lt 9, 3) := by decide +kernel
theorem dM_values_27 : decode cM_values 27 = .ok (.iload_n 3, 1) := by decide +kernel
theorem dM_values_28 : decode cM_values 28 = .ok (.ldc 50, 2) := by decide +kernel
theorem dM_values_30 : decode cM_values 30 = .ok (.if_icmp .le 7, 3) := by decide +kernel
theorem dM_values_33 : decode cM_values 33 = .ok (.iconst 1, 1) := by decide +kernel
theorem dM_values_34 : decode cM_values 34 = .ok (.goto 4, 3) := by decide +kernel
theorem dM_values_37 : decode cM_values 37 = .ok (.iconst 0, 1) := by decide +kernel
theorem dM_values_38 : decode cM_values 38 = .ok (.putfield 34, 3) := by decide +kernel
theorem dM_values_41 : decode cM_values 41 = .ok (.aload_n 0, 1) := by decide +kernel
theorem dM_values_42 : decode cM_values 42 = .ok (.getfield 34, 3) := by decide +kernel
theorem dM_values_45 : decode cM_values 45 = .ok (.ifCond .le 5, 3) := by decide +kernel
theorem dM_values_48 : decode cM_values 48 = .ok (.iconst 0, 1) := by decide +kernel
theorem dM_values_49 : decode cM_values 49 = .ok (.ireturn, 1) := by decide +kernel
theorem dM_values_50 : decode cM_values 50 = .ok (.aload_n 0, 1) := by decide +kernel
theorem dM_values_51 : decode cM_values 51 = .ok (.getfield 13, 3) := by decide +kernel
theorem dM_values_54 : decode cM_values 54 = .ok (.iconst 4, 1) := by decide +kernel
theorem dM_values_55 : decode cM_values 55 = .ok (.iload_n 1, 1) := by decide +kernel
theorem dM_values_56 : decode cM_values 56 = .ok (.imul, 1) := by decide +kernel
theorem dM_values_57 : decode cM_values 57 = .ok (.iload_n 2, 1) := by decide +kernel
theorem dM_values_58 : decode cM_values 58 = .ok (.iadd, 1) := by decide +kernel
theorem dM_values_59 : decode cM_values 59 = .ok (.iaload, 1) := by decide +kernel
theorem dM_values_60 : decode cM_values 60 = .ok (.istore 4, 2) := by decide +kernel
theorem dM_values_62 : decode cM_values 62 = .ok (.aload_n 0, 1) := by decide +kernel
theorem dM_values_63 : decode cM_values 63 = .ok (.getfield 13, 3) := by decide +kernel
theorem dM_values_66 : decode cM_values 66 = .ok (.iconst 4, 1) := by decide +kernel
theorem dM_values_67 : decode cM_values 67 = .ok (.iload_n 1, 1) := by decide +kernel
theorem dM_values_68 : decode cM_values 68 = .ok (.imul, 1) := by decide +kernel
theorem dM_values_69 : decode cM_values 69 = .ok (.iload_n 2, 1) := by decide +kernel
theorem dM_values_70 : decode cM_values 70 = .ok (.iadd, 1) := by decide +kernel
theorem dM_values_71 : decode cM_values 71 = .ok (.iload_n 3, 1) := by decide +kernel
theorem dM_values_72 : decode cM_values 72 = .ok (.iastore, 1) := by decide +kernel
theorem dM_values_73 : decode cM_values 73 = .ok (.aload_n 0, 1) := by decide +kernel
theorem dM_values_74 : decode cM_values 74 = .ok (.iconst 0, 1) := by decide +kernel
theorem dM_values_75 : decode cM_values 75 = .ok (.putfield 40, 3) := by decide +kernel
theorem dM_values_78 : decode cM_values 78 = .ok (.iload 4, 2) := by decide +kernel
theorem dM_values_80 : decode cM_values 80 = .ok (.ireturn, 1) := by decide +kernel
theorem dM_facts_0 : decode cM_facts 0 = .ok (.aload_n 0, 1) := by decide +kernel
theorem dM_facts_1 : decode cM_facts 1 = .ok (.iload_n 1, 1) := by decide +kernel
theorem dM_facts_2 : decode cM_facts 2 = .ok (.ifCond .ge 7, 3) := by decide +kernel
theorem dM_facts_5 : decode cM_facts 5 = .ok (.iconst 1, 1) := by decide +kernel
theorem dM_facts_6 : decode cM_facts 6 = .ok (.goto 4, 3) := by decide +kernel
theorem dM_facts_9 : decode cM_facts 9 = .ok (.iconst 0, 1) := by decide +kernel
theorem dM_facts_10 : decode cM_facts 10 = .ok (.putfield 34, 3) := by decide +kernel
theorem dM_facts_13 : decode cM_facts 13 = .ok (.aload_n 0, 1) := by decide +kernel
theorem dM_facts_14 : decode cM_facts 14 = .ok (.getfield 34, 3) := by decide +kernel
theorem dM_facts_17 : decode cM_facts 17 = .ok (.ifCond .le 5, 3) := by decide +kernel
theorem dM_facts_20 : decode cM_facts 20 = .ok (.iconst 0, 1) := by decide +kernel
theorem dM_facts_21 : decode cM_facts 21 = .ok (.ireturn, 1) := by decide +kernel
theorem dM_facts_22 : decode cM_facts 22 = .ok (.aload_n 0, 1) := by decide +kernel
theorem dM_facts_23 : decode cM_facts 23 = .ok (.getfield 51, 3) := by decide +kernel
theorem dM_facts_26 : decode cM_facts 26 = .ok (.istore_n 2, 1) := by decide +kernel
theorem dM_facts_27 : decode cM_facts 27 = .ok (.aload_n 0, 1) := by decide +kernel
theorem dM_facts_28 : decode cM_facts 28 = .ok (.iload_n 1, 1) := by decide +kernel
theorem dM_facts_29 : decode cM_facts 29 = .ok (.putfield 51, 3) := by decide +kernel
theorem dM_facts_32 : decode cM_facts 32 = .ok (.aload_n 0, 1) := by decide +kernel
theorem dM_facts_33 : decode cM_facts 33 = .ok (.iconst 0, 1) := by decide +kernel
theorem dM_facts_34 : decode cM_facts 34 = .ok (.putfield 40, 3) := by decide +kernel
theorem dM_facts_37 : decode cM_facts 37 = .ok (.iload_n 2, 1) := by decide +kernel
theorem dM_facts_38 : decode cM_facts 38 = .ok (.ireturn, 1) := by decide +kernel
theorem dM_views_0 : decode cM_views 0 = .ok (.aload_n 0, 1) := by decide +kernel
theorem dM_views_1 : decode cM_views 1 = .ok (.iconst 0, 1) := by decide +kernel
theorem dM_views_2 : decode cM_views 2 = .ok (.putfield 34, 3) := by decide +kernel
theorem dM_views_5 : decode cM_views 5 = .ok (.aload_n 0, 1) := by decide +kernel
theorem dM_views_6 : decode cM_views 6 = .ok (.getfield 16, 3) := by decide +kernel
theorem dM_views_9 : decode cM_views 9 = .ok (.ireturn, 1) := by decide +kernel
theorem dM_spread_0 : decode cM_spread 0 = .ok (.iconst 0, 1) := by decide +kernel
theorem dM_spread_1 : decode cM_spread 1 = .ok (.istore_n 1, 1) := by decide +kernel
theorem dM_spread_2 : decode cM_spread 2 = .ok (.iload_n 1, 1) := by decide +kernel
theorem dM_spread_3 : decode cM_spread 3 = .ok (.aload_n 0, 1) := by decide +kernel
theorem dM_spread_4 : decode cM_spread 4 = .ok (.getfield 16, 3) := by decide +kernel
theorem dM_spread_7 : decode cM_spread 7 = .ok (.if_icmp .ge 43, 3) := by decide +kernel
theorem dM_spread_10 : decode cM_spread 10 = .ok (.iconst 0, 1) := by decide +kernel
theorem dM_spread_11 : decode cM_spread 11 = .ok (.istore_n 2, 1) := by decide +kernel
theorem dM_spread_12 : decode cM_spread 12 = .ok (.iload_n 2, 1) := by decide +kernel
theorem dM_spread_13 : decode cM_spread 13 = .ok (.aload_n 0, 1) := by decide +kernel
theorem dM_spread_14 : decode cM_spread 14 = .ok (.getfield 37, 3) := by decide +kernel
theorem dM_spread_17 : decode cM_spread 17 = .ok (.if_icmp .ge 27, 3) := by decide +kernel
theorem dM_spread_20 : decode cM_spread 20 = .ok (.aload_n 0, 1) := by decide +kernel
theorem dM_spread_21 : decode cM_spread 21 = .ok (.getfield 23, 3) := by decide +kernel
theorem dM_spread_24 : decode cM_spread 24 = .ok (.bipush 8, 2) := by decide +kernel
theorem dM_spread_26 : decode cM_spread 26 = .ok (.iload_n 1, 1) := by decide +kernel
theorem dM_spread_27 : decode cM_spread 27 = .ok (.imul, 1) := by decide +kernel
theorem dM_spread_28 : decode cM_spread 28 = .ok (.iload_n 2, 1) := by decide +kernel
theorem dM_spread_29 : decode cM_spread 29 = .ok (.iadd, 1) := by decide +kernel
theorem dM_spread_30 : decode cM_spread 30 = .ok (.aload_n 0, 1) := by decide +kernel
theorem dM_spread_31 : decode cM_spread 31 = .ok (.iload_n 1, 1) := by decide +kernel
theorem dM_spread_32 : decode cM_spread 32 = .ok (.iload_n 2, 1) := by decide +kernel
theorem dM_spread_33 : decode cM_spread 33 = .ok (.invokevirtual 54, 3) := by decide +kernel
theorem dM_spread_36 : decode cM_spread 36 = .ok (.i2b, 1) := by decide +kernel
theorem dM_spread_37 : decode cM_spread 37 = .ok (.bastore, 1) := by decide +kernel
theorem dM_spread_38 : decode cM_spread 38 = .ok (.iinc 2 1, 3) := by decide +kernel
theorem dM_spread_41 : decode cM_spread 41 = .ok (.goto (-29), 3) := by decide +kernel
theorem dM_spread_44 : decode cM_spread 44 = .ok (.iinc 1 1, 3) := by decide +kernel
theorem dM_spread_47 : decode cM_spread 47 = .ok (.goto (-45), 3) := by decide +kernel
theorem dM_spread_50 : decode cM_spread 50 = .ok (.return_, 1) := by decide +kernel
theorem dM_digitOf_0 : decode cM_digitOf 0 = .ok (.aload_n 0, 1) := by decide +kernel
theorem dM_digitOf_1 : decode cM_digitOf 1 = .ok (.getfield 23, 3) := by decide +kernel
theorem dM_digitOf_4 : decode cM_digitOf 4 = .ok (.bipush 8, 2) := by decide +kernel
theorem dM_digitOf_6 : decode cM_digitOf 6 = .ok (.iload_n 1, 1) := by decide +kernel
theorem dM_digitOf_7 : decode cM_digitOf 7 = .ok (.imul, 1) := by decide +kernel
theorem dM_digitOf_8 : decode cM_digitOf 8 = .ok (.iload_n 2, 1) := by decide +kernel
theorem dM_digitOf_9 : decode cM_digitOf 9 = .ok (.iadd, 1) := by decide +kernel
theorem dM_digitOf_10 : decode cM_digitOf 10 = .ok (.baload, 1) := by decide +kernel
theorem dM_digitOf_11 : decode cM_digitOf 11 = .ok (.ireturn, 1) := by decide +kernel
theorem dM_divided_0 : decode cM_divided 0 = .ok (.iload_n 1, 1) := by decide +kernel
theorem dM_divided_1 : decode cM_divided 1 = .ok (.istore_n 3, 1) := by decide +kernel
theorem dM_divided_2 : decode cM_divided 2 = .ok (.aload_n 0, 1) := by decide +kernel
theorem dM_divided_3 : decode cM_divided 3 = .ok (.getfield 37, 3) := by decide +kernel
theorem dM_divided_6 : decode cM_divided 6 = .ok (.iconst 1, 1) := by decide +kernel
theorem dM_divided_7 : decode cM_divided 7 = .ok (.isub, 1) := by decide +kernel
theorem dM_divided_8 : decode cM_divided 8 = .ok (.istore 4, 2) := by decide +kernel
theorem dM_divided_10 : decode cM_divided 10 = .ok (.iload 4, 2) := by decide +kernel
theorem dM_divided_12 : decode cM_divided 12 = .ok (.iload_n 2, 1) := by decide +kernel
theorem dM_divided_13 : decode cM_divided 13 = .ok (.if_icmp .le 21, 3) := by decide +kernel
theorem dM_divided_16 : decode cM_divided 16 = .ok (.iload_n 3, 1) := by decide +kernel
theorem dM_divided_17 : decode cM_divided 17 = .ok (.aload_n 0, 1) := by decide +kernel
theorem dM_divided_18 : decode cM_divided 18 = .ok (.getfield 7, 3) := by decide +kernel
theorem dM_divided_21 : decode cM_divided 21 = .ok (.iload 4, 2) := by decide +kernel
theorem dM_divided_23 : decode cM_divided 23 = .ok (.iaload, 1) := by decide +kernel
theorem dM_divided_24 : decode cM_divided 24 = .ok (.iconst 1, 1) := by decide +kernel
theorem dM_divided_25 : decode cM_divided 25 = .ok (.iadd, 1) := by decide +kernel
theorem dM_divided_26 : decode cM_divided 26 = .ok (.idiv, 1) := by decide +kernel
theorem dM_divided_27 : decode cM_divided 27 = .ok (.istore_n 3, 1) := by decide +kernel
theorem dM_divided_28 : decode cM_divided 28 = .ok (.iinc 4 (-1), 3) := by decide +kernel
theorem dM_divided_31 : decode cM_divided 31 = .ok (.goto (-21), 3) := by decide +kernel
theorem dM_divided_34 : decode cM_divided 34 = .ok (.iload_n 3, 1) := by decide +kernel
theorem dM_divided_35 : decode cM_divided 35 = .ok (.aload_n 0, 1) := by decide +kernel
theorem dM_divided_36 : decode cM_divided 36 = .ok (.getfield 7, 3) := by decide +kernel
theorem dM_divided_39 : decode cM_divided 39 = .ok (.iload_n 2, 1) := by decide +kernel
theorem dM_divided_40 : decode cM_divided 40 = .ok (.iaload, 1) := by decide +kernel
theorem dM_divided_41 : decode cM_divided 41 = .ok (.iconst 1, 1) := by decide +kernel
theorem dM_divided_42 : decode cM_divided 42 = .ok (.iadd, 1) := by decide +kernel
theorem dM_divided_43 : decode cM_divided 43 = .ok (.irem, 1) := by decide +kernel
theorem dM_divided_44 : decode cM_divided 44 = .ok (.ireturn, 1) := by decide +kernel
theorem dM_above_0 : decode cM_above 0 = .ok (.iconst 1, 1) := by decide +kernel
theorem dM_above_1 : decode cM_above 1 = .ok (.istore_n 3, 1) := by decide +kernel
theorem dM_above_2 : decode cM_above 2 = .ok (.iconst 0, 1) := by decide +kernel
theorem dM_above_3 : decode cM_above 3 = .ok (.istore 4, 2) := by decide +kernel
theorem dM_above_5 : decode cM_above 5 = .ok (.iload 4, 2) := by decide +kernel
theorem dM_above_7 : decode cM_above 7 = .ok (.aload_n 0, 1) := by decide +kernel
theorem dM_above_8 : decode cM_above 8 = .ok (.getfield 37, 3) := by decide +kernel
theorem dM_above_11 : decode cM_above 11 = .ok (.if_icmp .ge 36, 3) := by decide +kernel
theorem dM_above_14 : decode cM_above 14 = .ok (.iload_n 3, 1) := by decide +kernel
theorem dM_above_15 : decode cM_above 15 = .ok (.ifCond .eq 32, 3) := by decide +kernel
theorem dM_above_18 : decode cM_above 18 = .ok (.aload_n 0, 1) := by decide +kernel
theorem dM_above_19 : decode cM_above 19 = .ok (.iload_n 1, 1) := by decide +kernel
theorem dM_above_20 : decode cM_above 20 = .ok (.iload 4, 2) := by decide +kernel
theorem dM_above_22 : decode cM_above 22 = .ok (.invokevirtual 58, 3) := by decide +kernel
theorem dM_above_25 : decode cM_above 25 = .ok (.aload_n 0, 1) := by decide +kernel
theorem dM_above_26 : decode cM_above 26 = .ok (.iload_n 2, 1) := by decide +kernel
theorem dM_above_27 : decode cM_above 27 = .ok (.iload 4, 2) := by decide +kernel
theorem dM_above_29 : decode cM_above 29 = .ok (.invokevirtual 58, 3) := by decide +kernel
theorem dM_above_32 : decode cM_above 32 = .ok (.if_icmp .gt 7, 3) := by decide +kernel
theorem dM_above_35 : decode cM_above 35 = .ok (.iconst 1, 1) := by decide +kernel
theorem dM_above_36 : decode cM_above 36 = .ok (.goto 4, 3) := by decide +kernel
theorem dM_above_39 : decode cM_above 39 = .ok (.iconst 0, 1) := by decide +kernel
theorem dM_above_40 : decode cM_above 40 = .ok (.istore_n 3, 1) := by decide +kernel
theorem dM_above_41 : decode cM_above 41 = .ok (.iinc 4 1, 3) := by decide +kernel
theorem dM_above_44 : decode cM_above 44 = .ok (.goto (-39), 3) := by decide +kernel
theorem dM_above_47 : decode cM_above 47 = .ok (.iload_n 3, 1) := by decide +kernel
theorem dM_above_48 : decode cM_above 48 = .ok (.ireturn, 1) := by decide +kernel
theorem dM_estimateOf_0 : decode cM_estimateOf 0 = .ok (.lconst 1, 1) := by decide +kernel
theorem dM_estimateOf_1 : decode cM_estimateOf 1 = .ok (.lstore_n 2, 1) := by decide +kernel
theorem dM_estimateOf_2 : decode cM_estimateOf 2 = .ok (.iconst 0, 1) := by decide +kernel
theorem dM_estimateOf_3 : decode cM_estimateOf 3 = .ok (.istore 4, 2) := by decide +kernel
theorem dM_estimateOf_5 : decode cM_estimateOf 5 = .ok (.iload 4, 2) := by decide +kernel
theorem dM_estimateOf_7 : decode cM_estimateOf 7 = .ok (.aload_n 0, 1) := by decide +kernel
theorem dM_estimateOf_8 : decode cM_estimateOf 8 = .ok (.getfield 37, 3) := by decide +kernel
theorem dM_estimateOf_11 : decode cM_estimateOf 11 = .ok (.if_icmp .ge 62, 3) := by decide +kernel
theorem dM_estimateOf_14 : decode cM_estimateOf 14 = .ok (.aload_n 0, 1) := by decide +kernel
theorem dM_estimateOf_15 : decode cM_estimateOf 15 = .ok (.iload_n 1, 1) := by decide +kernel
theorem dM_estimateOf_16 : decode cM_estimateOf 16 = .ok (.iload 4, 2) := by decide +kernel
theorem dM_estimateOf_18 : decode cM_estimateOf 18 = .ok (.invokevirtual 58, 3) := by decide +kernel
theorem dM_estimateOf_21 : decode cM_estimateOf 21 = .ok (.istore 5, 2) := by decide +kernel
theorem dM_estimateOf_23 : decode cM_estimateOf 23 = .ok (.iload 5, 2) := by decide +kernel
theorem dM_estimateOf_25 : decode cM_estimateOf 25 = .ok (.aload_n 0, 1) := by decide +kernel
theorem dM_estimateOf_26 : decode cM_estimateOf 26 = .ok (.getfield 7, 3) := by decide +kernel
theorem dM_estimateOf_29 : decode cM_estimateOf 29 = .ok (.iload 4, 2) := by decide +kernel
theorem dM_estimateOf_31 : decode cM_estimateOf 31 = .ok (.iaload, 1) := by decide +kernel
theorem dM_estimateOf_32 : decode cM_estimateOf 32 = .ok (.if_icmp .ge 35, 3) := by decide +kernel
theorem dM_estimateOf_35 : decode cM_estimateOf 35 = .ok (.lload_n 2, 1) := by decide +kernel
theorem dM_estimateOf_36 : decode cM_estimateOf 36 = .ok (.aload_n 0, 1) := by decide +kernel
theorem dM_estimateOf_37 : decode cM_estimateOf 37 = .ok (.getfield 13, 3) := by decide +kernel
theorem dM_estimateOf_40 : decode cM_estimateOf 40 = .ok (.iconst 4, 1) := by decide +kernel
theorem dM_estimateOf_41 : decode cM_estimateOf 41 = .ok (.iload 4, 2) := by decide +kernel
theorem dM_estimateOf_43 : decode cM_estimateOf 43 = .ok (.imul, 1) := by decide +kernel
theorem dM_estimateOf_44 : decode cM_estimateOf 44 = .ok (.iload 5, 2) := by decide +kernel
theorem dM_estimateOf_46 : decode cM_estimateOf 46 = .ok (.iadd, 1) := by decide +kernel
theorem dM_estimateOf_47 : decode cM_estimateOf 47 = .ok (.iaload, 1) := by decide +kernel
theorem dM_estimateOf_48 : decode cM_estimateOf 48 = .ok (.i2l, 1) := by decide +kernel
theorem dM_estimateOf_49 : decode cM_estimateOf 49 = .ok (.lmul, 1) := by decide +kernel
theorem dM_estimateOf_50 : decode cM_estimateOf 50 = .ok (.lstore_n 2, 1) := by decide +kernel
theorem dM_estimateOf_51 : decode cM_estimateOf 51 = .ok (.lload_n 2, 1) := by decide +kernel
theorem dM_estimateOf_52 : decode cM_estimateOf 52 = .ok (.ldc2_w 61, 3) := by decide +kernel
theorem dM_estimateOf_55 : decode cM_estimateOf 55 = .ok (.lcmp, 1) := by decide +kernel
theorem dM_estimateOf_56 : decode cM_estimateOf 56 = .ok (.ifCond .le 9, 3) := by decide +kernel
theorem dM_estimateOf_59 : decode cM_estimateOf 59 = .ok (.ldc2_w 61, 3) := by decide +kernel
theorem dM_estimateOf_62 : decode cM_estimateOf 62 = .ok (.goto 4, 3) := by decide +kernel
theorem dM_estimateOf_65 : decode cM_estimateOf 65 = .ok (.lload_n 2, 1) := by decide +kernel
theorem dM_estimateOf_66 : decode cM_estimateOf 66 = .ok (.lstore_n 2, 1) := by decide +kernel
theorem dM_estimateOf_67 : decode cM_estimateOf 67 = .ok (.iinc 4 1, 3) := by decide +kernel
theorem dM_estimateOf_70 : decode cM_estimateOf 70 = .ok (.goto (-65), 3) := by decide +kernel
theorem dM_estimateOf_73 : decode cM_estimateOf 73 = .ok (.lload_n 2, 1) := by decide +kernel
theorem dM_estimateOf_74 : decode cM_estimateOf 74 = .ok (.aload_n 0, 1) := by decide +kernel
theorem dM_estimateOf_75 : decode cM_estimateOf 75 = .ok (.getfield 51, 3) := by decide +kernel
theorem dM_estimateOf_78 : decode cM_estimateOf 78 = .ok (.i2l, 1) := by decide +kernel
theorem dM_estimateOf_79 : decode cM_estimateOf 79 = .ok (.lcmp, 1) := by decide +kernel
theorem dM_estimateOf_80 : decode cM_estimateOf 80 = .ok (.ifCond .ge 7, 3) := by decide +kernel
theorem dM_estimateOf_83 : decode cM_estimateOf 83 = .ok (.lload_n 2, 1) := by decide +kernel
theorem dM_estimateOf_84 : decode cM_estimateOf 84 = .ok (.goto 8, 3) := by decide +kernel
theorem dM_estimateOf_87 : decode cM_estimateOf 87 = .ok (.aload_n 0, 1) := by decide +kernel
theorem dM_estimateOf_88 : decode cM_estimateOf 88 = .ok (.getfield 51, 3) := by decide +kernel
theorem dM_estimateOf_91 : decode cM_estimateOf 91 = .ok (.i2l, 1) := by decide +kernel
theorem dM_estimateOf_92 : decode cM_estimateOf 92 = .ok (.lreturn, 1) := by decide +kernel
theorem dM_reckon_0 : decode cM_reckon 0 = .ok (.iconst 0, 1) := by decide +kernel
theorem dM_reckon_1 : decode cM_reckon 1 = .ok (.istore_n 1, 1) := by decide +kernel
theorem dM_reckon_2 : decode cM_reckon 2 = .ok (.iload_n 1, 1) := by decide +kernel
theorem dM_reckon_3 : decode cM_reckon 3 = .ok (.aload_n 0, 1) := by decide +kernel
theorem dM_reckon_4 : decode cM_reckon 4 = .ok (.getfield 16, 3) := by decide +kernel
theorem dM_reckon_7 : decode cM_reckon 7 = .ok (.if_icmp .ge 20, 3) := by decide +kernel
theorem dM_reckon_10 : decode cM_reckon 10 = .ok (.aload_n 0, 1) := by decide +kernel
theorem dM_reckon_11 : decode cM_reckon 11 = .ok (.getfield 27, 3) := by decide +kernel
theorem dM_reckon_14 : decode cM_reckon 14 = .ok (.iload_n 1, 1) := by decide +kernel
theorem dM_reckon_15 : decode cM_reckon 15 = .ok (.aload_n 0, 1) := by decide +kernel
theorem dM_reckon_16 : decode cM_reckon 16 = .ok (.iload_n 1, 1) := by decide +kernel
theorem dM_reckon_17 : decode cM_reckon 17 = .ok (.invokevirtual 63, 3) := by decide +kernel
theorem dM_reckon_20 : decode cM_reckon 20 = .ok (.lastore, 1) := by decide +kernel
theorem dM_reckon_21 : decode cM_reckon 21 = .ok (.iinc 1 1, 3) := by decide +kernel
theorem dM_reckon_24 : decode cM_reckon 24 = .ok (.goto (-22), 3) := by decide +kernel
theorem dM_reckon_27 : decode cM_reckon 27 = .ok (.iconst 0, 1) := by decide +kernel
theorem dM_reckon_28 : decode cM_reckon 28 = .ok (.istore_n 1, 1) := by decide +kernel
theorem dM_reckon_29 : decode cM_reckon 29 = .ok (.iload_n 1, 1) := by decide +kernel
theorem dM_reckon_30 : decode cM_reckon 30 = .ok (.aload_n 0, 1) := by decide +kernel
theorem dM_reckon_31 : decode cM_reckon 31 = .ok (.getfield 16, 3) := by decide +kernel
theorem dM_reckon_34 : decode cM_reckon 34 = .ok (.if_icmp .ge 107, 3) := by decide +kernel
theorem dM_reckon_37 : decode cM_reckon 37 = .ok (.aload_n 0, 1) := by decide +kernel
theorem dM_reckon_38 : decode cM_reckon 38 = .ok (.getfield 31, 3) := by decide +kernel
theorem dM_reckon_41 : decode cM_reckon 41 = .ok (.iload_n 1, 1) := by decide +kernel
theorem dM_reckon_42 : decode cM_reckon 42 = .ok (.aload_n 0, 1) := by decide +kernel
theorem dM_reckon_43 : decode cM_reckon 43 = .ok (.getfield 51, 3) := by decide +kernel
theorem dM_reckon_46 : decode cM_reckon 46 = .ok (.i2l, 1) := by decide +kernel
theorem dM_reckon_47 : decode cM_reckon 47 = .ok (.lastore, 1) := by decide +kernel
theorem dM_reckon_48 : decode cM_reckon 48 = .ok (.iconst 0, 1) := by decide +kernel
theorem dM_reckon_49 : decode cM_reckon 49 = .ok (.istore_n 2, 1) := by decide +kernel
theorem dM_reckon_50 : decode cM_reckon 50 = .ok (.iload_n 2, 1) := by decide +kernel
theorem dM_reckon_51 : decode cM_reckon 51 = .ok (.aload_n 0, 1) := by decide +kernel
theorem dM_reckon_52 : decode cM_reckon 52 = .ok (.getfield 40, 3) := by decide +kernel
theorem dM_reckon_55 : decode cM_reckon 55 = .ok (.if_icmp .ge 80, 3) := by decide +kernel
theorem dM_reckon_58 : decode cM_reckon 58 = .ok (.aload_n 0, 1) := by decide +kernel
theorem dM_reckon_59 : decode cM_reckon 59 = .ok (.getfield 27, 3) := by decide +kernel
theorem dM_reckon_62 : decode cM_reckon 62 = .ok (.aload_n 0, 1) := by decide +kernel
theorem dM_reckon_63 : decode cM_reckon 63 = .ok (.getfield 20, 3) := by decide +kernel
theorem dM_reckon_66 : decode cM_reckon 66 = .ok (.iload_n 2, 1) := by decide +kernel
theorem dM_reckon_67 : decode cM_reckon 67 = .ok (.iaload, 1) := by decide +kernel
theorem dM_reckon_68 : decode cM_reckon 68 = .ok (.laload, 1) := by decide +kernel
theorem dM_reckon_69 : decode cM_reckon 69 = .ok (.aload_n 0, 1) := by decide +kernel
theorem dM_reckon_70 : decode cM_reckon 70 = .ok (.getfield 31, 3) := by decide +kernel
theorem dM_reckon_73 : decode cM_reckon 73 = .ok (.iload_n 1, 1) := by decide +kernel
theorem dM_reckon_74 : decode cM_reckon 74 = .ok (.laload, 1) := by decide +kernel
theorem dM_reckon_75 : decode cM_reckon 75 = .ok (.lcmp, 1) := by decide +kernel
theorem dM_reckon_76 : decode cM_reckon 76 = .ok (.ifCond .ge 21, 3) := by decide +kernel
theorem dM_reckon_79 : decode cM_reckon 79 = .ok (.aload_n 0, 1) := by decide +kernel
theorem dM_reckon_80 : decode cM_reckon 80 = .ok (.aload_n 0, 1) := by decide +kernel
theorem dM_reckon_81 : decode cM_reckon 81 = .ok (.getfield 20, 3) := by decide +kernel
theorem dM_reckon_84 : decode cM_reckon 84 = .ok (.iload_n 2, 1) := by decide +kernel
theorem dM_reckon_85 : decode cM_reckon 85 = .ok (.iaload, 1) := by decide +kernel
theorem dM_reckon_86 : decode cM_reckon 86 = .ok (.iload_n 1, 1) := by decide +kernel
theorem dM_reckon_87 : decode cM_reckon 87 = .ok (.invokevirtual 67, 3) := by decide +kernel
theorem dM_reckon_90 : decode cM_reckon 90 = .ok (.ifCond .eq 7, 3) := by decide +kernel
theorem dM_reckon_93 : decode cM_reckon 93 = .ok (.iconst 1, 1) := by decide +kernel
theorem dM_reckon_94 : decode cM_reckon 94 = .ok (.goto 4, 3) := by decide +kernel
theorem dM_reckon_97 : decode cM_reckon 97 = .ok (.iconst 0, 1) := by decide +kernel
theorem dM_reckon_98 : decode cM_reckon 98 = .ok (.istore_n 3, 1) := by decide +kernel
theorem dM_reckon_99 : decode cM_reckon 99 = .ok (.aload_n 0, 1) := by decide +kernel
theorem dM_reckon_100 : decode cM_reckon 100 = .ok (.getfield 31, 3) := by decide +kernel
theorem dM_reckon_103 : decode cM_reckon 103 = .ok (.iload_n 1, 1) := by decide +kernel
theorem dM_reckon_104 : decode cM_reckon 104 = .ok (.iload_n 3, 1) := by decide +kernel
theorem dM_reckon_105 : decode cM_reckon 105 = .ok (.ifCond .eq 17, 3) := by decide +kernel
theorem dM_reckon_108 : decode cM_reckon 108 = .ok (.aload_n 0, 1) := by decide +kernel
theorem dM_reckon_109 : decode cM_reckon 109 = .ok (.getfield 27, 3) := by decide +kernel
theorem dM_reckon_112 : decode cM_reckon 112 = .ok (.aload_n 0, 1) := by decide +kernel
theorem dM_reckon_113 : decode cM_reckon 113 = .ok (.getfield 20, 3) := by decide +kernel
theorem dM_reckon_116 : decode cM_reckon 116 = .ok (.iload_n 2, 1) := by decide +kernel
theorem dM_reckon_117 : decode cM_reckon 117 = .ok (.iaload, 1) := by decide +kernel
theorem dM_reckon_118 : decode cM_reckon 118 = .ok (.laload, 1) := by decide +kernel
theorem dM_reckon_119 : decode cM_reckon 119 = .ok (.goto 9, 3) := by decide +kernel
theorem dM_reckon_122 : decode cM_reckon 122 = .ok (.aload_n 0, 1) := by decide +kernel
theorem dM_reckon_123 : decode cM_reckon 123 = .ok (.getfield 31, 3) := by decide +kernel
theorem dM_reckon_126 : decode cM_reckon 126 = .ok (.iload_n 1, 1) := by decide +kernel
theorem dM_reckon_127 : decode cM_reckon 127 = .ok (.laload, 1) := by decide +kernel
theorem dM_reckon_128 : decode cM_reckon 128 = .ok (.lastore, 1) := by decide +kernel
theorem dM_reckon_129 : decode cM_reckon 129 = .ok (.iinc 2 1, 3) := by decide +kernel
theorem dM_reckon_132 : decode cM_reckon 132 = .ok (.goto (-82), 3) := by decide +kernel
theorem dM_reckon_135 : decode cM_reckon 135 = .ok (.iinc 1 1, 3) := by decide +kernel
theorem dM_reckon_138 : decode cM_reckon 138 = .ok (.goto (-109), 3) := by decide +kernel
theorem dM_reckon_141 : decode cM_reckon 141 = .ok (.return_, 1) := by decide +kernel
theorem dM_benefitOf_0 : decode cM_benefitOf 0 = .ok (.lconst 0, 1) := by decide +kernel
theorem dM_benefitOf_1 : decode cM_benefitOf 1 = .ok (.lstore_n 2, 1) := by decide +kernel
theorem dM_benefitOf_2 : decode cM_benefitOf 2 = .ok (.iconst 0, 1) := by decide +kernel
theorem dM_benefitOf_3 : decode cM_benefitOf 3 = .ok (.istore 4, 2) := by decide +kernel
theorem dM_benefitOf_5 : decode cM_benefitOf 5 = .ok (.iload 4, 2) := by decide +kernel
theorem dM_benefitOf_7 : decode cM_benefitOf 7 = .ok (.aload_n 0, 1) := by decide +kernel
theorem dM_benefitOf_8 : decode cM_benefitOf 8 = .ok (.getfield 16, 3) := by decide +kernel
theorem dM_benefitOf_11 : decode cM_benefitOf 11 = .ok (.if_icmp .ge 53, 3) := by decide +kernel
theorem dM_benefitOf_14 : decode cM_benefitOf 14 = .ok (.aload_n 0, 1) := by decide +kernel
theorem dM_benefitOf_15 : decode cM_benefitOf 15 = .ok (.getfield 31, 3) := by decide +kernel
theorem dM_benefitOf_18 : decode cM_benefitOf 18 = .ok (.iload 4, 2) := by decide +kernel
theorem dM_benefitOf_20 : decode cM_benefitOf 20 = .ok (.laload, 1) := by decide +kernel
theorem dM_benefitOf_21 : decode cM_benefitOf 21 = .ok (.aload_n 0, 1) := by decide +kernel
theorem dM_benefitOf_22 : decode cM_benefitOf 22 = .ok (.getfield 27, 3) := by decide +kernel
theorem dM_benefitOf_25 : decode cM_benefitOf 25 = .ok (.iload_n 1, 1) := by decide +kernel
theorem dM_benefitOf_26 : decode cM_benefitOf 26 = .ok (.laload, 1) := by decide +kernel
theorem dM_benefitOf_27 : decode cM_benefitOf 27 = .ok (.lcmp, 1) := by decide +kernel
theorem dM_benefitOf_28 : decode cM_benefitOf 28 = .ok (.ifCond .le 30, 3) := by decide +kernel
theorem dM_benefitOf_31 : decode cM_benefitOf 31 = .ok (.aload_n 0, 1) := by decide +kernel
theorem dM_benefitOf_32 : decode cM_benefitOf 32 = .ok (.iload_n 1, 1) := by decide +kernel
theorem dM_benefitOf_33 : decode cM_benefitOf 33 = .ok (.iload 4, 2) := by decide +kernel
theorem dM_benefitOf_35 : decode cM_benefitOf 35 = .ok (.invokevirtual 67, 3) := by decide +kernel
theorem dM_benefitOf_38 : decode cM_benefitOf 38 = .ok (.ifCond .eq 20, 3) := by decide +kernel
theorem dM_benefitOf_41 : decode cM_benefitOf 41 = .ok (.lload_n 2, 1) := by decide +kernel
theorem dM_benefitOf_42 : decode cM_benefitOf 42 = .ok (.aload_n 0, 1) := by decide +kernel
theorem dM_benefitOf_43 : decode cM_benefitOf 43 = .ok (.getfield 31, 3) := by decide +kernel
theorem dM_benefitOf_46 : decode cM_benefitOf 46 = .ok (.iload 4, 2) := by decide +kernel
theorem dM_benefitOf_48 : decode cM_benefitOf 48 = .ok (.laload, 1) := by decide +kernel
theorem dM_benefitOf_49 : decode cM_benefitOf 49 = .ok (.aload_n 0, 1) := by decide +kernel
theorem dM_benefitOf_50 : decode cM_benefitOf 50 = .ok (.getfield 27, 3) := by decide +kernel
theorem dM_benefitOf_53 : decode cM_benefitOf 53 = .ok (.iload_n 1, 1) := by decide +kernel
theorem dM_benefitOf_54 : decode cM_benefitOf 54 = .ok (.laload, 1) := by decide +kernel
theorem dM_benefitOf_55 : decode cM_benefitOf 55 = .ok (.lsub, 1) := by decide +kernel
theorem dM_benefitOf_56 : decode cM_benefitOf 56 = .ok (.ladd, 1) := by decide +kernel
theorem dM_benefitOf_57 : decode cM_benefitOf 57 = .ok (.lstore_n 2, 1) := by decide +kernel
theorem dM_benefitOf_58 : decode cM_benefitOf 58 = .ok (.iinc 4 1, 3) := by decide +kernel
theorem dM_benefitOf_61 : decode cM_benefitOf 61 = .ok (.goto (-56), 3) := by decide +kernel
theorem dM_benefitOf_64 : decode cM_benefitOf 64 = .ok (.lload_n 2, 1) := by decide +kernel
theorem dM_benefitOf_65 : decode cM_benefitOf 65 = .ok (.lreturn, 1) := by decide +kernel
theorem dM_digit_0 : decode cM_digit 0 = .ok (.aload_n 0, 1) := by decide +kernel
theorem dM_digit_1 : decode cM_digit 1 = .ok (.aload_n 0, 1) := by decide +kernel
theorem dM_digit_2 : decode cM_digit 2 = .ok (.iload_n 1, 1) := by decide +kernel
theorem dM_digit_3 : decode cM_digit 3 = .ok (.invokevirtual 71, 3) := by decide +kernel
theorem dM_digit_6 : decode cM_digit 6 = .ok (.ifCond .eq 15, 3) := by decide +kernel
theorem dM_digit_9 : decode cM_digit 9 = .ok (.aload_n 0, 1) := by decide +kernel
theorem dM_digit_10 : decode cM_digit 10 = .ok (.iload_n 2, 1) := by decide +kernel
theorem dM_digit_11 : decode cM_digit 11 = .ok (.invokevirtual 46, 3) := by decide +kernel
theorem dM_digit_14 : decode cM_digit 14 = .ok (.ifCond .eq 7, 3) := by decide +kernel
theorem dM_digit_17 : decode cM_digit 17 = .ok (.iconst 0, 1) := by decide +kernel
theorem dM_digit_18 : decode cM_digit 18 = .ok (.goto 4, 3) := by decide +kernel
theorem dM_digit_21 : decode cM_digit 21 = .ok (.iconst 1, 1) := by decide +kernel
theorem dM_digit_22 : decode cM_digit 22 = .ok (.putfield 34, 3) := by decide +kernel
theorem dM_digit_25 : decode cM_digit 25 = .ok (.aload_n 0, 1) := by decide +kernel
theorem dM_digit_26 : decode cM_digit 26 = .ok (.getfield 34, 3) := by decide +kernel
theorem dM_digit_29 : decode cM_digit 29 = .ok (.ifCond .le 7, 3) := by decide +kernel
theorem dM_digit_32 : decode cM_digit 32 = .ok (.iconst 0, 1) := by decide +kernel
theorem dM_digit_33 : decode cM_digit 33 = .ok (.goto 9, 3) := by decide +kernel
theorem dM_digit_36 : decode cM_digit 36 = .ok (.aload_n 0, 1) := by decide +kernel
theorem dM_digit_37 : decode cM_digit 37 = .ok (.iload_n 1, 1) := by decide +kernel
theorem dM_digit_38 : decode cM_digit 38 = .ok (.iload_n 2, 1) := by decide +kernel
theorem dM_digit_39 : decode cM_digit 39 = .ok (.invokevirtual 58, 3) := by decide +kernel
theorem dM_digit_42 : decode cM_digit 42 = .ok (.ireturn, 1) := by decide +kernel
theorem dM_isAbove_0 : decode cM_isAbove 0 = .ok (.aload_n 0, 1) := by decide +kernel
theorem dM_isAbove_1 : decode cM_isAbove 1 = .ok (.aload_n 0, 1) := by decide +kernel
theorem dM_isAbove_2 : decode cM_isAbove 2 = .ok (.iload_n 1, 1) := by decide +kernel
theorem dM_isAbove_3 : decode cM_isAbove 3 = .ok (.invokevirtual 71, 3) := by decide +kernel
theorem dM_isAbove_6 : decode cM_isAbove 6 = .ok (.ifCond .eq 15, 3) := by decide +kernel
theorem dM_isAbove_9 : decode cM_isAbove 9 = .ok (.aload_n 0, 1) := by decide +kernel
theorem dM_isAbove_10 : decode cM_isAbove 10 = .ok (.iload_n 2, 1) := by decide +kernel
theorem dM_isAbove_11 : decode cM_isAbove 11 = .ok (.invokevirtual 71, 3) := by decide +kernel
theorem dM_isAbove_14 : decode cM_isAbove 14 = .ok (.ifCond .eq 7, 3) := by decide +kernel
theorem dM_isAbove_17 : decode cM_isAbove 17 = .ok (.iconst 0, 1) := by decide +kernel
theorem dM_isAbove_18 : decode cM_isAbove 18 = .ok (.goto 4, 3) := by decide +kernel
theorem dM_isAbove_21 : decode cM_isAbove 21 = .ok (.iconst 1, 1) := by decide +kernel
theorem dM_isAbove_22 : decode cM_isAbove 22 = .ok (.putfield 34, 3) := by decide +kernel
theorem dM_isAbove_25 : decode cM_isAbove 25 = .ok (.aload_n 0, 1) := by decide +kernel
theorem dM_isAbove_26 : decode cM_isAbove 26 = .ok (.getfield 34, 3) := by decide +kernel
theorem dM_isAbove_29 : decode cM_isAbove 29 = .ok (.ifCond .ne 16, 3) := by decide +kernel
theorem dM_isAbove_32 : decode cM_isAbove 32 = .ok (.aload_n 0, 1) := by decide +kernel
theorem dM_isAbove_33 : decode cM_isAbove 33 = .ok (.iload_n 1, 1) := by decide +kernel
theorem dM_isAbove_34 : decode cM_isAbove 34 = .ok (.iload_n 2, 1) := by decide +kernel
theorem dM_isAbove_35 : decode cM_isAbove 35 = .ok (.invokevirtual 67, 3) := by decide +kernel
theorem dM_isAbove_38 : decode cM_isAbove 38 = .ok (.ifCond .eq 7, 3) := by decide +kernel
theorem dM_isAbove_41 : decode cM_isAbove 41 = .ok (.iconst 1, 1) := by decide +kernel
theorem dM_isAbove_42 : decode cM_isAbove 42 = .ok (.goto 4, 3) := by decide +kernel
theorem dM_isAbove_45 : decode cM_isAbove 45 = .ok (.iconst 0, 1) := by decide +kernel
theorem dM_isAbove_46 : decode cM_isAbove 46 = .ok (.ireturn, 1) := by decide +kernel
theorem dM_told_0 : decode cM_told 0 = .ok (.aload_n 0, 1) := by decide +kernel
theorem dM_told_1 : decode cM_told 1 = .ok (.aload_n 0, 1) := by decide +kernel
theorem dM_told_2 : decode cM_told 2 = .ok (.iload_n 1, 1) := by decide +kernel
theorem dM_told_3 : decode cM_told 3 = .ok (.invokevirtual 71, 3) := by decide +kernel
theorem dM_told_6 : decode cM_told 6 = .ok (.ifCond .eq 16, 3) := by decide +kernel
theorem dM_told_9 : decode cM_told 9 = .ok (.iload_n 2, 1) := by decide +kernel
theorem dM_told_10 : decode cM_told 10 = .ok (.ifCond .lt 12, 3) := by decide +kernel
theorem dM_told_13 : decode cM_told 13 = .ok (.iload_n 2, 1) := by decide +kernel
theorem dM_told_14 : decode cM_told 14 = .ok (.iconst 2, 1) := by decide +kernel
theorem dM_told_15 : decode cM_told 15 = .ok (.if_icmp .gt 7, 3) := by decide +kernel
theorem dM_told_18 : decode cM_told 18 = .ok (.iconst 0, 1) := by decide +kernel
theorem dM_told_19 : decode cM_told 19 = .ok (.goto 4, 3) := by decide +kernel
theorem dM_told_22 : decode cM_told 22 = .ok (.iconst 1, 1) := by decide +kernel
theorem dM_told_23 : decode cM_told 23 = .ok (.putfield 34, 3) := by decide +kernel
theorem dM_told_26 : decode cM_told 26 = .ok (.aload_n 0, 1) := by decide +kernel
theorem dM_told_27 : decode cM_told 27 = .ok (.getfield 34, 3) := by decide +kernel
theorem dM_told_30 : decode cM_told 30 = .ok (.ifCond .le 5, 3) := by decide +kernel
theorem dM_told_33 : decode cM_told 33 = .ok (.lconst 0, 1) := by decide +kernel
theorem dM_told_34 : decode cM_told 34 = .ok (.lreturn, 1) := by decide +kernel
theorem dM_told_35 : decode cM_told 35 = .ok (.aload_n 0, 1) := by decide +kernel
theorem dM_told_36 : decode cM_told 36 = .ok (.invokevirtual 74, 3) := by decide +kernel
theorem dM_told_39 : decode cM_told 39 = .ok (.iload_n 2, 1) := by decide +kernel
theorem dM_told_40 : decode cM_told 40 = .ok (.ifCond .ne 12, 3) := by decide +kernel
theorem dM_told_43 : decode cM_told 43 = .ok (.aload_n 0, 1) := by decide +kernel
theorem dM_told_44 : decode cM_told 44 = .ok (.getfield 27, 3) := by decide +kernel
theorem dM_told_47 : decode cM_told 47 = .ok (.iload_n 1, 1) := by decide +kernel
theorem dM_told_48 : decode cM_told 48 = .ok (.laload, 1) := by decide +kernel
theorem dM_told_49 : decode cM_told 49 = .ok (.goto 22, 3) := by decide +kernel
theorem dM_told_52 : decode cM_told 52 = .ok (.iload_n 2, 1) := by decide +kernel
theorem dM_told_53 : decode cM_told 53 = .ok (.iconst 1, 1) := by decide +kernel
theorem dM_told_54 : decode cM_told 54 = .ok (.if_icmp .ne 12, 3) := by decide +kernel
theorem dM_told_57 : decode cM_told 57 = .ok (.aload_n 0, 1) := by decide +kernel
theorem dM_told_58 : decode cM_told 58 = .ok (.getfield 31, 3) := by decide +kernel
theorem dM_told_61 : decode cM_told 61 = .ok (.iload_n 1, 1) := by decide +kernel
theorem dM_told_62 : decode cM_told 62 = .ok (.laload, 1) := by decide +kernel
theorem dM_told_63 : decode cM_told 63 = .ok (.goto 8, 3) := by decide +kernel
theorem dM_told_66 : decode cM_told 66 = .ok (.aload_n 0, 1) := by decide +kernel
theorem dM_told_67 : decode cM_told 67 = .ok (.iload_n 1, 1) := by decide +kernel
theorem dM_told_68 : decode cM_told 68 = .ok (.invokevirtual 77, 3) := by decide +kernel
theorem dM_told_71 : decode cM_told 71 = .ok (.lreturn, 1) := by decide +kernel
theorem dM_take_0 : decode cM_take 0 = .ok (.aload_n 0, 1) := by decide +kernel
theorem dM_take_1 : decode cM_take 1 = .ok (.aload_n 0, 1) := by decide +kernel
theorem dM_take_2 : decode cM_take 2 = .ok (.iload_n 1, 1) := by decide +kernel
theorem dM_take_3 : decode cM_take 3 = .ok (.invokevirtual 71, 3) := by decide +kernel
theorem dM_take_6 : decode cM_take 6 = .ok (.ifCond .ne 7, 3) := by decide +kernel
theorem dM_take_9 : decode cM_take 9 = .ok (.iconst 1, 1) := by decide +kernel
theorem dM_take_10 : decode cM_take 10 = .ok (.goto 17, 3) := by decide +kernel
theorem dM_take_13 : decode cM_take 13 = .ok (.aload_n 0, 1) := by decide +kernel
theorem dM_take_14 : decode cM_take 14 = .ok (.getfield 40, 3) := by decide +kernel
theorem dM_take_17 : decode cM_take 17 = .ok (.bipush 16, 2) := by decide +kernel
theorem dM_take_19 : decode cM_take 19 = .ok (.if_icmp .ne 7, 3) := by decide +kernel
theorem dM_take_22 : decode cM_take 22 = .ok (.iconst 2, 1) := by decide +kernel
theorem dM_take_23 : decode cM_take 23 = .ok (.goto 4, 3) := by decide +kernel
theorem dM_take_26 : decode cM_take 26 = .ok (.iconst 0, 1) := by decide +kernel
theorem dM_take_27 : decode cM_take 27 = .ok (.putfield 34, 3) := by decide +kernel
theorem dM_take_30 : decode cM_take 30 = .ok (.aload_n 0, 1) := by decide +kernel
theorem dM_take_31 : decode cM_take 31 = .ok (.getfield 34, 3) := by decide +kernel
theorem dM_take_34 : decode cM_take 34 = .ok (.ifCond .le 5, 3) := by decide +kernel
theorem dM_take_37 : decode cM_take 37 = .ok (.iconst 0, 1) := by decide +kernel
theorem dM_take_38 : decode cM_take 38 = .ok (.ireturn, 1) := by decide +kernel
theorem dM_take_39 : decode cM_take 39 = .ok (.aload_n 0, 1) := by decide +kernel
theorem dM_take_40 : decode cM_take 40 = .ok (.getfield 20, 3) := by decide +kernel
theorem dM_take_43 : decode cM_take 43 = .ok (.aload_n 0, 1) := by decide +kernel
theorem dM_take_44 : decode cM_take 44 = .ok (.getfield 40, 3) := by decide +kernel
theorem dM_take_47 : decode cM_take 47 = .ok (.iload_n 1, 1) := by decide +kernel
theorem dM_take_48 : decode cM_take 48 = .ok (.iastore, 1) := by decide +kernel
theorem dM_take_49 : decode cM_take 49 = .ok (.aload_n 0, 1) := by decide +kernel
theorem dM_take_50 : decode cM_take 50 = .ok (.dup, 1) := by decide +kernel
theorem dM_take_51 : decode cM_take 51 = .ok (.getfield 40, 3) := by decide +kernel
theorem dM_take_54 : decode cM_take 54 = .ok (.iconst 1, 1) := by decide +kernel
theorem dM_take_55 : decode cM_take 55 = .ok (.iadd, 1) := by decide +kernel
theorem dM_take_56 : decode cM_take 56 = .ok (.putfield 40, 3) := by decide +kernel
theorem dM_take_59 : decode cM_take 59 = .ok (.aload_n 0, 1) := by decide +kernel
theorem dM_take_60 : decode cM_take 60 = .ok (.getfield 40, 3) := by decide +kernel
theorem dM_take_63 : decode cM_take 63 = .ok (.ireturn, 1) := by decide +kernel
theorem dM_choosesOne_0 : decode cM_choosesOne 0 = .ok (.aload_n 0, 1) := by decide +kernel
theorem dM_choosesOne_1 : decode cM_choosesOne 1 = .ok (.invokevirtual 74, 3) := by decide +kernel
theorem dM_choosesOne_4 : decode cM_choosesOne 4 = .ok (.iconst (-1), 1) := by decide +kernel
theorem dM_choosesOne_5 : decode cM_choosesOne 5 = .ok (.istore_n 1, 1) := by decide +kernel
theorem dM_choosesOne_6 : decode cM_choosesOne 6 = .ok (.lconst 0, 1) := by decide +kernel
theorem dM_choosesOne_7 : decode cM_choosesOne 7 = .ok (.lstore_n 2, 1) := by decide +kernel
theorem dM_choosesOne_8 : decode cM_choosesOne 8 = .ok (.iconst 0, 1) := by decide +kernel
theorem dM_choosesOne_9 : decode cM_choosesOne 9 = .ok (.istore 4, 2) := by decide +kernel
theorem dM_choosesOne_11 : decode cM_choosesOne 11 = .ok (.iload 4, 2) := by decide +kernel
theorem dM_choosesOne_13 : decode cM_choosesOne 13 = .ok (.aload_n 0, 1) := by decide +kernel
theorem dM_choosesOne_14 : decode cM_choosesOne 14 = .ok (.getfield 16, 3) := by decide +kernel
theorem dM_choosesOne_17 : decode cM_choosesOne 17 = .ok (.if_icmp .ge 30, 3) := by decide +kernel
theorem dM_choosesOne_20 : decode cM_choosesOne 20 = .ok (.aload_n 0, 1) := by decide +kernel
theorem dM_choosesOne_21 : decode cM_choosesOne 21 = .ok (.iload 4, 2) := by decide +kernel
theorem dM_choosesOne_23 : decode cM_choosesOne 23 = .ok (.invokevirtual 77, 3) := by decide +kernel
theorem dM_choosesOne_26 : decode cM_choosesOne 26 = .ok (.lstore 5, 2) := by decide +kernel
theorem dM_choosesOne_28 : decode cM_choosesOne 28 = .ok (.lload 5, 2) := by decide +kernel
theorem dM_choosesOne_30 : decode cM_choosesOne 30 = .ok (.lload_n 2, 1) := by decide +kernel
theorem dM_choosesOne_31 : decode cM_choosesOne 31 = .ok (.lcmp, 1) := by decide +kernel
theorem dM_choosesOne_32 : decode cM_choosesOne 32 = .ok (.ifCond .le 9, 3) := by decide +kernel
theorem dM_choosesOne_35 : decode cM_choosesOne 35 = .ok (.lload 5, 2) := by decide +kernel
theorem dM_choosesOne_37 : decode cM_choosesOne 37 = .ok (.lstore_n 2, 1) := by decide +kernel
theorem dM_choosesOne_38 : decode cM_choosesOne 38 = .ok (.iload 4, 2) := by decide +kernel
theorem dM_choosesOne_40 : decode cM_choosesOne 40 = .ok (.istore_n 1, 1) := by decide +kernel
theorem dM_choosesOne_41 : decode cM_choosesOne 41 = .ok (.iinc 4 1, 3) := by decide +kernel
theorem dM_choosesOne_44 : decode cM_choosesOne 44 = .ok (.goto (-33), 3) := by decide +kernel
theorem dM_choosesOne_47 : decode cM_choosesOne 47 = .ok (.iload_n 1, 1) := by decide +kernel
theorem dM_choosesOne_48 : decode cM_choosesOne 48 = .ok (.ifCond .lt 23, 3) := by decide +kernel
theorem dM_choosesOne_51 : decode cM_choosesOne 51 = .ok (.aload_n 0, 1) := by decide +kernel
theorem dM_choosesOne_52 : decode cM_choosesOne 52 = .ok (.getfield 20, 3) := by decide +kernel
theorem dM_choosesOne_55 : decode cM_choosesOne 55 = .ok (.aload_n 0, 1) := by decide +kernel
theorem dM_choosesOne_56 : decode cM_choosesOne 56 = .ok (.getfield 40, 3) := by decide +kernel
theorem dM_choosesOne_59 : decode cM_choosesOne 59 = .ok (.iload_n 1, 1) := by decide +kernel
theorem dM_choosesOne_60 : decode cM_choosesOne 60 = .ok (.iastore, 1) := by decide +kernel
theorem dM_choosesOne_61 : decode cM_choosesOne 61 = .ok (.aload_n 0, 1) := by decide +kernel
theorem dM_choosesOne_62 : decode cM_choosesOne 62 = .ok (.dup, 1) := by decide +kernel
theorem dM_choosesOne_63 : decode cM_choosesOne 63 = .ok (.getfield 40, 3) := by decide +kernel
theorem dM_choosesOne_66 : decode cM_choosesOne 66 = .ok (.iconst 1, 1) := by decide +kernel
theorem dM_choosesOne_67 : decode cM_choosesOne 67 = .ok (.iadd, 1) := by decide +kernel
theorem dM_choosesOne_68 : decode cM_choosesOne 68 = .ok (.putfield 40, 3) := by decide +kernel
theorem dM_choosesOne_71 : decode cM_choosesOne 71 = .ok (.iload_n 1, 1) := by decide +kernel
theorem dM_choosesOne_72 : decode cM_choosesOne 72 = .ok (.ireturn, 1) := by decide +kernel
theorem dM_step_0 : decode cM_step 0 = .ok (.aload_n 0, 1) := by decide +kernel
theorem dM_step_1 : decode cM_step 1 = .ok (.aload_n 0, 1) := by decide +kernel
theorem dM_step_2 : decode cM_step 2 = .ok (.getfield 40, 3) := by decide +kernel
theorem dM_step_5 : decode cM_step 5 = .ok (.bipush 16, 2) := by decide +kernel
theorem dM_step_7 : decode cM_step 7 = .ok (.if_icmp .ne 7, 3) := by decide +kernel
theorem dM_step_10 : decode cM_step 10 = .ok (.iconst 1, 1) := by decide +kernel
theorem dM_step_11 : decode cM_step 11 = .ok (.goto 4, 3) := by decide +kernel
theorem dM_step_14 : decode cM_step 14 = .ok (.iconst 0, 1) := by decide +kernel
theorem dM_step_15 : decode cM_step 15 = .ok (.putfield 34, 3) := by decide +kernel
theorem dM_step_18 : decode cM_step 18 = .ok (.aload_n 0, 1) := by decide +kernel
theorem dM_step_19 : decode cM_step 19 = .ok (.getfield 34, 3) := by decide +kernel
theorem dM_step_22 : decode cM_step 22 = .ok (.ifCond .le 7, 3) := by decide +kernel
theorem dM_step_25 : decode cM_step 25 = .ok (.iconst 0, 1) := by decide +kernel
theorem dM_step_26 : decode cM_step 26 = .ok (.goto 7, 3) := by decide +kernel
theorem dM_step_29 : decode cM_step 29 = .ok (.aload_n 0, 1) := by decide +kernel
theorem dM_step_30 : decode cM_step 30 = .ok (.invokevirtual 80, 3) := by decide +kernel
theorem dM_step_33 : decode cM_step 33 = .ok (.ireturn, 1) := by decide +kernel
theorem dM_choose_0 : decode cM_choose 0 = .ok (.aload_n 0, 1) := by decide +kernel
theorem dM_choose_1 : decode cM_choose 1 = .ok (.iload_n 1, 1) := by decide +kernel
theorem dM_choose_2 : decode cM_choose 2 = .ok (.ifCond .lt 9, 3) := by decide +kernel
theorem dM_choose_5 : decode cM_choose 5 = .ok (.iload_n 1, 1) := by decide +kernel
theorem dM_choose_6 : decode cM_choose 6 = .ok (.bipush 16, 2) := by decide +kernel
theorem dM_choose_8 : decode cM_choose 8 = .ok (.if_icmp .le 7, 3) := by decide +kernel
theorem dM_choose_11 : decode cM_choose 11 = .ok (.iconst 1, 1) := by decide +kernel
theorem dM_choose_12 : decode cM_choose 12 = .ok (.goto 4, 3) := by decide +kernel
theorem dM_choose_15 : decode cM_choose 15 = .ok (.iconst 0, 1) := by decide +kernel
theorem dM_choose_16 : decode cM_choose 16 = .ok (.putfield 34, 3) := by decide +kernel
theorem dM_choose_19 : decode cM_choose 19 = .ok (.aload_n 0, 1) := by decide +kernel
theorem dM_choose_20 : decode cM_choose 20 = .ok (.getfield 34, 3) := by decide +kernel
theorem dM_choose_23 : decode cM_choose 23 = .ok (.ifCond .le 5, 3) := by decide +kernel
theorem dM_choose_26 : decode cM_choose 26 = .ok (.iconst 0, 1) := by decide +kernel
theorem dM_choose_27 : decode cM_choose 27 = .ok (.ireturn, 1) := by decide +kernel
theorem dM_choose_28 : decode cM_choose 28 = .ok (.iconst 1, 1) := by decide +kernel
theorem dM_choose_29 : decode cM_choose 29 = .ok (.istore_n 2, 1) := by decide +kernel
theorem dM_choose_30 : decode cM_choose 30 = .ok (.iload_n 2, 1) := by decide +kernel
theorem dM_choose_31 : decode cM_choose 31 = .ok (.ifCond .eq 27, 3) := by decide +kernel
theorem dM_choose_34 : decode cM_choose 34 = .ok (.aload_n 0, 1) := by decide +kernel
theorem dM_choose_35 : decode cM_choose 35 = .ok (.getfield 40, 3) := by decide +kernel
theorem dM_choose_38 : decode cM_choose 38 = .ok (.iload_n 1, 1) := by decide +kernel
theorem dM_choose_39 : decode cM_choose 39 = .ok (.if_icmp .ge 19, 3) := by decide +kernel
theorem dM_choose_42 : decode cM_choose 42 = .ok (.aload_n 0, 1) := by decide +kernel
theorem dM_choose_43 : decode cM_choose 43 = .ok (.invokevirtual 80, 3) := by decide +kernel
theorem dM_choose_46 : decode cM_choose 46 = .ok (.ifCond .lt 7, 3) := by decide +kernel
theorem dM_choose_49 : decode cM_choose 49 = .ok (.iconst 1, 1) := by decide +kernel
theorem dM_choose_50 : decode cM_choose 50 = .ok (.goto 4, 3) := by decide +kernel
theorem dM_choose_53 : decode cM_choose 53 = .ok (.iconst 0, 1) := by decide +kernel
theorem dM_choose_54 : decode cM_choose 54 = .ok (.istore_n 2, 1) := by decide +kernel
theorem dM_choose_55 : decode cM_choose 55 = .ok (.goto (-25), 3) := by decide +kernel
theorem dM_choose_58 : decode cM_choose 58 = .ok (.aload_n 0, 1) := by decide +kernel
theorem dM_choose_59 : decode cM_choose 59 = .ok (.getfield 40, 3) := by decide +kernel
theorem dM_choose_62 : decode cM_choose 62 = .ok (.ireturn, 1) := by decide +kernel
theorem dM_chosen_0 : decode cM_chosen 0 = .ok (.aload_n 0, 1) := by decide +kernel
theorem dM_chosen_1 : decode cM_chosen 1 = .ok (.iload_n 1, 1) := by decide +kernel
theorem dM_chosen_2 : decode cM_chosen 2 = .ok (.ifCond .lt 15, 3) := by decide +kernel
theorem dM_chosen_5 : decode cM_chosen 5 = .ok (.iload_n 1, 1) := by decide +kernel
theorem dM_chosen_6 : decode cM_chosen 6 = .ok (.aload_n 0, 1) := by decide +kernel
theorem dM_chosen_7 : decode cM_chosen 7 = .ok (.getfield 40, 3) := by decide +kernel
theorem dM_chosen_10 : decode cM_chosen 10 = .ok (.if_icmp .ge 7, 3) := by decide +kernel
theorem dM_chosen_13 : decode cM_chosen 13 = .ok (.iconst 0, 1) := by decide +kernel
theorem dM_chosen_14 : decode cM_chosen 14 = .ok (.goto 4, 3) := by decide +kernel
theorem dM_chosen_17 : decode cM_chosen 17 = .ok (.iconst 1, 1) := by decide +kernel
theorem dM_chosen_18 : decode cM_chosen 18 = .ok (.putfield 34, 3) := by decide +kernel
theorem dM_chosen_21 : decode cM_chosen 21 = .ok (.aload_n 0, 1) := by decide +kernel
theorem dM_chosen_22 : decode cM_chosen 22 = .ok (.getfield 34, 3) := by decide +kernel
theorem dM_chosen_25 : decode cM_chosen 25 = .ok (.ifCond .le 7, 3) := by decide +kernel
theorem dM_chosen_28 : decode cM_chosen 28 = .ok (.iconst 0, 1) := by decide +kernel
theorem dM_chosen_29 : decode cM_chosen 29 = .ok (.goto 9, 3) := by decide +kernel
theorem dM_chosen_32 : decode cM_chosen 32 = .ok (.aload_n 0, 1) := by decide +kernel
theorem dM_chosen_33 : decode cM_chosen 33 = .ok (.getfield 20, 3) := by decide +kernel
theorem dM_chosen_36 : decode cM_chosen 36 = .ok (.iload_n 1, 1) := by decide +kernel
theorem dM_chosen_37 : decode cM_chosen 37 = .ok (.iaload, 1) := by decide +kernel
theorem dM_chosen_38 : decode cM_chosen 38 = .ok (.ireturn, 1) := by decide +kernel
theorem dM_drop_0 : decode cM_drop 0 = .ok (.aload_n 0, 1) := by decide +kernel
theorem dM_drop_1 : decode cM_drop 1 = .ok (.iconst 0, 1) := by decide +kernel
theorem dM_drop_2 : decode cM_drop 2 = .ok (.putfield 34, 3) := by decide +kernel
theorem dM_drop_5 : decode cM_drop 5 = .ok (.aload_n 0, 1) := by decide +kernel
theorem dM_drop_6 : decode cM_drop 6 = .ok (.getfield 40, 3) := by decide +kernel
theorem dM_drop_9 : decode cM_drop 9 = .ok (.istore_n 1, 1) := by decide +kernel
theorem dM_drop_10 : decode cM_drop 10 = .ok (.aload_n 0, 1) := by decide +kernel
theorem dM_drop_11 : decode cM_drop 11 = .ok (.iconst 0, 1) := by decide +kernel
theorem dM_drop_12 : decode cM_drop 12 = .ok (.putfield 40, 3) := by decide +kernel
theorem dM_drop_15 : decode cM_drop 15 = .ok (.iload_n 1, 1) := by decide +kernel
theorem dM_drop_16 : decode cM_drop 16 = .ok (.ireturn, 1) := by decide +kernel
theorem dM_total_0 : decode cM_total 0 = .ok (.aload_n 0, 1) := by decide +kernel
theorem dM_total_1 : decode cM_total 1 = .ok (.iconst 0, 1) := by decide +kernel
theorem dM_total_2 : decode cM_total 2 = .ok (.putfield 34, 3) := by decide +kernel
theorem dM_total_5 : decode cM_total 5 = .ok (.aload_n 0, 1) := by decide +kernel
theorem dM_total_6 : decode cM_total 6 = .ok (.invokevirtual 74, 3) := by decide +kernel
theorem dM_total_9 : decode cM_total 9 = .ok (.lconst 0, 1) := by decide +kernel
theorem dM_total_10 : decode cM_total 10 = .ok (.lstore_n 1, 1) := by decide +kernel
theorem dM_total_11 : decode cM_total 11 = .ok (.iconst 0, 1) := by decide +kernel
theorem dM_total_12 : decode cM_total 12 = .ok (.istore_n 3, 1) := by decide +kernel
theorem dM_total_13 : decode cM_total 13 = .ok (.iload_n 3, 1) := by decide +kernel
theorem dM_total_14 : decode cM_total 14 = .ok (.aload_n 0, 1) := by decide +kernel
theorem dM_total_15 : decode cM_total 15 = .ok (.getfield 16, 3) := by decide +kernel
theorem dM_total_18 : decode cM_total 18 = .ok (.if_icmp .ge 18, 3) := by decide +kernel
theorem dM_total_21 : decode cM_total 21 = .ok (.lload_n 1, 1) := by decide +kernel
theorem dM_total_22 : decode cM_total 22 = .ok (.aload_n 0, 1) := by decide +kernel
theorem dM_total_23 : decode cM_total 23 = .ok (.getfield 31, 3) := by decide +kernel
theorem dM_total_26 : decode cM_total 26 = .ok (.iload_n 3, 1) := by decide +kernel
theorem dM_total_27 : decode cM_total 27 = .ok (.laload, 1) := by decide +kernel
theorem dM_total_28 : decode cM_total 28 = .ok (.ladd, 1) := by decide +kernel
theorem dM_total_29 : decode cM_total 29 = .ok (.lstore_n 1, 1) := by decide +kernel
theorem dM_total_30 : decode cM_total 30 = .ok (.iinc 3 1, 3) := by decide +kernel
theorem dM_total_33 : decode cM_total 33 = .ok (.goto (-20), 3) := by decide +kernel
theorem dM_total_36 : decode cM_total 36 = .ok (.lload_n 1, 1) := by decide +kernel
theorem dM_total_37 : decode cM_total 37 = .ok (.lreturn, 1) := by decide +kernel
