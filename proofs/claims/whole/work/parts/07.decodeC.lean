theorem dC_init_0 : decode cC_init 0 = .ok (.aload_n 0, 1) := by decide +kernel
theorem dC_init_1 : decode cC_init 1 = .ok (.invokespecial 3, 3) := by decide +kernel
theorem dC_init_4 : decode cC_init 4 = .ok (.aload_n 0, 1) := by decide +kernel
theorem dC_init_5 : decode cC_init 5 = .ok (.iconst 4, 1) := by decide +kernel
theorem dC_init_6 : decode cC_init 6 = .ok (.anewarray 9, 3) := by decide +kernel
theorem dC_init_9 : decode cC_init 9 = .ok (.putfield 11, 3) := by decide +kernel
theorem dC_init_12 : decode cC_init 12 = .ok (.aload_n 0, 1) := by decide +kernel
theorem dC_init_13 : decode cC_init 13 = .ok (.new 15, 3) := by decide +kernel
theorem dC_init_16 : decode cC_init 16 = .ok (.dup, 1) := by decide +kernel
theorem dC_init_17 : decode cC_init 17 = .ok (.invokespecial 17, 3) := by decide +kernel
theorem dC_init_20 : decode cC_init 20 = .ok (.putfield 18, 3) := by decide +kernel
theorem dC_init_23 : decode cC_init 23 = .ok (.aload_n 0, 1) := by decide +kernel
theorem dC_init_24 : decode cC_init 24 = .ok (.new 22, 3) := by decide +kernel
theorem dC_init_27 : decode cC_init 27 = .ok (.dup, 1) := by decide +kernel
theorem dC_init_28 : decode cC_init 28 = .ok (.invokespecial 24, 3) := by decide +kernel
theorem dC_init_31 : decode cC_init 31 = .ok (.putfield 25, 3) := by decide +kernel
theorem dC_init_34 : decode cC_init 34 = .ok (.iconst 0, 1) := by decide +kernel
theorem dC_init_35 : decode cC_init 35 = .ok (.istore_n 1, 1) := by decide +kernel
theorem dC_init_36 : decode cC_init 36 = .ok (.iload_n 1, 1) := by decide +kernel
theorem dC_init_37 : decode cC_init 37 = .ok (.iconst 4, 1) := by decide +kernel
theorem dC_init_38 : decode cC_init 38 = .ok (.if_icmp .ge 22, 3) := by decide +kernel
theorem dC_init_41 : decode cC_init 41 = .ok (.aload_n 0, 1) := by decide +kernel
theorem dC_init_42 : decode cC_init 42 = .ok (.getfield 11, 3) := by decide +kernel
theorem dC_init_45 : decode cC_init 45 = .ok (.iload_n 1, 1) := by decide +kernel
theorem dC_init_46 : decode cC_init 46 = .ok (.new 9, 3) := by decide +kernel
theorem dC_init_49 : decode cC_init 49 = .ok (.dup, 1) := by decide +kernel
theorem dC_init_50 : decode cC_init 50 = .ok (.invokespecial 29, 3) := by decide +kernel
theorem dC_init_53 : decode cC_init 53 = .ok (.aastore, 1) := by decide +kernel
theorem dC_init_54 : decode cC_init 54 = .ok (.iinc 1 1, 3) := by decide +kernel
theorem dC_init_57 : decode cC_init 57 = .ok (.goto (-21), 3) := by decide +kernel
theorem dC_init_60 : decode cC_init 60 = .ok (.return_, 1) := by decide +kernel
theorem dC_refine_0 : decode cC_refine 0 = .ok (.iload_n 1, 1) := by decide +kernel
theorem dC_refine_1 : decode cC_refine 1 = .ok (.invokestatic 30, 3) := by decide +kernel
theorem dC_refine_4 : decode cC_refine 4 = .ok (.ifCond .eq 12, 3) := by decide +kernel
theorem dC_refine_7 : decode cC_refine 7 = .ok (.iload_n 2, 1) := by decide +kernel
theorem dC_refine_8 : decode cC_refine 8 = .ok (.iconst 0, 1) := by decide +kernel
theorem dC_refine_9 : decode cC_refine 9 = .ok (.iconst 1, 1) := by decide +kernel
theorem dC_refine_10 : decode cC_refine 10 = .ok (.invokestatic 34, 3) := by decide +kernel
theorem dC_refine_13 : decode cC_refine 13 = .ok (.ifCond .ne 13, 3) := by decide +kernel
theorem dC_refine_16 : decode cC_refine 16 = .ok (.new 38, 3) := by decide +kernel
theorem dC_refine_19 : decode cC_refine 19 = .ok (.dup, 1) := by decide +kernel
theorem dC_refine_20 : decode cC_refine 20 = .ok (.ldc 40, 2) := by decide +kernel
theorem dC_refine_22 : decode cC_refine 22 = .ok (.invokespecial 42, 3) := by decide +kernel
theorem dC_refine_25 : decode cC_refine 25 = .ok (.athrow, 1) := by decide +kernel
theorem dC_refine_26 : decode cC_refine 26 = .ok (.iload_n 2, 1) := by decide +kernel
theorem dC_refine_27 : decode cC_refine 27 = .ok (.ifCond .ne 7, 3) := by decide +kernel
theorem dC_refine_30 : decode cC_refine 30 = .ok (.iconst 2, 1) := by decide +kernel
theorem dC_refine_31 : decode cC_refine 31 = .ok (.goto 4, 3) := by decide +kernel
theorem dC_refine_34 : decode cC_refine 34 = .ok (.iconst 3, 1) := by decide +kernel
theorem dC_refine_35 : decode cC_refine 35 = .ok (.istore 6, 2) := by decide +kernel
theorem dC_refine_37 : decode cC_refine 37 = .ok (.iload_n 3, 1) := by decide +kernel
theorem dC_refine_38 : decode cC_refine 38 = .ok (.iconst 0, 1) := by decide +kernel
theorem dC_refine_39 : decode cC_refine 39 = .ok (.iload 6, 2) := by decide +kernel
theorem dC_refine_41 : decode cC_refine 41 = .ok (.invokestatic 34, 3) := by decide +kernel
theorem dC_refine_44 : decode cC_refine 44 = .ok (.ifCond .eq 22, 3) := by decide +kernel
theorem dC_refine_47 : decode cC_refine 47 = .ok (.iload 4, 2) := by decide +kernel
theorem dC_refine_49 : decode cC_refine 49 = .ok (.iconst 0, 1) := by decide +kernel
theorem dC_refine_50 : decode cC_refine 50 = .ok (.iload 6, 2) := by decide +kernel
theorem dC_refine_52 : decode cC_refine 52 = .ok (.invokestatic 34, 3) := by decide +kernel
theorem dC_refine_55 : decode cC_refine 55 = .ok (.ifCond .eq 11, 3) := by decide +kernel
theorem dC_refine_58 : decode cC_refine 58 = .ok (.iload 5, 2) := by decide +kernel
theorem dC_refine_60 : decode cC_refine 60 = .ok (.invokestatic 45, 3) := by decide +kernel
theorem dC_refine_63 : decode cC_refine 63 = .ok (.ifCond .ne 13, 3) := by decide +kernel
theorem dC_refine_66 : decode cC_refine 66 = .ok (.new 38, 3) := by decide +kernel
theorem dC_refine_69 : decode cC_refine 69 = .ok (.dup, 1) := by decide +kernel
theorem dC_refine_70 : decode cC_refine 70 = .ok (.ldc 48, 2) := by decide +kernel
theorem dC_refine_72 : decode cC_refine 72 = .ok (.invokespecial 42, 3) := by decide +kernel
theorem dC_refine_75 : decode cC_refine 75 = .ok (.athrow, 1) := by decide +kernel
theorem dC_refine_76 : decode cC_refine 76 = .ok (.iload_n 2, 1) := by decide +kernel
theorem dC_refine_77 : decode cC_refine 77 = .ok (.ifCond .ne 15, 3) := by decide +kernel
theorem dC_refine_80 : decode cC_refine 80 = .ok (.aload_n 0, 1) := by decide +kernel
theorem dC_refine_81 : decode cC_refine 81 = .ok (.getfield 11, 3) := by decide +kernel
theorem dC_refine_84 : decode cC_refine 84 = .ok (.iload_n 1, 1) := by decide +kernel
theorem dC_refine_85 : decode cC_refine 85 = .ok (.aaload, 1) := by decide +kernel
theorem dC_refine_86 : decode cC_refine 86 = .ok (.getfield 50, 3) := by decide +kernel
theorem dC_refine_89 : decode cC_refine 89 = .ok (.goto 12, 3) := by decide +kernel
theorem dC_refine_92 : decode cC_refine 92 = .ok (.aload_n 0, 1) := by decide +kernel
theorem dC_refine_93 : decode cC_refine 93 = .ok (.getfield 11, 3) := by decide +kernel
theorem dC_refine_96 : decode cC_refine 96 = .ok (.iload_n 1, 1) := by decide +kernel
theorem dC_refine_97 : decode cC_refine 97 = .ok (.aaload, 1) := by decide +kernel
theorem dC_refine_98 : decode cC_refine 98 = .ok (.getfield 54, 3) := by decide +kernel
theorem dC_refine_101 : decode cC_refine 101 = .ok (.astore 7, 2) := by decide +kernel
theorem dC_refine_103 : decode cC_refine 103 = .ok (.aload 7, 2) := by decide +kernel
theorem dC_refine_105 : decode cC_refine 105 = .ok (.getfield 57, 3) := by decide +kernel
theorem dC_refine_108 : decode cC_refine 108 = .ok (.iconst 4, 1) := by decide +kernel
theorem dC_refine_109 : decode cC_refine 109 = .ok (.if_icmp .lt 13, 3) := by decide +kernel
theorem dC_refine_112 : decode cC_refine 112 = .ok (.new 63, 3) := by decide +kernel
theorem dC_refine_115 : decode cC_refine 115 = .ok (.dup, 1) := by decide +kernel
theorem dC_refine_116 : decode cC_refine 116 = .ok (.ldc 65, 2) := by decide +kernel
theorem dC_refine_118 : decode cC_refine 118 = .ok (.invokespecial 67, 3) := by decide +kernel
theorem dC_refine_121 : decode cC_refine 121 = .ok (.athrow, 1) := by decide +kernel
theorem dC_refine_122 : decode cC_refine 122 = .ok (.aload 7, 2) := by decide +kernel
theorem dC_refine_124 : decode cC_refine 124 = .ok (.iload_n 3, 1) := by decide +kernel
theorem dC_refine_125 : decode cC_refine 125 = .ok (.iload 4, 2) := by decide +kernel
theorem dC_refine_127 : decode cC_refine 127 = .ok (.iload 5, 2) := by decide +kernel
theorem dC_refine_129 : decode cC_refine 129 = .ok (.invokevirtual 68, 3) := by decide +kernel
theorem dC_refine_132 : decode cC_refine 132 = .ok (.ireturn, 1) := by decide +kernel
theorem dC_isFunction_0 : decode cC_isFunction 0 = .ok (.iload_n 0, 1) := by decide +kernel
theorem dC_isFunction_1 : decode cC_isFunction 1 = .ok (.iconst 0, 1) := by decide +kernel
theorem dC_isFunction_2 : decode cC_isFunction 2 = .ok (.iconst 3, 1) := by decide +kernel
theorem dC_isFunction_3 : decode cC_isFunction 3 = .ok (.invokestatic 34, 3) := by decide +kernel
theorem dC_isFunction_6 : decode cC_isFunction 6 = .ok (.ireturn, 1) := by decide +kernel
theorem dC_isWithin_0 : decode cC_isWithin 0 = .ok (.iload_n 0, 1) := by decide +kernel
theorem dC_isWithin_1 : decode cC_isWithin 1 = .ok (.iload_n 1, 1) := by decide +kernel
theorem dC_isWithin_2 : decode cC_isWithin 2 = .ok (.if_icmp .lt 12, 3) := by decide +kernel
theorem dC_isWithin_5 : decode cC_isWithin 5 = .ok (.iload_n 0, 1) := by decide +kernel
theorem dC_isWithin_6 : decode cC_isWithin 6 = .ok (.iload_n 2, 1) := by decide +kernel
theorem dC_isWithin_7 : decode cC_isWithin 7 = .ok (.if_icmp .gt 7, 3) := by decide +kernel
theorem dC_isWithin_10 : decode cC_isWithin 10 = .ok (.iconst 1, 1) := by decide +kernel
theorem dC_isWithin_11 : decode cC_isWithin 11 = .ok (.goto 4, 3) := by decide +kernel
theorem dC_isWithin_14 : decode cC_isWithin 14 = .ok (.iconst 0, 1) := by decide +kernel
theorem dC_isWithin_15 : decode cC_isWithin 15 = .ok (.ireturn, 1) := by decide +kernel
theorem dC_isDifference_0 : decode cC_isDifference 0 = .ok (.iload_n 0, 1) := by decide +kernel
theorem dC_isDifference_1 : decode cC_isDifference 1 = .ok (.sipush (-1000), 3) := by decide +kernel
theorem dC_isDifference_4 : decode cC_isDifference 4 = .ok (.sipush 1000, 3) := by decide +kernel
theorem dC_isDifference_7 : decode cC_isDifference 7 = .ok (.invokestatic 34, 3) := by decide +kernel
theorem dC_isDifference_10 : decode cC_isDifference 10 = .ok (.ireturn, 1) := by decide +kernel
theorem dC_statement_0 : decode cC_statement 0 = .ok (.iload_n 1, 1) := by decide +kernel
theorem dC_statement_1 : decode cC_statement 1 = .ok (.invokestatic 30, 3) := by decide +kernel
theorem dC_statement_4 : decode cC_statement 4 = .ok (.ifCond .eq 17, 3) := by decide +kernel
theorem dC_statement_7 : decode cC_statement 7 = .ok (.iload_n 2, 1) := by decide +kernel
theorem dC_statement_8 : decode cC_statement 8 = .ok (.iload_n 3, 1) := by decide +kernel
theorem dC_statement_9 : decode cC_statement 9 = .ok (.iload 4, 2) := by decide +kernel
theorem dC_statement_11 : decode cC_statement 11 = .ok (.iload 5, 2) := by decide +kernel
theorem dC_statement_13 : decode cC_statement 13 = .ok (.iload 6, 2) := by decide +kernel
theorem dC_statement_15 : decode cC_statement 15 = .ok (.invokestatic 72, 3) := by decide +kernel
theorem dC_statement_18 : decode cC_statement 18 = .ok (.ifCond .ne 13, 3) := by decide +kernel
theorem dC_statement_21 : decode cC_statement 21 = .ok (.new 38, 3) := by decide +kernel
theorem dC_statement_24 : decode cC_statement 24 = .ok (.dup, 1) := by decide +kernel
theorem dC_statement_25 : decode cC_statement 25 = .ok (.ldc 76, 2) := by decide +kernel
theorem dC_statement_27 : decode cC_statement 27 = .ok (.invokespecial 42, 3) := by decide +kernel
theorem dC_statement_30 : decode cC_statement 30 = .ok (.athrow, 1) := by decide +kernel
theorem dC_statement_31 : decode cC_statement 31 = .ok (.aload_n 0, 1) := by decide +kernel
theorem dC_statement_32 : decode cC_statement 32 = .ok (.getfield 11, 3) := by decide +kernel
theorem dC_statement_35 : decode cC_statement 35 = .ok (.iload_n 1, 1) := by decide +kernel
theorem dC_statement_36 : decode cC_statement 36 = .ok (.aaload, 1) := by decide +kernel
theorem dC_statement_37 : decode cC_statement 37 = .ok (.astore 7, 2) := by decide +kernel
theorem dC_statement_39 : decode cC_statement 39 = .ok (.aload 7, 2) := by decide +kernel
theorem dC_statement_41 : decode cC_statement 41 = .ok (.iload_n 2, 1) := by decide +kernel
theorem dC_statement_42 : decode cC_statement 42 = .ok (.iload_n 3, 1) := by decide +kernel
theorem dC_statement_43 : decode cC_statement 43 = .ok (.iload 4, 2) := by decide +kernel
theorem dC_statement_45 : decode cC_statement 45 = .ok (.iload 5, 2) := by decide +kernel
theorem dC_statement_47 : decode cC_statement 47 = .ok (.invokevirtual 78, 3) := by decide +kernel
theorem dC_statement_50 : decode cC_statement 50 = .ok (.ifCond .eq 12, 3) := by decide +kernel
theorem dC_statement_53 : decode cC_statement 53 = .ok (.aload 7, 2) := by decide +kernel
theorem dC_statement_55 : decode cC_statement 55 = .ok (.iload_n 2, 1) := by decide +kernel
theorem dC_statement_56 : decode cC_statement 56 = .ok (.invokevirtual 82, 3) := by decide +kernel
theorem dC_statement_59 : decode cC_statement 59 = .ok (.ifCond .ne 13, 3) := by decide +kernel
theorem dC_statement_62 : decode cC_statement 62 = .ok (.new 85, 3) := by decide +kernel
theorem dC_statement_65 : decode cC_statement 65 = .ok (.dup, 1) := by decide +kernel
theorem dC_statement_66 : decode cC_statement 66 = .ok (.ldc 87, 2) := by decide +kernel
theorem dC_statement_68 : decode cC_statement 68 = .ok (.invokespecial 89, 3) := by decide +kernel
theorem dC_statement_71 : decode cC_statement 71 = .ok (.athrow, 1) := by decide +kernel
theorem dC_statement_72 : decode cC_statement 72 = .ok (.aload 7, 2) := by decide +kernel
theorem dC_statement_74 : decode cC_statement 74 = .ok (.iload_n 2, 1) := by decide +kernel
theorem dC_statement_75 : decode cC_statement 75 = .ok (.invokevirtual 90, 3) := by decide +kernel
theorem dC_statement_78 : decode cC_statement 78 = .ok (.ifCond .ne 13, 3) := by decide +kernel
theorem dC_statement_81 : decode cC_statement 81 = .ok (.new 63, 3) := by decide +kernel
theorem dC_statement_84 : decode cC_statement 84 = .ok (.dup, 1) := by decide +kernel
theorem dC_statement_85 : decode cC_statement 85 = .ok (.ldc 93, 2) := by decide +kernel
theorem dC_statement_87 : decode cC_statement 87 = .ok (.invokespecial 67, 3) := by decide +kernel
theorem dC_statement_90 : decode cC_statement 90 = .ok (.athrow, 1) := by decide +kernel
theorem dC_statement_91 : decode cC_statement 91 = .ok (.aload 7, 2) := by decide +kernel
theorem dC_statement_93 : decode cC_statement 93 = .ok (.iload_n 2, 1) := by decide +kernel
theorem dC_statement_94 : decode cC_statement 94 = .ok (.iload_n 3, 1) := by decide +kernel
theorem dC_statement_95 : decode cC_statement 95 = .ok (.iload 4, 2) := by decide +kernel
theorem dC_statement_97 : decode cC_statement 97 = .ok (.iload 5, 2) := by decide +kernel
theorem dC_statement_99 : decode cC_statement 99 = .ok (.iload 6, 2) := by decide +kernel
theorem dC_statement_101 : decode cC_statement 101 = .ok (.invokevirtual 95, 3) := by decide +kernel
theorem dC_statement_104 : decode cC_statement 104 = .ok (.ireturn, 1) := by decide +kernel
theorem dC_isStatement_0 : decode cC_isStatement 0 = .ok (.iload_n 0, 1) := by decide +kernel
theorem dC_isStatement_1 : decode cC_isStatement 1 = .ok (.iconst 0, 1) := by decide +kernel
theorem dC_isStatement_2 : decode cC_isStatement 2 = .ok (.bipush 7, 2) := by decide +kernel
theorem dC_isStatement_4 : decode cC_isStatement 4 = .ok (.invokestatic 34, 3) := by decide +kernel
theorem dC_isStatement_7 : decode cC_isStatement 7 = .ok (.ifCond .ne 5, 3) := by decide +kernel
theorem dC_isStatement_10 : decode cC_isStatement 10 = .ok (.iconst 0, 1) := by decide +kernel
theorem dC_isStatement_11 : decode cC_isStatement 11 = .ok (.ireturn, 1) := by decide +kernel
theorem dC_isStatement_12 : decode cC_isStatement 12 = .ok (.iload_n 0, 1) := by decide +kernel
theorem dC_isStatement_13 : decode cC_isStatement 13 = .ok (.invokestatic 165, 3) := by decide +kernel
theorem dC_isStatement_16 : decode cC_isStatement 16 = .ok (.ifCond .eq 12, 3) := by decide +kernel
theorem dC_isStatement_19 : decode cC_isStatement 19 = .ok (.iload_n 1, 1) := by decide +kernel
theorem dC_isStatement_20 : decode cC_isStatement 20 = .ok (.invokestatic 162, 3) := by decide +kernel
theorem dC_isStatement_23 : decode cC_isStatement 23 = .ok (.ifCond .ne 5, 3) := by decide +kernel
theorem dC_isStatement_26 : decode cC_isStatement 26 = .ok (.iconst 0, 1) := by decide +kernel
theorem dC_isStatement_27 : decode cC_isStatement 27 = .ok (.ireturn, 1) := by decide +kernel
theorem dC_isStatement_28 : decode cC_isStatement 28 = .ok (.iload_n 0, 1) := by decide +kernel
theorem dC_isStatement_29 : decode cC_isStatement 29 = .ok (.invokestatic 168, 3) := by decide +kernel
theorem dC_isStatement_32 : decode cC_isStatement 32 = .ok (.ifCond .eq 10, 3) := by decide +kernel
theorem dC_isStatement_35 : decode cC_isStatement 35 = .ok (.iload_n 1, 1) := by decide +kernel
theorem dC_isStatement_36 : decode cC_isStatement 36 = .ok (.invokestatic 123, 3) := by decide +kernel
theorem dC_isStatement_39 : decode cC_isStatement 39 = .ok (.ifCond .eq 31, 3) := by decide +kernel
theorem dC_isStatement_42 : decode cC_isStatement 42 = .ok (.iload_n 0, 1) := by decide +kernel
theorem dC_isStatement_43 : decode cC_isStatement 43 = .ok (.invokestatic 171, 3) := by decide +kernel
theorem dC_isStatement_46 : decode cC_isStatement 46 = .ok (.ifCond .eq 10, 3) := by decide +kernel
theorem dC_isStatement_49 : decode cC_isStatement 49 = .ok (.iload_n 2, 1) := by decide +kernel
theorem dC_isStatement_50 : decode cC_isStatement 50 = .ok (.invokestatic 123, 3) := by decide +kernel
theorem dC_isStatement_53 : decode cC_isStatement 53 = .ok (.ifCond .eq 17, 3) := by decide +kernel
theorem dC_isStatement_56 : decode cC_isStatement 56 = .ok (.iload_n 0, 1) := by decide +kernel
theorem dC_isStatement_57 : decode cC_isStatement 57 = .ok (.invokestatic 174, 3) := by decide +kernel
theorem dC_isStatement_60 : decode cC_isStatement 60 = .ok (.ifCond .eq 12, 3) := by decide +kernel
theorem dC_isStatement_63 : decode cC_isStatement 63 = .ok (.iload_n 3, 1) := by decide +kernel
theorem dC_isStatement_64 : decode cC_isStatement 64 = .ok (.invokestatic 123, 3) := by decide +kernel
theorem dC_isStatement_67 : decode cC_isStatement 67 = .ok (.ifCond .ne 5, 3) := by decide +kernel
theorem dC_isStatement_70 : decode cC_isStatement 70 = .ok (.iconst 0, 1) := by decide +kernel
theorem dC_isStatement_71 : decode cC_isStatement 71 = .ok (.ireturn, 1) := by decide +kernel
theorem dC_isStatement_72 : decode cC_isStatement 72 = .ok (.iload_n 0, 1) := by decide +kernel
theorem dC_isStatement_73 : decode cC_isStatement 73 = .ok (.iconst 1, 1) := by decide +kernel
theorem dC_isStatement_74 : decode cC_isStatement 74 = .ok (.if_icmp .ne 9, 3) := by decide +kernel
theorem dC_isStatement_77 : decode cC_isStatement 77 = .ok (.iload 4, 2) := by decide +kernel
theorem dC_isStatement_79 : decode cC_isStatement 79 = .ok (.invokestatic 30, 3) := by decide +kernel
theorem dC_isStatement_82 : decode cC_isStatement 82 = .ok (.ireturn, 1) := by decide +kernel
theorem dC_isStatement_83 : decode cC_isStatement 83 = .ok (.iload_n 0, 1) := by decide +kernel
theorem dC_isStatement_84 : decode cC_isStatement 84 = .ok (.invokestatic 171, 3) := by decide +kernel
theorem dC_isStatement_87 : decode cC_isStatement 87 = .ok (.ifCond .eq 11, 3) := by decide +kernel
theorem dC_isStatement_90 : decode cC_isStatement 90 = .ok (.iload 4, 2) := by decide +kernel
theorem dC_isStatement_92 : decode cC_isStatement 92 = .ok (.invokestatic 45, 3) := by decide +kernel
theorem dC_isStatement_95 : decode cC_isStatement 95 = .ok (.ifCond .eq 7, 3) := by decide +kernel
theorem dC_isStatement_98 : decode cC_isStatement 98 = .ok (.iconst 1, 1) := by decide +kernel
theorem dC_isStatement_99 : decode cC_isStatement 99 = .ok (.goto 4, 3) := by decide +kernel
theorem dC_isStatement_102 : decode cC_isStatement 102 = .ok (.iconst 0, 1) := by decide +kernel
theorem dC_isStatement_103 : decode cC_isStatement 103 = .ok (.ireturn, 1) := by decide +kernel
theorem dC_givesA_0 : decode cC_givesA 0 = .ok (.iload_n 0, 1) := by decide +kernel
theorem dC_givesA_1 : decode cC_givesA 1 = .ok (.ifCond .eq 14, 3) := by decide +kernel
theorem dC_givesA_4 : decode cC_givesA 4 = .ok (.iload_n 0, 1) := by decide +kernel
theorem dC_givesA_5 : decode cC_givesA 5 = .ok (.iconst 1, 1) := by decide +kernel
theorem dC_givesA_6 : decode cC_givesA 6 = .ok (.if_icmp .eq 9, 3) := by decide +kernel
theorem dC_givesA_9 : decode cC_givesA 9 = .ok (.iload_n 0, 1) := by decide +kernel
theorem dC_givesA_10 : decode cC_givesA 10 = .ok (.bipush 7, 2) := by decide +kernel
theorem dC_givesA_12 : decode cC_givesA 12 = .ok (.if_icmp .ne 7, 3) := by decide +kernel
theorem dC_givesA_15 : decode cC_givesA 15 = .ok (.iconst 1, 1) := by decide +kernel
theorem dC_givesA_16 : decode cC_givesA 16 = .ok (.goto 4, 3) := by decide +kernel
theorem dC_givesA_19 : decode cC_givesA 19 = .ok (.iconst 0, 1) := by decide +kernel
theorem dC_givesA_20 : decode cC_givesA 20 = .ok (.ireturn, 1) := by decide +kernel
theorem dC_isGivable_0 : decode cC_isGivable 0 = .ok (.iload_n 0, 1) := by decide +kernel
theorem dC_isGivable_1 : decode cC_isGivable 1 = .ok (.iconst 4, 1) := by decide +kernel
theorem dC_isGivable_2 : decode cC_isGivable 2 = .ok (.bipush 11, 2) := by decide +kernel
theorem dC_isGivable_4 : decode cC_isGivable 4 = .ok (.invokestatic 34, 3) := by decide +kernel
theorem dC_isGivable_7 : decode cC_isGivable 7 = .ok (.ireturn, 1) := by decide +kernel
theorem dC_usesA_0 : decode cC_usesA 0 = .ok (.iload_n 0, 1) := by decide +kernel
theorem dC_usesA_1 : decode cC_usesA 1 = .ok (.iconst 2, 1) := by decide +kernel
theorem dC_usesA_2 : decode cC_usesA 2 = .ok (.if_icmp .eq 8, 3) := by decide +kernel
theorem dC_usesA_5 : decode cC_usesA 5 = .ok (.iload_n 0, 1) := by decide +kernel
theorem dC_usesA_6 : decode cC_usesA 6 = .ok (.iconst 5, 1) := by decide +kernel
theorem dC_usesA_7 : decode cC_usesA 7 = .ok (.if_icmp .ne 7, 3) := by decide +kernel
theorem dC_usesA_10 : decode cC_usesA 10 = .ok (.iconst 1, 1) := by decide +kernel
theorem dC_usesA_11 : decode cC_usesA 11 = .ok (.goto 4, 3) := by decide +kernel
theorem dC_usesA_14 : decode cC_usesA 14 = .ok (.iconst 0, 1) := by decide +kernel
theorem dC_usesA_15 : decode cC_usesA 15 = .ok (.ireturn, 1) := by decide +kernel
theorem dC_isUsable_0 : decode cC_isUsable 0 = .ok (.iload_n 0, 1) := by decide +kernel
theorem dC_isUsable_1 : decode cC_isUsable 1 = .ok (.iconst 0, 1) := by decide +kernel
theorem dC_isUsable_2 : decode cC_isUsable 2 = .ok (.iconst 2, 1) := by decide +kernel
theorem dC_isUsable_3 : decode cC_isUsable 3 = .ok (.invokestatic 34, 3) := by decide +kernel
theorem dC_isUsable_6 : decode cC_isUsable 6 = .ok (.ifCond .ne 10, 3) := by decide +kernel
theorem dC_isUsable_9 : decode cC_isUsable 9 = .ok (.iload_n 0, 1) := by decide +kernel
theorem dC_isUsable_10 : decode cC_isUsable 10 = .ok (.invokestatic 162, 3) := by decide +kernel
theorem dC_isUsable_13 : decode cC_isUsable 13 = .ok (.ifCond .eq 7, 3) := by decide +kernel
theorem dC_isUsable_16 : decode cC_isUsable 16 = .ok (.iconst 1, 1) := by decide +kernel
theorem dC_isUsable_17 : decode cC_isUsable 17 = .ok (.goto 4, 3) := by decide +kernel
theorem dC_isUsable_20 : decode cC_isUsable 20 = .ok (.iconst 0, 1) := by decide +kernel
theorem dC_isUsable_21 : decode cC_isUsable 21 = .ok (.ireturn, 1) := by decide +kernel
theorem dC_usesB_0 : decode cC_usesB 0 = .ok (.iload_n 0, 1) := by decide +kernel
theorem dC_usesB_1 : decode cC_usesB 1 = .ok (.ifCond .eq 24, 3) := by decide +kernel
theorem dC_usesB_4 : decode cC_usesB 4 = .ok (.iload_n 0, 1) := by decide +kernel
theorem dC_usesB_5 : decode cC_usesB 5 = .ok (.iconst 1, 1) := by decide +kernel
theorem dC_usesB_6 : decode cC_usesB 6 = .ok (.if_icmp .eq 19, 3) := by decide +kernel
theorem dC_usesB_9 : decode cC_usesB 9 = .ok (.iload_n 0, 1) := by decide +kernel
theorem dC_usesB_10 : decode cC_usesB 10 = .ok (.iconst 2, 1) := by decide +kernel
theorem dC_usesB_11 : decode cC_usesB 11 = .ok (.if_icmp .eq 14, 3) := by decide +kernel
theorem dC_usesB_14 : decode cC_usesB 14 = .ok (.iload_n 0, 1) := by decide +kernel
theorem dC_usesB_15 : decode cC_usesB 15 = .ok (.iconst 5, 1) := by decide +kernel
theorem dC_usesB_16 : decode cC_usesB 16 = .ok (.if_icmp .eq 9, 3) := by decide +kernel
theorem dC_usesB_19 : decode cC_usesB 19 = .ok (.iload_n 0, 1) := by decide +kernel
theorem dC_usesB_20 : decode cC_usesB 20 = .ok (.bipush 6, 2) := by decide +kernel
theorem dC_usesB_22 : decode cC_usesB 22 = .ok (.if_icmp .ne 7, 3) := by decide +kernel
theorem dC_usesB_25 : decode cC_usesB 25 = .ok (.iconst 1, 1) := by decide +kernel
theorem dC_usesB_26 : decode cC_usesB 26 = .ok (.goto 4, 3) := by decide +kernel
theorem dC_usesB_29 : decode cC_usesB 29 = .ok (.iconst 0, 1) := by decide +kernel
theorem dC_usesB_30 : decode cC_usesB 30 = .ok (.ireturn, 1) := by decide +kernel
theorem dC_usesC_0 : decode cC_usesC 0 = .ok (.iload_n 0, 1) := by decide +kernel
theorem dC_usesC_1 : decode cC_usesC 1 = .ok (.iconst 1, 1) := by decide +kernel
theorem dC_usesC_2 : decode cC_usesC 2 = .ok (.if_icmp .ne 7, 3) := by decide +kernel
theorem dC_usesC_5 : decode cC_usesC 5 = .ok (.iconst 1, 1) := by decide +kernel
theorem dC_usesC_6 : decode cC_usesC 6 = .ok (.goto 4, 3) := by decide +kernel
theorem dC_usesC_9 : decode cC_usesC 9 = .ok (.iconst 0, 1) := by decide +kernel
theorem dC_usesC_10 : decode cC_usesC 10 = .ok (.ireturn, 1) := by decide +kernel
theorem dC_clear_0 : decode cC_clear 0 = .ok (.iload_n 1, 1) := by decide +kernel
theorem dC_clear_1 : decode cC_clear 1 = .ok (.invokestatic 30, 3) := by decide +kernel
theorem dC_clear_4 : decode cC_clear 4 = .ok (.ifCond .ne 13, 3) := by decide +kernel
theorem dC_clear_7 : decode cC_clear 7 = .ok (.new 38, 3) := by decide +kernel
theorem dC_clear_10 : decode cC_clear 10 = .ok (.dup, 1) := by decide +kernel
theorem dC_clear_11 : decode cC_clear 11 = .ok (.ldc 98, 2) := by decide +kernel
theorem dC_clear_13 : decode cC_clear 13 = .ok (.invokespecial 42, 3) := by decide +kernel
theorem dC_clear_16 : decode cC_clear 16 = .ok (.athrow, 1) := by decide +kernel
theorem dC_clear_17 : decode cC_clear 17 = .ok (.aload_n 0, 1) := by decide +kernel
theorem dC_clear_18 : decode cC_clear 18 = .ok (.getfield 11, 3) := by decide +kernel
theorem dC_clear_21 : decode cC_clear 21 = .ok (.iload_n 1, 1) := by decide +kernel
theorem dC_clear_22 : decode cC_clear 22 = .ok (.aaload, 1) := by decide +kernel
theorem dC_clear_23 : decode cC_clear 23 = .ok (.getfield 100, 3) := by decide +kernel
theorem dC_clear_26 : decode cC_clear 26 = .ok (.istore_n 2, 1) := by decide +kernel
theorem dC_clear_27 : decode cC_clear 27 = .ok (.aload_n 0, 1) := by decide +kernel
theorem dC_clear_28 : decode cC_clear 28 = .ok (.getfield 11, 3) := by decide +kernel
theorem dC_clear_31 : decode cC_clear 31 = .ok (.iload_n 1, 1) := by decide +kernel
theorem dC_clear_32 : decode cC_clear 32 = .ok (.aaload, 1) := by decide +kernel
theorem dC_clear_33 : decode cC_clear 33 = .ok (.invokevirtual 101, 3) := by decide +kernel
theorem dC_clear_36 : decode cC_clear 36 = .ok (.iload_n 2, 1) := by decide +kernel
theorem dC_clear_37 : decode cC_clear 37 = .ok (.ireturn, 1) := by decide +kernel
theorem dC_check_0 : decode cC_check 0 = .ok (.iload_n 1, 1) := by decide +kernel
theorem dC_check_1 : decode cC_check 1 = .ok (.invokestatic 30, 3) := by decide +kernel
theorem dC_check_4 : decode cC_check 4 = .ok (.ifCond .ne 13, 3) := by decide +kernel
theorem dC_check_7 : decode cC_check 7 = .ok (.new 38, 3) := by decide +kernel
theorem dC_check_10 : decode cC_check 10 = .ok (.dup, 1) := by decide +kernel
theorem dC_check_11 : decode cC_check 11 = .ok (.ldc 98, 2) := by decide +kernel
theorem dC_check_13 : decode cC_check 13 = .ok (.invokespecial 42, 3) := by decide +kernel
theorem dC_check_16 : decode cC_check 16 = .ok (.athrow, 1) := by decide +kernel
theorem dC_check_17 : decode cC_check 17 = .ok (.aload_n 0, 1) := by decide +kernel
theorem dC_check_18 : decode cC_check 18 = .ok (.getfield 18, 3) := by decide +kernel
theorem dC_check_21 : decode cC_check 21 = .ok (.aload_n 0, 1) := by decide +kernel
theorem dC_check_22 : decode cC_check 22 = .ok (.getfield 11, 3) := by decide +kernel
theorem dC_check_25 : decode cC_check 25 = .ok (.aload_n 0, 1) := by decide +kernel
theorem dC_check_26 : decode cC_check 26 = .ok (.getfield 11, 3) := by decide +kernel
theorem dC_check_29 : decode cC_check 29 = .ok (.iload_n 1, 1) := by decide +kernel
theorem dC_check_30 : decode cC_check 30 = .ok (.aaload, 1) := by decide +kernel
theorem dC_check_31 : decode cC_check 31 = .ok (.iconst (-1), 1) := by decide +kernel
theorem dC_check_32 : decode cC_check 32 = .ok (.iconst 0, 1) := by decide +kernel
theorem dC_check_33 : decode cC_check 33 = .ok (.iconst 0, 1) := by decide +kernel
theorem dC_check_34 : decode cC_check 34 = .ok (.invokevirtual 104, 3) := by decide +kernel
theorem dC_check_37 : decode cC_check 37 = .ok (.aload_n 0, 1) := by decide +kernel
theorem dC_check_38 : decode cC_check 38 = .ok (.getfield 18, 3) := by decide +kernel
theorem dC_check_41 : decode cC_check 41 = .ok (.getfield 108, 3) := by decide +kernel
theorem dC_check_44 : decode cC_check 44 = .ok (.ireturn, 1) := by decide +kernel
theorem dC_ways_0 : decode cC_ways 0 = .ok (.iload_n 1, 1) := by decide +kernel
theorem dC_ways_1 : decode cC_ways 1 = .ok (.invokestatic 30, 3) := by decide +kernel
theorem dC_ways_4 : decode cC_ways 4 = .ok (.ifCond .ne 13, 3) := by decide +kernel
theorem dC_ways_7 : decode cC_ways 7 = .ok (.new 38, 3) := by decide +kernel
theorem dC_ways_10 : decode cC_ways 10 = .ok (.dup, 1) := by decide +kernel
theorem dC_ways_11 : decode cC_ways 11 = .ok (.ldc 98, 2) := by decide +kernel
theorem dC_ways_13 : decode cC_ways 13 = .ok (.invokespecial 42, 3) := by decide +kernel
theorem dC_ways_16 : decode cC_ways 16 = .ok (.athrow, 1) := by decide +kernel
theorem dC_ways_17 : decode cC_ways 17 = .ok (.aload_n 0, 1) := by decide +kernel
theorem dC_ways_18 : decode cC_ways 18 = .ok (.getfield 18, 3) := by decide +kernel
theorem dC_ways_21 : decode cC_ways 21 = .ok (.aload_n 0, 1) := by decide +kernel
theorem dC_ways_22 : decode cC_ways 22 = .ok (.getfield 11, 3) := by decide +kernel
theorem dC_ways_25 : decode cC_ways 25 = .ok (.aload_n 0, 1) := by decide +kernel
theorem dC_ways_26 : decode cC_ways 26 = .ok (.getfield 11, 3) := by decide +kernel
theorem dC_ways_29 : decode cC_ways 29 = .ok (.iload_n 1, 1) := by decide +kernel
theorem dC_ways_30 : decode cC_ways 30 = .ok (.aaload, 1) := by decide +kernel
theorem dC_ways_31 : decode cC_ways 31 = .ok (.iconst (-1), 1) := by decide +kernel
theorem dC_ways_32 : decode cC_ways 32 = .ok (.iconst 0, 1) := by decide +kernel
theorem dC_ways_33 : decode cC_ways 33 = .ok (.iconst 0, 1) := by decide +kernel
theorem dC_ways_34 : decode cC_ways 34 = .ok (.invokevirtual 104, 3) := by decide +kernel
theorem dC_ways_37 : decode cC_ways 37 = .ok (.aload_n 0, 1) := by decide +kernel
theorem dC_ways_38 : decode cC_ways 38 = .ok (.getfield 18, 3) := by decide +kernel
theorem dC_ways_41 : decode cC_ways 41 = .ok (.getfield 111, 3) := by decide +kernel
theorem dC_ways_44 : decode cC_ways 44 = .ok (.ireturn, 1) := by decide +kernel
theorem dC_comes_0 : decode cC_comes 0 = .ok (.iload_n 1, 1) := by decide +kernel
theorem dC_comes_1 : decode cC_comes 1 = .ok (.invokestatic 30, 3) := by decide +kernel
theorem dC_comes_4 : decode cC_comes 4 = .ok (.ifCond .eq 12, 3) := by decide +kernel
theorem dC_comes_7 : decode cC_comes 7 = .ok (.aload_n 0, 1) := by decide +kernel
theorem dC_comes_8 : decode cC_comes 8 = .ok (.iload_n 1, 1) := by decide +kernel
theorem dC_comes_9 : decode cC_comes 9 = .ok (.iload_n 2, 1) := by decide +kernel
theorem dC_comes_10 : decode cC_comes 10 = .ok (.invokevirtual 114, 3) := by decide +kernel
theorem dC_comes_13 : decode cC_comes 13 = .ok (.ifCond .ne 13, 3) := by decide +kernel
theorem dC_comes_16 : decode cC_comes 16 = .ok (.new 38, 3) := by decide +kernel
theorem dC_comes_19 : decode cC_comes 19 = .ok (.dup, 1) := by decide +kernel
theorem dC_comes_20 : decode cC_comes 20 = .ok (.ldc 118, 2) := by decide +kernel
theorem dC_comes_22 : decode cC_comes 22 = .ok (.invokespecial 42, 3) := by decide +kernel
theorem dC_comes_25 : decode cC_comes 25 = .ok (.athrow, 1) := by decide +kernel
theorem dC_comes_26 : decode cC_comes 26 = .ok (.aload_n 0, 1) := by decide +kernel
theorem dC_comes_27 : decode cC_comes 27 = .ok (.getfield 18, 3) := by decide +kernel
theorem dC_comes_30 : decode cC_comes 30 = .ok (.aload_n 0, 1) := by decide +kernel
theorem dC_comes_31 : decode cC_comes 31 = .ok (.getfield 11, 3) := by decide +kernel
theorem dC_comes_34 : decode cC_comes 34 = .ok (.aload_n 0, 1) := by decide +kernel
theorem dC_comes_35 : decode cC_comes 35 = .ok (.getfield 11, 3) := by decide +kernel
theorem dC_comes_38 : decode cC_comes 38 = .ok (.iload_n 1, 1) := by decide +kernel
theorem dC_comes_39 : decode cC_comes 39 = .ok (.aaload, 1) := by decide +kernel
theorem dC_comes_40 : decode cC_comes 40 = .ok (.iconst (-1), 1) := by decide +kernel
theorem dC_comes_41 : decode cC_comes 41 = .ok (.iconst 0, 1) := by decide +kernel
theorem dC_comes_42 : decode cC_comes 42 = .ok (.iconst 0, 1) := by decide +kernel
theorem dC_comes_43 : decode cC_comes 43 = .ok (.invokevirtual 104, 3) := by decide +kernel
theorem dC_comes_46 : decode cC_comes 46 = .ok (.aload_n 0, 1) := by decide +kernel
theorem dC_comes_47 : decode cC_comes 47 = .ok (.getfield 18, 3) := by decide +kernel
theorem dC_comes_50 : decode cC_comes 50 = .ok (.iload_n 2, 1) := by decide +kernel
theorem dC_comes_51 : decode cC_comes 51 = .ok (.invokevirtual 120, 3) := by decide +kernel
theorem dC_comes_54 : decode cC_comes 54 = .ok (.ifCond .eq 7, 3) := by decide +kernel
theorem dC_comes_57 : decode cC_comes 57 = .ok (.iconst 1, 1) := by decide +kernel
theorem dC_comes_58 : decode cC_comes 58 = .ok (.goto 4, 3) := by decide +kernel
theorem dC_comes_61 : decode cC_comes 61 = .ok (.iconst 0, 1) := by decide +kernel
theorem dC_comes_62 : decode cC_comes 62 = .ok (.ireturn, 1) := by decide +kernel
theorem dC_isPlace_0 : decode cC_isPlace 0 = .ok (.iload_n 2, 1) := by decide +kernel
theorem dC_isPlace_1 : decode cC_isPlace 1 = .ok (.iconst 0, 1) := by decide +kernel
theorem dC_isPlace_2 : decode cC_isPlace 2 = .ok (.aload_n 0, 1) := by decide +kernel
theorem dC_isPlace_3 : decode cC_isPlace 3 = .ok (.getfield 11, 3) := by decide +kernel
theorem dC_isPlace_6 : decode cC_isPlace 6 = .ok (.iload_n 1, 1) := by decide +kernel
theorem dC_isPlace_7 : decode cC_isPlace 7 = .ok (.aaload, 1) := by decide +kernel
theorem dC_isPlace_8 : decode cC_isPlace 8 = .ok (.getfield 100, 3) := by decide +kernel
theorem dC_isPlace_11 : decode cC_isPlace 11 = .ok (.invokestatic 34, 3) := by decide +kernel
theorem dC_isPlace_14 : decode cC_isPlace 14 = .ok (.ireturn, 1) := by decide +kernel
theorem dC_most_0 : decode cC_most 0 = .ok (.iload_n 1, 1) := by decide +kernel
theorem dC_most_1 : decode cC_most 1 = .ok (.invokestatic 30, 3) := by decide +kernel
theorem dC_most_4 : decode cC_most 4 = .ok (.ifCond .eq 27, 3) := by decide +kernel
theorem dC_most_7 : decode cC_most 7 = .ok (.aload_n 0, 1) := by decide +kernel
theorem dC_most_8 : decode cC_most 8 = .ok (.iload_n 1, 1) := by decide +kernel
theorem dC_most_9 : decode cC_most 9 = .ok (.iload_n 2, 1) := by decide +kernel
theorem dC_most_10 : decode cC_most 10 = .ok (.invokevirtual 114, 3) := by decide +kernel
theorem dC_most_13 : decode cC_most 13 = .ok (.ifCond .eq 18, 3) := by decide +kernel
theorem dC_most_16 : decode cC_most 16 = .ok (.iload_n 3, 1) := by decide +kernel
theorem dC_most_17 : decode cC_most 17 = .ok (.invokestatic 123, 3) := by decide +kernel
theorem dC_most_20 : decode cC_most 20 = .ok (.ifCond .eq 11, 3) := by decide +kernel
theorem dC_most_23 : decode cC_most 23 = .ok (.iload 4, 2) := by decide +kernel
theorem dC_most_25 : decode cC_most 25 = .ok (.invokestatic 123, 3) := by decide +kernel
theorem dC_most_28 : decode cC_most 28 = .ok (.ifCond .ne 13, 3) := by decide +kernel
theorem dC_most_31 : decode cC_most 31 = .ok (.new 38, 3) := by decide +kernel
theorem dC_most_34 : decode cC_most 34 = .ok (.dup, 1) := by decide +kernel
theorem dC_most_35 : decode cC_most 35 = .ok (.ldc 126, 2) := by decide +kernel
theorem dC_most_37 : decode cC_most 37 = .ok (.invokespecial 42, 3) := by decide +kernel
theorem dC_most_40 : decode cC_most 40 = .ok (.athrow, 1) := by decide +kernel
theorem dC_most_41 : decode cC_most 41 = .ok (.aload_n 0, 1) := by decide +kernel
theorem dC_most_42 : decode cC_most 42 = .ok (.getfield 18, 3) := by decide +kernel
theorem dC_most_45 : decode cC_most 45 = .ok (.aload_n 0, 1) := by decide +kernel
theorem dC_most_46 : decode cC_most 46 = .ok (.getfield 11, 3) := by decide +kernel
theorem dC_most_49 : decode cC_most 49 = .ok (.aload_n 0, 1) := by decide +kernel
theorem dC_most_50 : decode cC_most 50 = .ok (.getfield 11, 3) := by decide +kernel
theorem dC_most_53 : decode cC_most 53 = .ok (.iload_n 1, 1) := by decide +kernel
theorem dC_most_54 : decode cC_most 54 = .ok (.aaload, 1) := by decide +kernel
theorem dC_most_55 : decode cC_most 55 = .ok (.iload_n 2, 1) := by decide +kernel
theorem dC_most_56 : decode cC_most 56 = .ok (.iload_n 3, 1) := by decide +kernel
theorem dC_most_57 : decode cC_most 57 = .ok (.iload 4, 2) := by decide +kernel
theorem dC_most_59 : decode cC_most 59 = .ok (.invokevirtual 104, 3) := by decide +kernel
theorem dC_most_62 : decode cC_most 62 = .ok (.aload_n 0, 1) := by decide +kernel
theorem dC_most_63 : decode cC_most 63 = .ok (.getfield 18, 3) := by decide +kernel
theorem dC_most_66 : decode cC_most 66 = .ok (.iload_n 2, 1) := by decide +kernel
theorem dC_most_67 : decode cC_most 67 = .ok (.invokevirtual 120, 3) := by decide +kernel
theorem dC_most_70 : decode cC_most 70 = .ok (.ifCond .ne 13, 3) := by decide +kernel
theorem dC_most_73 : decode cC_most 73 = .ok (.new 128, 3) := by decide +kernel
theorem dC_most_76 : decode cC_most 76 = .ok (.dup, 1) := by decide +kernel
theorem dC_most_77 : decode cC_most 77 = .ok (.ldc 130, 2) := by decide +kernel
theorem dC_most_79 : decode cC_most 79 = .ok (.invokespecial 132, 3) := by decide +kernel
theorem dC_most_82 : decode cC_most 82 = .ok (.athrow, 1) := by decide +kernel
theorem dC_most_83 : decode cC_most 83 = .ok (.aload_n 0, 1) := by decide +kernel
theorem dC_most_84 : decode cC_most 84 = .ok (.getfield 18, 3) := by decide +kernel
theorem dC_most_87 : decode cC_most 87 = .ok (.getfield 133, 3) := by decide +kernel
theorem dC_most_90 : decode cC_most 90 = .ok (.ldc 136, 2) := by decide +kernel
theorem dC_most_92 : decode cC_most 92 = .ok (.if_icmp .ne 13, 3) := by decide +kernel
theorem dC_most_95 : decode cC_most 95 = .ok (.new 137, 3) := by decide +kernel
theorem dC_most_98 : decode cC_most 98 = .ok (.dup, 1) := by decide +kernel
theorem dC_most_99 : decode cC_most 99 = .ok (.ldc 139, 2) := by decide +kernel
theorem dC_most_101 : decode cC_most 101 = .ok (.invokespecial 141, 3) := by decide +kernel
theorem dC_most_104 : decode cC_most 104 = .ok (.athrow, 1) := by decide +kernel
theorem dC_most_105 : decode cC_most 105 = .ok (.aload_n 0, 1) := by decide +kernel
theorem dC_most_106 : decode cC_most 106 = .ok (.getfield 18, 3) := by decide +kernel
theorem dC_most_109 : decode cC_most 109 = .ok (.getfield 133, 3) := by decide +kernel
theorem dC_most_112 : decode cC_most 112 = .ok (.ireturn, 1) := by decide +kernel
theorem dC_follows_0 : decode cC_follows 0 = .ok (.iload_n 1, 1) := by decide +kernel
theorem dC_follows_1 : decode cC_follows 1 = .ok (.invokestatic 30, 3) := by decide +kernel
theorem dC_follows_4 : decode cC_follows 4 = .ok (.ifCond .eq 10, 3) := by decide +kernel
theorem dC_follows_7 : decode cC_follows 7 = .ok (.iload_n 2, 1) := by decide +kernel
theorem dC_follows_8 : decode cC_follows 8 = .ok (.invokestatic 30, 3) := by decide +kernel
theorem dC_follows_11 : decode cC_follows 11 = .ok (.ifCond .ne 13, 3) := by decide +kernel
theorem dC_follows_14 : decode cC_follows 14 = .ok (.new 38, 3) := by decide +kernel
theorem dC_follows_17 : decode cC_follows 17 = .ok (.dup, 1) := by decide +kernel
theorem dC_follows_18 : decode cC_follows 18 = .ok (.ldc 98, 2) := by decide +kernel
theorem dC_follows_20 : decode cC_follows 20 = .ok (.invokespecial 42, 3) := by decide +kernel
theorem dC_follows_23 : decode cC_follows 23 = .ok (.athrow, 1) := by decide +kernel
theorem dC_follows_24 : decode cC_follows 24 = .ok (.aload_n 0, 1) := by decide +kernel
theorem dC_follows_25 : decode cC_follows 25 = .ok (.getfield 25, 3) := by decide +kernel
theorem dC_follows_28 : decode cC_follows 28 = .ok (.invokevirtual 142, 3) := by decide +kernel
theorem dC_follows_31 : decode cC_follows 31 = .ok (.aload_n 0, 1) := by decide +kernel
theorem dC_follows_32 : decode cC_follows 32 = .ok (.getfield 11, 3) := by decide +kernel
theorem dC_follows_35 : decode cC_follows 35 = .ok (.iload_n 1, 1) := by decide +kernel
theorem dC_follows_36 : decode cC_follows 36 = .ok (.aaload, 1) := by decide +kernel
theorem dC_follows_37 : decode cC_follows 37 = .ok (.getfield 50, 3) := by decide +kernel
theorem dC_follows_40 : decode cC_follows 40 = .ok (.aload_n 0, 1) := by decide +kernel
theorem dC_follows_41 : decode cC_follows 41 = .ok (.getfield 25, 3) := by decide +kernel
theorem dC_follows_44 : decode cC_follows 44 = .ok (.iconst 1, 1) := by decide +kernel
theorem dC_follows_45 : decode cC_follows 45 = .ok (.iconst 2, 1) := by decide +kernel
theorem dC_follows_46 : decode cC_follows 46 = .ok (.invokevirtual 145, 3) := by decide +kernel
theorem dC_follows_49 : decode cC_follows 49 = .ok (.aload_n 0, 1) := by decide +kernel
theorem dC_follows_50 : decode cC_follows 50 = .ok (.getfield 11, 3) := by decide +kernel
theorem dC_follows_53 : decode cC_follows 53 = .ok (.iload_n 2, 1) := by decide +kernel
theorem dC_follows_54 : decode cC_follows 54 = .ok (.aaload, 1) := by decide +kernel
theorem dC_follows_55 : decode cC_follows 55 = .ok (.getfield 54, 3) := by decide +kernel
theorem dC_follows_58 : decode cC_follows 58 = .ok (.aload_n 0, 1) := by decide +kernel
theorem dC_follows_59 : decode cC_follows 59 = .ok (.getfield 25, 3) := by decide +kernel
theorem dC_follows_62 : decode cC_follows 62 = .ok (.iconst 1, 1) := by decide +kernel
theorem dC_follows_63 : decode cC_follows 63 = .ok (.iconst 2, 1) := by decide +kernel
theorem dC_follows_64 : decode cC_follows 64 = .ok (.invokevirtual 145, 3) := by decide +kernel
theorem dC_follows_67 : decode cC_follows 67 = .ok (.aload_n 0, 1) := by decide +kernel
theorem dC_follows_68 : decode cC_follows 68 = .ok (.getfield 25, 3) := by decide +kernel
theorem dC_follows_71 : decode cC_follows 71 = .ok (.getfield 149, 3) := by decide +kernel
theorem dC_follows_74 : decode cC_follows 74 = .ok (.ifCond .eq 24, 3) := by decide +kernel
theorem dC_follows_77 : decode cC_follows 77 = .ok (.aload_n 0, 1) := by decide +kernel
theorem dC_follows_78 : decode cC_follows 78 = .ok (.getfield 11, 3) := by decide +kernel
theorem dC_follows_81 : decode cC_follows 81 = .ok (.iload_n 1, 1) := by decide +kernel
theorem dC_follows_82 : decode cC_follows 82 = .ok (.aaload, 1) := by decide +kernel
theorem dC_follows_83 : decode cC_follows 83 = .ok (.getfield 54, 3) := by decide +kernel
theorem dC_follows_86 : decode cC_follows 86 = .ok (.aload_n 0, 1) := by decide +kernel
theorem dC_follows_87 : decode cC_follows 87 = .ok (.getfield 25, 3) := by decide +kernel
theorem dC_follows_90 : decode cC_follows 90 = .ok (.iconst 1, 1) := by decide +kernel
theorem dC_follows_91 : decode cC_follows 91 = .ok (.iconst 2, 1) := by decide +kernel
theorem dC_follows_92 : decode cC_follows 92 = .ok (.invokevirtual 153, 3) := by decide +kernel
theorem dC_follows_95 : decode cC_follows 95 = .ok (.ifCond .eq 7, 3) := by decide +kernel
theorem dC_follows_98 : decode cC_follows 98 = .ok (.iconst 1, 1) := by decide +kernel
theorem dC_follows_99 : decode cC_follows 99 = .ok (.goto 4, 3) := by decide +kernel
theorem dC_follows_102 : decode cC_follows 102 = .ok (.iconst 0, 1) := by decide +kernel
theorem dC_follows_103 : decode cC_follows 103 = .ok (.istore_n 3, 1) := by decide +kernel
theorem dC_follows_104 : decode cC_follows 104 = .ok (.iload_n 3, 1) := by decide +kernel
theorem dC_follows_105 : decode cC_follows 105 = .ok (.ifCond .eq 7, 3) := by decide +kernel
theorem dC_follows_108 : decode cC_follows 108 = .ok (.iconst 1, 1) := by decide +kernel
theorem dC_follows_109 : decode cC_follows 109 = .ok (.goto 4, 3) := by decide +kernel
theorem dC_follows_112 : decode cC_follows 112 = .ok (.iconst 0, 1) := by decide +kernel
theorem dC_follows_113 : decode cC_follows 113 = .ok (.ireturn, 1) := by decide +kernel
theorem dC_count_0 : decode cC_count 0 = .ok (.iload_n 1, 1) := by decide +kernel
theorem dC_count_1 : decode cC_count 1 = .ok (.invokestatic 30, 3) := by decide +kernel
theorem dC_count_4 : decode cC_count 4 = .ok (.ifCond .eq 12, 3) := by decide +kernel
theorem dC_count_7 : decode cC_count 7 = .ok (.iload_n 2, 1) := by decide +kernel
theorem dC_count_8 : decode cC_count 8 = .ok (.iconst 0, 1) := by decide +kernel
theorem dC_count_9 : decode cC_count 9 = .ok (.iconst 3, 1) := by decide +kernel
theorem dC_count_10 : decode cC_count 10 = .ok (.invokestatic 34, 3) := by decide +kernel
theorem dC_count_13 : decode cC_count 13 = .ok (.ifCond .ne 13, 3) := by decide +kernel
theorem dC_count_16 : decode cC_count 16 = .ok (.new 38, 3) := by decide +kernel
theorem dC_count_19 : decode cC_count 19 = .ok (.dup, 1) := by decide +kernel
theorem dC_count_20 : decode cC_count 20 = .ok (.ldc 157, 2) := by decide +kernel
theorem dC_count_22 : decode cC_count 22 = .ok (.invokespecial 42, 3) := by decide +kernel
theorem dC_count_25 : decode cC_count 25 = .ok (.athrow, 1) := by decide +kernel
theorem dC_count_26 : decode cC_count 26 = .ok (.aload_n 0, 1) := by decide +kernel
theorem dC_count_27 : decode cC_count 27 = .ok (.getfield 11, 3) := by decide +kernel
theorem dC_count_30 : decode cC_count 30 = .ok (.iload_n 1, 1) := by decide +kernel
theorem dC_count_31 : decode cC_count 31 = .ok (.aaload, 1) := by decide +kernel
theorem dC_count_32 : decode cC_count 32 = .ok (.astore_n 3, 1) := by decide +kernel
theorem dC_count_33 : decode cC_count 33 = .ok (.iload_n 2, 1) := by decide +kernel
theorem dC_count_34 : decode cC_count 34 = .ok (.tableswitch 44 0 2 #[26, 31, 36], 26) := by decide +kernel
theorem dC_count_60 : decode cC_count 60 = .ok (.aload_n 3, 1) := by decide +kernel
theorem dC_count_61 : decode cC_count 61 = .ok (.getfield 100, 3) := by decide +kernel
theorem dC_count_64 : decode cC_count 64 = .ok (.ireturn, 1) := by decide +kernel
theorem dC_count_65 : decode cC_count 65 = .ok (.aload_n 3, 1) := by decide +kernel
theorem dC_count_66 : decode cC_count 66 = .ok (.getfield 159, 3) := by decide +kernel
theorem dC_count_69 : decode cC_count 69 = .ok (.ireturn, 1) := by decide +kernel
theorem dC_count_70 : decode cC_count 70 = .ok (.aload_n 3, 1) := by decide +kernel
theorem dC_count_71 : decode cC_count 71 = .ok (.getfield 50, 3) := by decide +kernel
theorem dC_count_74 : decode cC_count 74 = .ok (.getfield 57, 3) := by decide +kernel
theorem dC_count_77 : decode cC_count 77 = .ok (.ireturn, 1) := by decide +kernel
theorem dC_count_78 : decode cC_count 78 = .ok (.aload_n 3, 1) := by decide +kernel
theorem dC_count_79 : decode cC_count 79 = .ok (.getfield 54, 3) := by decide +kernel
theorem dC_count_82 : decode cC_count 82 = .ok (.getfield 57, 3) := by decide +kernel
theorem dC_count_85 : decode cC_count 85 = .ok (.ireturn, 1) := by decide +kernel
