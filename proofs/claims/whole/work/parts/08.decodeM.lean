theorem dM_init_0 : decode cM_init 0 = .ok (.aload_n 0, 1) := by decide +kernel
theorem dM_init_1 : decode cM_init 1 = .ok (.invokespecial 1, 3) := by decide +kernel
theorem dM_init_4 : decode cM_init 4 = .ok (.aload_n 0, 1) := by decide +kernel
theorem dM_init_5 : decode cM_init 5 = .ok (.bipush 32, 2) := by decide +kernel
theorem dM_init_7 : decode cM_init 7 = .ok (.newarray .int, 2) := by decide +kernel
theorem dM_init_9 : decode cM_init 9 = .ok (.putfield 7, 3) := by decide +kernel
theorem dM_init_12 : decode cM_init 12 = .ok (.aload_n 0, 1) := by decide +kernel
theorem dM_init_13 : decode cM_init 13 = .ok (.bipush 32, 2) := by decide +kernel
theorem dM_init_15 : decode cM_init 15 = .ok (.newarray .int, 2) := by decide +kernel
theorem dM_init_17 : decode cM_init 17 = .ok (.putfield 13, 3) := by decide +kernel
theorem dM_init_20 : decode cM_init 20 = .ok (.aload_n 0, 1) := by decide +kernel
theorem dM_init_21 : decode cM_init 21 = .ok (.bipush 32, 2) := by decide +kernel
theorem dM_init_23 : decode cM_init 23 = .ok (.newarray .int, 2) := by decide +kernel
theorem dM_init_25 : decode cM_init 25 = .ok (.putfield 16, 3) := by decide +kernel
theorem dM_init_28 : decode cM_init 28 = .ok (.aload_n 0, 1) := by decide +kernel
theorem dM_init_29 : decode cM_init 29 = .ok (.bipush 8, 2) := by decide +kernel
theorem dM_init_31 : decode cM_init 31 = .ok (.newarray .int, 2) := by decide +kernel
theorem dM_init_33 : decode cM_init 33 = .ok (.putfield 19, 3) := by decide +kernel
theorem dM_init_36 : decode cM_init 36 = .ok (.aload_n 0, 1) := by decide +kernel
theorem dM_init_37 : decode cM_init 37 = .ok (.bipush 64, 2) := by decide +kernel
theorem dM_init_39 : decode cM_init 39 = .ok (.newarray .int, 2) := by decide +kernel
theorem dM_init_41 : decode cM_init 41 = .ok (.putfield 22, 3) := by decide +kernel
theorem dM_init_44 : decode cM_init 44 = .ok (.aload_n 0, 1) := by decide +kernel
theorem dM_init_45 : decode cM_init 45 = .ok (.bipush 64, 2) := by decide +kernel
theorem dM_init_47 : decode cM_init 47 = .ok (.newarray .int, 2) := by decide +kernel
theorem dM_init_49 : decode cM_init 49 = .ok (.putfield 25, 3) := by decide +kernel
theorem dM_init_52 : decode cM_init 52 = .ok (.aload_n 0, 1) := by decide +kernel
theorem dM_init_53 : decode cM_init 53 = .ok (.bipush 64, 2) := by decide +kernel
theorem dM_init_55 : decode cM_init 55 = .ok (.newarray .int, 2) := by decide +kernel
theorem dM_init_57 : decode cM_init 57 = .ok (.putfield 28, 3) := by decide +kernel
theorem dM_init_60 : decode cM_init 60 = .ok (.aload_n 0, 1) := by decide +kernel
theorem dM_init_61 : decode cM_init 61 = .ok (.bipush 64, 2) := by decide +kernel
theorem dM_init_63 : decode cM_init 63 = .ok (.newarray .int, 2) := by decide +kernel
theorem dM_init_65 : decode cM_init 65 = .ok (.putfield 31, 3) := by decide +kernel
theorem dM_init_68 : decode cM_init 68 = .ok (.aload_n 0, 1) := by decide +kernel
theorem dM_init_69 : decode cM_init 69 = .ok (.bipush 64, 2) := by decide +kernel
theorem dM_init_71 : decode cM_init 71 = .ok (.newarray .int, 2) := by decide +kernel
theorem dM_init_73 : decode cM_init 73 = .ok (.putfield 34, 3) := by decide +kernel
theorem dM_init_76 : decode cM_init 76 = .ok (.aload_n 0, 1) := by decide +kernel
theorem dM_init_77 : decode cM_init 77 = .ok (.iconst 4, 1) := by decide +kernel
theorem dM_init_78 : decode cM_init 78 = .ok (.newarray .int, 2) := by decide +kernel
theorem dM_init_80 : decode cM_init 80 = .ok (.putfield 37, 3) := by decide +kernel
theorem dM_init_83 : decode cM_init 83 = .ok (.aload_n 0, 1) := by decide +kernel
theorem dM_init_84 : decode cM_init 84 = .ok (.bipush 64, 2) := by decide +kernel
theorem dM_init_86 : decode cM_init 86 = .ok (.newarray .int, 2) := by decide +kernel
theorem dM_init_88 : decode cM_init 88 = .ok (.putfield 40, 3) := by decide +kernel
theorem dM_init_91 : decode cM_init 91 = .ok (.aload_n 0, 1) := by decide +kernel
theorem dM_init_92 : decode cM_init 92 = .ok (.bipush 64, 2) := by decide +kernel
theorem dM_init_94 : decode cM_init 94 = .ok (.newarray .int, 2) := by decide +kernel
theorem dM_init_96 : decode cM_init 96 = .ok (.putfield 43, 3) := by decide +kernel
theorem dM_init_99 : decode cM_init 99 = .ok (.aload_n 0, 1) := by decide +kernel
theorem dM_init_100 : decode cM_init 100 = .ok (.bipush 64, 2) := by decide +kernel
theorem dM_init_102 : decode cM_init 102 = .ok (.newarray .int, 2) := by decide +kernel
theorem dM_init_104 : decode cM_init 104 = .ok (.putfield 46, 3) := by decide +kernel
theorem dM_init_107 : decode cM_init 107 = .ok (.aload_n 0, 1) := by decide +kernel
theorem dM_init_108 : decode cM_init 108 = .ok (.iconst 4, 1) := by decide +kernel
theorem dM_init_109 : decode cM_init 109 = .ok (.newarray .int, 2) := by decide +kernel
theorem dM_init_111 : decode cM_init 111 = .ok (.putfield 49, 3) := by decide +kernel
theorem dM_init_114 : decode cM_init 114 = .ok (.aload_n 0, 1) := by decide +kernel
theorem dM_init_115 : decode cM_init 115 = .ok (.bipush 24, 2) := by decide +kernel
theorem dM_init_117 : decode cM_init 117 = .ok (.newarray .int, 2) := by decide +kernel
theorem dM_init_119 : decode cM_init 119 = .ok (.putfield 52, 3) := by decide +kernel
theorem dM_init_122 : decode cM_init 122 = .ok (.aload_n 0, 1) := by decide +kernel
theorem dM_init_123 : decode cM_init 123 = .ok (.iconst 4, 1) := by decide +kernel
theorem dM_init_124 : decode cM_init 124 = .ok (.newarray .int, 2) := by decide +kernel
theorem dM_init_126 : decode cM_init 126 = .ok (.putfield 55, 3) := by decide +kernel
theorem dM_init_129 : decode cM_init 129 = .ok (.aload_n 0, 1) := by decide +kernel
theorem dM_init_130 : decode cM_init 130 = .ok (.sipush 169, 3) := by decide +kernel
theorem dM_init_133 : decode cM_init 133 = .ok (.newarray .long, 2) := by decide +kernel
theorem dM_init_135 : decode cM_init 135 = .ok (.putfield 58, 3) := by decide +kernel
theorem dM_init_138 : decode cM_init 138 = .ok (.aload_n 0, 1) := by decide +kernel
theorem dM_init_139 : decode cM_init 139 = .ok (.bipush 17, 2) := by decide +kernel
theorem dM_init_141 : decode cM_init 141 = .ok (.newarray .boolean, 2) := by decide +kernel
theorem dM_init_143 : decode cM_init 143 = .ok (.putfield 62, 3) := by decide +kernel
theorem dM_init_146 : decode cM_init 146 = .ok (.return_, 1) := by decide +kernel
theorem dM_thrown_0 : decode cM_thrown 0 = .ok (.aload_n 0, 1) := by decide +kernel
theorem dM_thrown_1 : decode cM_thrown 1 = .ok (.getfield 66, 3) := by decide +kernel
theorem dM_thrown_4 : decode cM_thrown 4 = .ok (.ireturn, 1) := by decide +kernel
theorem dM_refine_0 : decode cM_refine 0 = .ok (.aload_n 0, 1) := by decide +kernel
theorem dM_refine_1 : decode cM_refine 1 = .ok (.iconst 0, 1) := by decide +kernel
theorem dM_refine_2 : decode cM_refine 2 = .ok (.putfield 66, 3) := by decide +kernel
theorem dM_refine_5 : decode cM_refine 5 = .ok (.iload_n 1, 1) := by decide +kernel
theorem dM_refine_6 : decode cM_refine 6 = .ok (.invokestatic 74, 3) := by decide +kernel
theorem dM_refine_9 : decode cM_refine 9 = .ok (.ifCond .ne 49, 3) := by decide +kernel
theorem dM_refine_12 : decode cM_refine 12 = .ok (.iload_n 2, 1) := by decide +kernel
theorem dM_refine_13 : decode cM_refine 13 = .ok (.iconst 0, 1) := by decide +kernel
theorem dM_refine_14 : decode cM_refine 14 = .ok (.iconst 1, 1) := by decide +kernel
theorem dM_refine_15 : decode cM_refine 15 = .ok (.invokestatic 70, 3) := by decide +kernel
theorem dM_refine_18 : decode cM_refine 18 = .ok (.ifCond .eq 40, 3) := by decide +kernel
theorem dM_refine_21 : decode cM_refine 21 = .ok (.iload_n 3, 1) := by decide +kernel
theorem dM_refine_22 : decode cM_refine 22 = .ok (.iconst 0, 1) := by decide +kernel
theorem dM_refine_23 : decode cM_refine 23 = .ok (.iconst 2, 1) := by decide +kernel
theorem dM_refine_24 : decode cM_refine 24 = .ok (.iload_n 2, 1) := by decide +kernel
theorem dM_refine_25 : decode cM_refine 25 = .ok (.iadd, 1) := by decide +kernel
theorem dM_refine_26 : decode cM_refine 26 = .ok (.invokestatic 70, 3) := by decide +kernel
theorem dM_refine_29 : decode cM_refine 29 = .ok (.ifCond .eq 29, 3) := by decide +kernel
theorem dM_refine_32 : decode cM_refine 32 = .ok (.iload 4, 2) := by decide +kernel
theorem dM_refine_34 : decode cM_refine 34 = .ok (.iconst 0, 1) := by decide +kernel
theorem dM_refine_35 : decode cM_refine 35 = .ok (.iconst 2, 1) := by decide +kernel
theorem dM_refine_36 : decode cM_refine 36 = .ok (.iload_n 2, 1) := by decide +kernel
theorem dM_refine_37 : decode cM_refine 37 = .ok (.iadd, 1) := by decide +kernel
theorem dM_refine_38 : decode cM_refine 38 = .ok (.invokestatic 70, 3) := by decide +kernel
theorem dM_refine_41 : decode cM_refine 41 = .ok (.ifCond .eq 17, 3) := by decide +kernel
theorem dM_refine_44 : decode cM_refine 44 = .ok (.iload 5, 2) := by decide +kernel
theorem dM_refine_46 : decode cM_refine 46 = .ok (.sipush (-1000), 3) := by decide +kernel
theorem dM_refine_49 : decode cM_refine 49 = .ok (.sipush 1000, 3) := by decide +kernel
theorem dM_refine_52 : decode cM_refine 52 = .ok (.invokestatic 70, 3) := by decide +kernel
theorem dM_refine_55 : decode cM_refine 55 = .ok (.ifCond .ne 9, 3) := by decide +kernel
theorem dM_refine_58 : decode cM_refine 58 = .ok (.aload_n 0, 1) := by decide +kernel
theorem dM_refine_59 : decode cM_refine 59 = .ok (.iconst 1, 1) := by decide +kernel
theorem dM_refine_60 : decode cM_refine 60 = .ok (.invokevirtual 78, 3) := by decide +kernel
theorem dM_refine_63 : decode cM_refine 63 = .ok (.ireturn, 1) := by decide +kernel
theorem dM_refine_64 : decode cM_refine 64 = .ok (.iconst 2, 1) := by decide +kernel
theorem dM_refine_65 : decode cM_refine 65 = .ok (.iload_n 1, 1) := by decide +kernel
theorem dM_refine_66 : decode cM_refine 66 = .ok (.imul, 1) := by decide +kernel
theorem dM_refine_67 : decode cM_refine 67 = .ok (.iload_n 2, 1) := by decide +kernel
theorem dM_refine_68 : decode cM_refine 68 = .ok (.iadd, 1) := by decide +kernel
theorem dM_refine_69 : decode cM_refine 69 = .ok (.istore 6, 2) := by decide +kernel
theorem dM_refine_71 : decode cM_refine 71 = .ok (.aload_n 0, 1) := by decide +kernel
theorem dM_refine_72 : decode cM_refine 72 = .ok (.getfield 19, 3) := by decide +kernel
theorem dM_refine_75 : decode cM_refine 75 = .ok (.iload 6, 2) := by decide +kernel
theorem dM_refine_77 : decode cM_refine 77 = .ok (.iaload, 1) := by decide +kernel
theorem dM_refine_78 : decode cM_refine 78 = .ok (.iconst 4, 1) := by decide +kernel
theorem dM_refine_79 : decode cM_refine 79 = .ok (.if_icmp .ne 9, 3) := by decide +kernel
theorem dM_refine_82 : decode cM_refine 82 = .ok (.aload_n 0, 1) := by decide +kernel
theorem dM_refine_83 : decode cM_refine 83 = .ok (.iconst 2, 1) := by decide +kernel
theorem dM_refine_84 : decode cM_refine 84 = .ok (.invokevirtual 78, 3) := by decide +kernel
theorem dM_refine_87 : decode cM_refine 87 = .ok (.ireturn, 1) := by decide +kernel
theorem dM_refine_88 : decode cM_refine 88 = .ok (.iconst 4, 1) := by decide +kernel
theorem dM_refine_89 : decode cM_refine 89 = .ok (.iload 6, 2) := by decide +kernel
theorem dM_refine_91 : decode cM_refine 91 = .ok (.imul, 1) := by decide +kernel
theorem dM_refine_92 : decode cM_refine 92 = .ok (.aload_n 0, 1) := by decide +kernel
theorem dM_refine_93 : decode cM_refine 93 = .ok (.getfield 19, 3) := by decide +kernel
theorem dM_refine_96 : decode cM_refine 96 = .ok (.iload 6, 2) := by decide +kernel
theorem dM_refine_98 : decode cM_refine 98 = .ok (.iaload, 1) := by decide +kernel
theorem dM_refine_99 : decode cM_refine 99 = .ok (.iadd, 1) := by decide +kernel
theorem dM_refine_100 : decode cM_refine 100 = .ok (.istore 7, 2) := by decide +kernel
theorem dM_refine_102 : decode cM_refine 102 = .ok (.aload_n 0, 1) := by decide +kernel
theorem dM_refine_103 : decode cM_refine 103 = .ok (.getfield 7, 3) := by decide +kernel
theorem dM_refine_106 : decode cM_refine 106 = .ok (.iload 7, 2) := by decide +kernel
theorem dM_refine_108 : decode cM_refine 108 = .ok (.iload_n 3, 1) := by decide +kernel
theorem dM_refine_109 : decode cM_refine 109 = .ok (.iastore, 1) := by decide +kernel
theorem dM_refine_110 : decode cM_refine 110 = .ok (.aload_n 0, 1) := by decide +kernel
theorem dM_refine_111 : decode cM_refine 111 = .ok (.getfield 13, 3) := by decide +kernel
theorem dM_refine_114 : decode cM_refine 114 = .ok (.iload 7, 2) := by decide +kernel
theorem dM_refine_116 : decode cM_refine 116 = .ok (.iload 4, 2) := by decide +kernel
theorem dM_refine_118 : decode cM_refine 118 = .ok (.iastore, 1) := by decide +kernel
theorem dM_refine_119 : decode cM_refine 119 = .ok (.aload_n 0, 1) := by decide +kernel
theorem dM_refine_120 : decode cM_refine 120 = .ok (.getfield 16, 3) := by decide +kernel
theorem dM_refine_123 : decode cM_refine 123 = .ok (.iload 7, 2) := by decide +kernel
theorem dM_refine_125 : decode cM_refine 125 = .ok (.iload 5, 2) := by decide +kernel
theorem dM_refine_127 : decode cM_refine 127 = .ok (.iastore, 1) := by decide +kernel
theorem dM_refine_128 : decode cM_refine 128 = .ok (.aload_n 0, 1) := by decide +kernel
theorem dM_refine_129 : decode cM_refine 129 = .ok (.getfield 19, 3) := by decide +kernel
theorem dM_refine_132 : decode cM_refine 132 = .ok (.iload 6, 2) := by decide +kernel
theorem dM_refine_134 : decode cM_refine 134 = .ok (.dup2, 1) := by decide +kernel
theorem dM_refine_135 : decode cM_refine 135 = .ok (.iaload, 1) := by decide +kernel
theorem dM_refine_136 : decode cM_refine 136 = .ok (.iconst 1, 1) := by decide +kernel
theorem dM_refine_137 : decode cM_refine 137 = .ok (.iadd, 1) := by decide +kernel
theorem dM_refine_138 : decode cM_refine 138 = .ok (.iastore, 1) := by decide +kernel
theorem dM_refine_139 : decode cM_refine 139 = .ok (.aload_n 0, 1) := by decide +kernel
theorem dM_refine_140 : decode cM_refine 140 = .ok (.getfield 19, 3) := by decide +kernel
theorem dM_refine_143 : decode cM_refine 143 = .ok (.iload 6, 2) := by decide +kernel
theorem dM_refine_145 : decode cM_refine 145 = .ok (.iaload, 1) := by decide +kernel
theorem dM_refine_146 : decode cM_refine 146 = .ok (.ireturn, 1) := by decide +kernel
theorem dM_noFunction_0 : decode cM_noFunction 0 = .ok (.iload_n 0, 1) := by decide +kernel
theorem dM_noFunction_1 : decode cM_noFunction 1 = .ok (.iconst 0, 1) := by decide +kernel
theorem dM_noFunction_2 : decode cM_noFunction 2 = .ok (.iconst 3, 1) := by decide +kernel
theorem dM_noFunction_3 : decode cM_noFunction 3 = .ok (.invokestatic 70, 3) := by decide +kernel
theorem dM_noFunction_6 : decode cM_noFunction 6 = .ok (.ifCond .ne 7, 3) := by decide +kernel
theorem dM_noFunction_9 : decode cM_noFunction 9 = .ok (.iconst 1, 1) := by decide +kernel
theorem dM_noFunction_10 : decode cM_noFunction 10 = .ok (.goto 4, 3) := by decide +kernel
theorem dM_noFunction_13 : decode cM_noFunction 13 = .ok (.iconst 0, 1) := by decide +kernel
theorem dM_noFunction_14 : decode cM_noFunction 14 = .ok (.ireturn, 1) := by decide +kernel
theorem dM_in_0 : decode cM_in 0 = .ok (.iload_n 0, 1) := by decide +kernel
theorem dM_in_1 : decode cM_in 1 = .ok (.iload_n 1, 1) := by decide +kernel
theorem dM_in_2 : decode cM_in 2 = .ok (.if_icmp .lt 12, 3) := by decide +kernel
theorem dM_in_5 : decode cM_in 5 = .ok (.iload_n 0, 1) := by decide +kernel
theorem dM_in_6 : decode cM_in 6 = .ok (.iload_n 2, 1) := by decide +kernel
theorem dM_in_7 : decode cM_in 7 = .ok (.if_icmp .gt 7, 3) := by decide +kernel
theorem dM_in_10 : decode cM_in 10 = .ok (.iconst 1, 1) := by decide +kernel
theorem dM_in_11 : decode cM_in 11 = .ok (.goto 4, 3) := by decide +kernel
theorem dM_in_14 : decode cM_in 14 = .ok (.iconst 0, 1) := by decide +kernel
theorem dM_in_15 : decode cM_in 15 = .ok (.ireturn, 1) := by decide +kernel
theorem dM_raise_0 : decode cM_raise 0 = .ok (.aload_n 0, 1) := by decide +kernel
theorem dM_raise_1 : decode cM_raise 1 = .ok (.iload_n 1, 1) := by decide +kernel
theorem dM_raise_2 : decode cM_raise 2 = .ok (.putfield 66, 3) := by decide +kernel
theorem dM_raise_5 : decode cM_raise 5 = .ok (.iconst 0, 1) := by decide +kernel
theorem dM_raise_6 : decode cM_raise 6 = .ok (.ireturn, 1) := by decide +kernel
theorem dM_statement_0 : decode cM_statement 0 = .ok (.aload_n 0, 1) := by decide +kernel
theorem dM_statement_1 : decode cM_statement 1 = .ok (.iconst 0, 1) := by decide +kernel
theorem dM_statement_2 : decode cM_statement 2 = .ok (.putfield 66, 3) := by decide +kernel
theorem dM_statement_5 : decode cM_statement 5 = .ok (.iload_n 1, 1) := by decide +kernel
theorem dM_statement_6 : decode cM_statement 6 = .ok (.invokestatic 74, 3) := by decide +kernel
theorem dM_statement_9 : decode cM_statement 9 = .ok (.ifCond .ne 17, 3) := by decide +kernel
theorem dM_statement_12 : decode cM_statement 12 = .ok (.iload_n 2, 1) := by decide +kernel
theorem dM_statement_13 : decode cM_statement 13 = .ok (.iload_n 3, 1) := by decide +kernel
theorem dM_statement_14 : decode cM_statement 14 = .ok (.iload 4, 2) := by decide +kernel
theorem dM_statement_16 : decode cM_statement 16 = .ok (.iload 5, 2) := by decide +kernel
theorem dM_statement_18 : decode cM_statement 18 = .ok (.iload 6, 2) := by decide +kernel
theorem dM_statement_20 : decode cM_statement 20 = .ok (.invokestatic 89, 3) := by decide +kernel
theorem dM_statement_23 : decode cM_statement 23 = .ok (.ifCond .ne 9, 3) := by decide +kernel
theorem dM_statement_26 : decode cM_statement 26 = .ok (.aload_n 0, 1) := by decide +kernel
theorem dM_statement_27 : decode cM_statement 27 = .ok (.iconst 1, 1) := by decide +kernel
theorem dM_statement_28 : decode cM_statement 28 = .ok (.invokevirtual 78, 3) := by decide +kernel
theorem dM_statement_31 : decode cM_statement 31 = .ok (.ireturn, 1) := by decide +kernel
theorem dM_statement_32 : decode cM_statement 32 = .ok (.aload_n 0, 1) := by decide +kernel
theorem dM_statement_33 : decode cM_statement 33 = .ok (.iload_n 1, 1) := by decide +kernel
theorem dM_statement_34 : decode cM_statement 34 = .ok (.iload_n 2, 1) := by decide +kernel
theorem dM_statement_35 : decode cM_statement 35 = .ok (.iload_n 3, 1) := by decide +kernel
theorem dM_statement_36 : decode cM_statement 36 = .ok (.iload 4, 2) := by decide +kernel
theorem dM_statement_38 : decode cM_statement 38 = .ok (.iload 5, 2) := by decide +kernel
theorem dM_statement_40 : decode cM_statement 40 = .ok (.invokevirtual 93, 3) := by decide +kernel
theorem dM_statement_43 : decode cM_statement 43 = .ok (.ifCond .ne 9, 3) := by decide +kernel
theorem dM_statement_46 : decode cM_statement 46 = .ok (.aload_n 0, 1) := by decide +kernel
theorem dM_statement_47 : decode cM_statement 47 = .ok (.iconst 2, 1) := by decide +kernel
theorem dM_statement_48 : decode cM_statement 48 = .ok (.invokevirtual 78, 3) := by decide +kernel
theorem dM_statement_51 : decode cM_statement 51 = .ok (.ireturn, 1) := by decide +kernel
theorem dM_statement_52 : decode cM_statement 52 = .ok (.aload_n 0, 1) := by decide +kernel
theorem dM_statement_53 : decode cM_statement 53 = .ok (.getfield 37, 3) := by decide +kernel
theorem dM_statement_56 : decode cM_statement 56 = .ok (.iload_n 1, 1) := by decide +kernel
theorem dM_statement_57 : decode cM_statement 57 = .ok (.iaload, 1) := by decide +kernel
theorem dM_statement_58 : decode cM_statement 58 = .ok (.bipush 16, 2) := by decide +kernel
theorem dM_statement_60 : decode cM_statement 60 = .ok (.if_icmp .eq 19, 3) := by decide +kernel
theorem dM_statement_63 : decode cM_statement 63 = .ok (.iload_n 2, 1) := by decide +kernel
theorem dM_statement_64 : decode cM_statement 64 = .ok (.iconst 2, 1) := by decide +kernel
theorem dM_statement_65 : decode cM_statement 65 = .ok (.if_icmp .ne 20, 3) := by decide +kernel
theorem dM_statement_68 : decode cM_statement 68 = .ok (.aload_n 0, 1) := by decide +kernel
theorem dM_statement_69 : decode cM_statement 69 = .ok (.getfield 49, 3) := by decide +kernel
theorem dM_statement_72 : decode cM_statement 72 = .ok (.iload_n 1, 1) := by decide +kernel
theorem dM_statement_73 : decode cM_statement 73 = .ok (.iaload, 1) := by decide +kernel
theorem dM_statement_74 : decode cM_statement 74 = .ok (.bipush 6, 2) := by decide +kernel
theorem dM_statement_76 : decode cM_statement 76 = .ok (.if_icmp .ne 9, 3) := by decide +kernel
theorem dM_statement_79 : decode cM_statement 79 = .ok (.aload_n 0, 1) := by decide +kernel
theorem dM_statement_80 : decode cM_statement 80 = .ok (.iconst 3, 1) := by decide +kernel
theorem dM_statement_81 : decode cM_statement 81 = .ok (.invokevirtual 78, 3) := by decide +kernel
theorem dM_statement_84 : decode cM_statement 84 = .ok (.ireturn, 1) := by decide +kernel
theorem dM_statement_85 : decode cM_statement 85 = .ok (.bipush 16, 2) := by decide +kernel
theorem dM_statement_87 : decode cM_statement 87 = .ok (.iload_n 1, 1) := by decide +kernel
theorem dM_statement_88 : decode cM_statement 88 = .ok (.imul, 1) := by decide +kernel
theorem dM_statement_89 : decode cM_statement 89 = .ok (.aload_n 0, 1) := by decide +kernel
theorem dM_statement_90 : decode cM_statement 90 = .ok (.getfield 37, 3) := by decide +kernel
theorem dM_statement_93 : decode cM_statement 93 = .ok (.iload_n 1, 1) := by decide +kernel
theorem dM_statement_94 : decode cM_statement 94 = .ok (.iaload, 1) := by decide +kernel
theorem dM_statement_95 : decode cM_statement 95 = .ok (.iadd, 1) := by decide +kernel
theorem dM_statement_96 : decode cM_statement 96 = .ok (.istore 7, 2) := by decide +kernel
theorem dM_statement_98 : decode cM_statement 98 = .ok (.aload_n 0, 1) := by decide +kernel
theorem dM_statement_99 : decode cM_statement 99 = .ok (.getfield 22, 3) := by decide +kernel
theorem dM_statement_102 : decode cM_statement 102 = .ok (.iload 7, 2) := by decide +kernel
theorem dM_statement_104 : decode cM_statement 104 = .ok (.iload_n 2, 1) := by decide +kernel
theorem dM_statement_105 : decode cM_statement 105 = .ok (.iastore, 1) := by decide +kernel
theorem dM_statement_106 : decode cM_statement 106 = .ok (.aload_n 0, 1) := by decide +kernel
theorem dM_statement_107 : decode cM_statement 107 = .ok (.getfield 25, 3) := by decide +kernel
theorem dM_statement_110 : decode cM_statement 110 = .ok (.iload 7, 2) := by decide +kernel
theorem dM_statement_112 : decode cM_statement 112 = .ok (.iload_n 3, 1) := by decide +kernel
theorem dM_statement_113 : decode cM_statement 113 = .ok (.iastore, 1) := by decide +kernel
theorem dM_statement_114 : decode cM_statement 114 = .ok (.aload_n 0, 1) := by decide +kernel
theorem dM_statement_115 : decode cM_statement 115 = .ok (.getfield 28, 3) := by decide +kernel
theorem dM_statement_118 : decode cM_statement 118 = .ok (.iload 7, 2) := by decide +kernel
theorem dM_statement_120 : decode cM_statement 120 = .ok (.iload 4, 2) := by decide +kernel
theorem dM_statement_122 : decode cM_statement 122 = .ok (.iastore, 1) := by decide +kernel
theorem dM_statement_123 : decode cM_statement 123 = .ok (.aload_n 0, 1) := by decide +kernel
theorem dM_statement_124 : decode cM_statement 124 = .ok (.getfield 31, 3) := by decide +kernel
theorem dM_statement_127 : decode cM_statement 127 = .ok (.iload 7, 2) := by decide +kernel
theorem dM_statement_129 : decode cM_statement 129 = .ok (.iload 5, 2) := by decide +kernel
theorem dM_statement_131 : decode cM_statement 131 = .ok (.iastore, 1) := by decide +kernel
theorem dM_statement_132 : decode cM_statement 132 = .ok (.aload_n 0, 1) := by decide +kernel
theorem dM_statement_133 : decode cM_statement 133 = .ok (.getfield 34, 3) := by decide +kernel
theorem dM_statement_136 : decode cM_statement 136 = .ok (.iload 7, 2) := by decide +kernel
theorem dM_statement_138 : decode cM_statement 138 = .ok (.iload 6, 2) := by decide +kernel
theorem dM_statement_140 : decode cM_statement 140 = .ok (.iastore, 1) := by decide +kernel
theorem dM_statement_141 : decode cM_statement 141 = .ok (.aload_n 0, 1) := by decide +kernel
theorem dM_statement_142 : decode cM_statement 142 = .ok (.getfield 43, 3) := by decide +kernel
theorem dM_statement_145 : decode cM_statement 145 = .ok (.iload 7, 2) := by decide +kernel
theorem dM_statement_147 : decode cM_statement 147 = .ok (.iconst (-1), 1) := by decide +kernel
theorem dM_statement_148 : decode cM_statement 148 = .ok (.iastore, 1) := by decide +kernel
theorem dM_statement_149 : decode cM_statement 149 = .ok (.aload_n 0, 1) := by decide +kernel
theorem dM_statement_150 : decode cM_statement 150 = .ok (.getfield 46, 3) := by decide +kernel
theorem dM_statement_153 : decode cM_statement 153 = .ok (.iload 7, 2) := by decide +kernel
theorem dM_statement_155 : decode cM_statement 155 = .ok (.iconst (-1), 1) := by decide +kernel
theorem dM_statement_156 : decode cM_statement 156 = .ok (.iastore, 1) := by decide +kernel
theorem dM_statement_157 : decode cM_statement 157 = .ok (.bipush 6, 2) := by decide +kernel
theorem dM_statement_159 : decode cM_statement 159 = .ok (.iload_n 1, 1) := by decide +kernel
theorem dM_statement_160 : decode cM_statement 160 = .ok (.imul, 1) := by decide +kernel
theorem dM_statement_161 : decode cM_statement 161 = .ok (.aload_n 0, 1) := by decide +kernel
theorem dM_statement_162 : decode cM_statement 162 = .ok (.getfield 55, 3) := by decide +kernel
theorem dM_statement_165 : decode cM_statement 165 = .ok (.iload_n 1, 1) := by decide +kernel
theorem dM_statement_166 : decode cM_statement 166 = .ok (.iaload, 1) := by decide +kernel
theorem dM_statement_167 : decode cM_statement 167 = .ok (.iadd, 1) := by decide +kernel
theorem dM_statement_168 : decode cM_statement 168 = .ok (.istore 8, 2) := by decide +kernel
theorem dM_statement_170 : decode cM_statement 170 = .ok (.iload_n 2, 1) := by decide +kernel
theorem dM_statement_171 : decode cM_statement 171 = .ok (.iconst 2, 1) := by decide +kernel
theorem dM_statement_172 : decode cM_statement 172 = .ok (.if_icmp .ne 45, 3) := by decide +kernel
theorem dM_statement_175 : decode cM_statement 175 = .ok (.aload_n 0, 1) := by decide +kernel
theorem dM_statement_176 : decode cM_statement 176 = .ok (.getfield 40, 3) := by decide +kernel
theorem dM_statement_179 : decode cM_statement 179 = .ok (.iload 7, 2) := by decide +kernel
theorem dM_statement_181 : decode cM_statement 181 = .ok (.aload_n 0, 1) := by decide +kernel
theorem dM_statement_182 : decode cM_statement 182 = .ok (.getfield 49, 3) := by decide +kernel
theorem dM_statement_185 : decode cM_statement 185 = .ok (.iload_n 1, 1) := by decide +kernel
theorem dM_statement_186 : decode cM_statement 186 = .ok (.iaload, 1) := by decide +kernel
theorem dM_statement_187 : decode cM_statement 187 = .ok (.iastore, 1) := by decide +kernel
theorem dM_statement_188 : decode cM_statement 188 = .ok (.aload_n 0, 1) := by decide +kernel
theorem dM_statement_189 : decode cM_statement 189 = .ok (.getfield 49, 3) := by decide +kernel
theorem dM_statement_192 : decode cM_statement 192 = .ok (.iload_n 1, 1) := by decide +kernel
theorem dM_statement_193 : decode cM_statement 193 = .ok (.dup2, 1) := by decide +kernel
theorem dM_statement_194 : decode cM_statement 194 = .ok (.iaload, 1) := by decide +kernel
theorem dM_statement_195 : decode cM_statement 195 = .ok (.iconst 1, 1) := by decide +kernel
theorem dM_statement_196 : decode cM_statement 196 = .ok (.iadd, 1) := by decide +kernel
theorem dM_statement_197 : decode cM_statement 197 = .ok (.iastore, 1) := by decide +kernel
theorem dM_statement_198 : decode cM_statement 198 = .ok (.aload_n 0, 1) := by decide +kernel
theorem dM_statement_199 : decode cM_statement 199 = .ok (.getfield 52, 3) := by decide +kernel
theorem dM_statement_202 : decode cM_statement 202 = .ok (.iload 8, 2) := by decide +kernel
theorem dM_statement_204 : decode cM_statement 204 = .ok (.iload 7, 2) := by decide +kernel
theorem dM_statement_206 : decode cM_statement 206 = .ok (.iastore, 1) := by decide +kernel
theorem dM_statement_207 : decode cM_statement 207 = .ok (.aload_n 0, 1) := by decide +kernel
theorem dM_statement_208 : decode cM_statement 208 = .ok (.getfield 55, 3) := by decide +kernel
theorem dM_statement_211 : decode cM_statement 211 = .ok (.iload_n 1, 1) := by decide +kernel
theorem dM_statement_212 : decode cM_statement 212 = .ok (.dup2, 1) := by decide +kernel
theorem dM_statement_213 : decode cM_statement 213 = .ok (.iaload, 1) := by decide +kernel
theorem dM_statement_214 : decode cM_statement 214 = .ok (.iconst 1, 1) := by decide +kernel
theorem dM_statement_215 : decode cM_statement 215 = .ok (.iadd, 1) := by decide +kernel
theorem dM_statement_216 : decode cM_statement 216 = .ok (.iastore, 1) := by decide +kernel
theorem dM_statement_217 : decode cM_statement 217 = .ok (.iload_n 2, 1) := by decide +kernel
theorem dM_statement_218 : decode cM_statement 218 = .ok (.iconst 3, 1) := by decide +kernel
theorem dM_statement_219 : decode cM_statement 219 = .ok (.if_icmp .ne 23, 3) := by decide +kernel
theorem dM_statement_222 : decode cM_statement 222 = .ok (.aload_n 0, 1) := by decide +kernel
theorem dM_statement_223 : decode cM_statement 223 = .ok (.getfield 43, 3) := by decide +kernel
theorem dM_statement_226 : decode cM_statement 226 = .ok (.aload_n 0, 1) := by decide +kernel
theorem dM_statement_227 : decode cM_statement 227 = .ok (.getfield 52, 3) := by decide +kernel
theorem dM_statement_230 : decode cM_statement 230 = .ok (.iload 8, 2) := by decide +kernel
theorem dM_statement_232 : decode cM_statement 232 = .ok (.iconst 1, 1) := by decide +kernel
theorem dM_statement_233 : decode cM_statement 233 = .ok (.isub, 1) := by decide +kernel
theorem dM_statement_234 : decode cM_statement 234 = .ok (.iaload, 1) := by decide +kernel
theorem dM_statement_235 : decode cM_statement 235 = .ok (.aload_n 0, 1) := by decide +kernel
theorem dM_statement_236 : decode cM_statement 236 = .ok (.getfield 37, 3) := by decide +kernel
theorem dM_statement_239 : decode cM_statement 239 = .ok (.iload_n 1, 1) := by decide +kernel
theorem dM_statement_240 : decode cM_statement 240 = .ok (.iaload, 1) := by decide +kernel
theorem dM_statement_241 : decode cM_statement 241 = .ok (.iastore, 1) := by decide +kernel
theorem dM_statement_242 : decode cM_statement 242 = .ok (.iload_n 2, 1) := by decide +kernel
theorem dM_statement_243 : decode cM_statement 243 = .ok (.iconst 4, 1) := by decide +kernel
theorem dM_statement_244 : decode cM_statement 244 = .ok (.if_icmp .ne 33, 3) := by decide +kernel
theorem dM_statement_247 : decode cM_statement 247 = .ok (.aload_n 0, 1) := by decide +kernel
theorem dM_statement_248 : decode cM_statement 248 = .ok (.getfield 46, 3) := by decide +kernel
theorem dM_statement_251 : decode cM_statement 251 = .ok (.aload_n 0, 1) := by decide +kernel
theorem dM_statement_252 : decode cM_statement 252 = .ok (.getfield 52, 3) := by decide +kernel
theorem dM_statement_255 : decode cM_statement 255 = .ok (.iload 8, 2) := by decide +kernel
theorem dM_statement_257 : decode cM_statement 257 = .ok (.iconst 1, 1) := by decide +kernel
theorem dM_statement_258 : decode cM_statement 258 = .ok (.isub, 1) := by decide +kernel
theorem dM_statement_259 : decode cM_statement 259 = .ok (.iaload, 1) := by decide +kernel
theorem dM_statement_260 : decode cM_statement 260 = .ok (.aload_n 0, 1) := by decide +kernel
theorem dM_statement_261 : decode cM_statement 261 = .ok (.getfield 37, 3) := by decide +kernel
theorem dM_statement_264 : decode cM_statement 264 = .ok (.iload_n 1, 1) := by decide +kernel
theorem dM_statement_265 : decode cM_statement 265 = .ok (.iaload, 1) := by decide +kernel
theorem dM_statement_266 : decode cM_statement 266 = .ok (.iastore, 1) := by decide +kernel
theorem dM_statement_267 : decode cM_statement 267 = .ok (.aload_n 0, 1) := by decide +kernel
theorem dM_statement_268 : decode cM_statement 268 = .ok (.getfield 55, 3) := by decide +kernel
theorem dM_statement_271 : decode cM_statement 271 = .ok (.iload_n 1, 1) := by decide +kernel
theorem dM_statement_272 : decode cM_statement 272 = .ok (.dup2, 1) := by decide +kernel
theorem dM_statement_273 : decode cM_statement 273 = .ok (.iaload, 1) := by decide +kernel
theorem dM_statement_274 : decode cM_statement 274 = .ok (.iconst 1, 1) := by decide +kernel
theorem dM_statement_275 : decode cM_statement 275 = .ok (.isub, 1) := by decide +kernel
theorem dM_statement_276 : decode cM_statement 276 = .ok (.iastore, 1) := by decide +kernel
theorem dM_statement_277 : decode cM_statement 277 = .ok (.aload_n 0, 1) := by decide +kernel
theorem dM_statement_278 : decode cM_statement 278 = .ok (.getfield 37, 3) := by decide +kernel
theorem dM_statement_281 : decode cM_statement 281 = .ok (.iload_n 1, 1) := by decide +kernel
theorem dM_statement_282 : decode cM_statement 282 = .ok (.dup2, 1) := by decide +kernel
theorem dM_statement_283 : decode cM_statement 283 = .ok (.iaload, 1) := by decide +kernel
theorem dM_statement_284 : decode cM_statement 284 = .ok (.iconst 1, 1) := by decide +kernel
theorem dM_statement_285 : decode cM_statement 285 = .ok (.iadd, 1) := by decide +kernel
theorem dM_statement_286 : decode cM_statement 286 = .ok (.iastore, 1) := by decide +kernel
theorem dM_statement_287 : decode cM_statement 287 = .ok (.aload_n 0, 1) := by decide +kernel
theorem dM_statement_288 : decode cM_statement 288 = .ok (.getfield 37, 3) := by decide +kernel
theorem dM_statement_291 : decode cM_statement 291 = .ok (.iload_n 1, 1) := by decide +kernel
theorem dM_statement_292 : decode cM_statement 292 = .ok (.iaload, 1) := by decide +kernel
theorem dM_statement_293 : decode cM_statement 293 = .ok (.iconst 1, 1) := by decide +kernel
theorem dM_statement_294 : decode cM_statement 294 = .ok (.isub, 1) := by decide +kernel
theorem dM_statement_295 : decode cM_statement 295 = .ok (.ireturn, 1) := by decide +kernel
theorem dM_fits_0 : decode cM_fits 0 = .ok (.iload_n 0, 1) := by decide +kernel
theorem dM_fits_1 : decode cM_fits 1 = .ok (.iconst 2, 1) := by decide +kernel
theorem dM_fits_2 : decode cM_fits 2 = .ok (.if_icmp .lt 9, 3) := by decide +kernel
theorem dM_fits_5 : decode cM_fits 5 = .ok (.iload_n 0, 1) := by decide +kernel
theorem dM_fits_6 : decode cM_fits 6 = .ok (.bipush 7, 2) := by decide +kernel
theorem dM_fits_8 : decode cM_fits 8 = .ok (.if_icmp .ne 7, 3) := by decide +kernel
theorem dM_fits_11 : decode cM_fits 11 = .ok (.iconst 1, 1) := by decide +kernel
theorem dM_fits_12 : decode cM_fits 12 = .ok (.goto 4, 3) := by decide +kernel
theorem dM_fits_15 : decode cM_fits 15 = .ok (.iconst 0, 1) := by decide +kernel
theorem dM_fits_16 : decode cM_fits 16 = .ok (.istore 5, 2) := by decide +kernel
theorem dM_fits_18 : decode cM_fits 18 = .ok (.iload_n 0, 1) := by decide +kernel
theorem dM_fits_19 : decode cM_fits 19 = .ok (.iconst 2, 1) := by decide +kernel
theorem dM_fits_20 : decode cM_fits 20 = .ok (.if_icmp .eq 8, 3) := by decide +kernel
theorem dM_fits_23 : decode cM_fits 23 = .ok (.iload_n 0, 1) := by decide +kernel
theorem dM_fits_24 : decode cM_fits 24 = .ok (.iconst 5, 1) := by decide +kernel
theorem dM_fits_25 : decode cM_fits 25 = .ok (.if_icmp .ne 7, 3) := by decide +kernel
theorem dM_fits_28 : decode cM_fits 28 = .ok (.iconst 1, 1) := by decide +kernel
theorem dM_fits_29 : decode cM_fits 29 = .ok (.goto 4, 3) := by decide +kernel
theorem dM_fits_32 : decode cM_fits 32 = .ok (.iconst 0, 1) := by decide +kernel
theorem dM_fits_33 : decode cM_fits 33 = .ok (.istore 6, 2) := by decide +kernel
theorem dM_fits_35 : decode cM_fits 35 = .ok (.iload_n 0, 1) := by decide +kernel
theorem dM_fits_36 : decode cM_fits 36 = .ok (.iconst 0, 1) := by decide +kernel
theorem dM_fits_37 : decode cM_fits 37 = .ok (.bipush 7, 2) := by decide +kernel
theorem dM_fits_39 : decode cM_fits 39 = .ok (.invokestatic 70, 3) := by decide +kernel
theorem dM_fits_42 : decode cM_fits 42 = .ok (.ifCond .eq 18, 3) := by decide +kernel
theorem dM_fits_45 : decode cM_fits 45 = .ok (.iload 5, 2) := by decide +kernel
theorem dM_fits_47 : decode cM_fits 47 = .ok (.ifCond .eq 15, 3) := by decide +kernel
theorem dM_fits_50 : decode cM_fits 50 = .ok (.iload_n 1, 1) := by decide +kernel
theorem dM_fits_51 : decode cM_fits 51 = .ok (.iconst 4, 1) := by decide +kernel
theorem dM_fits_52 : decode cM_fits 52 = .ok (.bipush 11, 2) := by decide +kernel
theorem dM_fits_54 : decode cM_fits 54 = .ok (.invokestatic 70, 3) := by decide +kernel
theorem dM_fits_57 : decode cM_fits 57 = .ok (.ifCond .ne 5, 3) := by decide +kernel
theorem dM_fits_60 : decode cM_fits 60 = .ok (.iconst 0, 1) := by decide +kernel
theorem dM_fits_61 : decode cM_fits 61 = .ok (.ireturn, 1) := by decide +kernel
theorem dM_fits_62 : decode cM_fits 62 = .ok (.iload 6, 2) := by decide +kernel
theorem dM_fits_64 : decode cM_fits 64 = .ok (.ifCond .eq 10, 3) := by decide +kernel
theorem dM_fits_67 : decode cM_fits 67 = .ok (.iload_n 1, 1) := by decide +kernel
theorem dM_fits_68 : decode cM_fits 68 = .ok (.invokestatic 82, 3) := by decide +kernel
theorem dM_fits_71 : decode cM_fits 71 = .ok (.ifCond .eq 38, 3) := by decide +kernel
theorem dM_fits_74 : decode cM_fits 74 = .ok (.iload_n 0, 1) := by decide +kernel
theorem dM_fits_75 : decode cM_fits 75 = .ok (.iconst 2, 1) := by decide +kernel
theorem dM_fits_76 : decode cM_fits 76 = .ok (.if_icmp .lt 14, 3) := by decide +kernel
theorem dM_fits_79 : decode cM_fits 79 = .ok (.iload 6, 2) := by decide +kernel
theorem dM_fits_81 : decode cM_fits 81 = .ok (.ifCond .ne 9, 3) := by decide +kernel
theorem dM_fits_84 : decode cM_fits 84 = .ok (.iload_n 0, 1) := by decide +kernel
theorem dM_fits_85 : decode cM_fits 85 = .ok (.bipush 6, 2) := by decide +kernel
theorem dM_fits_87 : decode cM_fits 87 = .ok (.if_icmp .ne 10, 3) := by decide +kernel
theorem dM_fits_90 : decode cM_fits 90 = .ok (.iload_n 2, 1) := by decide +kernel
theorem dM_fits_91 : decode cM_fits 91 = .ok (.invokestatic 82, 3) := by decide +kernel
theorem dM_fits_94 : decode cM_fits 94 = .ok (.ifCond .eq 15, 3) := by decide +kernel
theorem dM_fits_97 : decode cM_fits 97 = .ok (.iload_n 0, 1) := by decide +kernel
theorem dM_fits_98 : decode cM_fits 98 = .ok (.iconst 1, 1) := by decide +kernel
theorem dM_fits_99 : decode cM_fits 99 = .ok (.if_icmp .ne 12, 3) := by decide +kernel
theorem dM_fits_102 : decode cM_fits 102 = .ok (.iload_n 3, 1) := by decide +kernel
theorem dM_fits_103 : decode cM_fits 103 = .ok (.invokestatic 82, 3) := by decide +kernel
theorem dM_fits_106 : decode cM_fits 106 = .ok (.ifCond .ne 5, 3) := by decide +kernel
theorem dM_fits_109 : decode cM_fits 109 = .ok (.iconst 0, 1) := by decide +kernel
theorem dM_fits_110 : decode cM_fits 110 = .ok (.ireturn, 1) := by decide +kernel
theorem dM_fits_111 : decode cM_fits 111 = .ok (.iload_n 0, 1) := by decide +kernel
theorem dM_fits_112 : decode cM_fits 112 = .ok (.iconst 1, 1) := by decide +kernel
theorem dM_fits_113 : decode cM_fits 113 = .ok (.if_icmp .ne 11, 3) := by decide +kernel
theorem dM_fits_116 : decode cM_fits 116 = .ok (.iload 4, 2) := by decide +kernel
theorem dM_fits_118 : decode cM_fits 118 = .ok (.iconst 0, 1) := by decide +kernel
theorem dM_fits_119 : decode cM_fits 119 = .ok (.iconst 3, 1) := by decide +kernel
theorem dM_fits_120 : decode cM_fits 120 = .ok (.invokestatic 70, 3) := by decide +kernel
theorem dM_fits_123 : decode cM_fits 123 = .ok (.ireturn, 1) := by decide +kernel
theorem dM_fits_124 : decode cM_fits 124 = .ok (.iload_n 0, 1) := by decide +kernel
theorem dM_fits_125 : decode cM_fits 125 = .ok (.iconst 3, 1) := by decide +kernel
theorem dM_fits_126 : decode cM_fits 126 = .ok (.if_icmp .eq 28, 3) := by decide +kernel
theorem dM_fits_129 : decode cM_fits 129 = .ok (.iload_n 0, 1) := by decide +kernel
theorem dM_fits_130 : decode cM_fits 130 = .ok (.iconst 4, 1) := by decide +kernel
theorem dM_fits_131 : decode cM_fits 131 = .ok (.if_icmp .eq 23, 3) := by decide +kernel
theorem dM_fits_134 : decode cM_fits 134 = .ok (.iload_n 0, 1) := by decide +kernel
theorem dM_fits_135 : decode cM_fits 135 = .ok (.bipush 7, 2) := by decide +kernel
theorem dM_fits_137 : decode cM_fits 137 = .ok (.if_icmp .eq 17, 3) := by decide +kernel
theorem dM_fits_140 : decode cM_fits 140 = .ok (.iload 4, 2) := by decide +kernel
theorem dM_fits_142 : decode cM_fits 142 = .ok (.sipush (-1000), 3) := by decide +kernel
theorem dM_fits_145 : decode cM_fits 145 = .ok (.sipush 1000, 3) := by decide +kernel
theorem dM_fits_148 : decode cM_fits 148 = .ok (.invokestatic 70, 3) := by decide +kernel
theorem dM_fits_151 : decode cM_fits 151 = .ok (.ifCond .eq 7, 3) := by decide +kernel
theorem dM_fits_154 : decode cM_fits 154 = .ok (.iconst 1, 1) := by decide +kernel
theorem dM_fits_155 : decode cM_fits 155 = .ok (.goto 4, 3) := by decide +kernel
theorem dM_fits_158 : decode cM_fits 158 = .ok (.iconst 0, 1) := by decide +kernel
theorem dM_fits_159 : decode cM_fits 159 = .ok (.ireturn, 1) := by decide +kernel
theorem dM_name_0 : decode cM_name 0 = .ok (.iload_n 0, 1) := by decide +kernel
theorem dM_name_1 : decode cM_name 1 = .ok (.iconst 0, 1) := by decide +kernel
theorem dM_name_2 : decode cM_name 2 = .ok (.iconst 2, 1) := by decide +kernel
theorem dM_name_3 : decode cM_name 3 = .ok (.invokestatic 70, 3) := by decide +kernel
theorem dM_name_6 : decode cM_name 6 = .ok (.ifCond .ne 13, 3) := by decide +kernel
theorem dM_name_9 : decode cM_name 9 = .ok (.iload_n 0, 1) := by decide +kernel
theorem dM_name_10 : decode cM_name 10 = .ok (.iconst 4, 1) := by decide +kernel
theorem dM_name_11 : decode cM_name 11 = .ok (.bipush 11, 2) := by decide +kernel
theorem dM_name_13 : decode cM_name 13 = .ok (.invokestatic 70, 3) := by decide +kernel
theorem dM_name_16 : decode cM_name 16 = .ok (.ifCond .eq 7, 3) := by decide +kernel
theorem dM_name_19 : decode cM_name 19 = .ok (.iconst 1, 1) := by decide +kernel
theorem dM_name_20 : decode cM_name 20 = .ok (.goto 4, 3) := by decide +kernel
theorem dM_name_23 : decode cM_name 23 = .ok (.iconst 0, 1) := by decide +kernel
theorem dM_name_24 : decode cM_name 24 = .ok (.ireturn, 1) := by decide +kernel
theorem dM_stands_0 : decode cM_stands 0 = .ok (.iload_n 2, 1) := by decide +kernel
theorem dM_stands_1 : decode cM_stands 1 = .ok (.iconst 2, 1) := by decide +kernel
theorem dM_stands_2 : decode cM_stands 2 = .ok (.if_icmp .eq 8, 3) := by decide +kernel
theorem dM_stands_5 : decode cM_stands 5 = .ok (.iload_n 2, 1) := by decide +kernel
theorem dM_stands_6 : decode cM_stands 6 = .ok (.iconst 5, 1) := by decide +kernel
theorem dM_stands_7 : decode cM_stands 7 = .ok (.if_icmp .ne 7, 3) := by decide +kernel
theorem dM_stands_10 : decode cM_stands 10 = .ok (.iconst 1, 1) := by decide +kernel
theorem dM_stands_11 : decode cM_stands 11 = .ok (.goto 4, 3) := by decide +kernel
theorem dM_stands_14 : decode cM_stands 14 = .ok (.iconst 0, 1) := by decide +kernel
theorem dM_stands_15 : decode cM_stands 15 = .ok (.istore 6, 2) := by decide +kernel
theorem dM_stands_17 : decode cM_stands 17 = .ok (.iload 6, 2) := by decide +kernel
theorem dM_stands_19 : decode cM_stands 19 = .ok (.ifCond .eq 12, 3) := by decide +kernel
theorem dM_stands_22 : decode cM_stands 22 = .ok (.aload_n 0, 1) := by decide +kernel
theorem dM_stands_23 : decode cM_stands 23 = .ok (.iload_n 1, 1) := by decide +kernel
theorem dM_stands_24 : decode cM_stands 24 = .ok (.iload_n 3, 1) := by decide +kernel
theorem dM_stands_25 : decode cM_stands 25 = .ok (.invokevirtual 85, 3) := by decide +kernel
theorem dM_stands_28 : decode cM_stands 28 = .ok (.ifCond .eq 44, 3) := by decide +kernel
theorem dM_stands_31 : decode cM_stands 31 = .ok (.iload_n 2, 1) := by decide +kernel
theorem dM_stands_32 : decode cM_stands 32 = .ok (.iconst 2, 1) := by decide +kernel
theorem dM_stands_33 : decode cM_stands 33 = .ok (.if_icmp .lt 14, 3) := by decide +kernel
theorem dM_stands_36 : decode cM_stands 36 = .ok (.iload 6, 2) := by decide +kernel
theorem dM_stands_38 : decode cM_stands 38 = .ok (.ifCond .ne 9, 3) := by decide +kernel
theorem dM_stands_41 : decode cM_stands 41 = .ok (.iload_n 2, 1) := by decide +kernel
theorem dM_stands_42 : decode cM_stands 42 = .ok (.bipush 6, 2) := by decide +kernel
theorem dM_stands_44 : decode cM_stands 44 = .ok (.if_icmp .ne 13, 3) := by decide +kernel
theorem dM_stands_47 : decode cM_stands 47 = .ok (.aload_n 0, 1) := by decide +kernel
theorem dM_stands_48 : decode cM_stands 48 = .ok (.iload_n 1, 1) := by decide +kernel
theorem dM_stands_49 : decode cM_stands 49 = .ok (.iload 4, 2) := by decide +kernel
theorem dM_stands_51 : decode cM_stands 51 = .ok (.invokevirtual 85, 3) := by decide +kernel
theorem dM_stands_54 : decode cM_stands 54 = .ok (.ifCond .eq 18, 3) := by decide +kernel
theorem dM_stands_57 : decode cM_stands 57 = .ok (.iload_n 2, 1) := by decide +kernel
theorem dM_stands_58 : decode cM_stands 58 = .ok (.iconst 1, 1) := by decide +kernel
theorem dM_stands_59 : decode cM_stands 59 = .ok (.if_icmp .ne 15, 3) := by decide +kernel
theorem dM_stands_62 : decode cM_stands 62 = .ok (.aload_n 0, 1) := by decide +kernel
theorem dM_stands_63 : decode cM_stands 63 = .ok (.iload_n 1, 1) := by decide +kernel
theorem dM_stands_64 : decode cM_stands 64 = .ok (.iload 5, 2) := by decide +kernel
theorem dM_stands_66 : decode cM_stands 66 = .ok (.invokevirtual 85, 3) := by decide +kernel
theorem dM_stands_69 : decode cM_stands 69 = .ok (.ifCond .ne 5, 3) := by decide +kernel
theorem dM_stands_72 : decode cM_stands 72 = .ok (.iconst 0, 1) := by decide +kernel
theorem dM_stands_73 : decode cM_stands 73 = .ok (.ireturn, 1) := by decide +kernel
theorem dM_stands_74 : decode cM_stands 74 = .ok (.iload_n 2, 1) := by decide +kernel
theorem dM_stands_75 : decode cM_stands 75 = .ok (.iconst 3, 1) := by decide +kernel
theorem dM_stands_76 : decode cM_stands 76 = .ok (.if_icmp .eq 10, 3) := by decide +kernel
theorem dM_stands_79 : decode cM_stands 79 = .ok (.iload_n 2, 1) := by decide +kernel
theorem dM_stands_80 : decode cM_stands 80 = .ok (.iconst 4, 1) := by decide +kernel
theorem dM_stands_81 : decode cM_stands 81 = .ok (.if_icmp .eq 5, 3) := by decide +kernel
theorem dM_stands_84 : decode cM_stands 84 = .ok (.iconst 1, 1) := by decide +kernel
theorem dM_stands_85 : decode cM_stands 85 = .ok (.ireturn, 1) := by decide +kernel
theorem dM_stands_86 : decode cM_stands 86 = .ok (.aload_n 0, 1) := by decide +kernel
theorem dM_stands_87 : decode cM_stands 87 = .ok (.getfield 55, 3) := by decide +kernel
theorem dM_stands_90 : decode cM_stands 90 = .ok (.iload_n 1, 1) := by decide +kernel
theorem dM_stands_91 : decode cM_stands 91 = .ok (.iaload, 1) := by decide +kernel
theorem dM_stands_92 : decode cM_stands 92 = .ok (.ifCond .le 38, 3) := by decide +kernel
theorem dM_stands_95 : decode cM_stands 95 = .ok (.iload_n 2, 1) := by decide +kernel
theorem dM_stands_96 : decode cM_stands 96 = .ok (.iconst 4, 1) := by decide +kernel
theorem dM_stands_97 : decode cM_stands 97 = .ok (.if_icmp .eq 29, 3) := by decide +kernel
theorem dM_stands_100 : decode cM_stands 100 = .ok (.aload_n 0, 1) := by decide +kernel
theorem dM_stands_101 : decode cM_stands 101 = .ok (.getfield 43, 3) := by decide +kernel
theorem dM_stands_104 : decode cM_stands 104 = .ok (.aload_n 0, 1) := by decide +kernel
theorem dM_stands_105 : decode cM_stands 105 = .ok (.getfield 52, 3) := by decide +kernel
theorem dM_stands_108 : decode cM_stands 108 = .ok (.bipush 6, 2) := by decide +kernel
theorem dM_stands_110 : decode cM_stands 110 = .ok (.iload_n 1, 1) := by decide +kernel
theorem dM_stands_111 : decode cM_stands 111 = .ok (.imul, 1) := by decide +kernel
theorem dM_stands_112 : decode cM_stands 112 = .ok (.aload_n 0, 1) := by decide +kernel
theorem dM_stands_113 : decode cM_stands 113 = .ok (.getfield 55, 3) := by decide +kernel
theorem dM_stands_116 : decode cM_stands 116 = .ok (.iload_n 1, 1) := by decide +kernel
theorem dM_stands_117 : decode cM_stands 117 = .ok (.iaload, 1) := by decide +kernel
theorem dM_stands_118 : decode cM_stands 118 = .ok (.iadd, 1) := by decide +kernel
theorem dM_stands_119 : decode cM_stands 119 = .ok (.iconst 1, 1) := by decide +kernel
theorem dM_stands_120 : decode cM_stands 120 = .ok (.isub, 1) := by decide +kernel
theorem dM_stands_121 : decode cM_stands 121 = .ok (.iaload, 1) := by decide +kernel
theorem dM_stands_122 : decode cM_stands 122 = .ok (.iaload, 1) := by decide +kernel
theorem dM_stands_123 : decode cM_stands 123 = .ok (.ifCond .ge 7, 3) := by decide +kernel
theorem dM_stands_126 : decode cM_stands 126 = .ok (.iconst 1, 1) := by decide +kernel
theorem dM_stands_127 : decode cM_stands 127 = .ok (.goto 4, 3) := by decide +kernel
theorem dM_stands_130 : decode cM_stands 130 = .ok (.iconst 0, 1) := by decide +kernel
theorem dM_stands_131 : decode cM_stands 131 = .ok (.ireturn, 1) := by decide +kernel
theorem dM_given_0 : decode cM_given 0 = .ok (.iload_n 2, 1) := by decide +kernel
theorem dM_given_1 : decode cM_given 1 = .ok (.iconst 4, 1) := by decide +kernel
theorem dM_given_2 : decode cM_given 2 = .ok (.if_icmp .ge 5, 3) := by decide +kernel
theorem dM_given_5 : decode cM_given 5 = .ok (.iconst 1, 1) := by decide +kernel
theorem dM_given_6 : decode cM_given 6 = .ok (.ireturn, 1) := by decide +kernel
theorem dM_given_7 : decode cM_given 7 = .ok (.bipush 16, 2) := by decide +kernel
theorem dM_given_9 : decode cM_given 9 = .ok (.iload_n 1, 1) := by decide +kernel
theorem dM_given_10 : decode cM_given 10 = .ok (.imul, 1) := by decide +kernel
theorem dM_given_11 : decode cM_given 11 = .ok (.istore_n 3, 1) := by decide +kernel
theorem dM_given_12 : decode cM_given 12 = .ok (.iload_n 3, 1) := by decide +kernel
theorem dM_given_13 : decode cM_given 13 = .ok (.bipush 16, 2) := by decide +kernel
theorem dM_given_15 : decode cM_given 15 = .ok (.iload_n 1, 1) := by decide +kernel
theorem dM_given_16 : decode cM_given 16 = .ok (.imul, 1) := by decide +kernel
theorem dM_given_17 : decode cM_given 17 = .ok (.aload_n 0, 1) := by decide +kernel
theorem dM_given_18 : decode cM_given 18 = .ok (.getfield 37, 3) := by decide +kernel
theorem dM_given_21 : decode cM_given 21 = .ok (.iload_n 1, 1) := by decide +kernel
theorem dM_given_22 : decode cM_given 22 = .ok (.iaload, 1) := by decide +kernel
theorem dM_given_23 : decode cM_given 23 = .ok (.iadd, 1) := by decide +kernel
theorem dM_given_24 : decode cM_given 24 = .ok (.if_icmp .ge 42, 3) := by decide +kernel
theorem dM_given_27 : decode cM_given 27 = .ok (.aload_n 0, 1) := by decide +kernel
theorem dM_given_28 : decode cM_given 28 = .ok (.getfield 22, 3) := by decide +kernel
theorem dM_given_31 : decode cM_given 31 = .ok (.iload_n 3, 1) := by decide +kernel
theorem dM_given_32 : decode cM_given 32 = .ok (.iaload, 1) := by decide +kernel
theorem dM_given_33 : decode cM_given 33 = .ok (.iconst 2, 1) := by decide +kernel
theorem dM_given_34 : decode cM_given 34 = .ok (.if_icmp .lt 14, 3) := by decide +kernel
theorem dM_given_37 : decode cM_given 37 = .ok (.aload_n 0, 1) := by decide +kernel
theorem dM_given_38 : decode cM_given 38 = .ok (.getfield 22, 3) := by decide +kernel
theorem dM_given_41 : decode cM_given 41 = .ok (.iload_n 3, 1) := by decide +kernel
theorem dM_given_42 : decode cM_given 42 = .ok (.iaload, 1) := by decide +kernel
theorem dM_given_43 : decode cM_given 43 = .ok (.bipush 7, 2) := by decide +kernel
theorem dM_given_45 : decode cM_given 45 = .ok (.if_icmp .ne 15, 3) := by decide +kernel
theorem dM_given_48 : decode cM_given 48 = .ok (.aload_n 0, 1) := by decide +kernel
theorem dM_given_49 : decode cM_given 49 = .ok (.getfield 25, 3) := by decide +kernel
theorem dM_given_52 : decode cM_given 52 = .ok (.iload_n 3, 1) := by decide +kernel
theorem dM_given_53 : decode cM_given 53 = .ok (.iaload, 1) := by decide +kernel
theorem dM_given_54 : decode cM_given 54 = .ok (.iload_n 2, 1) := by decide +kernel
theorem dM_given_55 : decode cM_given 55 = .ok (.if_icmp .ne 5, 3) := by decide +kernel
theorem dM_given_58 : decode cM_given 58 = .ok (.iconst 1, 1) := by decide +kernel
theorem dM_given_59 : decode cM_given 59 = .ok (.ireturn, 1) := by decide +kernel
theorem dM_given_60 : decode cM_given 60 = .ok (.iinc 3 1, 3) := by decide +kernel
theorem dM_given_63 : decode cM_given 63 = .ok (.goto (-51), 3) := by decide +kernel
theorem dM_given_66 : decode cM_given 66 = .ok (.iconst 0, 1) := by decide +kernel
theorem dM_given_67 : decode cM_given 67 = .ok (.ireturn, 1) := by decide +kernel
theorem dM_clear_0 : decode cM_clear 0 = .ok (.aload_n 0, 1) := by decide +kernel
theorem dM_clear_1 : decode cM_clear 1 = .ok (.iconst 0, 1) := by decide +kernel
theorem dM_clear_2 : decode cM_clear 2 = .ok (.putfield 66, 3) := by decide +kernel
theorem dM_clear_5 : decode cM_clear 5 = .ok (.iload_n 1, 1) := by decide +kernel
theorem dM_clear_6 : decode cM_clear 6 = .ok (.invokestatic 74, 3) := by decide +kernel
theorem dM_clear_9 : decode cM_clear 9 = .ok (.ifCond .eq 9, 3) := by decide +kernel
theorem dM_clear_12 : decode cM_clear 12 = .ok (.aload_n 0, 1) := by decide +kernel
theorem dM_clear_13 : decode cM_clear 13 = .ok (.iconst 1, 1) := by decide +kernel
theorem dM_clear_14 : decode cM_clear 14 = .ok (.invokevirtual 78, 3) := by decide +kernel
theorem dM_clear_17 : decode cM_clear 17 = .ok (.ireturn, 1) := by decide +kernel
theorem dM_clear_18 : decode cM_clear 18 = .ok (.aload_n 0, 1) := by decide +kernel
theorem dM_clear_19 : decode cM_clear 19 = .ok (.getfield 37, 3) := by decide +kernel
theorem dM_clear_22 : decode cM_clear 22 = .ok (.iload_n 1, 1) := by decide +kernel
theorem dM_clear_23 : decode cM_clear 23 = .ok (.iaload, 1) := by decide +kernel
theorem dM_clear_24 : decode cM_clear 24 = .ok (.istore_n 2, 1) := by decide +kernel
theorem dM_clear_25 : decode cM_clear 25 = .ok (.aload_n 0, 1) := by decide +kernel
theorem dM_clear_26 : decode cM_clear 26 = .ok (.getfield 37, 3) := by decide +kernel
theorem dM_clear_29 : decode cM_clear 29 = .ok (.iload_n 1, 1) := by decide +kernel
theorem dM_clear_30 : decode cM_clear 30 = .ok (.iconst 0, 1) := by decide +kernel
theorem dM_clear_31 : decode cM_clear 31 = .ok (.iastore, 1) := by decide +kernel
theorem dM_clear_32 : decode cM_clear 32 = .ok (.aload_n 0, 1) := by decide +kernel
theorem dM_clear_33 : decode cM_clear 33 = .ok (.getfield 49, 3) := by decide +kernel
theorem dM_clear_36 : decode cM_clear 36 = .ok (.iload_n 1, 1) := by decide +kernel
theorem dM_clear_37 : decode cM_clear 37 = .ok (.iconst 0, 1) := by decide +kernel
theorem dM_clear_38 : decode cM_clear 38 = .ok (.iastore, 1) := by decide +kernel
theorem dM_clear_39 : decode cM_clear 39 = .ok (.aload_n 0, 1) := by decide +kernel
theorem dM_clear_40 : decode cM_clear 40 = .ok (.getfield 55, 3) := by decide +kernel
theorem dM_clear_43 : decode cM_clear 43 = .ok (.iload_n 1, 1) := by decide +kernel
theorem dM_clear_44 : decode cM_clear 44 = .ok (.iconst 0, 1) := by decide +kernel
theorem dM_clear_45 : decode cM_clear 45 = .ok (.iastore, 1) := by decide +kernel
theorem dM_clear_46 : decode cM_clear 46 = .ok (.aload_n 0, 1) := by decide +kernel
theorem dM_clear_47 : decode cM_clear 47 = .ok (.getfield 19, 3) := by decide +kernel
theorem dM_clear_50 : decode cM_clear 50 = .ok (.iconst 2, 1) := by decide +kernel
theorem dM_clear_51 : decode cM_clear 51 = .ok (.iload_n 1, 1) := by decide +kernel
theorem dM_clear_52 : decode cM_clear 52 = .ok (.imul, 1) := by decide +kernel
theorem dM_clear_53 : decode cM_clear 53 = .ok (.iconst 0, 1) := by decide +kernel
theorem dM_clear_54 : decode cM_clear 54 = .ok (.iastore, 1) := by decide +kernel
theorem dM_clear_55 : decode cM_clear 55 = .ok (.aload_n 0, 1) := by decide +kernel
theorem dM_clear_56 : decode cM_clear 56 = .ok (.getfield 19, 3) := by decide +kernel
theorem dM_clear_59 : decode cM_clear 59 = .ok (.iconst 2, 1) := by decide +kernel
theorem dM_clear_60 : decode cM_clear 60 = .ok (.iload_n 1, 1) := by decide +kernel
theorem dM_clear_61 : decode cM_clear 61 = .ok (.imul, 1) := by decide +kernel
theorem dM_clear_62 : decode cM_clear 62 = .ok (.iconst 1, 1) := by decide +kernel
theorem dM_clear_63 : decode cM_clear 63 = .ok (.iadd, 1) := by decide +kernel
theorem dM_clear_64 : decode cM_clear 64 = .ok (.iconst 0, 1) := by decide +kernel
theorem dM_clear_65 : decode cM_clear 65 = .ok (.iastore, 1) := by decide +kernel
theorem dM_clear_66 : decode cM_clear 66 = .ok (.iload_n 2, 1) := by decide +kernel
theorem dM_clear_67 : decode cM_clear 67 = .ok (.ireturn, 1) := by decide +kernel
theorem dM_check_0 : decode cM_check 0 = .ok (.aload_n 0, 1) := by decide +kernel
theorem dM_check_1 : decode cM_check 1 = .ok (.iconst 0, 1) := by decide +kernel
theorem dM_check_2 : decode cM_check 2 = .ok (.putfield 66, 3) := by decide +kernel
theorem dM_check_5 : decode cM_check 5 = .ok (.iload_n 1, 1) := by decide +kernel
theorem dM_check_6 : decode cM_check 6 = .ok (.invokestatic 74, 3) := by decide +kernel
theorem dM_check_9 : decode cM_check 9 = .ok (.ifCond .eq 9, 3) := by decide +kernel
theorem dM_check_12 : decode cM_check 12 = .ok (.aload_n 0, 1) := by decide +kernel
theorem dM_check_13 : decode cM_check 13 = .ok (.iconst 1, 1) := by decide +kernel
theorem dM_check_14 : decode cM_check 14 = .ok (.invokevirtual 78, 3) := by decide +kernel
theorem dM_check_17 : decode cM_check 17 = .ok (.ireturn, 1) := by decide +kernel
theorem dM_check_18 : decode cM_check 18 = .ok (.aload_n 0, 1) := by decide +kernel
theorem dM_check_19 : decode cM_check 19 = .ok (.iconst (-1), 1) := by decide +kernel
theorem dM_check_20 : decode cM_check 20 = .ok (.putfield 147, 3) := by decide +kernel
theorem dM_check_23 : decode cM_check 23 = .ok (.aload_n 0, 1) := by decide +kernel
theorem dM_check_24 : decode cM_check 24 = .ok (.iload_n 1, 1) := by decide +kernel
theorem dM_check_25 : decode cM_check 25 = .ok (.invokevirtual 179, 3) := by decide +kernel
theorem dM_check_28 : decode cM_check 28 = .ok (.aload_n 0, 1) := by decide +kernel
theorem dM_check_29 : decode cM_check 29 = .ok (.getfield 118, 3) := by decide +kernel
theorem dM_check_32 : decode cM_check 32 = .ok (.ireturn, 1) := by decide +kernel
theorem dM_explore_0 : decode cM_explore 0 = .ok (.aload_n 0, 1) := by decide +kernel
theorem dM_explore_1 : decode cM_explore 1 = .ok (.iload_n 1, 1) := by decide +kernel
theorem dM_explore_2 : decode cM_explore 2 = .ok (.putfield 121, 3) := by decide +kernel
theorem dM_explore_5 : decode cM_explore 5 = .ok (.aload_n 0, 1) := by decide +kernel
theorem dM_explore_6 : decode cM_explore 6 = .ok (.iconst (-1), 1) := by decide +kernel
theorem dM_explore_7 : decode cM_explore 7 = .ok (.putfield 118, 3) := by decide +kernel
theorem dM_explore_10 : decode cM_explore 10 = .ok (.aload_n 0, 1) := by decide +kernel
theorem dM_explore_11 : decode cM_explore 11 = .ok (.iconst 0, 1) := by decide +kernel
theorem dM_explore_12 : decode cM_explore 12 = .ok (.putfield 130, 3) := by decide +kernel
theorem dM_explore_15 : decode cM_explore 15 = .ok (.aload_n 0, 1) := by decide +kernel
theorem dM_explore_16 : decode cM_explore 16 = .ok (.iconst 0, 1) := by decide +kernel
theorem dM_explore_17 : decode cM_explore 17 = .ok (.putfield 156, 3) := by decide +kernel
theorem dM_explore_20 : decode cM_explore 20 = .ok (.aload_n 0, 1) := by decide +kernel
theorem dM_explore_21 : decode cM_explore 21 = .ok (.lconst 0, 1) := by decide +kernel
theorem dM_explore_22 : decode cM_explore 22 = .ok (.putfield 159, 3) := by decide +kernel
theorem dM_explore_25 : decode cM_explore 25 = .ok (.iconst 0, 1) := by decide +kernel
theorem dM_explore_26 : decode cM_explore 26 = .ok (.istore_n 2, 1) := by decide +kernel
theorem dM_explore_27 : decode cM_explore 27 = .ok (.iload_n 2, 1) := by decide +kernel
theorem dM_explore_28 : decode cM_explore 28 = .ok (.bipush 17, 2) := by decide +kernel
theorem dM_explore_30 : decode cM_explore 30 = .ok (.if_icmp .ge 16, 3) := by decide +kernel
theorem dM_explore_33 : decode cM_explore 33 = .ok (.aload_n 0, 1) := by decide +kernel
theorem dM_explore_34 : decode cM_explore 34 = .ok (.getfield 62, 3) := by decide +kernel
theorem dM_explore_37 : decode cM_explore 37 = .ok (.iload_n 2, 1) := by decide +kernel
theorem dM_explore_38 : decode cM_explore 38 = .ok (.iconst 0, 1) := by decide +kernel
theorem dM_explore_39 : decode cM_explore 39 = .ok (.bastore, 1) := by decide +kernel
theorem dM_explore_40 : decode cM_explore 40 = .ok (.iinc 2 1, 3) := by decide +kernel
theorem dM_explore_43 : decode cM_explore 43 = .ok (.goto (-16), 3) := by decide +kernel
theorem dM_explore_46 : decode cM_explore 46 = .ok (.iconst 0, 1) := by decide +kernel
theorem dM_explore_47 : decode cM_explore 47 = .ok (.istore_n 2, 1) := by decide +kernel
theorem dM_explore_48 : decode cM_explore 48 = .ok (.iload_n 2, 1) := by decide +kernel
theorem dM_explore_49 : decode cM_explore 49 = .ok (.iconst 1, 1) := by decide +kernel
theorem dM_explore_50 : decode cM_explore 50 = .ok (.aload_n 0, 1) := by decide +kernel
theorem dM_explore_51 : decode cM_explore 51 = .ok (.getfield 49, 3) := by decide +kernel
theorem dM_explore_54 : decode cM_explore 54 = .ok (.iload_n 1, 1) := by decide +kernel
theorem dM_explore_55 : decode cM_explore 55 = .ok (.iaload, 1) := by decide +kernel
theorem dM_explore_56 : decode cM_explore 56 = .ok (.ishl, 1) := by decide +kernel
theorem dM_explore_57 : decode cM_explore 57 = .ok (.if_icmp .ge 14, 3) := by decide +kernel
theorem dM_explore_60 : decode cM_explore 60 = .ok (.aload_n 0, 1) := by decide +kernel
theorem dM_explore_61 : decode cM_explore 61 = .ok (.iload_n 2, 1) := by decide +kernel
theorem dM_explore_62 : decode cM_explore 62 = .ok (.invokevirtual 176, 3) := by decide +kernel
theorem dM_explore_65 : decode cM_explore 65 = .ok (.iinc 2 1, 3) := by decide +kernel
theorem dM_explore_68 : decode cM_explore 68 = .ok (.goto (-20), 3) := by decide +kernel
theorem dM_explore_71 : decode cM_explore 71 = .ok (.return_, 1) := by decide +kernel
theorem dM_walk_0 : decode cM_walk 0 = .ok (.aload_n 0, 1) := by decide +kernel
theorem dM_walk_1 : decode cM_walk 1 = .ok (.invokevirtual 163, 3) := by decide +kernel
theorem dM_walk_4 : decode cM_walk 4 = .ok (.aload_n 0, 1) := by decide +kernel
theorem dM_walk_5 : decode cM_walk 5 = .ok (.iconst 2, 1) := by decide +kernel
theorem dM_walk_6 : decode cM_walk 6 = .ok (.aload_n 0, 1) := by decide +kernel
theorem dM_walk_7 : decode cM_walk 7 = .ok (.getfield 121, 3) := by decide +kernel
theorem dM_walk_10 : decode cM_walk 10 = .ok (.imul, 1) := by decide +kernel
theorem dM_walk_11 : decode cM_walk 11 = .ok (.iconst 1, 1) := by decide +kernel
theorem dM_walk_12 : decode cM_walk 12 = .ok (.iconst 2, 1) := by decide +kernel
theorem dM_walk_13 : decode cM_walk 13 = .ok (.invokevirtual 133, 3) := by decide +kernel
theorem dM_walk_16 : decode cM_walk 16 = .ok (.aload_n 0, 1) := by decide +kernel
theorem dM_walk_17 : decode cM_walk 17 = .ok (.iconst 0, 1) := by decide +kernel
theorem dM_walk_18 : decode cM_walk 18 = .ok (.putfield 144, 3) := by decide +kernel
theorem dM_walk_21 : decode cM_walk 21 = .ok (.iconst 0, 1) := by decide +kernel
theorem dM_walk_22 : decode cM_walk 22 = .ok (.istore_n 2, 1) := by decide +kernel
theorem dM_walk_23 : decode cM_walk 23 = .ok (.aload_n 0, 1) := by decide +kernel
theorem dM_walk_24 : decode cM_walk 24 = .ok (.getfield 98, 3) := by decide +kernel
theorem dM_walk_27 : decode cM_walk 27 = .ok (.ifCond .eq 131, 3) := by decide +kernel
theorem dM_walk_30 : decode cM_walk 30 = .ok (.aload_n 0, 1) := by decide +kernel
theorem dM_walk_31 : decode cM_walk 31 = .ok (.iload_n 2, 1) := by decide +kernel
theorem dM_walk_32 : decode cM_walk 32 = .ok (.invokevirtual 166, 3) := by decide +kernel
theorem dM_walk_35 : decode cM_walk 35 = .ok (.bipush 16, 2) := by decide +kernel
theorem dM_walk_37 : decode cM_walk 37 = .ok (.aload_n 0, 1) := by decide +kernel
theorem dM_walk_38 : decode cM_walk 38 = .ok (.getfield 121, 3) := by decide +kernel
theorem dM_walk_41 : decode cM_walk 41 = .ok (.imul, 1) := by decide +kernel
theorem dM_walk_42 : decode cM_walk 42 = .ok (.iload_n 2, 1) := by decide +kernel
theorem dM_walk_43 : decode cM_walk 43 = .ok (.iadd, 1) := by decide +kernel
theorem dM_walk_44 : decode cM_walk 44 = .ok (.istore_n 3, 1) := by decide +kernel
theorem dM_walk_45 : decode cM_walk 45 = .ok (.iload_n 2, 1) := by decide +kernel
theorem dM_walk_46 : decode cM_walk 46 = .ok (.aload_n 0, 1) := by decide +kernel
theorem dM_walk_47 : decode cM_walk 47 = .ok (.getfield 37, 3) := by decide +kernel
theorem dM_walk_50 : decode cM_walk 50 = .ok (.aload_n 0, 1) := by decide +kernel
theorem dM_walk_51 : decode cM_walk 51 = .ok (.getfield 121, 3) := by decide +kernel
theorem dM_walk_54 : decode cM_walk 54 = .ok (.iaload, 1) := by decide +kernel
theorem dM_walk_55 : decode cM_walk 55 = .ok (.if_icmp .eq 14, 3) := by decide +kernel
theorem dM_walk_58 : decode cM_walk 58 = .ok (.aload_n 0, 1) := by decide +kernel
theorem dM_walk_59 : decode cM_walk 59 = .ok (.getfield 22, 3) := by decide +kernel
theorem dM_walk_62 : decode cM_walk 62 = .ok (.iload_n 3, 1) := by decide +kernel
theorem dM_walk_63 : decode cM_walk 63 = .ok (.iaload, 1) := by decide +kernel
theorem dM_walk_64 : decode cM_walk 64 = .ok (.bipush 6, 2) := by decide +kernel
theorem dM_walk_66 : decode cM_walk 66 = .ok (.if_icmp .ne 82, 3) := by decide +kernel
theorem dM_walk_69 : decode cM_walk 69 = .ok (.iload_n 2, 1) := by decide +kernel
theorem dM_walk_70 : decode cM_walk 70 = .ok (.aload_n 0, 1) := by decide +kernel
theorem dM_walk_71 : decode cM_walk 71 = .ok (.getfield 37, 3) := by decide +kernel
theorem dM_walk_74 : decode cM_walk 74 = .ok (.aload_n 0, 1) := by decide +kernel
theorem dM_walk_75 : decode cM_walk 75 = .ok (.getfield 121, 3) := by decide +kernel
theorem dM_walk_78 : decode cM_walk 78 = .ok (.iaload, 1) := by decide +kernel
theorem dM_walk_79 : decode cM_walk 79 = .ok (.if_icmp .ne 7, 3) := by decide +kernel
theorem dM_walk_82 : decode cM_walk 82 = .ok (.iconst 1, 1) := by decide +kernel
theorem dM_walk_83 : decode cM_walk 83 = .ok (.goto 4, 3) := by decide +kernel
theorem dM_walk_86 : decode cM_walk 86 = .ok (.iconst 0, 1) := by decide +kernel
theorem dM_walk_87 : decode cM_walk 87 = .ok (.istore 4, 2) := by decide +kernel
theorem dM_walk_89 : decode cM_walk 89 = .ok (.aload_n 0, 1) := by decide +kernel
theorem dM_walk_90 : decode cM_walk 90 = .ok (.getfield 130, 3) := by decide +kernel
theorem dM_walk_93 : decode cM_walk 93 = .ok (.istore 5, 2) := by decide +kernel
theorem dM_walk_95 : decode cM_walk 95 = .ok (.aload_n 0, 1) := by decide +kernel
theorem dM_walk_96 : decode cM_walk 96 = .ok (.iload_n 2, 1) := by decide +kernel
theorem dM_walk_97 : decode cM_walk 97 = .ok (.iload 4, 2) := by decide +kernel
theorem dM_walk_99 : decode cM_walk 99 = .ok (.ifCond .eq 7, 3) := by decide +kernel
theorem dM_walk_102 : decode cM_walk 102 = .ok (.iconst 0, 1) := by decide +kernel
theorem dM_walk_103 : decode cM_walk 103 = .ok (.goto 9, 3) := by decide +kernel
theorem dM_walk_106 : decode cM_walk 106 = .ok (.aload_n 0, 1) := by decide +kernel
theorem dM_walk_107 : decode cM_walk 107 = .ok (.getfield 28, 3) := by decide +kernel
theorem dM_walk_110 : decode cM_walk 110 = .ok (.iload_n 3, 1) := by decide +kernel
theorem dM_walk_111 : decode cM_walk 111 = .ok (.iaload, 1) := by decide +kernel
theorem dM_walk_112 : decode cM_walk 112 = .ok (.iload 4, 2) := by decide +kernel
theorem dM_walk_114 : decode cM_walk 114 = .ok (.ifCond .eq 7, 3) := by decide +kernel
theorem dM_walk_117 : decode cM_walk 117 = .ok (.iconst 0, 1) := by decide +kernel
theorem dM_walk_118 : decode cM_walk 118 = .ok (.goto 9, 3) := by decide +kernel
theorem dM_walk_121 : decode cM_walk 121 = .ok (.aload_n 0, 1) := by decide +kernel
theorem dM_walk_122 : decode cM_walk 122 = .ok (.getfield 34, 3) := by decide +kernel
theorem dM_walk_125 : decode cM_walk 125 = .ok (.iload_n 3, 1) := by decide +kernel
theorem dM_walk_126 : decode cM_walk 126 = .ok (.iaload, 1) := by decide +kernel
theorem dM_walk_127 : decode cM_walk 127 = .ok (.invokevirtual 169, 3) := by decide +kernel
theorem dM_walk_130 : decode cM_walk 130 = .ok (.iload_n 1, 1) := by decide +kernel
theorem dM_walk_131 : decode cM_walk 131 = .ok (.aload_n 0, 1) := by decide +kernel
theorem dM_walk_132 : decode cM_walk 132 = .ok (.getfield 144, 3) := by decide +kernel
theorem dM_walk_135 : decode cM_walk 135 = .ok (.iconst (-1), 1) := by decide +kernel
theorem dM_walk_136 : decode cM_walk 136 = .ok (.ixor, 1) := by decide +kernel
theorem dM_walk_137 : decode cM_walk 137 = .ok (.iand, 1) := by decide +kernel
theorem dM_walk_138 : decode cM_walk 138 = .ok (.ifCond .eq 9, 3) := by decide +kernel
theorem dM_walk_141 : decode cM_walk 141 = .ok (.aload_n 0, 1) := by decide +kernel
theorem dM_walk_142 : decode cM_walk 142 = .ok (.iload 5, 2) := by decide +kernel
theorem dM_walk_144 : decode cM_walk 144 = .ok (.putfield 130, 3) := by decide +kernel
theorem dM_walk_147 : decode cM_walk 147 = .ok (.return_, 1) := by decide +kernel
theorem dM_walk_148 : decode cM_walk 148 = .ok (.aload_n 0, 1) := by decide +kernel
theorem dM_walk_149 : decode cM_walk 149 = .ok (.iload_n 2, 1) := by decide +kernel
theorem dM_walk_150 : decode cM_walk 150 = .ok (.iload_n 1, 1) := by decide +kernel
theorem dM_walk_151 : decode cM_walk 151 = .ok (.invokevirtual 172, 3) := by decide +kernel
theorem dM_walk_154 : decode cM_walk 154 = .ok (.istore_n 2, 1) := by decide +kernel
theorem dM_walk_155 : decode cM_walk 155 = .ok (.goto (-132), 3) := by decide +kernel
theorem dM_walk_158 : decode cM_walk 158 = .ok (.return_, 1) := by decide +kernel
theorem dM_begin_0 : decode cM_begin 0 = .ok (.iconst 0, 1) := by decide +kernel
theorem dM_begin_1 : decode cM_begin 1 = .ok (.istore_n 1, 1) := by decide +kernel
theorem dM_begin_2 : decode cM_begin 2 = .ok (.iload_n 1, 1) := by decide +kernel
theorem dM_begin_3 : decode cM_begin 3 = .ok (.bipush 13, 2) := by decide +kernel
theorem dM_begin_5 : decode cM_begin 5 = .ok (.if_icmp .ge 46, 3) := by decide +kernel
theorem dM_begin_8 : decode cM_begin 8 = .ok (.iconst 0, 1) := by decide +kernel
theorem dM_begin_9 : decode cM_begin 9 = .ok (.istore_n 2, 1) := by decide +kernel
theorem dM_begin_10 : decode cM_begin 10 = .ok (.iload_n 2, 1) := by decide +kernel
theorem dM_begin_11 : decode cM_begin 11 = .ok (.bipush 13, 2) := by decide +kernel
theorem dM_begin_13 : decode cM_begin 13 = .ok (.if_icmp .ge 32, 3) := by decide +kernel
theorem dM_begin_16 : decode cM_begin 16 = .ok (.aload_n 0, 1) := by decide +kernel
theorem dM_begin_17 : decode cM_begin 17 = .ok (.getfield 58, 3) := by decide +kernel
theorem dM_begin_20 : decode cM_begin 20 = .ok (.bipush 13, 2) := by decide +kernel
theorem dM_begin_22 : decode cM_begin 22 = .ok (.iload_n 1, 1) := by decide +kernel
theorem dM_begin_23 : decode cM_begin 23 = .ok (.imul, 1) := by decide +kernel
theorem dM_begin_24 : decode cM_begin 24 = .ok (.iload_n 2, 1) := by decide +kernel
theorem dM_begin_25 : decode cM_begin 25 = .ok (.iadd, 1) := by decide +kernel
theorem dM_begin_26 : decode cM_begin 26 = .ok (.iload_n 1, 1) := by decide +kernel
theorem dM_begin_27 : decode cM_begin 27 = .ok (.iload_n 2, 1) := by decide +kernel
theorem dM_begin_28 : decode cM_begin 28 = .ok (.if_icmp .ne 7, 3) := by decide +kernel
theorem dM_begin_31 : decode cM_begin 31 = .ok (.lconst 0, 1) := by decide +kernel
theorem dM_begin_32 : decode cM_begin 32 = .ok (.goto 6, 3) := by decide +kernel
theorem dM_begin_35 : decode cM_begin 35 = .ok (.ldc2_w 96, 3) := by decide +kernel
theorem dM_begin_38 : decode cM_begin 38 = .ok (.lastore, 1) := by decide +kernel
theorem dM_begin_39 : decode cM_begin 39 = .ok (.iinc 2 1, 3) := by decide +kernel
theorem dM_begin_42 : decode cM_begin 42 = .ok (.goto (-32), 3) := by decide +kernel
theorem dM_begin_45 : decode cM_begin 45 = .ok (.iinc 1 1, 3) := by decide +kernel
theorem dM_begin_48 : decode cM_begin 48 = .ok (.goto (-46), 3) := by decide +kernel
theorem dM_begin_51 : decode cM_begin 51 = .ok (.aload_n 0, 1) := by decide +kernel
theorem dM_begin_52 : decode cM_begin 52 = .ok (.iconst 1, 1) := by decide +kernel
theorem dM_begin_53 : decode cM_begin 53 = .ok (.putfield 98, 3) := by decide +kernel
theorem dM_begin_56 : decode cM_begin 56 = .ok (.return_, 1) := by decide +kernel
theorem dM_knowAll_0 : decode cM_knowAll 0 = .ok (.iconst 4, 1) := by decide +kernel
theorem dM_knowAll_1 : decode cM_knowAll 1 = .ok (.iload_n 1, 1) := by decide +kernel
theorem dM_knowAll_2 : decode cM_knowAll 2 = .ok (.imul, 1) := by decide +kernel
theorem dM_knowAll_3 : decode cM_knowAll 3 = .ok (.istore 4, 2) := by decide +kernel
theorem dM_knowAll_5 : decode cM_knowAll 5 = .ok (.iload 4, 2) := by decide +kernel
theorem dM_knowAll_7 : decode cM_knowAll 7 = .ok (.iconst 4, 1) := by decide +kernel
theorem dM_knowAll_8 : decode cM_knowAll 8 = .ok (.iload_n 1, 1) := by decide +kernel
theorem dM_knowAll_9 : decode cM_knowAll 9 = .ok (.imul, 1) := by decide +kernel
theorem dM_knowAll_10 : decode cM_knowAll 10 = .ok (.aload_n 0, 1) := by decide +kernel
theorem dM_knowAll_11 : decode cM_knowAll 11 = .ok (.getfield 19, 3) := by decide +kernel
theorem dM_knowAll_14 : decode cM_knowAll 14 = .ok (.iload_n 1, 1) := by decide +kernel
theorem dM_knowAll_15 : decode cM_knowAll 15 = .ok (.iaload, 1) := by decide +kernel
theorem dM_knowAll_16 : decode cM_knowAll 16 = .ok (.iadd, 1) := by decide +kernel
theorem dM_knowAll_17 : decode cM_knowAll 17 = .ok (.if_icmp .ge 45, 3) := by decide +kernel
theorem dM_knowAll_20 : decode cM_knowAll 20 = .ok (.aload_n 0, 1) := by decide +kernel
theorem dM_knowAll_21 : decode cM_knowAll 21 = .ok (.aload_n 0, 1) := by decide +kernel
theorem dM_knowAll_22 : decode cM_knowAll 22 = .ok (.getfield 7, 3) := by decide +kernel
theorem dM_knowAll_25 : decode cM_knowAll 25 = .ok (.iload 4, 2) := by decide +kernel
theorem dM_knowAll_27 : decode cM_knowAll 27 = .ok (.iaload, 1) := by decide +kernel
theorem dM_knowAll_28 : decode cM_knowAll 28 = .ok (.iload_n 2, 1) := by decide +kernel
theorem dM_knowAll_29 : decode cM_knowAll 29 = .ok (.iload_n 3, 1) := by decide +kernel
theorem dM_knowAll_30 : decode cM_knowAll 30 = .ok (.invokestatic 106, 3) := by decide +kernel
theorem dM_knowAll_33 : decode cM_knowAll 33 = .ok (.aload_n 0, 1) := by decide +kernel
theorem dM_knowAll_34 : decode cM_knowAll 34 = .ok (.getfield 13, 3) := by decide +kernel
theorem dM_knowAll_37 : decode cM_knowAll 37 = .ok (.iload 4, 2) := by decide +kernel
theorem dM_knowAll_39 : decode cM_knowAll 39 = .ok (.iaload, 1) := by decide +kernel
theorem dM_knowAll_40 : decode cM_knowAll 40 = .ok (.iload_n 2, 1) := by decide +kernel
theorem dM_knowAll_41 : decode cM_knowAll 41 = .ok (.iload_n 3, 1) := by decide +kernel
theorem dM_knowAll_42 : decode cM_knowAll 42 = .ok (.invokestatic 106, 3) := by decide +kernel
theorem dM_knowAll_45 : decode cM_knowAll 45 = .ok (.aload_n 0, 1) := by decide +kernel
theorem dM_knowAll_46 : decode cM_knowAll 46 = .ok (.getfield 16, 3) := by decide +kernel
theorem dM_knowAll_49 : decode cM_knowAll 49 = .ok (.iload 4, 2) := by decide +kernel
theorem dM_knowAll_51 : decode cM_knowAll 51 = .ok (.iaload, 1) := by decide +kernel
theorem dM_knowAll_52 : decode cM_knowAll 52 = .ok (.i2l, 1) := by decide +kernel
theorem dM_knowAll_53 : decode cM_knowAll 53 = .ok (.invokevirtual 110, 3) := by decide +kernel
theorem dM_knowAll_56 : decode cM_knowAll 56 = .ok (.iinc 4 1, 3) := by decide +kernel
theorem dM_knowAll_59 : decode cM_knowAll 59 = .ok (.goto (-54), 3) := by decide +kernel
theorem dM_knowAll_62 : decode cM_knowAll 62 = .ok (.return_, 1) := by decide +kernel
theorem dM_stand_0 : decode cM_stand 0 = .ok (.iload_n 0, 1) := by decide +kernel
theorem dM_stand_1 : decode cM_stand 1 = .ok (.ifCond .ne 7, 3) := by decide +kernel
theorem dM_stand_4 : decode cM_stand 4 = .ok (.iconst 0, 1) := by decide +kernel
theorem dM_stand_5 : decode cM_stand 5 = .ok (.goto 23, 3) := by decide +kernel
theorem dM_stand_8 : decode cM_stand 8 = .ok (.iload_n 0, 1) := by decide +kernel
theorem dM_stand_9 : decode cM_stand 9 = .ok (.iconst 1, 1) := by decide +kernel
theorem dM_stand_10 : decode cM_stand 10 = .ok (.if_icmp .ne 7, 3) := by decide +kernel
theorem dM_stand_13 : decode cM_stand 13 = .ok (.iload_n 1, 1) := by decide +kernel
theorem dM_stand_14 : decode cM_stand 14 = .ok (.goto 14, 3) := by decide +kernel
theorem dM_stand_17 : decode cM_stand 17 = .ok (.iload_n 0, 1) := by decide +kernel
theorem dM_stand_18 : decode cM_stand 18 = .ok (.iconst 2, 1) := by decide +kernel
theorem dM_stand_19 : decode cM_stand 19 = .ok (.if_icmp .ne 7, 3) := by decide +kernel
theorem dM_stand_22 : decode cM_stand 22 = .ok (.iload_n 2, 1) := by decide +kernel
theorem dM_stand_23 : decode cM_stand 23 = .ok (.goto 5, 3) := by decide +kernel
theorem dM_stand_26 : decode cM_stand 26 = .ok (.bipush 12, 2) := by decide +kernel
theorem dM_stand_28 : decode cM_stand 28 = .ok (.ireturn, 1) := by decide +kernel
theorem dM_know_0 : decode cM_know 0 = .ok (.aload_n 0, 1) := by decide +kernel
theorem dM_know_1 : decode cM_know 1 = .ok (.getfield 58, 3) := by decide +kernel
theorem dM_know_4 : decode cM_know 4 = .ok (.bipush 13, 2) := by decide +kernel
theorem dM_know_6 : decode cM_know 6 = .ok (.iload_n 2, 1) := by decide +kernel
theorem dM_know_7 : decode cM_know 7 = .ok (.imul, 1) := by decide +kernel
theorem dM_know_8 : decode cM_know 8 = .ok (.iload_n 1, 1) := by decide +kernel
theorem dM_know_9 : decode cM_know 9 = .ok (.iadd, 1) := by decide +kernel
theorem dM_know_10 : decode cM_know 10 = .ok (.laload, 1) := by decide +kernel
theorem dM_know_11 : decode cM_know 11 = .ok (.lload_n 3, 1) := by decide +kernel
theorem dM_know_12 : decode cM_know 12 = .ok (.ladd, 1) := by decide +kernel
theorem dM_know_13 : decode cM_know 13 = .ok (.lconst 0, 1) := by decide +kernel
theorem dM_know_14 : decode cM_know 14 = .ok (.lcmp, 1) := by decide +kernel
theorem dM_know_15 : decode cM_know 15 = .ok (.ifCond .ge 8, 3) := by decide +kernel
theorem dM_know_18 : decode cM_know 18 = .ok (.aload_n 0, 1) := by decide +kernel
theorem dM_know_19 : decode cM_know 19 = .ok (.iconst 0, 1) := by decide +kernel
theorem dM_know_20 : decode cM_know 20 = .ok (.putfield 98, 3) := by decide +kernel
theorem dM_know_23 : decode cM_know 23 = .ok (.aload_n 0, 1) := by decide +kernel
theorem dM_know_24 : decode cM_know 24 = .ok (.getfield 98, 3) := by decide +kernel
theorem dM_know_27 : decode cM_know 27 = .ok (.ifCond .eq 19, 3) := by decide +kernel
theorem dM_know_30 : decode cM_know 30 = .ok (.aload_n 0, 1) := by decide +kernel
theorem dM_know_31 : decode cM_know 31 = .ok (.getfield 58, 3) := by decide +kernel
theorem dM_know_34 : decode cM_know 34 = .ok (.bipush 13, 2) := by decide +kernel
theorem dM_know_36 : decode cM_know 36 = .ok (.iload_n 1, 1) := by decide +kernel
theorem dM_know_37 : decode cM_know 37 = .ok (.imul, 1) := by decide +kernel
theorem dM_know_38 : decode cM_know 38 = .ok (.iload_n 2, 1) := by decide +kernel
theorem dM_know_39 : decode cM_know 39 = .ok (.iadd, 1) := by decide +kernel
theorem dM_know_40 : decode cM_know 40 = .ok (.laload, 1) := by decide +kernel
theorem dM_know_41 : decode cM_know 41 = .ok (.lload_n 3, 1) := by decide +kernel
theorem dM_know_42 : decode cM_know 42 = .ok (.lcmp, 1) := by decide +kernel
theorem dM_know_43 : decode cM_know 43 = .ok (.ifCond .gt 4, 3) := by decide +kernel
theorem dM_know_46 : decode cM_know 46 = .ok (.return_, 1) := by decide +kernel
theorem dM_know_47 : decode cM_know 47 = .ok (.iconst 0, 1) := by decide +kernel
theorem dM_know_48 : decode cM_know 48 = .ok (.istore 5, 2) := by decide +kernel
theorem dM_know_50 : decode cM_know 50 = .ok (.iload 5, 2) := by decide +kernel
theorem dM_know_52 : decode cM_know 52 = .ok (.bipush 13, 2) := by decide +kernel
theorem dM_know_54 : decode cM_know 54 = .ok (.if_icmp .ge 134, 3) := by decide +kernel
theorem dM_know_57 : decode cM_know 57 = .ok (.aload_n 0, 1) := by decide +kernel
theorem dM_know_58 : decode cM_know 58 = .ok (.getfield 58, 3) := by decide +kernel
theorem dM_know_61 : decode cM_know 61 = .ok (.bipush 13, 2) := by decide +kernel
theorem dM_know_63 : decode cM_know 63 = .ok (.iload 5, 2) := by decide +kernel
theorem dM_know_65 : decode cM_know 65 = .ok (.imul, 1) := by decide +kernel
theorem dM_know_66 : decode cM_know 66 = .ok (.iload_n 1, 1) := by decide +kernel
theorem dM_know_67 : decode cM_know 67 = .ok (.iadd, 1) := by decide +kernel
theorem dM_know_68 : decode cM_know 68 = .ok (.laload, 1) := by decide +kernel
theorem dM_know_69 : decode cM_know 69 = .ok (.ldc2_w 96, 3) := by decide +kernel
theorem dM_know_72 : decode cM_know 72 = .ok (.lcmp, 1) := by decide +kernel
theorem dM_know_73 : decode cM_know 73 = .ok (.ifCond .ne 6, 3) := by decide +kernel
theorem dM_know_76 : decode cM_know 76 = .ok (.goto 106, 3) := by decide +kernel
theorem dM_know_79 : decode cM_know 79 = .ok (.iconst 0, 1) := by decide +kernel
theorem dM_know_80 : decode cM_know 80 = .ok (.istore 6, 2) := by decide +kernel
theorem dM_know_82 : decode cM_know 82 = .ok (.iload 6, 2) := by decide +kernel
theorem dM_know_84 : decode cM_know 84 = .ok (.bipush 13, 2) := by decide +kernel
theorem dM_know_86 : decode cM_know 86 = .ok (.if_icmp .ge 96, 3) := by decide +kernel
theorem dM_know_89 : decode cM_know 89 = .ok (.aload_n 0, 1) := by decide +kernel
theorem dM_know_90 : decode cM_know 90 = .ok (.getfield 58, 3) := by decide +kernel
theorem dM_know_93 : decode cM_know 93 = .ok (.bipush 13, 2) := by decide +kernel
theorem dM_know_95 : decode cM_know 95 = .ok (.iload_n 2, 1) := by decide +kernel
theorem dM_know_96 : decode cM_know 96 = .ok (.imul, 1) := by decide +kernel
theorem dM_know_97 : decode cM_know 97 = .ok (.iload 6, 2) := by decide +kernel
theorem dM_know_99 : decode cM_know 99 = .ok (.iadd, 1) := by decide +kernel
theorem dM_know_100 : decode cM_know 100 = .ok (.laload, 1) := by decide +kernel
theorem dM_know_101 : decode cM_know 101 = .ok (.lstore 7, 2) := by decide +kernel
theorem dM_know_103 : decode cM_know 103 = .ok (.lload 7, 2) := by decide +kernel
theorem dM_know_105 : decode cM_know 105 = .ok (.ldc2_w 96, 3) := by decide +kernel
theorem dM_know_108 : decode cM_know 108 = .ok (.lcmp, 1) := by decide +kernel
theorem dM_know_109 : decode cM_know 109 = .ok (.ifCond .eq 67, 3) := by decide +kernel
theorem dM_know_112 : decode cM_know 112 = .ok (.aload_n 0, 1) := by decide +kernel
theorem dM_know_113 : decode cM_know 113 = .ok (.getfield 58, 3) := by decide +kernel
theorem dM_know_116 : decode cM_know 116 = .ok (.bipush 13, 2) := by decide +kernel
theorem dM_know_118 : decode cM_know 118 = .ok (.iload 5, 2) := by decide +kernel
theorem dM_know_120 : decode cM_know 120 = .ok (.imul, 1) := by decide +kernel
theorem dM_know_121 : decode cM_know 121 = .ok (.iload_n 1, 1) := by decide +kernel
theorem dM_know_122 : decode cM_know 122 = .ok (.iadd, 1) := by decide +kernel
theorem dM_know_123 : decode cM_know 123 = .ok (.laload, 1) := by decide +kernel
theorem dM_know_124 : decode cM_know 124 = .ok (.lload_n 3, 1) := by decide +kernel
theorem dM_know_125 : decode cM_know 125 = .ok (.ladd, 1) := by decide +kernel
theorem dM_know_126 : decode cM_know 126 = .ok (.lload 7, 2) := by decide +kernel
theorem dM_know_128 : decode cM_know 128 = .ok (.ladd, 1) := by decide +kernel
theorem dM_know_129 : decode cM_know 129 = .ok (.aload_n 0, 1) := by decide +kernel
theorem dM_know_130 : decode cM_know 130 = .ok (.getfield 58, 3) := by decide +kernel
theorem dM_know_133 : decode cM_know 133 = .ok (.bipush 13, 2) := by decide +kernel
theorem dM_know_135 : decode cM_know 135 = .ok (.iload 5, 2) := by decide +kernel
theorem dM_know_137 : decode cM_know 137 = .ok (.imul, 1) := by decide +kernel
theorem dM_know_138 : decode cM_know 138 = .ok (.iload 6, 2) := by decide +kernel
theorem dM_know_140 : decode cM_know 140 = .ok (.iadd, 1) := by decide +kernel
theorem dM_know_141 : decode cM_know 141 = .ok (.laload, 1) := by decide +kernel
theorem dM_know_142 : decode cM_know 142 = .ok (.lcmp, 1) := by decide +kernel
theorem dM_know_143 : decode cM_know 143 = .ok (.ifCond .ge 33, 3) := by decide +kernel
theorem dM_know_146 : decode cM_know 146 = .ok (.aload_n 0, 1) := by decide +kernel
theorem dM_know_147 : decode cM_know 147 = .ok (.getfield 58, 3) := by decide +kernel
theorem dM_know_150 : decode cM_know 150 = .ok (.bipush 13, 2) := by decide +kernel
theorem dM_know_152 : decode cM_know 152 = .ok (.iload 5, 2) := by decide +kernel
theorem dM_know_154 : decode cM_know 154 = .ok (.imul, 1) := by decide +kernel
theorem dM_know_155 : decode cM_know 155 = .ok (.iload 6, 2) := by decide +kernel
theorem dM_know_157 : decode cM_know 157 = .ok (.iadd, 1) := by decide +kernel
theorem dM_know_158 : decode cM_know 158 = .ok (.aload_n 0, 1) := by decide +kernel
theorem dM_know_159 : decode cM_know 159 = .ok (.getfield 58, 3) := by decide +kernel
theorem dM_know_162 : decode cM_know 162 = .ok (.bipush 13, 2) := by decide +kernel
theorem dM_know_164 : decode cM_know 164 = .ok (.iload 5, 2) := by decide +kernel
theorem dM_know_166 : decode cM_know 166 = .ok (.imul, 1) := by decide +kernel
theorem dM_know_167 : decode cM_know 167 = .ok (.iload_n 1, 1) := by decide +kernel
theorem dM_know_168 : decode cM_know 168 = .ok (.iadd, 1) := by decide +kernel
theorem dM_know_169 : decode cM_know 169 = .ok (.laload, 1) := by decide +kernel
theorem dM_know_170 : decode cM_know 170 = .ok (.lload_n 3, 1) := by decide +kernel
theorem dM_know_171 : decode cM_know 171 = .ok (.ladd, 1) := by decide +kernel
theorem dM_know_172 : decode cM_know 172 = .ok (.lload 7, 2) := by decide +kernel
theorem dM_know_174 : decode cM_know 174 = .ok (.ladd, 1) := by decide +kernel
theorem dM_know_175 : decode cM_know 175 = .ok (.lastore, 1) := by decide +kernel
theorem dM_know_176 : decode cM_know 176 = .ok (.iinc 6 1, 3) := by decide +kernel
theorem dM_know_179 : decode cM_know 179 = .ok (.goto (-97), 3) := by decide +kernel
theorem dM_know_182 : decode cM_know 182 = .ok (.iinc 5 1, 3) := by decide +kernel
theorem dM_know_185 : decode cM_know 185 = .ok (.goto (-135), 3) := by decide +kernel
theorem dM_know_188 : decode cM_know 188 = .ok (.return_, 1) := by decide +kernel
theorem dM_look_0 : decode cM_look 0 = .ok (.aload_n 0, 1) := by decide +kernel
theorem dM_look_1 : decode cM_look 1 = .ok (.getfield 62, 3) := by decide +kernel
theorem dM_look_4 : decode cM_look 4 = .ok (.iload_n 1, 1) := by decide +kernel
theorem dM_look_5 : decode cM_look 5 = .ok (.iconst 1, 1) := by decide +kernel
theorem dM_look_6 : decode cM_look 6 = .ok (.bastore, 1) := by decide +kernel
theorem dM_look_7 : decode cM_look 7 = .ok (.iload_n 1, 1) := by decide +kernel
theorem dM_look_8 : decode cM_look 8 = .ok (.aload_n 0, 1) := by decide +kernel
theorem dM_look_9 : decode cM_look 9 = .ok (.getfield 147, 3) := by decide +kernel
theorem dM_look_12 : decode cM_look 12 = .ok (.if_icmp .eq 4, 3) := by decide +kernel
theorem dM_look_15 : decode cM_look 15 = .ok (.return_, 1) := by decide +kernel
theorem dM_look_16 : decode cM_look 16 = .ok (.aload_n 0, 1) := by decide +kernel
theorem dM_look_17 : decode cM_look 17 = .ok (.getfield 150, 3) := by decide +kernel
theorem dM_look_20 : decode cM_look 20 = .ok (.aload_n 0, 1) := by decide +kernel
theorem dM_look_21 : decode cM_look 21 = .ok (.getfield 153, 3) := by decide +kernel
theorem dM_look_24 : decode cM_look 24 = .ok (.if_icmp .ne 7, 3) := by decide +kernel
theorem dM_look_27 : decode cM_look 27 = .ok (.lconst 0, 1) := by decide +kernel
theorem dM_look_28 : decode cM_look 28 = .ok (.goto 20, 3) := by decide +kernel
theorem dM_look_31 : decode cM_look 31 = .ok (.aload_n 0, 1) := by decide +kernel
theorem dM_look_32 : decode cM_look 32 = .ok (.getfield 58, 3) := by decide +kernel
theorem dM_look_35 : decode cM_look 35 = .ok (.bipush 13, 2) := by decide +kernel
theorem dM_look_37 : decode cM_look 37 = .ok (.aload_n 0, 1) := by decide +kernel
theorem dM_look_38 : decode cM_look 38 = .ok (.getfield 150, 3) := by decide +kernel
theorem dM_look_41 : decode cM_look 41 = .ok (.imul, 1) := by decide +kernel
theorem dM_look_42 : decode cM_look 42 = .ok (.aload_n 0, 1) := by decide +kernel
theorem dM_look_43 : decode cM_look 43 = .ok (.getfield 153, 3) := by decide +kernel
theorem dM_look_46 : decode cM_look 46 = .ok (.iadd, 1) := by decide +kernel
theorem dM_look_47 : decode cM_look 47 = .ok (.laload, 1) := by decide +kernel
theorem dM_look_48 : decode cM_look 48 = .ok (.lstore_n 2, 1) := by decide +kernel
theorem dM_look_49 : decode cM_look 49 = .ok (.aload_n 0, 1) := by decide +kernel
theorem dM_look_50 : decode cM_look 50 = .ok (.getfield 156, 3) := by decide +kernel
theorem dM_look_53 : decode cM_look 53 = .ok (.ifCond .eq 12, 3) := by decide +kernel
theorem dM_look_56 : decode cM_look 56 = .ok (.lload_n 2, 1) := by decide +kernel
theorem dM_look_57 : decode cM_look 57 = .ok (.aload_n 0, 1) := by decide +kernel
theorem dM_look_58 : decode cM_look 58 = .ok (.getfield 159, 3) := by decide +kernel
theorem dM_look_61 : decode cM_look 61 = .ok (.lcmp, 1) := by decide +kernel
theorem dM_look_62 : decode cM_look 62 = .ok (.ifCond .le 8, 3) := by decide +kernel
theorem dM_look_65 : decode cM_look 65 = .ok (.aload_n 0, 1) := by decide +kernel
theorem dM_look_66 : decode cM_look 66 = .ok (.lload_n 2, 1) := by decide +kernel
theorem dM_look_67 : decode cM_look 67 = .ok (.putfield 159, 3) := by decide +kernel
theorem dM_look_70 : decode cM_look 70 = .ok (.aload_n 0, 1) := by decide +kernel
theorem dM_look_71 : decode cM_look 71 = .ok (.iconst 1, 1) := by decide +kernel
theorem dM_look_72 : decode cM_look 72 = .ok (.putfield 156, 3) := by decide +kernel
theorem dM_look_75 : decode cM_look 75 = .ok (.return_, 1) := by decide +kernel
theorem dM_returns_0 : decode cM_returns 0 = .ok (.aload_n 0, 1) := by decide +kernel
theorem dM_returns_1 : decode cM_returns 1 = .ok (.bipush 12, 2) := by decide +kernel
theorem dM_returns_3 : decode cM_returns 3 = .ok (.iload_n 2, 1) := by decide +kernel
theorem dM_returns_4 : decode cM_returns 4 = .ok (.iload_n 3, 1) := by decide +kernel
theorem dM_returns_5 : decode cM_returns 5 = .ok (.i2l, 1) := by decide +kernel
theorem dM_returns_6 : decode cM_returns 6 = .ok (.invokevirtual 110, 3) := by decide +kernel
theorem dM_returns_9 : decode cM_returns 9 = .ok (.aload_n 0, 1) := by decide +kernel
theorem dM_returns_10 : decode cM_returns 10 = .ok (.iload_n 2, 1) := by decide +kernel
theorem dM_returns_11 : decode cM_returns 11 = .ok (.bipush 12, 2) := by decide +kernel
theorem dM_returns_13 : decode cM_returns 13 = .ok (.iload_n 3, 1) := by decide +kernel
theorem dM_returns_14 : decode cM_returns 14 = .ok (.ineg, 1) := by decide +kernel
theorem dM_returns_15 : decode cM_returns 15 = .ok (.i2l, 1) := by decide +kernel
theorem dM_returns_16 : decode cM_returns 16 = .ok (.invokevirtual 110, 3) := by decide +kernel
theorem dM_returns_19 : decode cM_returns 19 = .ok (.aload_n 0, 1) := by decide +kernel
theorem dM_returns_20 : decode cM_returns 20 = .ok (.iconst 2, 1) := by decide +kernel
theorem dM_returns_21 : decode cM_returns 21 = .ok (.aload_n 0, 1) := by decide +kernel
theorem dM_returns_22 : decode cM_returns 22 = .ok (.getfield 121, 3) := by decide +kernel
theorem dM_returns_25 : decode cM_returns 25 = .ok (.imul, 1) := by decide +kernel
theorem dM_returns_26 : decode cM_returns 26 = .ok (.iconst 1, 1) := by decide +kernel
theorem dM_returns_27 : decode cM_returns 27 = .ok (.iadd, 1) := by decide +kernel
theorem dM_returns_28 : decode cM_returns 28 = .ok (.iconst 1, 1) := by decide +kernel
theorem dM_returns_29 : decode cM_returns 29 = .ok (.iconst 2, 1) := by decide +kernel
theorem dM_returns_30 : decode cM_returns 30 = .ok (.invokevirtual 124, 3) := by decide +kernel
theorem dM_returns_33 : decode cM_returns 33 = .ok (.ifCond .ne 8, 3) := by decide +kernel
theorem dM_returns_36 : decode cM_returns 36 = .ok (.aload_n 0, 1) := by decide +kernel
theorem dM_returns_37 : decode cM_returns 37 = .ok (.iload_n 1, 1) := by decide +kernel
theorem dM_returns_38 : decode cM_returns 38 = .ok (.invokevirtual 127, 3) := by decide +kernel
theorem dM_returns_41 : decode cM_returns 41 = .ok (.aload_n 0, 1) := by decide +kernel
theorem dM_returns_42 : decode cM_returns 42 = .ok (.dup, 1) := by decide +kernel
theorem dM_returns_43 : decode cM_returns 43 = .ok (.getfield 130, 3) := by decide +kernel
theorem dM_returns_46 : decode cM_returns 46 = .ok (.iconst 1, 1) := by decide +kernel
theorem dM_returns_47 : decode cM_returns 47 = .ok (.iadd, 1) := by decide +kernel
theorem dM_returns_48 : decode cM_returns 48 = .ok (.putfield 130, 3) := by decide +kernel
theorem dM_returns_51 : decode cM_returns 51 = .ok (.return_, 1) := by decide +kernel
theorem dM_showsAll_0 : decode cM_showsAll 0 = .ok (.iconst 4, 1) := by decide +kernel
theorem dM_showsAll_1 : decode cM_showsAll 1 = .ok (.iload_n 1, 1) := by decide +kernel
theorem dM_showsAll_2 : decode cM_showsAll 2 = .ok (.imul, 1) := by decide +kernel
theorem dM_showsAll_3 : decode cM_showsAll 3 = .ok (.istore 4, 2) := by decide +kernel
theorem dM_showsAll_5 : decode cM_showsAll 5 = .ok (.iload 4, 2) := by decide +kernel
theorem dM_showsAll_7 : decode cM_showsAll 7 = .ok (.iconst 4, 1) := by decide +kernel
theorem dM_showsAll_8 : decode cM_showsAll 8 = .ok (.iload_n 1, 1) := by decide +kernel
theorem dM_showsAll_9 : decode cM_showsAll 9 = .ok (.imul, 1) := by decide +kernel
theorem dM_showsAll_10 : decode cM_showsAll 10 = .ok (.aload_n 0, 1) := by decide +kernel
theorem dM_showsAll_11 : decode cM_showsAll 11 = .ok (.getfield 19, 3) := by decide +kernel
theorem dM_showsAll_14 : decode cM_showsAll 14 = .ok (.iload_n 1, 1) := by decide +kernel
theorem dM_showsAll_15 : decode cM_showsAll 15 = .ok (.iaload, 1) := by decide +kernel
theorem dM_showsAll_16 : decode cM_showsAll 16 = .ok (.iadd, 1) := by decide +kernel
theorem dM_showsAll_17 : decode cM_showsAll 17 = .ok (.if_icmp .ge 50, 3) := by decide +kernel
theorem dM_showsAll_20 : decode cM_showsAll 20 = .ok (.aload_n 0, 1) := by decide +kernel
theorem dM_showsAll_21 : decode cM_showsAll 21 = .ok (.aload_n 0, 1) := by decide +kernel
theorem dM_showsAll_22 : decode cM_showsAll 22 = .ok (.getfield 7, 3) := by decide +kernel
theorem dM_showsAll_25 : decode cM_showsAll 25 = .ok (.iload 4, 2) := by decide +kernel
theorem dM_showsAll_27 : decode cM_showsAll 27 = .ok (.iaload, 1) := by decide +kernel
theorem dM_showsAll_28 : decode cM_showsAll 28 = .ok (.iload_n 2, 1) := by decide +kernel
theorem dM_showsAll_29 : decode cM_showsAll 29 = .ok (.iload_n 3, 1) := by decide +kernel
theorem dM_showsAll_30 : decode cM_showsAll 30 = .ok (.invokestatic 106, 3) := by decide +kernel
theorem dM_showsAll_33 : decode cM_showsAll 33 = .ok (.aload_n 0, 1) := by decide +kernel
theorem dM_showsAll_34 : decode cM_showsAll 34 = .ok (.getfield 13, 3) := by decide +kernel
theorem dM_showsAll_37 : decode cM_showsAll 37 = .ok (.iload 4, 2) := by decide +kernel
theorem dM_showsAll_39 : decode cM_showsAll 39 = .ok (.iaload, 1) := by decide +kernel
theorem dM_showsAll_40 : decode cM_showsAll 40 = .ok (.iload_n 2, 1) := by decide +kernel
theorem dM_showsAll_41 : decode cM_showsAll 41 = .ok (.iload_n 3, 1) := by decide +kernel
theorem dM_showsAll_42 : decode cM_showsAll 42 = .ok (.invokestatic 106, 3) := by decide +kernel
theorem dM_showsAll_45 : decode cM_showsAll 45 = .ok (.aload_n 0, 1) := by decide +kernel
theorem dM_showsAll_46 : decode cM_showsAll 46 = .ok (.getfield 16, 3) := by decide +kernel
theorem dM_showsAll_49 : decode cM_showsAll 49 = .ok (.iload 4, 2) := by decide +kernel
theorem dM_showsAll_51 : decode cM_showsAll 51 = .ok (.iaload, 1) := by decide +kernel
theorem dM_showsAll_52 : decode cM_showsAll 52 = .ok (.i2l, 1) := by decide +kernel
theorem dM_showsAll_53 : decode cM_showsAll 53 = .ok (.invokevirtual 114, 3) := by decide +kernel
theorem dM_showsAll_56 : decode cM_showsAll 56 = .ok (.ifCond .ne 5, 3) := by decide +kernel
theorem dM_showsAll_59 : decode cM_showsAll 59 = .ok (.iconst 0, 1) := by decide +kernel
theorem dM_showsAll_60 : decode cM_showsAll 60 = .ok (.ireturn, 1) := by decide +kernel
theorem dM_showsAll_61 : decode cM_showsAll 61 = .ok (.iinc 4 1, 3) := by decide +kernel
theorem dM_showsAll_64 : decode cM_showsAll 64 = .ok (.goto (-59), 3) := by decide +kernel
theorem dM_showsAll_67 : decode cM_showsAll 67 = .ok (.iconst 1, 1) := by decide +kernel
theorem dM_showsAll_68 : decode cM_showsAll 68 = .ok (.ireturn, 1) := by decide +kernel
theorem dM_shows_0 : decode cM_shows 0 = .ok (.aload_n 0, 1) := by decide +kernel
theorem dM_shows_1 : decode cM_shows 1 = .ok (.getfield 58, 3) := by decide +kernel
theorem dM_shows_4 : decode cM_shows 4 = .ok (.bipush 13, 2) := by decide +kernel
theorem dM_shows_6 : decode cM_shows 6 = .ok (.iload_n 1, 1) := by decide +kernel
theorem dM_shows_7 : decode cM_shows 7 = .ok (.imul, 1) := by decide +kernel
theorem dM_shows_8 : decode cM_shows 8 = .ok (.iload_n 2, 1) := by decide +kernel
theorem dM_shows_9 : decode cM_shows 9 = .ok (.iadd, 1) := by decide +kernel
theorem dM_shows_10 : decode cM_shows 10 = .ok (.laload, 1) := by decide +kernel
theorem dM_shows_11 : decode cM_shows 11 = .ok (.lload_n 3, 1) := by decide +kernel
theorem dM_shows_12 : decode cM_shows 12 = .ok (.lcmp, 1) := by decide +kernel
theorem dM_shows_13 : decode cM_shows 13 = .ok (.ifCond .gt 7, 3) := by decide +kernel
theorem dM_shows_16 : decode cM_shows 16 = .ok (.iconst 1, 1) := by decide +kernel
theorem dM_shows_17 : decode cM_shows 17 = .ok (.goto 4, 3) := by decide +kernel
theorem dM_shows_20 : decode cM_shows 20 = .ok (.iconst 0, 1) := by decide +kernel
theorem dM_shows_21 : decode cM_shows 21 = .ok (.ireturn, 1) := by decide +kernel
theorem dM_blame_0 : decode cM_blame 0 = .ok (.aload_n 0, 1) := by decide +kernel
theorem dM_blame_1 : decode cM_blame 1 = .ok (.getfield 118, 3) := by decide +kernel
theorem dM_blame_4 : decode cM_blame 4 = .ok (.ifCond .lt 11, 3) := by decide +kernel
theorem dM_blame_7 : decode cM_blame 7 = .ok (.iload_n 1, 1) := by decide +kernel
theorem dM_blame_8 : decode cM_blame 8 = .ok (.aload_n 0, 1) := by decide +kernel
theorem dM_blame_9 : decode cM_blame 9 = .ok (.getfield 118, 3) := by decide +kernel
theorem dM_blame_12 : decode cM_blame 12 = .ok (.if_icmp .ge 8, 3) := by decide +kernel
theorem dM_blame_15 : decode cM_blame 15 = .ok (.aload_n 0, 1) := by decide +kernel
theorem dM_blame_16 : decode cM_blame 16 = .ok (.iload_n 1, 1) := by decide +kernel
theorem dM_blame_17 : decode cM_blame 17 = .ok (.putfield 118, 3) := by decide +kernel
theorem dM_blame_20 : decode cM_blame 20 = .ok (.return_, 1) := by decide +kernel
theorem dM_perform_0 : decode cM_perform 0 = .ok (.bipush 16, 2) := by decide +kernel
theorem dM_perform_2 : decode cM_perform 2 = .ok (.aload_n 0, 1) := by decide +kernel
theorem dM_perform_3 : decode cM_perform 3 = .ok (.getfield 121, 3) := by decide +kernel
theorem dM_perform_6 : decode cM_perform 6 = .ok (.imul, 1) := by decide +kernel
theorem dM_perform_7 : decode cM_perform 7 = .ok (.iload_n 1, 1) := by decide +kernel
theorem dM_perform_8 : decode cM_perform 8 = .ok (.iadd, 1) := by decide +kernel
theorem dM_perform_9 : decode cM_perform 9 = .ok (.istore_n 3, 1) := by decide +kernel
theorem dM_perform_10 : decode cM_perform 10 = .ok (.aload_n 0, 1) := by decide +kernel
theorem dM_perform_11 : decode cM_perform 11 = .ok (.getfield 25, 3) := by decide +kernel
theorem dM_perform_14 : decode cM_perform 14 = .ok (.iload_n 3, 1) := by decide +kernel
theorem dM_perform_15 : decode cM_perform 15 = .ok (.iaload, 1) := by decide +kernel
theorem dM_perform_16 : decode cM_perform 16 = .ok (.istore 4, 2) := by decide +kernel
theorem dM_perform_18 : decode cM_perform 18 = .ok (.aload_n 0, 1) := by decide +kernel
theorem dM_perform_19 : decode cM_perform 19 = .ok (.getfield 28, 3) := by decide +kernel
theorem dM_perform_22 : decode cM_perform 22 = .ok (.iload_n 3, 1) := by decide +kernel
theorem dM_perform_23 : decode cM_perform 23 = .ok (.iaload, 1) := by decide +kernel
theorem dM_perform_24 : decode cM_perform 24 = .ok (.istore 5, 2) := by decide +kernel
theorem dM_perform_26 : decode cM_perform 26 = .ok (.aload_n 0, 1) := by decide +kernel
theorem dM_perform_27 : decode cM_perform 27 = .ok (.getfield 37, 3) := by decide +kernel
theorem dM_perform_30 : decode cM_perform 30 = .ok (.aload_n 0, 1) := by decide +kernel
theorem dM_perform_31 : decode cM_perform 31 = .ok (.getfield 121, 3) := by decide +kernel
theorem dM_perform_34 : decode cM_perform 34 = .ok (.iaload, 1) := by decide +kernel
theorem dM_perform_35 : decode cM_perform 35 = .ok (.istore 6, 2) := by decide +kernel
theorem dM_perform_37 : decode cM_perform 37 = .ok (.aload_n 0, 1) := by decide +kernel
theorem dM_perform_38 : decode cM_perform 38 = .ok (.getfield 22, 3) := by decide +kernel
theorem dM_perform_41 : decode cM_perform 41 = .ok (.iload_n 3, 1) := by decide +kernel
theorem dM_perform_42 : decode cM_perform 42 = .ok (.iaload, 1) := by decide +kernel
theorem dM_perform_43 : decode cM_perform 43 = .ok (.tableswitch 325 0 7 #[45, 86, 96, 204, 325, 273, 325, 315], 45) := by decide +kernel
theorem dM_perform_88 : decode cM_perform 88 = .ok (.aload_n 0, 1) := by decide +kernel
theorem dM_perform_89 : decode cM_perform 89 = .ok (.bipush 12, 2) := by decide +kernel
theorem dM_perform_91 : decode cM_perform 91 = .ok (.iload 5, 2) := by decide +kernel
theorem dM_perform_93 : decode cM_perform 93 = .ok (.aload_n 0, 1) := by decide +kernel
theorem dM_perform_94 : decode cM_perform 94 = .ok (.getfield 34, 3) := by decide +kernel
theorem dM_perform_97 : decode cM_perform 97 = .ok (.iload_n 3, 1) := by decide +kernel
theorem dM_perform_98 : decode cM_perform 98 = .ok (.iaload, 1) := by decide +kernel
theorem dM_perform_99 : decode cM_perform 99 = .ok (.i2l, 1) := by decide +kernel
theorem dM_perform_100 : decode cM_perform 100 = .ok (.invokevirtual 110, 3) := by decide +kernel
theorem dM_perform_103 : decode cM_perform 103 = .ok (.aload_n 0, 1) := by decide +kernel
theorem dM_perform_104 : decode cM_perform 104 = .ok (.iload 5, 2) := by decide +kernel
theorem dM_perform_106 : decode cM_perform 106 = .ok (.bipush 12, 2) := by decide +kernel
theorem dM_perform_108 : decode cM_perform 108 = .ok (.aload_n 0, 1) := by decide +kernel
theorem dM_perform_109 : decode cM_perform 109 = .ok (.getfield 34, 3) := by decide +kernel
theorem dM_perform_112 : decode cM_perform 112 = .ok (.iload_n 3, 1) := by decide +kernel
theorem dM_perform_113 : decode cM_perform 113 = .ok (.iaload, 1) := by decide +kernel
theorem dM_perform_114 : decode cM_perform 114 = .ok (.ineg, 1) := by decide +kernel
theorem dM_perform_115 : decode cM_perform 115 = .ok (.i2l, 1) := by decide +kernel
theorem dM_perform_116 : decode cM_perform 116 = .ok (.invokevirtual 110, 3) := by decide +kernel
theorem dM_perform_119 : decode cM_perform 119 = .ok (.aload_n 0, 1) := by decide +kernel
theorem dM_perform_120 : decode cM_perform 120 = .ok (.iload 4, 2) := by decide +kernel
theorem dM_perform_122 : decode cM_perform 122 = .ok (.invokevirtual 137, 3) := by decide +kernel
theorem dM_perform_125 : decode cM_perform 125 = .ok (.iload_n 1, 1) := by decide +kernel
theorem dM_perform_126 : decode cM_perform 126 = .ok (.iconst 1, 1) := by decide +kernel
theorem dM_perform_127 : decode cM_perform 127 = .ok (.iadd, 1) := by decide +kernel
theorem dM_perform_128 : decode cM_perform 128 = .ok (.ireturn, 1) := by decide +kernel
theorem dM_perform_129 : decode cM_perform 129 = .ok (.aload_n 0, 1) := by decide +kernel
theorem dM_perform_130 : decode cM_perform 130 = .ok (.iload_n 1, 1) := by decide +kernel
theorem dM_perform_131 : decode cM_perform 131 = .ok (.iload_n 3, 1) := by decide +kernel
theorem dM_perform_132 : decode cM_perform 132 = .ok (.invokevirtual 140, 3) := by decide +kernel
theorem dM_perform_135 : decode cM_perform 135 = .ok (.iload_n 1, 1) := by decide +kernel
theorem dM_perform_136 : decode cM_perform 136 = .ok (.iconst 1, 1) := by decide +kernel
theorem dM_perform_137 : decode cM_perform 137 = .ok (.iadd, 1) := by decide +kernel
theorem dM_perform_138 : decode cM_perform 138 = .ok (.ireturn, 1) := by decide +kernel
theorem dM_perform_139 : decode cM_perform 139 = .ok (.aload_n 0, 1) := by decide +kernel
theorem dM_perform_140 : decode cM_perform 140 = .ok (.dup, 1) := by decide +kernel
theorem dM_perform_141 : decode cM_perform 141 = .ok (.getfield 144, 3) := by decide +kernel
theorem dM_perform_144 : decode cM_perform 144 = .ok (.iconst 1, 1) := by decide +kernel
theorem dM_perform_145 : decode cM_perform 145 = .ok (.aload_n 0, 1) := by decide +kernel
theorem dM_perform_146 : decode cM_perform 146 = .ok (.getfield 40, 3) := by decide +kernel
theorem dM_perform_149 : decode cM_perform 149 = .ok (.iload_n 3, 1) := by decide +kernel
theorem dM_perform_150 : decode cM_perform 150 = .ok (.iaload, 1) := by decide +kernel
theorem dM_perform_151 : decode cM_perform 151 = .ok (.ishl, 1) := by decide +kernel
theorem dM_perform_152 : decode cM_perform 152 = .ok (.ior, 1) := by decide +kernel
theorem dM_perform_153 : decode cM_perform 153 = .ok (.putfield 144, 3) := by decide +kernel
theorem dM_perform_156 : decode cM_perform 156 = .ok (.iload_n 2, 1) := by decide +kernel
theorem dM_perform_157 : decode cM_perform 157 = .ok (.aload_n 0, 1) := by decide +kernel
theorem dM_perform_158 : decode cM_perform 158 = .ok (.getfield 40, 3) := by decide +kernel
theorem dM_perform_161 : decode cM_perform 161 = .ok (.iload_n 3, 1) := by decide +kernel
theorem dM_perform_162 : decode cM_perform 162 = .ok (.iaload, 1) := by decide +kernel
theorem dM_perform_163 : decode cM_perform 163 = .ok (.ishr, 1) := by decide +kernel
theorem dM_perform_164 : decode cM_perform 164 = .ok (.iconst 1, 1) := by decide +kernel
theorem dM_perform_165 : decode cM_perform 165 = .ok (.iand, 1) := by decide +kernel
theorem dM_perform_166 : decode cM_perform 166 = .ok (.ifCond .ne 22, 3) := by decide +kernel
theorem dM_perform_169 : decode cM_perform 169 = .ok (.aload_n 0, 1) := by decide +kernel
theorem dM_perform_170 : decode cM_perform 170 = .ok (.iload 4, 2) := by decide +kernel
theorem dM_perform_172 : decode cM_perform 172 = .ok (.iload 5, 2) := by decide +kernel
theorem dM_perform_174 : decode cM_perform 174 = .ok (.aload_n 0, 1) := by decide +kernel
theorem dM_perform_175 : decode cM_perform 175 = .ok (.getfield 34, 3) := by decide +kernel
theorem dM_perform_178 : decode cM_perform 178 = .ok (.iload_n 3, 1) := by decide +kernel
theorem dM_perform_179 : decode cM_perform 179 = .ok (.iaload, 1) := by decide +kernel
theorem dM_perform_180 : decode cM_perform 180 = .ok (.i2l, 1) := by decide +kernel
theorem dM_perform_181 : decode cM_perform 181 = .ok (.invokevirtual 110, 3) := by decide +kernel
theorem dM_perform_184 : decode cM_perform 184 = .ok (.iload_n 1, 1) := by decide +kernel
theorem dM_perform_185 : decode cM_perform 185 = .ok (.iconst 1, 1) := by decide +kernel
theorem dM_perform_186 : decode cM_perform 186 = .ok (.iadd, 1) := by decide +kernel
theorem dM_perform_187 : decode cM_perform 187 = .ok (.ireturn, 1) := by decide +kernel
theorem dM_perform_188 : decode cM_perform 188 = .ok (.aload_n 0, 1) := by decide +kernel
theorem dM_perform_189 : decode cM_perform 189 = .ok (.iload 5, 2) := by decide +kernel
theorem dM_perform_191 : decode cM_perform 191 = .ok (.iload 4, 2) := by decide +kernel
theorem dM_perform_193 : decode cM_perform 193 = .ok (.aload_n 0, 1) := by decide +kernel
theorem dM_perform_194 : decode cM_perform 194 = .ok (.getfield 34, 3) := by decide +kernel
theorem dM_perform_197 : decode cM_perform 197 = .ok (.iload_n 3, 1) := by decide +kernel
theorem dM_perform_198 : decode cM_perform 198 = .ok (.iaload, 1) := by decide +kernel
theorem dM_perform_199 : decode cM_perform 199 = .ok (.ineg, 1) := by decide +kernel
theorem dM_perform_200 : decode cM_perform 200 = .ok (.i2l, 1) := by decide +kernel
theorem dM_perform_201 : decode cM_perform 201 = .ok (.lconst 1, 1) := by decide +kernel
theorem dM_perform_202 : decode cM_perform 202 = .ok (.lsub, 1) := by decide +kernel
theorem dM_perform_203 : decode cM_perform 203 = .ok (.invokevirtual 110, 3) := by decide +kernel
theorem dM_perform_206 : decode cM_perform 206 = .ok (.aload_n 0, 1) := by decide +kernel
theorem dM_perform_207 : decode cM_perform 207 = .ok (.getfield 43, 3) := by decide +kernel
theorem dM_perform_210 : decode cM_perform 210 = .ok (.iload_n 3, 1) := by decide +kernel
theorem dM_perform_211 : decode cM_perform 211 = .ok (.iaload, 1) := by decide +kernel
theorem dM_perform_212 : decode cM_perform 212 = .ok (.ifCond .lt 14, 3) := by decide +kernel
theorem dM_perform_215 : decode cM_perform 215 = .ok (.aload_n 0, 1) := by decide +kernel
theorem dM_perform_216 : decode cM_perform 216 = .ok (.getfield 43, 3) := by decide +kernel
theorem dM_perform_219 : decode cM_perform 219 = .ok (.iload_n 3, 1) := by decide +kernel
theorem dM_perform_220 : decode cM_perform 220 = .ok (.iaload, 1) := by decide +kernel
theorem dM_perform_221 : decode cM_perform 221 = .ok (.iconst 1, 1) := by decide +kernel
theorem dM_perform_222 : decode cM_perform 222 = .ok (.iadd, 1) := by decide +kernel
theorem dM_perform_223 : decode cM_perform 223 = .ok (.goto 23, 3) := by decide +kernel
theorem dM_perform_226 : decode cM_perform 226 = .ok (.aload_n 0, 1) := by decide +kernel
theorem dM_perform_227 : decode cM_perform 227 = .ok (.getfield 46, 3) := by decide +kernel
theorem dM_perform_230 : decode cM_perform 230 = .ok (.iload_n 3, 1) := by decide +kernel
theorem dM_perform_231 : decode cM_perform 231 = .ok (.iaload, 1) := by decide +kernel
theorem dM_perform_232 : decode cM_perform 232 = .ok (.ifCond .lt 12, 3) := by decide +kernel
theorem dM_perform_235 : decode cM_perform 235 = .ok (.aload_n 0, 1) := by decide +kernel
theorem dM_perform_236 : decode cM_perform 236 = .ok (.getfield 46, 3) := by decide +kernel
theorem dM_perform_239 : decode cM_perform 239 = .ok (.iload_n 3, 1) := by decide +kernel
theorem dM_perform_240 : decode cM_perform 240 = .ok (.iaload, 1) := by decide +kernel
theorem dM_perform_241 : decode cM_perform 241 = .ok (.goto 5, 3) := by decide +kernel
theorem dM_perform_244 : decode cM_perform 244 = .ok (.iload 6, 2) := by decide +kernel
theorem dM_perform_246 : decode cM_perform 246 = .ok (.ireturn, 1) := by decide +kernel
theorem dM_perform_247 : decode cM_perform 247 = .ok (.bipush 16, 2) := by decide +kernel
theorem dM_perform_249 : decode cM_perform 249 = .ok (.aload_n 0, 1) := by decide +kernel
theorem dM_perform_250 : decode cM_perform 250 = .ok (.getfield 121, 3) := by decide +kernel
theorem dM_perform_253 : decode cM_perform 253 = .ok (.imul, 1) := by decide +kernel
theorem dM_perform_254 : decode cM_perform 254 = .ok (.istore 7, 2) := by decide +kernel
theorem dM_perform_256 : decode cM_perform 256 = .ok (.iload 7, 2) := by decide +kernel
theorem dM_perform_258 : decode cM_perform 258 = .ok (.iload_n 3, 1) := by decide +kernel
theorem dM_perform_259 : decode cM_perform 259 = .ok (.if_icmp .ge 54, 3) := by decide +kernel
theorem dM_perform_262 : decode cM_perform 262 = .ok (.aload_n 0, 1) := by decide +kernel
theorem dM_perform_263 : decode cM_perform 263 = .ok (.getfield 22, 3) := by decide +kernel
theorem dM_perform_266 : decode cM_perform 266 = .ok (.iload 7, 2) := by decide +kernel
theorem dM_perform_268 : decode cM_perform 268 = .ok (.iaload, 1) := by decide +kernel
theorem dM_perform_269 : decode cM_perform 269 = .ok (.iconst 2, 1) := by decide +kernel
theorem dM_perform_270 : decode cM_perform 270 = .ok (.if_icmp .ne 37, 3) := by decide +kernel
theorem dM_perform_273 : decode cM_perform 273 = .ok (.aload_n 0, 1) := by decide +kernel
theorem dM_perform_274 : decode cM_perform 274 = .ok (.getfield 43, 3) := by decide +kernel
theorem dM_perform_277 : decode cM_perform 277 = .ok (.iload 7, 2) := by decide +kernel
theorem dM_perform_279 : decode cM_perform 279 = .ok (.iaload, 1) := by decide +kernel
theorem dM_perform_280 : decode cM_perform 280 = .ok (.iload_n 1, 1) := by decide +kernel
theorem dM_perform_281 : decode cM_perform 281 = .ok (.if_icmp .ne 26, 3) := by decide +kernel
theorem dM_perform_284 : decode cM_perform 284 = .ok (.aload_n 0, 1) := by decide +kernel
theorem dM_perform_285 : decode cM_perform 285 = .ok (.getfield 46, 3) := by decide +kernel
theorem dM_perform_288 : decode cM_perform 288 = .ok (.iload 7, 2) := by decide +kernel
theorem dM_perform_290 : decode cM_perform 290 = .ok (.iaload, 1) := by decide +kernel
theorem dM_perform_291 : decode cM_perform 291 = .ok (.ifCond .lt 13, 3) := by decide +kernel
theorem dM_perform_294 : decode cM_perform 294 = .ok (.aload_n 0, 1) := by decide +kernel
theorem dM_perform_295 : decode cM_perform 295 = .ok (.getfield 46, 3) := by decide +kernel
theorem dM_perform_298 : decode cM_perform 298 = .ok (.iload 7, 2) := by decide +kernel
theorem dM_perform_300 : decode cM_perform 300 = .ok (.iaload, 1) := by decide +kernel
theorem dM_perform_301 : decode cM_perform 301 = .ok (.goto 5, 3) := by decide +kernel
theorem dM_perform_304 : decode cM_perform 304 = .ok (.iload 6, 2) := by decide +kernel
theorem dM_perform_306 : decode cM_perform 306 = .ok (.ireturn, 1) := by decide +kernel
theorem dM_perform_307 : decode cM_perform 307 = .ok (.iinc 7 1, 3) := by decide +kernel
theorem dM_perform_310 : decode cM_perform 310 = .ok (.goto (-54), 3) := by decide +kernel
theorem dM_perform_313 : decode cM_perform 313 = .ok (.iload 6, 2) := by decide +kernel
theorem dM_perform_315 : decode cM_perform 315 = .ok (.ireturn, 1) := by decide +kernel
theorem dM_perform_316 : decode cM_perform 316 = .ok (.aload_n 0, 1) := by decide +kernel
theorem dM_perform_317 : decode cM_perform 317 = .ok (.iload 4, 2) := by decide +kernel
theorem dM_perform_319 : decode cM_perform 319 = .ok (.iload 5, 2) := by decide +kernel
theorem dM_perform_321 : decode cM_perform 321 = .ok (.aload_n 0, 1) := by decide +kernel
theorem dM_perform_322 : decode cM_perform 322 = .ok (.getfield 34, 3) := by decide +kernel
theorem dM_perform_325 : decode cM_perform 325 = .ok (.iload_n 3, 1) := by decide +kernel
theorem dM_perform_326 : decode cM_perform 326 = .ok (.iaload, 1) := by decide +kernel
theorem dM_perform_327 : decode cM_perform 327 = .ok (.i2l, 1) := by decide +kernel
theorem dM_perform_328 : decode cM_perform 328 = .ok (.invokevirtual 114, 3) := by decide +kernel
theorem dM_perform_331 : decode cM_perform 331 = .ok (.ifCond .ne 8, 3) := by decide +kernel
theorem dM_perform_334 : decode cM_perform 334 = .ok (.aload_n 0, 1) := by decide +kernel
theorem dM_perform_335 : decode cM_perform 335 = .ok (.iload_n 1, 1) := by decide +kernel
theorem dM_perform_336 : decode cM_perform 336 = .ok (.invokevirtual 127, 3) := by decide +kernel
theorem dM_perform_339 : decode cM_perform 339 = .ok (.aload_n 0, 1) := by decide +kernel
theorem dM_perform_340 : decode cM_perform 340 = .ok (.iload 4, 2) := by decide +kernel
theorem dM_perform_342 : decode cM_perform 342 = .ok (.iload 5, 2) := by decide +kernel
theorem dM_perform_344 : decode cM_perform 344 = .ok (.aload_n 0, 1) := by decide +kernel
theorem dM_perform_345 : decode cM_perform 345 = .ok (.getfield 34, 3) := by decide +kernel
theorem dM_perform_348 : decode cM_perform 348 = .ok (.iload_n 3, 1) := by decide +kernel
theorem dM_perform_349 : decode cM_perform 349 = .ok (.iaload, 1) := by decide +kernel
theorem dM_perform_350 : decode cM_perform 350 = .ok (.i2l, 1) := by decide +kernel
theorem dM_perform_351 : decode cM_perform 351 = .ok (.invokevirtual 110, 3) := by decide +kernel
theorem dM_perform_354 : decode cM_perform 354 = .ok (.iload_n 1, 1) := by decide +kernel
theorem dM_perform_355 : decode cM_perform 355 = .ok (.iconst 1, 1) := by decide +kernel
theorem dM_perform_356 : decode cM_perform 356 = .ok (.iadd, 1) := by decide +kernel
theorem dM_perform_357 : decode cM_perform 357 = .ok (.ireturn, 1) := by decide +kernel
theorem dM_perform_358 : decode cM_perform 358 = .ok (.aload_n 0, 1) := by decide +kernel
theorem dM_perform_359 : decode cM_perform 359 = .ok (.iload 4, 2) := by decide +kernel
theorem dM_perform_361 : decode cM_perform 361 = .ok (.invokevirtual 102, 3) := by decide +kernel
theorem dM_perform_364 : decode cM_perform 364 = .ok (.iload_n 1, 1) := by decide +kernel
theorem dM_perform_365 : decode cM_perform 365 = .ok (.iconst 1, 1) := by decide +kernel
theorem dM_perform_366 : decode cM_perform 366 = .ok (.iadd, 1) := by decide +kernel
theorem dM_perform_367 : decode cM_perform 367 = .ok (.ireturn, 1) := by decide +kernel
theorem dM_perform_368 : decode cM_perform 368 = .ok (.iload_n 1, 1) := by decide +kernel
theorem dM_perform_369 : decode cM_perform 369 = .ok (.iconst 1, 1) := by decide +kernel
theorem dM_perform_370 : decode cM_perform 370 = .ok (.iadd, 1) := by decide +kernel
theorem dM_perform_371 : decode cM_perform 371 = .ok (.ireturn, 1) := by decide +kernel
theorem dM_rename_0 : decode cM_rename 0 = .ok (.iconst 0, 1) := by decide +kernel
theorem dM_rename_1 : decode cM_rename 1 = .ok (.istore_n 2, 1) := by decide +kernel
theorem dM_rename_2 : decode cM_rename 2 = .ok (.iload_n 2, 1) := by decide +kernel
theorem dM_rename_3 : decode cM_rename 3 = .ok (.bipush 12, 2) := by decide +kernel
theorem dM_rename_5 : decode cM_rename 5 = .ok (.if_icmp .ge 61, 3) := by decide +kernel
theorem dM_rename_8 : decode cM_rename 8 = .ok (.iload_n 2, 1) := by decide +kernel
theorem dM_rename_9 : decode cM_rename 9 = .ok (.iload_n 1, 1) := by decide +kernel
theorem dM_rename_10 : decode cM_rename 10 = .ok (.if_icmp .ne 6, 3) := by decide +kernel
theorem dM_rename_13 : decode cM_rename 13 = .ok (.goto 47, 3) := by decide +kernel
theorem dM_rename_16 : decode cM_rename 16 = .ok (.aload_n 0, 1) := by decide +kernel
theorem dM_rename_17 : decode cM_rename 17 = .ok (.getfield 58, 3) := by decide +kernel
theorem dM_rename_20 : decode cM_rename 20 = .ok (.bipush 13, 2) := by decide +kernel
theorem dM_rename_22 : decode cM_rename 22 = .ok (.iload_n 1, 1) := by decide +kernel
theorem dM_rename_23 : decode cM_rename 23 = .ok (.imul, 1) := by decide +kernel
theorem dM_rename_24 : decode cM_rename 24 = .ok (.iload_n 2, 1) := by decide +kernel
theorem dM_rename_25 : decode cM_rename 25 = .ok (.iadd, 1) := by decide +kernel
theorem dM_rename_26 : decode cM_rename 26 = .ok (.aload_n 0, 1) := by decide +kernel
theorem dM_rename_27 : decode cM_rename 27 = .ok (.getfield 58, 3) := by decide +kernel
theorem dM_rename_30 : decode cM_rename 30 = .ok (.sipush 156, 3) := by decide +kernel
theorem dM_rename_33 : decode cM_rename 33 = .ok (.iload_n 2, 1) := by decide +kernel
theorem dM_rename_34 : decode cM_rename 34 = .ok (.iadd, 1) := by decide +kernel
theorem dM_rename_35 : decode cM_rename 35 = .ok (.laload, 1) := by decide +kernel
theorem dM_rename_36 : decode cM_rename 36 = .ok (.lastore, 1) := by decide +kernel
theorem dM_rename_37 : decode cM_rename 37 = .ok (.aload_n 0, 1) := by decide +kernel
theorem dM_rename_38 : decode cM_rename 38 = .ok (.getfield 58, 3) := by decide +kernel
theorem dM_rename_41 : decode cM_rename 41 = .ok (.bipush 13, 2) := by decide +kernel
theorem dM_rename_43 : decode cM_rename 43 = .ok (.iload_n 2, 1) := by decide +kernel
theorem dM_rename_44 : decode cM_rename 44 = .ok (.imul, 1) := by decide +kernel
theorem dM_rename_45 : decode cM_rename 45 = .ok (.iload_n 1, 1) := by decide +kernel
theorem dM_rename_46 : decode cM_rename 46 = .ok (.iadd, 1) := by decide +kernel
theorem dM_rename_47 : decode cM_rename 47 = .ok (.aload_n 0, 1) := by decide +kernel
theorem dM_rename_48 : decode cM_rename 48 = .ok (.getfield 58, 3) := by decide +kernel
theorem dM_rename_51 : decode cM_rename 51 = .ok (.bipush 13, 2) := by decide +kernel
theorem dM_rename_53 : decode cM_rename 53 = .ok (.iload_n 2, 1) := by decide +kernel
theorem dM_rename_54 : decode cM_rename 54 = .ok (.imul, 1) := by decide +kernel
theorem dM_rename_55 : decode cM_rename 55 = .ok (.bipush 12, 2) := by decide +kernel
theorem dM_rename_57 : decode cM_rename 57 = .ok (.iadd, 1) := by decide +kernel
theorem dM_rename_58 : decode cM_rename 58 = .ok (.laload, 1) := by decide +kernel
theorem dM_rename_59 : decode cM_rename 59 = .ok (.lastore, 1) := by decide +kernel
theorem dM_rename_60 : decode cM_rename 60 = .ok (.iinc 2 1, 3) := by decide +kernel
theorem dM_rename_63 : decode cM_rename 63 = .ok (.goto (-61), 3) := by decide +kernel
theorem dM_rename_66 : decode cM_rename 66 = .ok (.aload_n 0, 1) := by decide +kernel
theorem dM_rename_67 : decode cM_rename 67 = .ok (.bipush 12, 2) := by decide +kernel
theorem dM_rename_69 : decode cM_rename 69 = .ok (.invokevirtual 102, 3) := by decide +kernel
theorem dM_rename_72 : decode cM_rename 72 = .ok (.return_, 1) := by decide +kernel
theorem dM_forget_0 : decode cM_forget 0 = .ok (.iconst 0, 1) := by decide +kernel
theorem dM_forget_1 : decode cM_forget 1 = .ok (.istore_n 2, 1) := by decide +kernel
theorem dM_forget_2 : decode cM_forget 2 = .ok (.iload_n 2, 1) := by decide +kernel
theorem dM_forget_3 : decode cM_forget 3 = .ok (.bipush 13, 2) := by decide +kernel
theorem dM_forget_5 : decode cM_forget 5 = .ok (.if_icmp .ge 45, 3) := by decide +kernel
theorem dM_forget_8 : decode cM_forget 8 = .ok (.iload_n 2, 1) := by decide +kernel
theorem dM_forget_9 : decode cM_forget 9 = .ok (.iload_n 1, 1) := by decide +kernel
theorem dM_forget_10 : decode cM_forget 10 = .ok (.if_icmp .ne 6, 3) := by decide +kernel
theorem dM_forget_13 : decode cM_forget 13 = .ok (.goto 31, 3) := by decide +kernel
theorem dM_forget_16 : decode cM_forget 16 = .ok (.aload_n 0, 1) := by decide +kernel
theorem dM_forget_17 : decode cM_forget 17 = .ok (.getfield 58, 3) := by decide +kernel
theorem dM_forget_20 : decode cM_forget 20 = .ok (.bipush 13, 2) := by decide +kernel
theorem dM_forget_22 : decode cM_forget 22 = .ok (.iload_n 1, 1) := by decide +kernel
theorem dM_forget_23 : decode cM_forget 23 = .ok (.imul, 1) := by decide +kernel
theorem dM_forget_24 : decode cM_forget 24 = .ok (.iload_n 2, 1) := by decide +kernel
theorem dM_forget_25 : decode cM_forget 25 = .ok (.iadd, 1) := by decide +kernel
theorem dM_forget_26 : decode cM_forget 26 = .ok (.ldc2_w 96, 3) := by decide +kernel
theorem dM_forget_29 : decode cM_forget 29 = .ok (.lastore, 1) := by decide +kernel
theorem dM_forget_30 : decode cM_forget 30 = .ok (.aload_n 0, 1) := by decide +kernel
theorem dM_forget_31 : decode cM_forget 31 = .ok (.getfield 58, 3) := by decide +kernel
theorem dM_forget_34 : decode cM_forget 34 = .ok (.bipush 13, 2) := by decide +kernel
theorem dM_forget_36 : decode cM_forget 36 = .ok (.iload_n 2, 1) := by decide +kernel
theorem dM_forget_37 : decode cM_forget 37 = .ok (.imul, 1) := by decide +kernel
theorem dM_forget_38 : decode cM_forget 38 = .ok (.iload_n 1, 1) := by decide +kernel
theorem dM_forget_39 : decode cM_forget 39 = .ok (.iadd, 1) := by decide +kernel
theorem dM_forget_40 : decode cM_forget 40 = .ok (.ldc2_w 96, 3) := by decide +kernel
theorem dM_forget_43 : decode cM_forget 43 = .ok (.lastore, 1) := by decide +kernel
theorem dM_forget_44 : decode cM_forget 44 = .ok (.iinc 2 1, 3) := by decide +kernel
theorem dM_forget_47 : decode cM_forget 47 = .ok (.goto (-45), 3) := by decide +kernel
theorem dM_forget_50 : decode cM_forget 50 = .ok (.return_, 1) := by decide +kernel
theorem dM_call_0 : decode cM_call 0 = .ok (.aload_n 0, 1) := by decide +kernel
theorem dM_call_1 : decode cM_call 1 = .ok (.iconst 2, 1) := by decide +kernel
theorem dM_call_2 : decode cM_call 2 = .ok (.aload_n 0, 1) := by decide +kernel
theorem dM_call_3 : decode cM_call 3 = .ok (.getfield 34, 3) := by decide +kernel
theorem dM_call_6 : decode cM_call 6 = .ok (.iload_n 2, 1) := by decide +kernel
theorem dM_call_7 : decode cM_call 7 = .ok (.iaload, 1) := by decide +kernel
theorem dM_call_8 : decode cM_call 8 = .ok (.imul, 1) := by decide +kernel
theorem dM_call_9 : decode cM_call 9 = .ok (.aload_n 0, 1) := by decide +kernel
theorem dM_call_10 : decode cM_call 10 = .ok (.getfield 28, 3) := by decide +kernel
theorem dM_call_13 : decode cM_call 13 = .ok (.iload_n 2, 1) := by decide +kernel
theorem dM_call_14 : decode cM_call 14 = .ok (.iaload, 1) := by decide +kernel
theorem dM_call_15 : decode cM_call 15 = .ok (.aload_n 0, 1) := by decide +kernel
theorem dM_call_16 : decode cM_call 16 = .ok (.getfield 31, 3) := by decide +kernel
theorem dM_call_19 : decode cM_call 19 = .ok (.iload_n 2, 1) := by decide +kernel
theorem dM_call_20 : decode cM_call 20 = .ok (.iaload, 1) := by decide +kernel
theorem dM_call_21 : decode cM_call 21 = .ok (.invokevirtual 124, 3) := by decide +kernel
theorem dM_call_24 : decode cM_call 24 = .ok (.ifCond .ne 8, 3) := by decide +kernel
theorem dM_call_27 : decode cM_call 27 = .ok (.aload_n 0, 1) := by decide +kernel
theorem dM_call_28 : decode cM_call 28 = .ok (.iload_n 1, 1) := by decide +kernel
theorem dM_call_29 : decode cM_call 29 = .ok (.invokevirtual 127, 3) := by decide +kernel
theorem dM_call_32 : decode cM_call 32 = .ok (.aload_n 0, 1) := by decide +kernel
theorem dM_call_33 : decode cM_call 33 = .ok (.iconst 2, 1) := by decide +kernel
theorem dM_call_34 : decode cM_call 34 = .ok (.aload_n 0, 1) := by decide +kernel
theorem dM_call_35 : decode cM_call 35 = .ok (.getfield 34, 3) := by decide +kernel
theorem dM_call_38 : decode cM_call 38 = .ok (.iload_n 2, 1) := by decide +kernel
theorem dM_call_39 : decode cM_call 39 = .ok (.iaload, 1) := by decide +kernel
theorem dM_call_40 : decode cM_call 40 = .ok (.imul, 1) := by decide +kernel
theorem dM_call_41 : decode cM_call 41 = .ok (.iconst 1, 1) := by decide +kernel
theorem dM_call_42 : decode cM_call 42 = .ok (.iadd, 1) := by decide +kernel
theorem dM_call_43 : decode cM_call 43 = .ok (.aload_n 0, 1) := by decide +kernel
theorem dM_call_44 : decode cM_call 44 = .ok (.getfield 28, 3) := by decide +kernel
theorem dM_call_47 : decode cM_call 47 = .ok (.iload_n 2, 1) := by decide +kernel
theorem dM_call_48 : decode cM_call 48 = .ok (.iaload, 1) := by decide +kernel
theorem dM_call_49 : decode cM_call 49 = .ok (.aload_n 0, 1) := by decide +kernel
theorem dM_call_50 : decode cM_call 50 = .ok (.getfield 31, 3) := by decide +kernel
theorem dM_call_53 : decode cM_call 53 = .ok (.iload_n 2, 1) := by decide +kernel
theorem dM_call_54 : decode cM_call 54 = .ok (.iaload, 1) := by decide +kernel
theorem dM_call_55 : decode cM_call 55 = .ok (.invokevirtual 133, 3) := by decide +kernel
theorem dM_call_58 : decode cM_call 58 = .ok (.aload_n 0, 1) := by decide +kernel
theorem dM_call_59 : decode cM_call 59 = .ok (.getfield 98, 3) := by decide +kernel
theorem dM_call_62 : decode cM_call 62 = .ok (.ifCond .eq 13, 3) := by decide +kernel
theorem dM_call_65 : decode cM_call 65 = .ok (.aload_n 0, 1) := by decide +kernel
theorem dM_call_66 : decode cM_call 66 = .ok (.aload_n 0, 1) := by decide +kernel
theorem dM_call_67 : decode cM_call 67 = .ok (.getfield 25, 3) := by decide +kernel
theorem dM_call_70 : decode cM_call 70 = .ok (.iload_n 2, 1) := by decide +kernel
theorem dM_call_71 : decode cM_call 71 = .ok (.iaload, 1) := by decide +kernel
theorem dM_call_72 : decode cM_call 72 = .ok (.invokevirtual 137, 3) := by decide +kernel
theorem dM_call_75 : decode cM_call 75 = .ok (.return_, 1) := by decide +kernel
theorem dM_ways_0 : decode cM_ways 0 = .ok (.aload_n 0, 1) := by decide +kernel
theorem dM_ways_1 : decode cM_ways 1 = .ok (.iconst 0, 1) := by decide +kernel
theorem dM_ways_2 : decode cM_ways 2 = .ok (.putfield 66, 3) := by decide +kernel
theorem dM_ways_5 : decode cM_ways 5 = .ok (.iload_n 1, 1) := by decide +kernel
theorem dM_ways_6 : decode cM_ways 6 = .ok (.invokestatic 74, 3) := by decide +kernel
theorem dM_ways_9 : decode cM_ways 9 = .ok (.ifCond .eq 9, 3) := by decide +kernel
theorem dM_ways_12 : decode cM_ways 12 = .ok (.aload_n 0, 1) := by decide +kernel
theorem dM_ways_13 : decode cM_ways 13 = .ok (.iconst 1, 1) := by decide +kernel
theorem dM_ways_14 : decode cM_ways 14 = .ok (.invokevirtual 78, 3) := by decide +kernel
theorem dM_ways_17 : decode cM_ways 17 = .ok (.ireturn, 1) := by decide +kernel
theorem dM_ways_18 : decode cM_ways 18 = .ok (.aload_n 0, 1) := by decide +kernel
theorem dM_ways_19 : decode cM_ways 19 = .ok (.iconst (-1), 1) := by decide +kernel
theorem dM_ways_20 : decode cM_ways 20 = .ok (.putfield 147, 3) := by decide +kernel
theorem dM_ways_23 : decode cM_ways 23 = .ok (.aload_n 0, 1) := by decide +kernel
theorem dM_ways_24 : decode cM_ways 24 = .ok (.iload_n 1, 1) := by decide +kernel
theorem dM_ways_25 : decode cM_ways 25 = .ok (.invokevirtual 179, 3) := by decide +kernel
theorem dM_ways_28 : decode cM_ways 28 = .ok (.aload_n 0, 1) := by decide +kernel
theorem dM_ways_29 : decode cM_ways 29 = .ok (.getfield 130, 3) := by decide +kernel
theorem dM_ways_32 : decode cM_ways 32 = .ok (.ireturn, 1) := by decide +kernel
theorem dM_comes_0 : decode cM_comes 0 = .ok (.aload_n 0, 1) := by decide +kernel
theorem dM_comes_1 : decode cM_comes 1 = .ok (.iconst 0, 1) := by decide +kernel
theorem dM_comes_2 : decode cM_comes 2 = .ok (.putfield 66, 3) := by decide +kernel
theorem dM_comes_5 : decode cM_comes 5 = .ok (.aload_n 0, 1) := by decide +kernel
theorem dM_comes_6 : decode cM_comes 6 = .ok (.iload_n 1, 1) := by decide +kernel
theorem dM_comes_7 : decode cM_comes 7 = .ok (.iload_n 2, 1) := by decide +kernel
theorem dM_comes_8 : decode cM_comes 8 = .ok (.invokevirtual 182, 3) := by decide +kernel
theorem dM_comes_11 : decode cM_comes 11 = .ok (.ifCond .eq 9, 3) := by decide +kernel
theorem dM_comes_14 : decode cM_comes 14 = .ok (.aload_n 0, 1) := by decide +kernel
theorem dM_comes_15 : decode cM_comes 15 = .ok (.iconst 1, 1) := by decide +kernel
theorem dM_comes_16 : decode cM_comes 16 = .ok (.invokevirtual 78, 3) := by decide +kernel
theorem dM_comes_19 : decode cM_comes 19 = .ok (.ireturn, 1) := by decide +kernel
theorem dM_comes_20 : decode cM_comes 20 = .ok (.aload_n 0, 1) := by decide +kernel
theorem dM_comes_21 : decode cM_comes 21 = .ok (.iconst (-1), 1) := by decide +kernel
theorem dM_comes_22 : decode cM_comes 22 = .ok (.putfield 147, 3) := by decide +kernel
theorem dM_comes_25 : decode cM_comes 25 = .ok (.aload_n 0, 1) := by decide +kernel
theorem dM_comes_26 : decode cM_comes 26 = .ok (.iload_n 1, 1) := by decide +kernel
theorem dM_comes_27 : decode cM_comes 27 = .ok (.invokevirtual 179, 3) := by decide +kernel
theorem dM_comes_30 : decode cM_comes 30 = .ok (.aload_n 0, 1) := by decide +kernel
theorem dM_comes_31 : decode cM_comes 31 = .ok (.getfield 62, 3) := by decide +kernel
theorem dM_comes_34 : decode cM_comes 34 = .ok (.iload_n 2, 1) := by decide +kernel
theorem dM_comes_35 : decode cM_comes 35 = .ok (.baload, 1) := by decide +kernel
theorem dM_comes_36 : decode cM_comes 36 = .ok (.ifCond .eq 7, 3) := by decide +kernel
theorem dM_comes_39 : decode cM_comes 39 = .ok (.iconst 1, 1) := by decide +kernel
theorem dM_comes_40 : decode cM_comes 40 = .ok (.goto 4, 3) := by decide +kernel
theorem dM_comes_43 : decode cM_comes 43 = .ok (.iconst 0, 1) := by decide +kernel
theorem dM_comes_44 : decode cM_comes 44 = .ok (.ireturn, 1) := by decide +kernel
theorem dM_noPlace_0 : decode cM_noPlace 0 = .ok (.iload_n 1, 1) := by decide +kernel
theorem dM_noPlace_1 : decode cM_noPlace 1 = .ok (.invokestatic 74, 3) := by decide +kernel
theorem dM_noPlace_4 : decode cM_noPlace 4 = .ok (.ifCond .ne 17, 3) := by decide +kernel
theorem dM_noPlace_7 : decode cM_noPlace 7 = .ok (.iload_n 2, 1) := by decide +kernel
theorem dM_noPlace_8 : decode cM_noPlace 8 = .ok (.iconst 0, 1) := by decide +kernel
theorem dM_noPlace_9 : decode cM_noPlace 9 = .ok (.aload_n 0, 1) := by decide +kernel
theorem dM_noPlace_10 : decode cM_noPlace 10 = .ok (.getfield 37, 3) := by decide +kernel
theorem dM_noPlace_13 : decode cM_noPlace 13 = .ok (.iload_n 1, 1) := by decide +kernel
theorem dM_noPlace_14 : decode cM_noPlace 14 = .ok (.iaload, 1) := by decide +kernel
theorem dM_noPlace_15 : decode cM_noPlace 15 = .ok (.invokestatic 70, 3) := by decide +kernel
theorem dM_noPlace_18 : decode cM_noPlace 18 = .ok (.ifCond .ne 7, 3) := by decide +kernel
theorem dM_noPlace_21 : decode cM_noPlace 21 = .ok (.iconst 1, 1) := by decide +kernel
theorem dM_noPlace_22 : decode cM_noPlace 22 = .ok (.goto 4, 3) := by decide +kernel
theorem dM_noPlace_25 : decode cM_noPlace 25 = .ok (.iconst 0, 1) := by decide +kernel
theorem dM_noPlace_26 : decode cM_noPlace 26 = .ok (.ireturn, 1) := by decide +kernel
theorem dM_most_0 : decode cM_most 0 = .ok (.aload_n 0, 1) := by decide +kernel
theorem dM_most_1 : decode cM_most 1 = .ok (.iconst 0, 1) := by decide +kernel
theorem dM_most_2 : decode cM_most 2 = .ok (.putfield 66, 3) := by decide +kernel
theorem dM_most_5 : decode cM_most 5 = .ok (.aload_n 0, 1) := by decide +kernel
theorem dM_most_6 : decode cM_most 6 = .ok (.iload_n 1, 1) := by decide +kernel
theorem dM_most_7 : decode cM_most 7 = .ok (.iload_n 2, 1) := by decide +kernel
theorem dM_most_8 : decode cM_most 8 = .ok (.invokevirtual 182, 3) := by decide +kernel
theorem dM_most_11 : decode cM_most 11 = .ok (.ifCond .ne 18, 3) := by decide +kernel
theorem dM_most_14 : decode cM_most 14 = .ok (.iload_n 3, 1) := by decide +kernel
theorem dM_most_15 : decode cM_most 15 = .ok (.invokestatic 82, 3) := by decide +kernel
theorem dM_most_18 : decode cM_most 18 = .ok (.ifCond .eq 11, 3) := by decide +kernel
theorem dM_most_21 : decode cM_most 21 = .ok (.iload 4, 2) := by decide +kernel
theorem dM_most_23 : decode cM_most 23 = .ok (.invokestatic 82, 3) := by decide +kernel
theorem dM_most_26 : decode cM_most 26 = .ok (.ifCond .ne 9, 3) := by decide +kernel
theorem dM_most_29 : decode cM_most 29 = .ok (.aload_n 0, 1) := by decide +kernel
theorem dM_most_30 : decode cM_most 30 = .ok (.iconst 1, 1) := by decide +kernel
theorem dM_most_31 : decode cM_most 31 = .ok (.invokevirtual 78, 3) := by decide +kernel
theorem dM_most_34 : decode cM_most 34 = .ok (.ireturn, 1) := by decide +kernel
theorem dM_most_35 : decode cM_most 35 = .ok (.aload_n 0, 1) := by decide +kernel
theorem dM_most_36 : decode cM_most 36 = .ok (.iload_n 2, 1) := by decide +kernel
theorem dM_most_37 : decode cM_most 37 = .ok (.putfield 147, 3) := by decide +kernel
theorem dM_most_40 : decode cM_most 40 = .ok (.aload_n 0, 1) := by decide +kernel
theorem dM_most_41 : decode cM_most 41 = .ok (.iload_n 3, 1) := by decide +kernel
theorem dM_most_42 : decode cM_most 42 = .ok (.putfield 150, 3) := by decide +kernel
theorem dM_most_45 : decode cM_most 45 = .ok (.aload_n 0, 1) := by decide +kernel
theorem dM_most_46 : decode cM_most 46 = .ok (.iload 4, 2) := by decide +kernel
theorem dM_most_48 : decode cM_most 48 = .ok (.putfield 153, 3) := by decide +kernel
theorem dM_most_51 : decode cM_most 51 = .ok (.aload_n 0, 1) := by decide +kernel
theorem dM_most_52 : decode cM_most 52 = .ok (.iload_n 1, 1) := by decide +kernel
theorem dM_most_53 : decode cM_most 53 = .ok (.invokevirtual 179, 3) := by decide +kernel
theorem dM_most_56 : decode cM_most 56 = .ok (.aload_n 0, 1) := by decide +kernel
theorem dM_most_57 : decode cM_most 57 = .ok (.getfield 156, 3) := by decide +kernel
theorem dM_most_60 : decode cM_most 60 = .ok (.ifCond .ne 9, 3) := by decide +kernel
theorem dM_most_63 : decode cM_most 63 = .ok (.aload_n 0, 1) := by decide +kernel
theorem dM_most_64 : decode cM_most 64 = .ok (.iconst 2, 1) := by decide +kernel
theorem dM_most_65 : decode cM_most 65 = .ok (.invokevirtual 78, 3) := by decide +kernel
theorem dM_most_68 : decode cM_most 68 = .ok (.ireturn, 1) := by decide +kernel
theorem dM_most_69 : decode cM_most 69 = .ok (.aload_n 0, 1) := by decide +kernel
theorem dM_most_70 : decode cM_most 70 = .ok (.getfield 159, 3) := by decide +kernel
theorem dM_most_73 : decode cM_most 73 = .ok (.ldc2_w 96, 3) := by decide +kernel
theorem dM_most_76 : decode cM_most 76 = .ok (.lcmp, 1) := by decide +kernel
theorem dM_most_77 : decode cM_most 77 = .ok (.ifCond .ne 11, 3) := by decide +kernel
theorem dM_most_80 : decode cM_most 80 = .ok (.aload_n 0, 1) := by decide +kernel
theorem dM_most_81 : decode cM_most 81 = .ok (.iconst 3, 1) := by decide +kernel
theorem dM_most_82 : decode cM_most 82 = .ok (.invokevirtual 78, 3) := by decide +kernel
theorem dM_most_85 : decode cM_most 85 = .ok (.goto 8, 3) := by decide +kernel
theorem dM_most_88 : decode cM_most 88 = .ok (.aload_n 0, 1) := by decide +kernel
theorem dM_most_89 : decode cM_most 89 = .ok (.getfield 159, 3) := by decide +kernel
theorem dM_most_92 : decode cM_most 92 = .ok (.l2i, 1) := by decide +kernel
theorem dM_most_93 : decode cM_most 93 = .ok (.ireturn, 1) := by decide +kernel
theorem dM_follows_0 : decode cM_follows 0 = .ok (.aload_n 0, 1) := by decide +kernel
theorem dM_follows_1 : decode cM_follows 1 = .ok (.iconst 0, 1) := by decide +kernel
theorem dM_follows_2 : decode cM_follows 2 = .ok (.putfield 66, 3) := by decide +kernel
theorem dM_follows_5 : decode cM_follows 5 = .ok (.iload_n 1, 1) := by decide +kernel
theorem dM_follows_6 : decode cM_follows 6 = .ok (.invokestatic 74, 3) := by decide +kernel
theorem dM_follows_9 : decode cM_follows 9 = .ok (.ifCond .ne 10, 3) := by decide +kernel
theorem dM_follows_12 : decode cM_follows 12 = .ok (.iload_n 2, 1) := by decide +kernel
theorem dM_follows_13 : decode cM_follows 13 = .ok (.invokestatic 74, 3) := by decide +kernel
theorem dM_follows_16 : decode cM_follows 16 = .ok (.ifCond .eq 9, 3) := by decide +kernel
theorem dM_follows_19 : decode cM_follows 19 = .ok (.aload_n 0, 1) := by decide +kernel
theorem dM_follows_20 : decode cM_follows 20 = .ok (.iconst 1, 1) := by decide +kernel
theorem dM_follows_21 : decode cM_follows 21 = .ok (.invokevirtual 78, 3) := by decide +kernel
theorem dM_follows_24 : decode cM_follows 24 = .ok (.ireturn, 1) := by decide +kernel
theorem dM_follows_25 : decode cM_follows 25 = .ok (.aload_n 0, 1) := by decide +kernel
theorem dM_follows_26 : decode cM_follows 26 = .ok (.invokevirtual 163, 3) := by decide +kernel
theorem dM_follows_29 : decode cM_follows 29 = .ok (.aload_n 0, 1) := by decide +kernel
theorem dM_follows_30 : decode cM_follows 30 = .ok (.iconst 2, 1) := by decide +kernel
theorem dM_follows_31 : decode cM_follows 31 = .ok (.iload_n 1, 1) := by decide +kernel
theorem dM_follows_32 : decode cM_follows 32 = .ok (.imul, 1) := by decide +kernel
theorem dM_follows_33 : decode cM_follows 33 = .ok (.iconst 1, 1) := by decide +kernel
theorem dM_follows_34 : decode cM_follows 34 = .ok (.iconst 2, 1) := by decide +kernel
theorem dM_follows_35 : decode cM_follows 35 = .ok (.invokevirtual 133, 3) := by decide +kernel
theorem dM_follows_38 : decode cM_follows 38 = .ok (.aload_n 0, 1) := by decide +kernel
theorem dM_follows_39 : decode cM_follows 39 = .ok (.iconst 2, 1) := by decide +kernel
theorem dM_follows_40 : decode cM_follows 40 = .ok (.iload_n 2, 1) := by decide +kernel
theorem dM_follows_41 : decode cM_follows 41 = .ok (.imul, 1) := by decide +kernel
theorem dM_follows_42 : decode cM_follows 42 = .ok (.iconst 1, 1) := by decide +kernel
theorem dM_follows_43 : decode cM_follows 43 = .ok (.iadd, 1) := by decide +kernel
theorem dM_follows_44 : decode cM_follows 44 = .ok (.iconst 1, 1) := by decide +kernel
theorem dM_follows_45 : decode cM_follows 45 = .ok (.iconst 2, 1) := by decide +kernel
theorem dM_follows_46 : decode cM_follows 46 = .ok (.invokevirtual 133, 3) := by decide +kernel
theorem dM_follows_49 : decode cM_follows 49 = .ok (.aload_n 0, 1) := by decide +kernel
theorem dM_follows_50 : decode cM_follows 50 = .ok (.getfield 98, 3) := by decide +kernel
theorem dM_follows_53 : decode cM_follows 53 = .ok (.ifCond .eq 17, 3) := by decide +kernel
theorem dM_follows_56 : decode cM_follows 56 = .ok (.aload_n 0, 1) := by decide +kernel
theorem dM_follows_57 : decode cM_follows 57 = .ok (.iconst 2, 1) := by decide +kernel
theorem dM_follows_58 : decode cM_follows 58 = .ok (.iload_n 1, 1) := by decide +kernel
theorem dM_follows_59 : decode cM_follows 59 = .ok (.imul, 1) := by decide +kernel
theorem dM_follows_60 : decode cM_follows 60 = .ok (.iconst 1, 1) := by decide +kernel
theorem dM_follows_61 : decode cM_follows 61 = .ok (.iadd, 1) := by decide +kernel
theorem dM_follows_62 : decode cM_follows 62 = .ok (.iconst 1, 1) := by decide +kernel
theorem dM_follows_63 : decode cM_follows 63 = .ok (.iconst 2, 1) := by decide +kernel
theorem dM_follows_64 : decode cM_follows 64 = .ok (.invokevirtual 124, 3) := by decide +kernel
theorem dM_follows_67 : decode cM_follows 67 = .ok (.ifCond .eq 7, 3) := by decide +kernel
theorem dM_follows_70 : decode cM_follows 70 = .ok (.iconst 1, 1) := by decide +kernel
theorem dM_follows_71 : decode cM_follows 71 = .ok (.goto 4, 3) := by decide +kernel
theorem dM_follows_74 : decode cM_follows 74 = .ok (.iconst 0, 1) := by decide +kernel
theorem dM_follows_75 : decode cM_follows 75 = .ok (.ireturn, 1) := by decide +kernel
theorem dM_count_0 : decode cM_count 0 = .ok (.aload_n 0, 1) := by decide +kernel
theorem dM_count_1 : decode cM_count 1 = .ok (.iconst 0, 1) := by decide +kernel
theorem dM_count_2 : decode cM_count 2 = .ok (.putfield 66, 3) := by decide +kernel
theorem dM_count_5 : decode cM_count 5 = .ok (.iload_n 1, 1) := by decide +kernel
theorem dM_count_6 : decode cM_count 6 = .ok (.invokestatic 74, 3) := by decide +kernel
theorem dM_count_9 : decode cM_count 9 = .ok (.ifCond .eq 9, 3) := by decide +kernel
theorem dM_count_12 : decode cM_count 12 = .ok (.aload_n 0, 1) := by decide +kernel
theorem dM_count_13 : decode cM_count 13 = .ok (.iconst 1, 1) := by decide +kernel
theorem dM_count_14 : decode cM_count 14 = .ok (.invokevirtual 78, 3) := by decide +kernel
theorem dM_count_17 : decode cM_count 17 = .ok (.ireturn, 1) := by decide +kernel
theorem dM_count_18 : decode cM_count 18 = .ok (.iload_n 2, 1) := by decide +kernel
theorem dM_count_19 : decode cM_count 19 = .ok (.tableswitch 56 0 3 #[29, 36, 43, 43], 29) := by decide +kernel
theorem dM_count_48 : decode cM_count 48 = .ok (.aload_n 0, 1) := by decide +kernel
theorem dM_count_49 : decode cM_count 49 = .ok (.getfield 37, 3) := by decide +kernel
theorem dM_count_52 : decode cM_count 52 = .ok (.iload_n 1, 1) := by decide +kernel
theorem dM_count_53 : decode cM_count 53 = .ok (.iaload, 1) := by decide +kernel
theorem dM_count_54 : decode cM_count 54 = .ok (.ireturn, 1) := by decide +kernel
theorem dM_count_55 : decode cM_count 55 = .ok (.aload_n 0, 1) := by decide +kernel
theorem dM_count_56 : decode cM_count 56 = .ok (.getfield 55, 3) := by decide +kernel
theorem dM_count_59 : decode cM_count 59 = .ok (.iload_n 1, 1) := by decide +kernel
theorem dM_count_60 : decode cM_count 60 = .ok (.iaload, 1) := by decide +kernel
theorem dM_count_61 : decode cM_count 61 = .ok (.ireturn, 1) := by decide +kernel
theorem dM_count_62 : decode cM_count 62 = .ok (.aload_n 0, 1) := by decide +kernel
theorem dM_count_63 : decode cM_count 63 = .ok (.getfield 19, 3) := by decide +kernel
theorem dM_count_66 : decode cM_count 66 = .ok (.iconst 2, 1) := by decide +kernel
theorem dM_count_67 : decode cM_count 67 = .ok (.iload_n 1, 1) := by decide +kernel
theorem dM_count_68 : decode cM_count 68 = .ok (.imul, 1) := by decide +kernel
theorem dM_count_69 : decode cM_count 69 = .ok (.iload_n 2, 1) := by decide +kernel
theorem dM_count_70 : decode cM_count 70 = .ok (.iadd, 1) := by decide +kernel
theorem dM_count_71 : decode cM_count 71 = .ok (.iconst 2, 1) := by decide +kernel
theorem dM_count_72 : decode cM_count 72 = .ok (.isub, 1) := by decide +kernel
theorem dM_count_73 : decode cM_count 73 = .ok (.iaload, 1) := by decide +kernel
theorem dM_count_74 : decode cM_count 74 = .ok (.ireturn, 1) := by decide +kernel
theorem dM_count_75 : decode cM_count 75 = .ok (.aload_n 0, 1) := by decide +kernel
theorem dM_count_76 : decode cM_count 76 = .ok (.iconst 1, 1) := by decide +kernel
theorem dM_count_77 : decode cM_count 77 = .ok (.invokevirtual 78, 3) := by decide +kernel
theorem dM_count_80 : decode cM_count 80 = .ok (.ireturn, 1) := by decide +kernel
