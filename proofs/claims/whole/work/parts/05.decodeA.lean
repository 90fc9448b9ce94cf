theorem dK_init_0 : decode cK_init 0 = .ok (.aload_n 0, 1) := by decide +kernel
theorem dK_init_1 : decode cK_init 1 = .ok (.invokespecial 3, 3) := by decide +kernel
theorem dK_init_4 : decode cK_init 4 = .ok (.aload_n 0, 1) := by decide +kernel
theorem dK_init_5 : decode cK_init 5 = .ok (.sipush 144, 3) := by decide +kernel
theorem dK_init_8 : decode cK_init 8 = .ok (.newarray .int, 2) := by decide +kernel
theorem dK_init_10 : decode cK_init 10 = .ok (.putfield 9, 3) := by decide +kernel
theorem dK_init_13 : decode cK_init 13 = .ok (.return_, 1) := by decide +kernel
theorem dR_init_0 : decode cR_init 0 = .ok (.aload_n 0, 1) := by decide +kernel
theorem dR_init_1 : decode cR_init 1 = .ok (.invokespecial 3, 3) := by decide +kernel
theorem dR_init_4 : decode cR_init 4 = .ok (.aload_n 0, 1) := by decide +kernel
theorem dR_init_5 : decode cR_init 5 = .ok (.iconst 4, 1) := by decide +kernel
theorem dR_init_6 : decode cR_init 6 = .ok (.newarray .int, 2) := by decide +kernel
theorem dR_init_8 : decode cR_init 8 = .ok (.putfield 9, 3) := by decide +kernel
theorem dR_init_11 : decode cR_init 11 = .ok (.aload_n 0, 1) := by decide +kernel
theorem dR_init_12 : decode cR_init 12 = .ok (.iconst 4, 1) := by decide +kernel
theorem dR_init_13 : decode cR_init 13 = .ok (.newarray .int, 2) := by decide +kernel
theorem dR_init_15 : decode cR_init 15 = .ok (.putfield 15, 3) := by decide +kernel
theorem dR_init_18 : decode cR_init 18 = .ok (.aload_n 0, 1) := by decide +kernel
theorem dR_init_19 : decode cR_init 19 = .ok (.iconst 4, 1) := by decide +kernel
theorem dR_init_20 : decode cR_init 20 = .ok (.newarray .int, 2) := by decide +kernel
theorem dR_init_22 : decode cR_init 22 = .ok (.putfield 18, 3) := by decide +kernel
theorem dR_init_25 : decode cR_init 25 = .ok (.return_, 1) := by decide +kernel
theorem dS_init_0 : decode cS_init 0 = .ok (.aload_n 0, 1) := by decide +kernel
theorem dS_init_1 : decode cS_init 1 = .ok (.invokespecial 3, 3) := by decide +kernel
theorem dS_init_4 : decode cS_init 4 = .ok (.return_, 1) := by decide +kernel
theorem dR_append_0 : decode cR_append 0 = .ok (.aload_n 0, 1) := by decide +kernel
theorem dR_append_1 : decode cR_append 1 = .ok (.getfield 9, 3) := by decide +kernel
theorem dR_append_4 : decode cR_append 4 = .ok (.aload_n 0, 1) := by decide +kernel
theorem dR_append_5 : decode cR_append 5 = .ok (.getfield 21, 3) := by decide +kernel
theorem dR_append_8 : decode cR_append 8 = .ok (.iload_n 1, 1) := by decide +kernel
theorem dR_append_9 : decode cR_append 9 = .ok (.iastore, 1) := by decide +kernel
theorem dR_append_10 : decode cR_append 10 = .ok (.aload_n 0, 1) := by decide +kernel
theorem dR_append_11 : decode cR_append 11 = .ok (.getfield 15, 3) := by decide +kernel
theorem dR_append_14 : decode cR_append 14 = .ok (.aload_n 0, 1) := by decide +kernel
theorem dR_append_15 : decode cR_append 15 = .ok (.getfield 21, 3) := by decide +kernel
theorem dR_append_18 : decode cR_append 18 = .ok (.iload_n 2, 1) := by decide +kernel
theorem dR_append_19 : decode cR_append 19 = .ok (.iastore, 1) := by decide +kernel
theorem dR_append_20 : decode cR_append 20 = .ok (.aload_n 0, 1) := by decide +kernel
theorem dR_append_21 : decode cR_append 21 = .ok (.getfield 18, 3) := by decide +kernel
theorem dR_append_24 : decode cR_append 24 = .ok (.aload_n 0, 1) := by decide +kernel
theorem dR_append_25 : decode cR_append 25 = .ok (.getfield 21, 3) := by decide +kernel
theorem dR_append_28 : decode cR_append 28 = .ok (.iload_n 3, 1) := by decide +kernel
theorem dR_append_29 : decode cR_append 29 = .ok (.iastore, 1) := by decide +kernel
theorem dR_append_30 : decode cR_append 30 = .ok (.aload_n 0, 1) := by decide +kernel
theorem dR_append_31 : decode cR_append 31 = .ok (.dup, 1) := by decide +kernel
theorem dR_append_32 : decode cR_append 32 = .ok (.getfield 21, 3) := by decide +kernel
theorem dR_append_35 : decode cR_append 35 = .ok (.iconst 1, 1) := by decide +kernel
theorem dR_append_36 : decode cR_append 36 = .ok (.iadd, 1) := by decide +kernel
theorem dR_append_37 : decode cR_append 37 = .ok (.putfield 21, 3) := by decide +kernel
theorem dR_append_40 : decode cR_append 40 = .ok (.aload_n 0, 1) := by decide +kernel
theorem dR_append_41 : decode cR_append 41 = .ok (.getfield 21, 3) := by decide +kernel
theorem dR_append_44 : decode cR_append 44 = .ok (.ireturn, 1) := by decide +kernel
theorem dS_write_0 : decode cS_write 0 = .ok (.aload_n 0, 1) := by decide +kernel
theorem dS_write_1 : decode cS_write 1 = .ok (.iload_n 1, 1) := by decide +kernel
theorem dS_write_2 : decode cS_write 2 = .ok (.putfield 9, 3) := by decide +kernel
theorem dS_write_5 : decode cS_write 5 = .ok (.aload_n 0, 1) := by decide +kernel
theorem dS_write_6 : decode cS_write 6 = .ok (.iload_n 2, 1) := by decide +kernel
theorem dS_write_7 : decode cS_write 7 = .ok (.putfield 15, 3) := by decide +kernel
theorem dS_write_10 : decode cS_write 10 = .ok (.aload_n 0, 1) := by decide +kernel
theorem dS_write_11 : decode cS_write 11 = .ok (.iload_n 3, 1) := by decide +kernel
theorem dS_write_12 : decode cS_write 12 = .ok (.putfield 18, 3) := by decide +kernel
theorem dS_write_15 : decode cS_write 15 = .ok (.aload_n 0, 1) := by decide +kernel
theorem dS_write_16 : decode cS_write 16 = .ok (.iload 4, 2) := by decide +kernel
theorem dS_write_18 : decode cS_write 18 = .ok (.putfield 21, 3) := by decide +kernel
theorem dS_write_21 : decode cS_write 21 = .ok (.aload_n 0, 1) := by decide +kernel
theorem dS_write_22 : decode cS_write 22 = .ok (.iload 5, 2) := by decide +kernel
theorem dS_write_24 : decode cS_write 24 = .ok (.putfield 24, 3) := by decide +kernel
theorem dS_write_27 : decode cS_write 27 = .ok (.aload_n 0, 1) := by decide +kernel
theorem dS_write_28 : decode cS_write 28 = .ok (.iconst (-1), 1) := by decide +kernel
theorem dS_write_29 : decode cS_write 29 = .ok (.putfield 27, 3) := by decide +kernel
theorem dS_write_32 : decode cS_write 32 = .ok (.return_, 1) := by decide +kernel
theorem dK_forgetAll_0 : decode cK_forgetAll 0 = .ok (.aload_n 0, 1) := by decide +kernel
theorem dK_forgetAll_1 : decode cK_forgetAll 1 = .ok (.getfield 9, 3) := by decide +kernel
theorem dK_forgetAll_4 : decode cK_forgetAll 4 = .ok (.ldc 15, 2) := by decide +kernel
theorem dK_forgetAll_6 : decode cK_forgetAll 6 = .ok (.invokestatic 16, 3) := by decide +kernel
theorem dK_forgetAll_9 : decode cK_forgetAll 9 = .ok (.iconst 0, 1) := by decide +kernel
theorem dK_forgetAll_10 : decode cK_forgetAll 10 = .ok (.istore_n 1, 1) := by decide +kernel
theorem dK_forgetAll_11 : decode cK_forgetAll 11 = .ok (.iload_n 1, 1) := by decide +kernel
theorem dK_forgetAll_12 : decode cK_forgetAll 12 = .ok (.bipush 12, 2) := by decide +kernel
theorem dK_forgetAll_14 : decode cK_forgetAll 14 = .ok (.if_icmp .ge 21, 3) := by decide +kernel
theorem dK_forgetAll_17 : decode cK_forgetAll 17 = .ok (.aload_n 0, 1) := by decide +kernel
theorem dK_forgetAll_18 : decode cK_forgetAll 18 = .ok (.getfield 9, 3) := by decide +kernel
theorem dK_forgetAll_21 : decode cK_forgetAll 21 = .ok (.iload_n 1, 1) := by decide +kernel
theorem dK_forgetAll_22 : decode cK_forgetAll 22 = .ok (.bipush 12, 2) := by decide +kernel
theorem dK_forgetAll_24 : decode cK_forgetAll 24 = .ok (.imul, 1) := by decide +kernel
theorem dK_forgetAll_25 : decode cK_forgetAll 25 = .ok (.iload_n 1, 1) := by decide +kernel
theorem dK_forgetAll_26 : decode cK_forgetAll 26 = .ok (.iadd, 1) := by decide +kernel
theorem dK_forgetAll_27 : decode cK_forgetAll 27 = .ok (.iconst 0, 1) := by decide +kernel
theorem dK_forgetAll_28 : decode cK_forgetAll 28 = .ok (.iastore, 1) := by decide +kernel
theorem dK_forgetAll_29 : decode cK_forgetAll 29 = .ok (.iinc 1 1, 3) := by decide +kernel
theorem dK_forgetAll_32 : decode cK_forgetAll 32 = .ok (.goto (-21), 3) := by decide +kernel
theorem dK_forgetAll_35 : decode cK_forgetAll 35 = .ok (.aload_n 0, 1) := by decide +kernel
theorem dK_forgetAll_36 : decode cK_forgetAll 36 = .ok (.iconst 1, 1) := by decide +kernel
theorem dK_forgetAll_37 : decode cK_forgetAll 37 = .ok (.putfield 22, 3) := by decide +kernel
theorem dK_forgetAll_40 : decode cK_forgetAll 40 = .ok (.return_, 1) := by decide +kernel
theorem dR_learnedBy_0 : decode cR_learnedBy 0 = .ok (.iconst 0, 1) := by decide +kernel
theorem dR_learnedBy_1 : decode cR_learnedBy 1 = .ok (.istore 4, 2) := by decide +kernel
theorem dR_learnedBy_3 : decode cR_learnedBy 3 = .ok (.iload 4, 2) := by decide +kernel
theorem dR_learnedBy_5 : decode cR_learnedBy 5 = .ok (.aload_n 0, 1) := by decide +kernel
theorem dR_learnedBy_6 : decode cR_learnedBy 6 = .ok (.getfield 21, 3) := by decide +kernel
theorem dR_learnedBy_9 : decode cR_learnedBy 9 = .ok (.if_icmp .ge 44, 3) := by decide +kernel
theorem dR_learnedBy_12 : decode cR_learnedBy 12 = .ok (.aload_n 1, 1) := by decide +kernel
theorem dR_learnedBy_13 : decode cR_learnedBy 13 = .ok (.aload_n 0, 1) := by decide +kernel
theorem dR_learnedBy_14 : decode cR_learnedBy 14 = .ok (.getfield 9, 3) := by decide +kernel
theorem dR_learnedBy_17 : decode cR_learnedBy 17 = .ok (.iload 4, 2) := by decide +kernel
theorem dR_learnedBy_19 : decode cR_learnedBy 19 = .ok (.iaload, 1) := by decide +kernel
theorem dR_learnedBy_20 : decode cR_learnedBy 20 = .ok (.iload_n 2, 1) := by decide +kernel
theorem dR_learnedBy_21 : decode cR_learnedBy 21 = .ok (.iload_n 3, 1) := by decide +kernel
theorem dR_learnedBy_22 : decode cR_learnedBy 22 = .ok (.invokestatic 25, 3) := by decide +kernel
theorem dR_learnedBy_25 : decode cR_learnedBy 25 = .ok (.aload_n 0, 1) := by decide +kernel
theorem dR_learnedBy_26 : decode cR_learnedBy 26 = .ok (.getfield 15, 3) := by decide +kernel
theorem dR_learnedBy_29 : decode cR_learnedBy 29 = .ok (.iload 4, 2) := by decide +kernel
theorem dR_learnedBy_31 : decode cR_learnedBy 31 = .ok (.iaload, 1) := by decide +kernel
theorem dR_learnedBy_32 : decode cR_learnedBy 32 = .ok (.iload_n 2, 1) := by decide +kernel
theorem dR_learnedBy_33 : decode cR_learnedBy 33 = .ok (.iload_n 3, 1) := by decide +kernel
theorem dR_learnedBy_34 : decode cR_learnedBy 34 = .ok (.invokestatic 25, 3) := by decide +kernel
theorem dR_learnedBy_37 : decode cR_learnedBy 37 = .ok (.aload_n 0, 1) := by decide +kernel
theorem dR_learnedBy_38 : decode cR_learnedBy 38 = .ok (.getfield 18, 3) := by decide +kernel
theorem dR_learnedBy_41 : decode cR_learnedBy 41 = .ok (.iload 4, 2) := by decide +kernel
theorem dR_learnedBy_43 : decode cR_learnedBy 43 = .ok (.iaload, 1) := by decide +kernel
theorem dR_learnedBy_44 : decode cR_learnedBy 44 = .ok (.invokevirtual 29, 3) := by decide +kernel
theorem dR_learnedBy_47 : decode cR_learnedBy 47 = .ok (.iinc 4 1, 3) := by decide +kernel
theorem dR_learnedBy_50 : decode cR_learnedBy 50 = .ok (.goto (-47), 3) := by decide +kernel
theorem dR_learnedBy_53 : decode cR_learnedBy 53 = .ok (.return_, 1) := by decide +kernel
theorem dR_nameFor_0 : decode cR_nameFor 0 = .ok (.iload_n 0, 1) := by decide +kernel
theorem dR_nameFor_1 : decode cR_nameFor 1 = .ok (.iconst 1, 1) := by decide +kernel
theorem dR_nameFor_2 : decode cR_nameFor 2 = .ok (.if_icmp .ne 5, 3) := by decide +kernel
theorem dR_nameFor_5 : decode cR_nameFor 5 = .ok (.iload_n 1, 1) := by decide +kernel
theorem dR_nameFor_6 : decode cR_nameFor 6 = .ok (.ireturn, 1) := by decide +kernel
theorem dR_nameFor_7 : decode cR_nameFor 7 = .ok (.iload_n 0, 1) := by decide +kernel
theorem dR_nameFor_8 : decode cR_nameFor 8 = .ok (.iconst 2, 1) := by decide +kernel
theorem dR_nameFor_9 : decode cR_nameFor 9 = .ok (.if_icmp .ne 7, 3) := by decide +kernel
theorem dR_nameFor_12 : decode cR_nameFor 12 = .ok (.iload_n 2, 1) := by decide +kernel
theorem dR_nameFor_13 : decode cR_nameFor 13 = .ok (.goto 4, 3) := by decide +kernel
theorem dR_nameFor_16 : decode cR_nameFor 16 = .ok (.iload_n 0, 1) := by decide +kernel
theorem dR_nameFor_17 : decode cR_nameFor 17 = .ok (.ireturn, 1) := by decide +kernel
theorem dK_learn_0 : decode cK_learn 0 = .ok (.aload_n 0, 1) := by decide +kernel
theorem dK_learn_1 : decode cK_learn 1 = .ok (.getfield 22, 3) := by decide +kernel
theorem dK_learn_4 : decode cK_learn 4 = .ok (.ifCond .eq 18, 3) := by decide +kernel
theorem dK_learn_7 : decode cK_learn 7 = .ok (.aload_n 0, 1) := by decide +kernel
theorem dK_learn_8 : decode cK_learn 8 = .ok (.getfield 9, 3) := by decide +kernel
theorem dK_learn_11 : decode cK_learn 11 = .ok (.iload_n 1, 1) := by decide +kernel
theorem dK_learn_12 : decode cK_learn 12 = .ok (.bipush 12, 2) := by decide +kernel
theorem dK_learn_14 : decode cK_learn 14 = .ok (.imul, 1) := by decide +kernel
theorem dK_learn_15 : decode cK_learn 15 = .ok (.iload_n 2, 1) := by decide +kernel
theorem dK_learn_16 : decode cK_learn 16 = .ok (.iadd, 1) := by decide +kernel
theorem dK_learn_17 : decode cK_learn 17 = .ok (.iaload, 1) := by decide +kernel
theorem dK_learn_18 : decode cK_learn 18 = .ok (.iload_n 3, 1) := by decide +kernel
theorem dK_learn_19 : decode cK_learn 19 = .ok (.if_icmp .gt 4, 3) := by decide +kernel
theorem dK_learn_22 : decode cK_learn 22 = .ok (.return_, 1) := by decide +kernel
theorem dK_learn_23 : decode cK_learn 23 = .ok (.aload_n 0, 1) := by decide +kernel
theorem dK_learn_24 : decode cK_learn 24 = .ok (.getfield 9, 3) := by decide +kernel
theorem dK_learn_27 : decode cK_learn 27 = .ok (.iload_n 2, 1) := by decide +kernel
theorem dK_learn_28 : decode cK_learn 28 = .ok (.bipush 12, 2) := by decide +kernel
theorem dK_learn_30 : decode cK_learn 30 = .ok (.imul, 1) := by decide +kernel
theorem dK_learn_31 : decode cK_learn 31 = .ok (.iload_n 1, 1) := by decide +kernel
theorem dK_learn_32 : decode cK_learn 32 = .ok (.iadd, 1) := by decide +kernel
theorem dK_learn_33 : decode cK_learn 33 = .ok (.iaload, 1) := by decide +kernel
theorem dK_learn_34 : decode cK_learn 34 = .ok (.istore 4, 2) := by decide +kernel
theorem dK_learn_36 : decode cK_learn 36 = .ok (.iload 4, 2) := by decide +kernel
theorem dK_learn_38 : decode cK_learn 38 = .ok (.ldc 15, 2) := by decide +kernel
theorem dK_learn_40 : decode cK_learn 40 = .ok (.if_icmp .eq 16, 3) := by decide +kernel
theorem dK_learn_43 : decode cK_learn 43 = .ok (.iload 4, 2) := by decide +kernel
theorem dK_learn_45 : decode cK_learn 45 = .ok (.iload_n 3, 1) := by decide +kernel
theorem dK_learn_46 : decode cK_learn 46 = .ok (.iadd, 1) := by decide +kernel
theorem dK_learn_47 : decode cK_learn 47 = .ok (.ifCond .ge 9, 3) := by decide +kernel
theorem dK_learn_50 : decode cK_learn 50 = .ok (.aload_n 0, 1) := by decide +kernel
theorem dK_learn_51 : decode cK_learn 51 = .ok (.iconst 0, 1) := by decide +kernel
theorem dK_learn_52 : decode cK_learn 52 = .ok (.putfield 22, 3) := by decide +kernel
theorem dK_learn_55 : decode cK_learn 55 = .ok (.return_, 1) := by decide +kernel
theorem dK_learn_56 : decode cK_learn 56 = .ok (.iconst 0, 1) := by decide +kernel
theorem dK_learn_57 : decode cK_learn 57 = .ok (.istore 5, 2) := by decide +kernel
theorem dK_learn_59 : decode cK_learn 59 = .ok (.iload 5, 2) := by decide +kernel
theorem dK_learn_61 : decode cK_learn 61 = .ok (.bipush 12, 2) := by decide +kernel
theorem dK_learn_63 : decode cK_learn 63 = .ok (.if_icmp .ge 110, 3) := by decide +kernel
theorem dK_learn_66 : decode cK_learn 66 = .ok (.aload_n 0, 1) := by decide +kernel
theorem dK_learn_67 : decode cK_learn 67 = .ok (.getfield 9, 3) := by decide +kernel
theorem dK_learn_70 : decode cK_learn 70 = .ok (.iload 5, 2) := by decide +kernel
theorem dK_learn_72 : decode cK_learn 72 = .ok (.bipush 12, 2) := by decide +kernel
theorem dK_learn_74 : decode cK_learn 74 = .ok (.imul, 1) := by decide +kernel
theorem dK_learn_75 : decode cK_learn 75 = .ok (.iload_n 1, 1) := by decide +kernel
theorem dK_learn_76 : decode cK_learn 76 = .ok (.iadd, 1) := by decide +kernel
theorem dK_learn_77 : decode cK_learn 77 = .ok (.iaload, 1) := by decide +kernel
theorem dK_learn_78 : decode cK_learn 78 = .ok (.istore 6, 2) := by decide +kernel
theorem dK_learn_80 : decode cK_learn 80 = .ok (.iconst 0, 1) := by decide +kernel
theorem dK_learn_81 : decode cK_learn 81 = .ok (.istore 7, 2) := by decide +kernel
theorem dK_learn_83 : decode cK_learn 83 = .ok (.iload 7, 2) := by decide +kernel
theorem dK_learn_85 : decode cK_learn 85 = .ok (.bipush 12, 2) := by decide +kernel
theorem dK_learn_87 : decode cK_learn 87 = .ok (.if_icmp .ge 80, 3) := by decide +kernel
theorem dK_learn_90 : decode cK_learn 90 = .ok (.iload 6, 2) := by decide +kernel
theorem dK_learn_92 : decode cK_learn 92 = .ok (.ldc 15, 2) := by decide +kernel
theorem dK_learn_94 : decode cK_learn 94 = .ok (.if_icmp .eq 73, 3) := by decide +kernel
theorem dK_learn_97 : decode cK_learn 97 = .ok (.aload_n 0, 1) := by decide +kernel
theorem dK_learn_98 : decode cK_learn 98 = .ok (.getfield 9, 3) := by decide +kernel
theorem dK_learn_101 : decode cK_learn 101 = .ok (.iload_n 2, 1) := by decide +kernel
theorem dK_learn_102 : decode cK_learn 102 = .ok (.bipush 12, 2) := by decide +kernel
theorem dK_learn_104 : decode cK_learn 104 = .ok (.imul, 1) := by decide +kernel
theorem dK_learn_105 : decode cK_learn 105 = .ok (.iload 7, 2) := by decide +kernel
theorem dK_learn_107 : decode cK_learn 107 = .ok (.iadd, 1) := by decide +kernel
theorem dK_learn_108 : decode cK_learn 108 = .ok (.iaload, 1) := by decide +kernel
theorem dK_learn_109 : decode cK_learn 109 = .ok (.istore 8, 2) := by decide +kernel
theorem dK_learn_111 : decode cK_learn 111 = .ok (.iload 8, 2) := by decide +kernel
theorem dK_learn_113 : decode cK_learn 113 = .ok (.ldc 15, 2) := by decide +kernel
theorem dK_learn_115 : decode cK_learn 115 = .ok (.if_icmp .eq 46, 3) := by decide +kernel
theorem dK_learn_118 : decode cK_learn 118 = .ok (.iload 6, 2) := by decide +kernel
theorem dK_learn_120 : decode cK_learn 120 = .ok (.iload_n 3, 1) := by decide +kernel
theorem dK_learn_121 : decode cK_learn 121 = .ok (.iadd, 1) := by decide +kernel
theorem dK_learn_122 : decode cK_learn 122 = .ok (.iload 8, 2) := by decide +kernel
theorem dK_learn_124 : decode cK_learn 124 = .ok (.iadd, 1) := by decide +kernel
theorem dK_learn_125 : decode cK_learn 125 = .ok (.aload_n 0, 1) := by decide +kernel
theorem dK_learn_126 : decode cK_learn 126 = .ok (.getfield 9, 3) := by decide +kernel
theorem dK_learn_129 : decode cK_learn 129 = .ok (.iload 5, 2) := by decide +kernel
theorem dK_learn_131 : decode cK_learn 131 = .ok (.bipush 12, 2) := by decide +kernel
theorem dK_learn_133 : decode cK_learn 133 = .ok (.imul, 1) := by decide +kernel
theorem dK_learn_134 : decode cK_learn 134 = .ok (.iload 7, 2) := by decide +kernel
theorem dK_learn_136 : decode cK_learn 136 = .ok (.iadd, 1) := by decide +kernel
theorem dK_learn_137 : decode cK_learn 137 = .ok (.iaload, 1) := by decide +kernel
theorem dK_learn_138 : decode cK_learn 138 = .ok (.if_icmp .ge 23, 3) := by decide +kernel
theorem dK_learn_141 : decode cK_learn 141 = .ok (.aload_n 0, 1) := by decide +kernel
theorem dK_learn_142 : decode cK_learn 142 = .ok (.getfield 9, 3) := by decide +kernel
theorem dK_learn_145 : decode cK_learn 145 = .ok (.iload 5, 2) := by decide +kernel
theorem dK_learn_147 : decode cK_learn 147 = .ok (.bipush 12, 2) := by decide +kernel
theorem dK_learn_149 : decode cK_learn 149 = .ok (.imul, 1) := by decide +kernel
theorem dK_learn_150 : decode cK_learn 150 = .ok (.iload 7, 2) := by decide +kernel
theorem dK_learn_152 : decode cK_learn 152 = .ok (.iadd, 1) := by decide +kernel
theorem dK_learn_153 : decode cK_learn 153 = .ok (.iload 6, 2) := by decide +kernel
theorem dK_learn_155 : decode cK_learn 155 = .ok (.iload_n 3, 1) := by decide +kernel
theorem dK_learn_156 : decode cK_learn 156 = .ok (.iadd, 1) := by decide +kernel
theorem dK_learn_157 : decode cK_learn 157 = .ok (.iload 8, 2) := by decide +kernel
theorem dK_learn_159 : decode cK_learn 159 = .ok (.iadd, 1) := by decide +kernel
theorem dK_learn_160 : decode cK_learn 160 = .ok (.iastore, 1) := by decide +kernel
theorem dK_learn_161 : decode cK_learn 161 = .ok (.iinc 7 1, 3) := by decide +kernel
theorem dK_learn_164 : decode cK_learn 164 = .ok (.goto (-81), 3) := by decide +kernel
theorem dK_learn_167 : decode cK_learn 167 = .ok (.iinc 5 1, 3) := by decide +kernel
theorem dK_learn_170 : decode cK_learn 170 = .ok (.goto (-111), 3) := by decide +kernel
theorem dK_learn_173 : decode cK_learn 173 = .ok (.return_, 1) := by decide +kernel
theorem dK_bound_0 : decode cK_bound 0 = .ok (.aload_n 0, 1) := by decide +kernel
theorem dK_bound_1 : decode cK_bound 1 = .ok (.getfield 9, 3) := by decide +kernel
theorem dK_bound_4 : decode cK_bound 4 = .ok (.iload_n 1, 1) := by decide +kernel
theorem dK_bound_5 : decode cK_bound 5 = .ok (.bipush 12, 2) := by decide +kernel
theorem dK_bound_7 : decode cK_bound 7 = .ok (.imul, 1) := by decide +kernel
theorem dK_bound_8 : decode cK_bound 8 = .ok (.iload_n 2, 1) := by decide +kernel
theorem dK_bound_9 : decode cK_bound 9 = .ok (.iadd, 1) := by decide +kernel
theorem dK_bound_10 : decode cK_bound 10 = .ok (.iaload, 1) := by decide +kernel
theorem dK_bound_11 : decode cK_bound 11 = .ok (.ireturn, 1) := by decide +kernel
theorem dK_give_0 : decode cK_give 0 = .ok (.iconst 0, 1) := by decide +kernel
theorem dK_give_1 : decode cK_give 1 = .ok (.istore 4, 2) := by decide +kernel
theorem dK_give_3 : decode cK_give 3 = .ok (.iload 4, 2) := by decide +kernel
theorem dK_give_5 : decode cK_give 5 = .ok (.bipush 12, 2) := by decide +kernel
theorem dK_give_7 : decode cK_give 7 = .ok (.if_icmp .ge 72, 3) := by decide +kernel
theorem dK_give_10 : decode cK_give 10 = .ok (.iload 4, 2) := by decide +kernel
theorem dK_give_12 : decode cK_give 12 = .ok (.iload_n 1, 1) := by decide +kernel
theorem dK_give_13 : decode cK_give 13 = .ok (.if_icmp .eq 60, 3) := by decide +kernel
theorem dK_give_16 : decode cK_give 16 = .ok (.aload_n 0, 1) := by decide +kernel
theorem dK_give_17 : decode cK_give 17 = .ok (.getfield 9, 3) := by decide +kernel
theorem dK_give_20 : decode cK_give 20 = .ok (.iload_n 1, 1) := by decide +kernel
theorem dK_give_21 : decode cK_give 21 = .ok (.bipush 12, 2) := by decide +kernel
theorem dK_give_23 : decode cK_give 23 = .ok (.imul, 1) := by decide +kernel
theorem dK_give_24 : decode cK_give 24 = .ok (.iload 4, 2) := by decide +kernel
theorem dK_give_26 : decode cK_give 26 = .ok (.iadd, 1) := by decide +kernel
theorem dK_give_27 : decode cK_give 27 = .ok (.aload_n 0, 1) := by decide +kernel
theorem dK_give_28 : decode cK_give 28 = .ok (.getfield 9, 3) := by decide +kernel
theorem dK_give_31 : decode cK_give 31 = .ok (.iload_n 2, 1) := by decide +kernel
theorem dK_give_32 : decode cK_give 32 = .ok (.bipush 12, 2) := by decide +kernel
theorem dK_give_34 : decode cK_give 34 = .ok (.imul, 1) := by decide +kernel
theorem dK_give_35 : decode cK_give 35 = .ok (.iload 4, 2) := by decide +kernel
theorem dK_give_37 : decode cK_give 37 = .ok (.iadd, 1) := by decide +kernel
theorem dK_give_38 : decode cK_give 38 = .ok (.iaload, 1) := by decide +kernel
theorem dK_give_39 : decode cK_give 39 = .ok (.iload_n 3, 1) := by decide +kernel
theorem dK_give_40 : decode cK_give 40 = .ok (.invokestatic 32, 3) := by decide +kernel
theorem dK_give_43 : decode cK_give 43 = .ok (.iastore, 1) := by decide +kernel
theorem dK_give_44 : decode cK_give 44 = .ok (.aload_n 0, 1) := by decide +kernel
theorem dK_give_45 : decode cK_give 45 = .ok (.getfield 9, 3) := by decide +kernel
theorem dK_give_48 : decode cK_give 48 = .ok (.iload 4, 2) := by decide +kernel
theorem dK_give_50 : decode cK_give 50 = .ok (.bipush 12, 2) := by decide +kernel
theorem dK_give_52 : decode cK_give 52 = .ok (.imul, 1) := by decide +kernel
theorem dK_give_53 : decode cK_give 53 = .ok (.iload_n 1, 1) := by decide +kernel
theorem dK_give_54 : decode cK_give 54 = .ok (.iadd, 1) := by decide +kernel
theorem dK_give_55 : decode cK_give 55 = .ok (.aload_n 0, 1) := by decide +kernel
theorem dK_give_56 : decode cK_give 56 = .ok (.getfield 9, 3) := by decide +kernel
theorem dK_give_59 : decode cK_give 59 = .ok (.iload 4, 2) := by decide +kernel
theorem dK_give_61 : decode cK_give 61 = .ok (.bipush 12, 2) := by decide +kernel
theorem dK_give_63 : decode cK_give 63 = .ok (.imul, 1) := by decide +kernel
theorem dK_give_64 : decode cK_give 64 = .ok (.iload_n 2, 1) := by decide +kernel
theorem dK_give_65 : decode cK_give 65 = .ok (.iadd, 1) := by decide +kernel
theorem dK_give_66 : decode cK_give 66 = .ok (.iaload, 1) := by decide +kernel
theorem dK_give_67 : decode cK_give 67 = .ok (.iload_n 3, 1) := by decide +kernel
theorem dK_give_68 : decode cK_give 68 = .ok (.ineg, 1) := by decide +kernel
theorem dK_give_69 : decode cK_give 69 = .ok (.invokestatic 32, 3) := by decide +kernel
theorem dK_give_72 : decode cK_give 72 = .ok (.iastore, 1) := by decide +kernel
theorem dK_give_73 : decode cK_give 73 = .ok (.iinc 4 1, 3) := by decide +kernel
theorem dK_give_76 : decode cK_give 76 = .ok (.goto (-73), 3) := by decide +kernel
theorem dK_give_79 : decode cK_give 79 = .ok (.return_, 1) := by decide +kernel
theorem dK_moved_0 : decode cK_moved 0 = .ok (.iload_n 0, 1) := by decide +kernel
theorem dK_moved_1 : decode cK_moved 1 = .ok (.ldc 15, 2) := by decide +kernel
theorem dK_moved_3 : decode cK_moved 3 = .ok (.if_icmp .ne 8, 3) := by decide +kernel
theorem dK_moved_6 : decode cK_moved 6 = .ok (.ldc 15, 2) := by decide +kernel
theorem dK_moved_8 : decode cK_moved 8 = .ok (.goto 6, 3) := by decide +kernel
theorem dK_moved_11 : decode cK_moved 11 = .ok (.iload_n 0, 1) := by decide +kernel
theorem dK_moved_12 : decode cK_moved 12 = .ok (.iload_n 1, 1) := by decide +kernel
theorem dK_moved_13 : decode cK_moved 13 = .ok (.iadd, 1) := by decide +kernel
theorem dK_moved_14 : decode cK_moved 14 = .ok (.ireturn, 1) := by decide +kernel
theorem dR_shownBy_0 : decode cR_shownBy 0 = .ok (.iconst 0, 1) := by decide +kernel
theorem dR_shownBy_1 : decode cR_shownBy 1 = .ok (.istore 4, 2) := by decide +kernel
theorem dR_shownBy_3 : decode cR_shownBy 3 = .ok (.iload 4, 2) := by decide +kernel
theorem dR_shownBy_5 : decode cR_shownBy 5 = .ok (.aload_n 0, 1) := by decide +kernel
theorem dR_shownBy_6 : decode cR_shownBy 6 = .ok (.getfield 21, 3) := by decide +kernel
theorem dR_shownBy_9 : decode cR_shownBy 9 = .ok (.if_icmp .ge 49, 3) := by decide +kernel
theorem dR_shownBy_12 : decode cR_shownBy 12 = .ok (.aload_n 1, 1) := by decide +kernel
theorem dR_shownBy_13 : decode cR_shownBy 13 = .ok (.aload_n 0, 1) := by decide +kernel
theorem dR_shownBy_14 : decode cR_shownBy 14 = .ok (.getfield 9, 3) := by decide +kernel
theorem dR_shownBy_17 : decode cR_shownBy 17 = .ok (.iload 4, 2) := by decide +kernel
theorem dR_shownBy_19 : decode cR_shownBy 19 = .ok (.iaload, 1) := by decide +kernel
theorem dR_shownBy_20 : decode cR_shownBy 20 = .ok (.iload_n 2, 1) := by decide +kernel
theorem dR_shownBy_21 : decode cR_shownBy 21 = .ok (.iload_n 3, 1) := by decide +kernel
theorem dR_shownBy_22 : decode cR_shownBy 22 = .ok (.invokestatic 25, 3) := by decide +kernel
theorem dR_shownBy_25 : decode cR_shownBy 25 = .ok (.aload_n 0, 1) := by decide +kernel
theorem dR_shownBy_26 : decode cR_shownBy 26 = .ok (.getfield 15, 3) := by decide +kernel
theorem dR_shownBy_29 : decode cR_shownBy 29 = .ok (.iload 4, 2) := by decide +kernel
theorem dR_shownBy_31 : decode cR_shownBy 31 = .ok (.iaload, 1) := by decide +kernel
theorem dR_shownBy_32 : decode cR_shownBy 32 = .ok (.iload_n 2, 1) := by decide +kernel
theorem dR_shownBy_33 : decode cR_shownBy 33 = .ok (.iload_n 3, 1) := by decide +kernel
theorem dR_shownBy_34 : decode cR_shownBy 34 = .ok (.invokestatic 25, 3) := by decide +kernel
theorem dR_shownBy_37 : decode cR_shownBy 37 = .ok (.aload_n 0, 1) := by decide +kernel
theorem dR_shownBy_38 : decode cR_shownBy 38 = .ok (.getfield 18, 3) := by decide +kernel
theorem dR_shownBy_41 : decode cR_shownBy 41 = .ok (.iload 4, 2) := by decide +kernel
theorem dR_shownBy_43 : decode cR_shownBy 43 = .ok (.iaload, 1) := by decide +kernel
theorem dR_shownBy_44 : decode cR_shownBy 44 = .ok (.invokevirtual 35, 3) := by decide +kernel
theorem dR_shownBy_47 : decode cR_shownBy 47 = .ok (.ifCond .ne 5, 3) := by decide +kernel
theorem dR_shownBy_50 : decode cR_shownBy 50 = .ok (.iconst 0, 1) := by decide +kernel
theorem dR_shownBy_51 : decode cR_shownBy 51 = .ok (.ireturn, 1) := by decide +kernel
theorem dR_shownBy_52 : decode cR_shownBy 52 = .ok (.iinc 4 1, 3) := by decide +kernel
theorem dR_shownBy_55 : decode cR_shownBy 55 = .ok (.goto (-52), 3) := by decide +kernel
theorem dR_shownBy_58 : decode cR_shownBy 58 = .ok (.iconst 1, 1) := by decide +kernel
theorem dR_shownBy_59 : decode cR_shownBy 59 = .ok (.ireturn, 1) := by decide +kernel
theorem dK_shows_0 : decode cK_shows 0 = .ok (.aload_n 0, 1) := by decide +kernel
theorem dK_shows_1 : decode cK_shows 1 = .ok (.getfield 9, 3) := by decide +kernel
theorem dK_shows_4 : decode cK_shows 4 = .ok (.iload_n 1, 1) := by decide +kernel
theorem dK_shows_5 : decode cK_shows 5 = .ok (.bipush 12, 2) := by decide +kernel
theorem dK_shows_7 : decode cK_shows 7 = .ok (.imul, 1) := by decide +kernel
theorem dK_shows_8 : decode cK_shows 8 = .ok (.iload_n 2, 1) := by decide +kernel
theorem dK_shows_9 : decode cK_shows 9 = .ok (.iadd, 1) := by decide +kernel
theorem dK_shows_10 : decode cK_shows 10 = .ok (.iaload, 1) := by decide +kernel
theorem dK_shows_11 : decode cK_shows 11 = .ok (.iload_n 3, 1) := by decide +kernel
theorem dK_shows_12 : decode cK_shows 12 = .ok (.if_icmp .gt 7, 3) := by decide +kernel
theorem dK_shows_15 : decode cK_shows 15 = .ok (.iconst 1, 1) := by decide +kernel
theorem dK_shows_16 : decode cK_shows 16 = .ok (.goto 4, 3) := by decide +kernel
theorem dK_shows_19 : decode cK_shows 19 = .ok (.iconst 0, 1) := by decide +kernel
theorem dK_shows_20 : decode cK_shows 20 = .ok (.ireturn, 1) := by decide +kernel
theorem dK_forget_0 : decode cK_forget 0 = .ok (.iconst 0, 1) := by decide +kernel
theorem dK_forget_1 : decode cK_forget 1 = .ok (.istore_n 2, 1) := by decide +kernel
theorem dK_forget_2 : decode cK_forget 2 = .ok (.iload_n 2, 1) := by decide +kernel
theorem dK_forget_3 : decode cK_forget 3 = .ok (.bipush 12, 2) := by decide +kernel
theorem dK_forget_5 : decode cK_forget 5 = .ok (.if_icmp .ge 40, 3) := by decide +kernel
theorem dK_forget_8 : decode cK_forget 8 = .ok (.iload_n 2, 1) := by decide +kernel
theorem dK_forget_9 : decode cK_forget 9 = .ok (.iload_n 1, 1) := by decide +kernel
theorem dK_forget_10 : decode cK_forget 10 = .ok (.if_icmp .eq 29, 3) := by decide +kernel
theorem dK_forget_13 : decode cK_forget 13 = .ok (.aload_n 0, 1) := by decide +kernel
theorem dK_forget_14 : decode cK_forget 14 = .ok (.getfield 9, 3) := by decide +kernel
theorem dK_forget_17 : decode cK_forget 17 = .ok (.iload_n 1, 1) := by decide +kernel
theorem dK_forget_18 : decode cK_forget 18 = .ok (.bipush 12, 2) := by decide +kernel
theorem dK_forget_20 : decode cK_forget 20 = .ok (.imul, 1) := by decide +kernel
theorem dK_forget_21 : decode cK_forget 21 = .ok (.iload_n 2, 1) := by decide +kernel
theorem dK_forget_22 : decode cK_forget 22 = .ok (.iadd, 1) := by decide +kernel
theorem dK_forget_23 : decode cK_forget 23 = .ok (.ldc 15, 2) := by decide +kernel
theorem dK_forget_25 : decode cK_forget 25 = .ok (.iastore, 1) := by decide +kernel
theorem dK_forget_26 : decode cK_forget 26 = .ok (.aload_n 0, 1) := by decide +kernel
theorem dK_forget_27 : decode cK_forget 27 = .ok (.getfield 9, 3) := by decide +kernel
theorem dK_forget_30 : decode cK_forget 30 = .ok (.iload_n 2, 1) := by decide +kernel
theorem dK_forget_31 : decode cK_forget 31 = .ok (.bipush 12, 2) := by decide +kernel
theorem dK_forget_33 : decode cK_forget 33 = .ok (.imul, 1) := by decide +kernel
theorem dK_forget_34 : decode cK_forget 34 = .ok (.iload_n 1, 1) := by decide +kernel
theorem dK_forget_35 : decode cK_forget 35 = .ok (.iadd, 1) := by decide +kernel
theorem dK_forget_36 : decode cK_forget 36 = .ok (.ldc 15, 2) := by decide +kernel
theorem dK_forget_38 : decode cK_forget 38 = .ok (.iastore, 1) := by decide +kernel
theorem dK_forget_39 : decode cK_forget 39 = .ok (.iinc 2 1, 3) := by decide +kernel
theorem dK_forget_42 : decode cK_forget 42 = .ok (.goto (-40), 3) := by decide +kernel
theorem dK_forget_45 : decode cK_forget 45 = .ok (.return_, 1) := by decide +kernel
theorem dK_copyFrom_0 : decode cK_copyFrom 0 = .ok (.aload_n 1, 1) := by decide +kernel
theorem dK_copyFrom_1 : decode cK_copyFrom 1 = .ok (.getfield 9, 3) := by decide +kernel
theorem dK_copyFrom_4 : decode cK_copyFrom 4 = .ok (.iconst 0, 1) := by decide +kernel
theorem dK_copyFrom_5 : decode cK_copyFrom 5 = .ok (.aload_n 0, 1) := by decide +kernel
theorem dK_copyFrom_6 : decode cK_copyFrom 6 = .ok (.getfield 9, 3) := by decide +kernel
theorem dK_copyFrom_9 : decode cK_copyFrom 9 = .ok (.iconst 0, 1) := by decide +kernel
theorem dK_copyFrom_10 : decode cK_copyFrom 10 = .ok (.aload_n 0, 1) := by decide +kernel
theorem dK_copyFrom_11 : decode cK_copyFrom 11 = .ok (.getfield 9, 3) := by decide +kernel
theorem dK_copyFrom_14 : decode cK_copyFrom 14 = .ok (.arraylength, 1) := by decide +kernel
theorem dK_copyFrom_15 : decode cK_copyFrom 15 = .ok (.invokestatic 26, 3) := by decide +kernel
theorem dK_copyFrom_18 : decode cK_copyFrom 18 = .ok (.aload_n 0, 1) := by decide +kernel
theorem dK_copyFrom_19 : decode cK_copyFrom 19 = .ok (.aload_n 1, 1) := by decide +kernel
theorem dK_copyFrom_20 : decode cK_copyFrom 20 = .ok (.getfield 22, 3) := by decide +kernel
theorem dK_copyFrom_23 : decode cK_copyFrom 23 = .ok (.putfield 22, 3) := by decide +kernel
theorem dK_copyFrom_26 : decode cK_copyFrom 26 = .ok (.return_, 1) := by decide +kernel
