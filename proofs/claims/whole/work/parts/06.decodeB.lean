theorem dW_init_0 : decode cW_init 0 = .ok (.aload_n 0, 1) := by decide +kernel
theorem dW_init_1 : decode cW_init 1 = .ok (.invokespecial 3, 3) := by decide +kernel
theorem dW_init_4 : decode cW_init 4 = .ok (.aload_n 0, 1) := by decide +kernel
theorem dW_init_5 : decode cW_init 5 = .ok (.new 9, 3) := by decide +kernel
theorem dW_init_8 : decode cW_init 8 = .ok (.dup, 1) := by decide +kernel
theorem dW_init_9 : decode cW_init 9 = .ok (.invokespecial 11, 3) := by decide +kernel
theorem dW_init_12 : decode cW_init 12 = .ok (.putfield 12, 3) := by decide +kernel
theorem dW_init_15 : decode cW_init 15 = .ok (.aload_n 0, 1) := by decide +kernel
theorem dW_init_16 : decode cW_init 16 = .ok (.bipush 6, 2) := by decide +kernel
theorem dW_init_18 : decode cW_init 18 = .ok (.anewarray 9, 3) := by decide +kernel
theorem dW_init_21 : decode cW_init 21 = .ok (.putfield 18, 3) := by decide +kernel
theorem dW_init_24 : decode cW_init 24 = .ok (.aload_n 0, 1) := by decide +kernel
theorem dW_init_25 : decode cW_init 25 = .ok (.bipush 6, 2) := by decide +kernel
theorem dW_init_27 : decode cW_init 27 = .ok (.newarray .int, 2) := by decide +kernel
theorem dW_init_29 : decode cW_init 29 = .ok (.putfield 22, 3) := by decide +kernel
theorem dW_init_32 : decode cW_init 32 = .ok (.iconst 0, 1) := by decide +kernel
theorem dW_init_33 : decode cW_init 33 = .ok (.istore_n 1, 1) := by decide +kernel
theorem dW_init_34 : decode cW_init 34 = .ok (.iload_n 1, 1) := by decide +kernel
theorem dW_init_35 : decode cW_init 35 = .ok (.bipush 6, 2) := by decide +kernel
theorem dW_init_37 : decode cW_init 37 = .ok (.if_icmp .ge 22, 3) := by decide +kernel
theorem dW_init_40 : decode cW_init 40 = .ok (.aload_n 0, 1) := by decide +kernel
theorem dW_init_41 : decode cW_init 41 = .ok (.getfield 18, 3) := by decide +kernel
theorem dW_init_44 : decode cW_init 44 = .ok (.iload_n 1, 1) := by decide +kernel
theorem dW_init_45 : decode cW_init 45 = .ok (.new 9, 3) := by decide +kernel
theorem dW_init_48 : decode cW_init 48 = .ok (.dup, 1) := by decide +kernel
theorem dW_init_49 : decode cW_init 49 = .ok (.invokespecial 11, 3) := by decide +kernel
theorem dW_init_52 : decode cW_init 52 = .ok (.aastore, 1) := by decide +kernel
theorem dW_init_53 : decode cW_init 53 = .ok (.iinc 1 1, 3) := by decide +kernel
theorem dW_init_56 : decode cW_init 56 = .ok (.goto (-22), 3) := by decide +kernel
theorem dW_init_59 : decode cW_init 59 = .ok (.return_, 1) := by decide +kernel
theorem dF_init_0 : decode cF_init 0 = .ok (.aload_n 0, 1) := by decide +kernel
theorem dF_init_1 : decode cF_init 1 = .ok (.invokespecial 3, 3) := by decide +kernel
theorem dF_init_4 : decode cF_init 4 = .ok (.aload_n 0, 1) := by decide +kernel
theorem dF_init_5 : decode cF_init 5 = .ok (.new 9, 3) := by decide +kernel
theorem dF_init_8 : decode cF_init 8 = .ok (.dup, 1) := by decide +kernel
theorem dF_init_9 : decode cF_init 9 = .ok (.invokespecial 11, 3) := by decide +kernel
theorem dF_init_12 : decode cF_init 12 = .ok (.putfield 12, 3) := by decide +kernel
theorem dF_init_15 : decode cF_init 15 = .ok (.aload_n 0, 1) := by decide +kernel
theorem dF_init_16 : decode cF_init 16 = .ok (.new 9, 3) := by decide +kernel
theorem dF_init_19 : decode cF_init 19 = .ok (.dup, 1) := by decide +kernel
theorem dF_init_20 : decode cF_init 20 = .ok (.invokespecial 11, 3) := by decide +kernel
theorem dF_init_23 : decode cF_init 23 = .ok (.putfield 18, 3) := by decide +kernel
theorem dF_init_26 : decode cF_init 26 = .ok (.aload_n 0, 1) := by decide +kernel
theorem dF_init_27 : decode cF_init 27 = .ok (.bipush 16, 2) := by decide +kernel
theorem dF_init_29 : decode cF_init 29 = .ok (.anewarray 21, 3) := by decide +kernel
theorem dF_init_32 : decode cF_init 32 = .ok (.putfield 23, 3) := by decide +kernel
theorem dF_init_35 : decode cF_init 35 = .ok (.aload_n 0, 1) := by decide +kernel
theorem dF_init_36 : decode cF_init 36 = .ok (.bipush 6, 2) := by decide +kernel
theorem dF_init_38 : decode cF_init 38 = .ok (.newarray .int, 2) := by decide +kernel
theorem dF_init_40 : decode cF_init 40 = .ok (.putfield 27, 3) := by decide +kernel
theorem dF_init_43 : decode cF_init 43 = .ok (.iconst 0, 1) := by decide +kernel
theorem dF_init_44 : decode cF_init 44 = .ok (.istore_n 1, 1) := by decide +kernel
theorem dF_init_45 : decode cF_init 45 = .ok (.iload_n 1, 1) := by decide +kernel
theorem dF_init_46 : decode cF_init 46 = .ok (.bipush 16, 2) := by decide +kernel
theorem dF_init_48 : decode cF_init 48 = .ok (.if_icmp .ge 22, 3) := by decide +kernel
theorem dF_init_51 : decode cF_init 51 = .ok (.aload_n 0, 1) := by decide +kernel
theorem dF_init_52 : decode cF_init 52 = .ok (.getfield 23, 3) := by decide +kernel
theorem dF_init_55 : decode cF_init 55 = .ok (.iload_n 1, 1) := by decide +kernel
theorem dF_init_56 : decode cF_init 56 = .ok (.new 21, 3) := by decide +kernel
theorem dF_init_59 : decode cF_init 59 = .ok (.dup, 1) := by decide +kernel
theorem dF_init_60 : decode cF_init 60 = .ok (.invokespecial 31, 3) := by decide +kernel
theorem dF_init_63 : decode cF_init 63 = .ok (.aastore, 1) := by decide +kernel
theorem dF_init_64 : decode cF_init 64 = .ok (.iinc 1 1, 3) := by decide +kernel
theorem dF_init_67 : decode cF_init 67 = .ok (.goto (-22), 3) := by decide +kernel
theorem dF_init_70 : decode cF_init 70 = .ok (.return_, 1) := by decide +kernel
theorem dF_hasGivenWhatIsUsed_0 : decode cF_hasGivenWhatIsUsed 0 = .ok (.iload_n 1, 1) := by decide +kernel
theorem dF_hasGivenWhatIsUsed_1 : decode cF_hasGivenWhatIsUsed 1 = .ok (.invokestatic 46, 3) := by decide +kernel
theorem dF_hasGivenWhatIsUsed_4 : decode cF_hasGivenWhatIsUsed 4 = .ok (.ifCond .eq 11, 3) := by decide +kernel
theorem dF_hasGivenWhatIsUsed_7 : decode cF_hasGivenWhatIsUsed 7 = .ok (.aload_n 0, 1) := by decide +kernel
theorem dF_hasGivenWhatIsUsed_8 : decode cF_hasGivenWhatIsUsed 8 = .ok (.iload_n 2, 1) := by decide +kernel
theorem dF_hasGivenWhatIsUsed_9 : decode cF_hasGivenWhatIsUsed 9 = .ok (.invokevirtual 50, 3) := by decide +kernel
theorem dF_hasGivenWhatIsUsed_12 : decode cF_hasGivenWhatIsUsed 12 = .ok (.ifCond .eq 38, 3) := by decide +kernel
theorem dF_hasGivenWhatIsUsed_15 : decode cF_hasGivenWhatIsUsed 15 = .ok (.iload_n 1, 1) := by decide +kernel
theorem dF_hasGivenWhatIsUsed_16 : decode cF_hasGivenWhatIsUsed 16 = .ok (.invokestatic 53, 3) := by decide +kernel
theorem dF_hasGivenWhatIsUsed_19 : decode cF_hasGivenWhatIsUsed 19 = .ok (.ifCond .eq 11, 3) := by decide +kernel
theorem dF_hasGivenWhatIsUsed_22 : decode cF_hasGivenWhatIsUsed 22 = .ok (.aload_n 0, 1) := by decide +kernel
theorem dF_hasGivenWhatIsUsed_23 : decode cF_hasGivenWhatIsUsed 23 = .ok (.iload_n 3, 1) := by decide +kernel
theorem dF_hasGivenWhatIsUsed_24 : decode cF_hasGivenWhatIsUsed 24 = .ok (.invokevirtual 50, 3) := by decide +kernel
theorem dF_hasGivenWhatIsUsed_27 : decode cF_hasGivenWhatIsUsed 27 = .ok (.ifCond .eq 23, 3) := by decide +kernel
theorem dF_hasGivenWhatIsUsed_30 : decode cF_hasGivenWhatIsUsed 30 = .ok (.iload_n 1, 1) := by decide +kernel
theorem dF_hasGivenWhatIsUsed_31 : decode cF_hasGivenWhatIsUsed 31 = .ok (.invokestatic 56, 3) := by decide +kernel
theorem dF_hasGivenWhatIsUsed_34 : decode cF_hasGivenWhatIsUsed 34 = .ok (.ifCond .eq 12, 3) := by decide +kernel
theorem dF_hasGivenWhatIsUsed_37 : decode cF_hasGivenWhatIsUsed 37 = .ok (.aload_n 0, 1) := by decide +kernel
theorem dF_hasGivenWhatIsUsed_38 : decode cF_hasGivenWhatIsUsed 38 = .ok (.iload 4, 2) := by decide +kernel
theorem dF_hasGivenWhatIsUsed_40 : decode cF_hasGivenWhatIsUsed 40 = .ok (.invokevirtual 50, 3) := by decide +kernel
theorem dF_hasGivenWhatIsUsed_43 : decode cF_hasGivenWhatIsUsed 43 = .ok (.ifCond .eq 7, 3) := by decide +kernel
theorem dF_hasGivenWhatIsUsed_46 : decode cF_hasGivenWhatIsUsed 46 = .ok (.iconst 1, 1) := by decide +kernel
theorem dF_hasGivenWhatIsUsed_47 : decode cF_hasGivenWhatIsUsed 47 = .ok (.goto 4, 3) := by decide +kernel
theorem dF_hasGivenWhatIsUsed_50 : decode cF_hasGivenWhatIsUsed 50 = .ok (.iconst 0, 1) := by decide +kernel
theorem dF_hasGivenWhatIsUsed_51 : decode cF_hasGivenWhatIsUsed 51 = .ok (.ireturn, 1) := by decide +kernel
theorem dF_hasGiven_0 : decode cF_hasGiven 0 = .ok (.iload_n 1, 1) := by decide +kernel
theorem dF_hasGiven_1 : decode cF_hasGiven 1 = .ok (.iconst 4, 1) := by decide +kernel
theorem dF_hasGiven_2 : decode cF_hasGiven 2 = .ok (.if_icmp .lt 15, 3) := by decide +kernel
theorem dF_hasGiven_5 : decode cF_hasGiven 5 = .ok (.aload_n 0, 1) := by decide +kernel
theorem dF_hasGiven_6 : decode cF_hasGiven 6 = .ok (.getfield 43, 3) := by decide +kernel
theorem dF_hasGiven_9 : decode cF_hasGiven 9 = .ok (.iload_n 1, 1) := by decide +kernel
theorem dF_hasGiven_10 : decode cF_hasGiven 10 = .ok (.ishr, 1) := by decide +kernel
theorem dF_hasGiven_11 : decode cF_hasGiven 11 = .ok (.iconst 1, 1) := by decide +kernel
theorem dF_hasGiven_12 : decode cF_hasGiven 12 = .ok (.iand, 1) := by decide +kernel
theorem dF_hasGiven_13 : decode cF_hasGiven 13 = .ok (.iconst 1, 1) := by decide +kernel
theorem dF_hasGiven_14 : decode cF_hasGiven 14 = .ok (.if_icmp .ne 7, 3) := by decide +kernel
theorem dF_hasGiven_17 : decode cF_hasGiven 17 = .ok (.iconst 1, 1) := by decide +kernel
theorem dF_hasGiven_18 : decode cF_hasGiven 18 = .ok (.goto 4, 3) := by decide +kernel
theorem dF_hasGiven_21 : decode cF_hasGiven 21 = .ok (.iconst 0, 1) := by decide +kernel
theorem dF_hasGiven_22 : decode cF_hasGiven 22 = .ok (.ireturn, 1) := by decide +kernel
theorem dF_isOpenFor_0 : decode cF_isOpenFor 0 = .ok (.iload_n 1, 1) := by decide +kernel
theorem dF_isOpenFor_1 : decode cF_isOpenFor 1 = .ok (.iconst 3, 1) := by decide +kernel
theorem dF_isOpenFor_2 : decode cF_isOpenFor 2 = .ok (.if_icmp .eq 10, 3) := by decide +kernel
theorem dF_isOpenFor_5 : decode cF_isOpenFor 5 = .ok (.iload_n 1, 1) := by decide +kernel
theorem dF_isOpenFor_6 : decode cF_isOpenFor 6 = .ok (.iconst 4, 1) := by decide +kernel
theorem dF_isOpenFor_7 : decode cF_isOpenFor 7 = .ok (.if_icmp .eq 5, 3) := by decide +kernel
theorem dF_isOpenFor_10 : decode cF_isOpenFor 10 = .ok (.iconst 1, 1) := by decide +kernel
theorem dF_isOpenFor_11 : decode cF_isOpenFor 11 = .ok (.ireturn, 1) := by decide +kernel
theorem dF_isOpenFor_12 : decode cF_isOpenFor 12 = .ok (.aload_n 0, 1) := by decide +kernel
theorem dF_isOpenFor_13 : decode cF_isOpenFor 13 = .ok (.getfield 37, 3) := by decide +kernel
theorem dF_isOpenFor_16 : decode cF_isOpenFor 16 = .ok (.ifCond .ne 5, 3) := by decide +kernel
theorem dF_isOpenFor_19 : decode cF_isOpenFor 19 = .ok (.iconst 0, 1) := by decide +kernel
theorem dF_isOpenFor_20 : decode cF_isOpenFor 20 = .ok (.ireturn, 1) := by decide +kernel
theorem dF_isOpenFor_21 : decode cF_isOpenFor 21 = .ok (.iload_n 1, 1) := by decide +kernel
theorem dF_isOpenFor_22 : decode cF_isOpenFor 22 = .ok (.iconst 4, 1) := by decide +kernel
theorem dF_isOpenFor_23 : decode cF_isOpenFor 23 = .ok (.if_icmp .eq 26, 3) := by decide +kernel
theorem dF_isOpenFor_26 : decode cF_isOpenFor 26 = .ok (.aload_n 0, 1) := by decide +kernel
theorem dF_isOpenFor_27 : decode cF_isOpenFor 27 = .ok (.getfield 23, 3) := by decide +kernel
theorem dF_isOpenFor_30 : decode cF_isOpenFor 30 = .ok (.aload_n 0, 1) := by decide +kernel
theorem dF_isOpenFor_31 : decode cF_isOpenFor 31 = .ok (.getfield 27, 3) := by decide +kernel
theorem dF_isOpenFor_34 : decode cF_isOpenFor 34 = .ok (.aload_n 0, 1) := by decide +kernel
theorem dF_isOpenFor_35 : decode cF_isOpenFor 35 = .ok (.getfield 37, 3) := by decide +kernel
theorem dF_isOpenFor_38 : decode cF_isOpenFor 38 = .ok (.iconst 1, 1) := by decide +kernel
theorem dF_isOpenFor_39 : decode cF_isOpenFor 39 = .ok (.isub, 1) := by decide +kernel
theorem dF_isOpenFor_40 : decode cF_isOpenFor 40 = .ok (.iaload, 1) := by decide +kernel
theorem dF_isOpenFor_41 : decode cF_isOpenFor 41 = .ok (.aaload, 1) := by decide +kernel
theorem dF_isOpenFor_42 : decode cF_isOpenFor 42 = .ok (.getfield 59, 3) := by decide +kernel
theorem dF_isOpenFor_45 : decode cF_isOpenFor 45 = .ok (.iconst 2, 1) := by decide +kernel
theorem dF_isOpenFor_46 : decode cF_isOpenFor 46 = .ok (.if_icmp .ne 7, 3) := by decide +kernel
theorem dF_isOpenFor_49 : decode cF_isOpenFor 49 = .ok (.iconst 1, 1) := by decide +kernel
theorem dF_isOpenFor_50 : decode cF_isOpenFor 50 = .ok (.goto 4, 3) := by decide +kernel
theorem dF_isOpenFor_53 : decode cF_isOpenFor 53 = .ok (.iconst 0, 1) := by decide +kernel
theorem dF_isOpenFor_54 : decode cF_isOpenFor 54 = .ok (.ireturn, 1) := by decide +kernel
theorem dF_hasRoomFor_0 : decode cF_hasRoomFor 0 = .ok (.aload_n 0, 1) := by decide +kernel
theorem dF_hasRoomFor_1 : decode cF_hasRoomFor 1 = .ok (.getfield 36, 3) := by decide +kernel
theorem dF_hasRoomFor_4 : decode cF_hasRoomFor 4 = .ok (.bipush 16, 2) := by decide +kernel
theorem dF_hasRoomFor_6 : decode cF_hasRoomFor 6 = .ok (.if_icmp .ge 21, 3) := by decide +kernel
theorem dF_hasRoomFor_9 : decode cF_hasRoomFor 9 = .ok (.iload_n 1, 1) := by decide +kernel
theorem dF_hasRoomFor_10 : decode cF_hasRoomFor 10 = .ok (.iconst 2, 1) := by decide +kernel
theorem dF_hasRoomFor_11 : decode cF_hasRoomFor 11 = .ok (.if_icmp .ne 12, 3) := by decide +kernel
theorem dF_hasRoomFor_14 : decode cF_hasRoomFor 14 = .ok (.aload_n 0, 1) := by decide +kernel
theorem dF_hasRoomFor_15 : decode cF_hasRoomFor 15 = .ok (.getfield 40, 3) := by decide +kernel
theorem dF_hasRoomFor_18 : decode cF_hasRoomFor 18 = .ok (.bipush 6, 2) := by decide +kernel
theorem dF_hasRoomFor_20 : decode cF_hasRoomFor 20 = .ok (.if_icmp .ge 7, 3) := by decide +kernel
theorem dF_hasRoomFor_23 : decode cF_hasRoomFor 23 = .ok (.iconst 1, 1) := by decide +kernel
theorem dF_hasRoomFor_24 : decode cF_hasRoomFor 24 = .ok (.goto 4, 3) := by decide +kernel
theorem dF_hasRoomFor_27 : decode cF_hasRoomFor 27 = .ok (.iconst 0, 1) := by decide +kernel
theorem dF_hasRoomFor_28 : decode cF_hasRoomFor 28 = .ok (.ireturn, 1) := by decide +kernel
theorem dF_append_0 : decode cF_append 0 = .ok (.aload_n 0, 1) := by decide +kernel
theorem dF_append_1 : decode cF_append 1 = .ok (.getfield 36, 3) := by decide +kernel
theorem dF_append_4 : decode cF_append 4 = .ok (.istore 6, 2) := by decide +kernel
theorem dF_append_6 : decode cF_append 6 = .ok (.aload_n 0, 1) := by decide +kernel
theorem dF_append_7 : decode cF_append 7 = .ok (.getfield 23, 3) := by decide +kernel
theorem dF_append_10 : decode cF_append 10 = .ok (.iload 6, 2) := by decide +kernel
theorem dF_append_12 : decode cF_append 12 = .ok (.aaload, 1) := by decide +kernel
theorem dF_append_13 : decode cF_append 13 = .ok (.iload_n 1, 1) := by decide +kernel
theorem dF_append_14 : decode cF_append 14 = .ok (.iload_n 2, 1) := by decide +kernel
theorem dF_append_15 : decode cF_append 15 = .ok (.iload_n 3, 1) := by decide +kernel
theorem dF_append_16 : decode cF_append 16 = .ok (.iload 4, 2) := by decide +kernel
theorem dF_append_18 : decode cF_append 18 = .ok (.iload 5, 2) := by decide +kernel
theorem dF_append_20 : decode cF_append 20 = .ok (.invokevirtual 62, 3) := by decide +kernel
theorem dF_append_23 : decode cF_append 23 = .ok (.aload_n 0, 1) := by decide +kernel
theorem dF_append_24 : decode cF_append 24 = .ok (.dup, 1) := by decide +kernel
theorem dF_append_25 : decode cF_append 25 = .ok (.getfield 36, 3) := by decide +kernel
theorem dF_append_28 : decode cF_append 28 = .ok (.iconst 1, 1) := by decide +kernel
theorem dF_append_29 : decode cF_append 29 = .ok (.iadd, 1) := by decide +kernel
theorem dF_append_30 : decode cF_append 30 = .ok (.putfield 36, 3) := by decide +kernel
theorem dF_append_33 : decode cF_append 33 = .ok (.iload_n 1, 1) := by decide +kernel
theorem dF_append_34 : decode cF_append 34 = .ok (.invokestatic 66, 3) := by decide +kernel
theorem dF_append_37 : decode cF_append 37 = .ok (.ifCond .eq 15, 3) := by decide +kernel
theorem dF_append_40 : decode cF_append 40 = .ok (.aload_n 0, 1) := by decide +kernel
theorem dF_append_41 : decode cF_append 41 = .ok (.dup, 1) := by decide +kernel
theorem dF_append_42 : decode cF_append 42 = .ok (.getfield 43, 3) := by decide +kernel
theorem dF_append_45 : decode cF_append 45 = .ok (.iconst 1, 1) := by decide +kernel
theorem dF_append_46 : decode cF_append 46 = .ok (.iload_n 2, 1) := by decide +kernel
theorem dF_append_47 : decode cF_append 47 = .ok (.ishl, 1) := by decide +kernel
theorem dF_append_48 : decode cF_append 48 = .ok (.ior, 1) := by decide +kernel
theorem dF_append_49 : decode cF_append 49 = .ok (.putfield 43, 3) := by decide +kernel
theorem dF_append_52 : decode cF_append 52 = .ok (.iload_n 1, 1) := by decide +kernel
theorem dF_append_53 : decode cF_append 53 = .ok (.tableswitch 54 2 4 #[27, 36, 45], 27) := by decide +kernel
theorem dF_append_80 : decode cF_append 80 = .ok (.aload_n 0, 1) := by decide +kernel
theorem dF_append_81 : decode cF_append 81 = .ok (.iload 6, 2) := by decide +kernel
theorem dF_append_83 : decode cF_append 83 = .ok (.invokevirtual 69, 3) := by decide +kernel
theorem dF_append_86 : decode cF_append 86 = .ok (.goto 21, 3) := by decide +kernel
theorem dF_append_89 : decode cF_append 89 = .ok (.aload_n 0, 1) := by decide +kernel
theorem dF_append_90 : decode cF_append 90 = .ok (.iload 6, 2) := by decide +kernel
theorem dF_append_92 : decode cF_append 92 = .ok (.invokevirtual 73, 3) := by decide +kernel
theorem dF_append_95 : decode cF_append 95 = .ok (.goto 12, 3) := by decide +kernel
theorem dF_append_98 : decode cF_append 98 = .ok (.aload_n 0, 1) := by decide +kernel
theorem dF_append_99 : decode cF_append 99 = .ok (.iload 6, 2) := by decide +kernel
theorem dF_append_101 : decode cF_append 101 = .ok (.invokevirtual 76, 3) := by decide +kernel
theorem dF_append_104 : decode cF_append 104 = .ok (.goto 3, 3) := by decide +kernel
theorem dF_append_107 : decode cF_append 107 = .ok (.iload 6, 2) := by decide +kernel
theorem dF_append_109 : decode cF_append 109 = .ok (.ireturn, 1) := by decide +kernel
theorem dF_openIf_0 : decode cF_openIf 0 = .ok (.aload_n 0, 1) := by decide +kernel
theorem dF_openIf_1 : decode cF_openIf 1 = .ok (.getfield 27, 3) := by decide +kernel
theorem dF_openIf_4 : decode cF_openIf 4 = .ok (.aload_n 0, 1) := by decide +kernel
theorem dF_openIf_5 : decode cF_openIf 5 = .ok (.getfield 37, 3) := by decide +kernel
theorem dF_openIf_8 : decode cF_openIf 8 = .ok (.iload_n 1, 1) := by decide +kernel
theorem dF_openIf_9 : decode cF_openIf 9 = .ok (.iastore, 1) := by decide +kernel
theorem dF_openIf_10 : decode cF_openIf 10 = .ok (.aload_n 0, 1) := by decide +kernel
theorem dF_openIf_11 : decode cF_openIf 11 = .ok (.dup, 1) := by decide +kernel
theorem dF_openIf_12 : decode cF_openIf 12 = .ok (.getfield 37, 3) := by decide +kernel
theorem dF_openIf_15 : decode cF_openIf 15 = .ok (.iconst 1, 1) := by decide +kernel
theorem dF_openIf_16 : decode cF_openIf 16 = .ok (.iadd, 1) := by decide +kernel
theorem dF_openIf_17 : decode cF_openIf 17 = .ok (.putfield 37, 3) := by decide +kernel
theorem dF_openIf_20 : decode cF_openIf 20 = .ok (.aload_n 0, 1) := by decide +kernel
theorem dF_openIf_21 : decode cF_openIf 21 = .ok (.dup, 1) := by decide +kernel
theorem dF_openIf_22 : decode cF_openIf 22 = .ok (.getfield 40, 3) := by decide +kernel
theorem dF_openIf_25 : decode cF_openIf 25 = .ok (.iconst 1, 1) := by decide +kernel
theorem dF_openIf_26 : decode cF_openIf 26 = .ok (.iadd, 1) := by decide +kernel
theorem dF_openIf_27 : decode cF_openIf 27 = .ok (.putfield 40, 3) := by decide +kernel
theorem dF_openIf_30 : decode cF_openIf 30 = .ok (.return_, 1) := by decide +kernel
theorem dF_turnToElse_0 : decode cF_turnToElse 0 = .ok (.aload_n 0, 1) := by decide +kernel
theorem dF_turnToElse_1 : decode cF_turnToElse 1 = .ok (.getfield 23, 3) := by decide +kernel
theorem dF_turnToElse_4 : decode cF_turnToElse 4 = .ok (.aload_n 0, 1) := by decide +kernel
theorem dF_turnToElse_5 : decode cF_turnToElse 5 = .ok (.getfield 27, 3) := by decide +kernel
theorem dF_turnToElse_8 : decode cF_turnToElse 8 = .ok (.aload_n 0, 1) := by decide +kernel
theorem dF_turnToElse_9 : decode cF_turnToElse 9 = .ok (.getfield 37, 3) := by decide +kernel
theorem dF_turnToElse_12 : decode cF_turnToElse 12 = .ok (.iconst 1, 1) := by decide +kernel
theorem dF_turnToElse_13 : decode cF_turnToElse 13 = .ok (.isub, 1) := by decide +kernel
theorem dF_turnToElse_14 : decode cF_turnToElse 14 = .ok (.iaload, 1) := by decide +kernel
theorem dF_turnToElse_15 : decode cF_turnToElse 15 = .ok (.aaload, 1) := by decide +kernel
theorem dF_turnToElse_16 : decode cF_turnToElse 16 = .ok (.iload_n 1, 1) := by decide +kernel
theorem dF_turnToElse_17 : decode cF_turnToElse 17 = .ok (.iconst 1, 1) := by decide +kernel
theorem dF_turnToElse_18 : decode cF_turnToElse 18 = .ok (.iadd, 1) := by decide +kernel
theorem dF_turnToElse_19 : decode cF_turnToElse 19 = .ok (.putfield 79, 3) := by decide +kernel
theorem dF_turnToElse_22 : decode cF_turnToElse 22 = .ok (.aload_n 0, 1) := by decide +kernel
theorem dF_turnToElse_23 : decode cF_turnToElse 23 = .ok (.getfield 27, 3) := by decide +kernel
theorem dF_turnToElse_26 : decode cF_turnToElse 26 = .ok (.aload_n 0, 1) := by decide +kernel
theorem dF_turnToElse_27 : decode cF_turnToElse 27 = .ok (.getfield 37, 3) := by decide +kernel
theorem dF_turnToElse_30 : decode cF_turnToElse 30 = .ok (.iconst 1, 1) := by decide +kernel
theorem dF_turnToElse_31 : decode cF_turnToElse 31 = .ok (.isub, 1) := by decide +kernel
theorem dF_turnToElse_32 : decode cF_turnToElse 32 = .ok (.iload_n 1, 1) := by decide +kernel
theorem dF_turnToElse_33 : decode cF_turnToElse 33 = .ok (.iastore, 1) := by decide +kernel
theorem dF_turnToElse_34 : decode cF_turnToElse 34 = .ok (.return_, 1) := by decide +kernel
theorem dF_closeIf_0 : decode cF_closeIf 0 = .ok (.aload_n 0, 1) := by decide +kernel
theorem dF_closeIf_1 : decode cF_closeIf 1 = .ok (.dup, 1) := by decide +kernel
theorem dF_closeIf_2 : decode cF_closeIf 2 = .ok (.getfield 37, 3) := by decide +kernel
theorem dF_closeIf_5 : decode cF_closeIf 5 = .ok (.iconst 1, 1) := by decide +kernel
theorem dF_closeIf_6 : decode cF_closeIf 6 = .ok (.isub, 1) := by decide +kernel
theorem dF_closeIf_7 : decode cF_closeIf 7 = .ok (.putfield 37, 3) := by decide +kernel
theorem dF_closeIf_10 : decode cF_closeIf 10 = .ok (.aload_n 0, 1) := by decide +kernel
theorem dF_closeIf_11 : decode cF_closeIf 11 = .ok (.getfield 23, 3) := by decide +kernel
theorem dF_closeIf_14 : decode cF_closeIf 14 = .ok (.aload_n 0, 1) := by decide +kernel
theorem dF_closeIf_15 : decode cF_closeIf 15 = .ok (.getfield 27, 3) := by decide +kernel
theorem dF_closeIf_18 : decode cF_closeIf 18 = .ok (.aload_n 0, 1) := by decide +kernel
theorem dF_closeIf_19 : decode cF_closeIf 19 = .ok (.getfield 37, 3) := by decide +kernel
theorem dF_closeIf_22 : decode cF_closeIf 22 = .ok (.iaload, 1) := by decide +kernel
theorem dF_closeIf_23 : decode cF_closeIf 23 = .ok (.aaload, 1) := by decide +kernel
theorem dF_closeIf_24 : decode cF_closeIf 24 = .ok (.iload_n 1, 1) := by decide +kernel
theorem dF_closeIf_25 : decode cF_closeIf 25 = .ok (.putfield 79, 3) := by decide +kernel
theorem dF_closeIf_28 : decode cF_closeIf 28 = .ok (.return_, 1) := by decide +kernel
theorem dF_empty_0 : decode cF_empty 0 = .ok (.aload_n 0, 1) := by decide +kernel
theorem dF_empty_1 : decode cF_empty 1 = .ok (.getfield 12, 3) := by decide +kernel
theorem dF_empty_4 : decode cF_empty 4 = .ok (.iconst 0, 1) := by decide +kernel
theorem dF_empty_5 : decode cF_empty 5 = .ok (.putfield 32, 3) := by decide +kernel
theorem dF_empty_8 : decode cF_empty 8 = .ok (.aload_n 0, 1) := by decide +kernel
theorem dF_empty_9 : decode cF_empty 9 = .ok (.getfield 18, 3) := by decide +kernel
theorem dF_empty_12 : decode cF_empty 12 = .ok (.iconst 0, 1) := by decide +kernel
theorem dF_empty_13 : decode cF_empty 13 = .ok (.putfield 32, 3) := by decide +kernel
theorem dF_empty_16 : decode cF_empty 16 = .ok (.aload_n 0, 1) := by decide +kernel
theorem dF_empty_17 : decode cF_empty 17 = .ok (.iconst 0, 1) := by decide +kernel
theorem dF_empty_18 : decode cF_empty 18 = .ok (.putfield 36, 3) := by decide +kernel
theorem dF_empty_21 : decode cF_empty 21 = .ok (.aload_n 0, 1) := by decide +kernel
theorem dF_empty_22 : decode cF_empty 22 = .ok (.iconst 0, 1) := by decide +kernel
theorem dF_empty_23 : decode cF_empty 23 = .ok (.putfield 37, 3) := by decide +kernel
theorem dF_empty_26 : decode cF_empty 26 = .ok (.aload_n 0, 1) := by decide +kernel
theorem dF_empty_27 : decode cF_empty 27 = .ok (.iconst 0, 1) := by decide +kernel
theorem dF_empty_28 : decode cF_empty 28 = .ok (.putfield 40, 3) := by decide +kernel
theorem dF_empty_31 : decode cF_empty 31 = .ok (.aload_n 0, 1) := by decide +kernel
theorem dF_empty_32 : decode cF_empty 32 = .ok (.iconst 0, 1) := by decide +kernel
theorem dF_empty_33 : decode cF_empty 33 = .ok (.putfield 43, 3) := by decide +kernel
theorem dF_empty_36 : decode cF_empty 36 = .ok (.return_, 1) := by decide +kernel
theorem dW_through_0 : decode cW_through 0 = .ok (.aload_n 0, 1) := by decide +kernel
theorem dW_through_1 : decode cW_through 1 = .ok (.iload_n 3, 1) := by decide +kernel
theorem dW_through_2 : decode cW_through 2 = .ok (.putfield 30, 3) := by decide +kernel
theorem dW_through_5 : decode cW_through 5 = .ok (.aload_n 0, 1) := by decide +kernel
theorem dW_through_6 : decode cW_through 6 = .ok (.iload 4, 2) := by decide +kernel
theorem dW_through_8 : decode cW_through 8 = .ok (.putfield 33, 3) := by decide +kernel
theorem dW_through_11 : decode cW_through 11 = .ok (.aload_n 0, 1) := by decide +kernel
theorem dW_through_12 : decode cW_through 12 = .ok (.iload 5, 2) := by decide +kernel
theorem dW_through_14 : decode cW_through 14 = .ok (.putfield 36, 3) := by decide +kernel
theorem dW_through_17 : decode cW_through 17 = .ok (.aload_n 0, 1) := by decide +kernel
theorem dW_through_18 : decode cW_through 18 = .ok (.ldc 39, 2) := by decide +kernel
theorem dW_through_20 : decode cW_through 20 = .ok (.putfield 40, 3) := by decide +kernel
theorem dW_through_23 : decode cW_through 23 = .ok (.aload_n 0, 1) := by decide +kernel
theorem dW_through_24 : decode cW_through 24 = .ok (.iconst 0, 1) := by decide +kernel
theorem dW_through_25 : decode cW_through 25 = .ok (.putfield 26, 3) := by decide +kernel
theorem dW_through_28 : decode cW_through 28 = .ok (.aload_n 0, 1) := by decide +kernel
theorem dW_through_29 : decode cW_through 29 = .ok (.iconst (-1), 1) := by decide +kernel
theorem dW_through_30 : decode cW_through 30 = .ok (.putfield 43, 3) := by decide +kernel
theorem dW_through_33 : decode cW_through 33 = .ok (.aload_n 0, 1) := by decide +kernel
theorem dW_through_34 : decode cW_through 34 = .ok (.iconst 0, 1) := by decide +kernel
theorem dW_through_35 : decode cW_through 35 = .ok (.putfield 46, 3) := by decide +kernel
theorem dW_through_38 : decode cW_through 38 = .ok (.aload_n 0, 1) := by decide +kernel
theorem dW_through_39 : decode cW_through 39 = .ok (.iconst 0, 1) := by decide +kernel
theorem dW_through_40 : decode cW_through 40 = .ok (.putfield 49, 3) := by decide +kernel
theorem dW_through_43 : decode cW_through 43 = .ok (.aload_n 0, 1) := by decide +kernel
theorem dW_through_44 : decode cW_through 44 = .ok (.getfield 12, 3) := by decide +kernel
theorem dW_through_47 : decode cW_through 47 = .ok (.invokevirtual 52, 3) := by decide +kernel
theorem dW_through_50 : decode cW_through 50 = .ok (.aload_n 2, 1) := by decide +kernel
theorem dW_through_51 : decode cW_through 51 = .ok (.getfield 55, 3) := by decide +kernel
theorem dW_through_54 : decode cW_through 54 = .ok (.aload_n 0, 1) := by decide +kernel
theorem dW_through_55 : decode cW_through 55 = .ok (.getfield 12, 3) := by decide +kernel
theorem dW_through_58 : decode cW_through 58 = .ok (.iconst 1, 1) := by decide +kernel
theorem dW_through_59 : decode cW_through 59 = .ok (.iconst 2, 1) := by decide +kernel
theorem dW_through_60 : decode cW_through 60 = .ok (.invokevirtual 61, 3) := by decide +kernel
theorem dW_through_63 : decode cW_through 63 = .ok (.aload_n 0, 1) := by decide +kernel
theorem dW_through_64 : decode cW_through 64 = .ok (.getfield 12, 3) := by decide +kernel
theorem dW_through_67 : decode cW_through 67 = .ok (.getfield 67, 3) := by decide +kernel
theorem dW_through_70 : decode cW_through 70 = .ok (.ifCond .eq 7, 3) := by decide +kernel
theorem dW_through_73 : decode cW_through 73 = .ok (.iconst 0, 1) := by decide +kernel
theorem dW_through_74 : decode cW_through 74 = .ok (.goto 4, 3) := by decide +kernel
theorem dW_through_77 : decode cW_through 77 = .ok (.iconst (-1), 1) := by decide +kernel
theorem dW_through_78 : decode cW_through 78 = .ok (.istore 6, 2) := by decide +kernel
theorem dW_through_80 : decode cW_through 80 = .ok (.iconst 0, 1) := by decide +kernel
theorem dW_through_81 : decode cW_through 81 = .ok (.istore 7, 2) := by decide +kernel
theorem dW_through_83 : decode cW_through 83 = .ok (.iload 7, 2) := by decide +kernel
theorem dW_through_85 : decode cW_through 85 = .ok (.bipush 64, 2) := by decide +kernel
theorem dW_through_87 : decode cW_through 87 = .ok (.if_icmp .ge 29, 3) := by decide +kernel
theorem dW_through_90 : decode cW_through 90 = .ok (.iload 6, 2) := by decide +kernel
theorem dW_through_92 : decode cW_through 92 = .ok (.iconst (-1), 1) := by decide +kernel
theorem dW_through_93 : decode cW_through 93 = .ok (.if_icmp .eq 23, 3) := by decide +kernel
theorem dW_through_96 : decode cW_through 96 = .ok (.aload_n 0, 1) := by decide +kernel
theorem dW_through_97 : decode cW_through 97 = .ok (.iload 6, 2) := by decide +kernel
theorem dW_through_99 : decode cW_through 99 = .ok (.aload_n 1, 1) := by decide +kernel
theorem dW_through_100 : decode cW_through 100 = .ok (.aload_n 2, 1) := by decide +kernel
theorem dW_through_101 : decode cW_through 101 = .ok (.invokevirtual 71, 3) := by decide +kernel
theorem dW_through_104 : decode cW_through 104 = .ok (.aload_n 0, 1) := by decide +kernel
theorem dW_through_105 : decode cW_through 105 = .ok (.invokevirtual 75, 3) := by decide +kernel
theorem dW_through_108 : decode cW_through 108 = .ok (.istore 6, 2) := by decide +kernel
theorem dW_through_110 : decode cW_through 110 = .ok (.iinc 7 1, 3) := by decide +kernel
theorem dW_through_113 : decode cW_through 113 = .ok (.goto (-30), 3) := by decide +kernel
theorem dW_through_116 : decode cW_through 116 = .ok (.return_, 1) := by decide +kernel
theorem dA_fill_0 : decode cA_fill 0 = .ok (.iconst 0, 1) := by decide +kernel
theorem dA_fill_1 : decode cA_fill 1 = .ok (.istore_n 2, 1) := by decide +kernel
theorem dA_fill_2 : decode cA_fill 2 = .ok (.aload_n 0, 1) := by decide +kernel
theorem dA_fill_3 : decode cA_fill 3 = .ok (.arraylength, 1) := by decide +kernel
theorem dA_fill_4 : decode cA_fill 4 = .ok (.istore_n 3, 1) := by decide +kernel
theorem dA_fill_5 : decode cA_fill 5 = .ok (.iload_n 2, 1) := by decide +kernel
theorem dA_fill_6 : decode cA_fill 6 = .ok (.iload_n 3, 1) := by decide +kernel
theorem dA_fill_7 : decode cA_fill 7 = .ok (.if_icmp .ge 13, 3) := by decide +kernel
theorem dA_fill_10 : decode cA_fill 10 = .ok (.aload_n 0, 1) := by decide +kernel
theorem dA_fill_11 : decode cA_fill 11 = .ok (.iload_n 2, 1) := by decide +kernel
theorem dA_fill_12 : decode cA_fill 12 = .ok (.iload_n 1, 1) := by decide +kernel
theorem dA_fill_13 : decode cA_fill 13 = .ok (.iastore, 1) := by decide +kernel
theorem dA_fill_14 : decode cA_fill 14 = .ok (.iinc 2 1, 3) := by decide +kernel
theorem dA_fill_17 : decode cA_fill 17 = .ok (.goto (-12), 3) := by decide +kernel
theorem dA_fill_20 : decode cA_fill 20 = .ok (.return_, 1) := by decide +kernel
theorem dW_followFrom_0 : decode cW_followFrom 0 = .ok (.iload_n 1, 1) := by decide +kernel
theorem dW_followFrom_1 : decode cW_followFrom 1 = .ok (.istore 4, 2) := by decide +kernel
theorem dW_followFrom_3 : decode cW_followFrom 3 = .ok (.iconst 0, 1) := by decide +kernel
theorem dW_followFrom_4 : decode cW_followFrom 4 = .ok (.istore 5, 2) := by decide +kernel
theorem dW_followFrom_6 : decode cW_followFrom 6 = .ok (.iload 5, 2) := by decide +kernel
theorem dW_followFrom_8 : decode cW_followFrom 8 = .ok (.bipush 16, 2) := by decide +kernel
theorem dW_followFrom_10 : decode cW_followFrom 10 = .ok (.if_icmp .gt 55, 3) := by decide +kernel
theorem dW_followFrom_13 : decode cW_followFrom 13 = .ok (.iload 4, 2) := by decide +kernel
theorem dW_followFrom_15 : decode cW_followFrom 15 = .ok (.iconst (-1), 1) := by decide +kernel
theorem dW_followFrom_16 : decode cW_followFrom 16 = .ok (.if_icmp .eq 49, 3) := by decide +kernel
theorem dW_followFrom_19 : decode cW_followFrom 19 = .ok (.aload_n 0, 1) := by decide +kernel
theorem dW_followFrom_20 : decode cW_followFrom 20 = .ok (.iload 4, 2) := by decide +kernel
theorem dW_followFrom_22 : decode cW_followFrom 22 = .ok (.invokevirtual 83, 3) := by decide +kernel
theorem dW_followFrom_25 : decode cW_followFrom 25 = .ok (.iload 4, 2) := by decide +kernel
theorem dW_followFrom_27 : decode cW_followFrom 27 = .ok (.aload_n 3, 1) := by decide +kernel
theorem dW_followFrom_28 : decode cW_followFrom 28 = .ok (.getfield 87, 3) := by decide +kernel
theorem dW_followFrom_31 : decode cW_followFrom 31 = .ok (.if_icmp .lt 18, 3) := by decide +kernel
theorem dW_followFrom_34 : decode cW_followFrom 34 = .ok (.aload_n 0, 1) := by decide +kernel
theorem dW_followFrom_35 : decode cW_followFrom 35 = .ok (.iload 4, 2) := by decide +kernel
theorem dW_followFrom_37 : decode cW_followFrom 37 = .ok (.aload_n 3, 1) := by decide +kernel
theorem dW_followFrom_38 : decode cW_followFrom 38 = .ok (.iconst 0, 1) := by decide +kernel
theorem dW_followFrom_39 : decode cW_followFrom 39 = .ok (.iconst 0, 1) := by decide +kernel
theorem dW_followFrom_40 : decode cW_followFrom 40 = .ok (.invokevirtual 90, 3) := by decide +kernel
theorem dW_followFrom_43 : decode cW_followFrom 43 = .ok (.iconst (-1), 1) := by decide +kernel
theorem dW_followFrom_44 : decode cW_followFrom 44 = .ok (.istore 4, 2) := by decide +kernel
theorem dW_followFrom_46 : decode cW_followFrom 46 = .ok (.goto 13, 3) := by decide +kernel
theorem dW_followFrom_49 : decode cW_followFrom 49 = .ok (.aload_n 0, 1) := by decide +kernel
theorem dW_followFrom_50 : decode cW_followFrom 50 = .ok (.iload 4, 2) := by decide +kernel
theorem dW_followFrom_52 : decode cW_followFrom 52 = .ok (.aload_n 2, 1) := by decide +kernel
theorem dW_followFrom_53 : decode cW_followFrom 53 = .ok (.aload_n 3, 1) := by decide +kernel
theorem dW_followFrom_54 : decode cW_followFrom 54 = .ok (.invokevirtual 94, 3) := by decide +kernel
theorem dW_followFrom_57 : decode cW_followFrom 57 = .ok (.istore 4, 2) := by decide +kernel
theorem dW_followFrom_59 : decode cW_followFrom 59 = .ok (.iinc 5 1, 3) := by decide +kernel
theorem dW_followFrom_62 : decode cW_followFrom 62 = .ok (.goto (-56), 3) := by decide +kernel
theorem dW_followFrom_65 : decode cW_followFrom 65 = .ok (.return_, 1) := by decide +kernel
theorem dW_comeTo_0 : decode cW_comeTo 0 = .ok (.aload_n 0, 1) := by decide +kernel
theorem dW_comeTo_1 : decode cW_comeTo 1 = .ok (.dup, 1) := by decide +kernel
theorem dW_comeTo_2 : decode cW_comeTo 2 = .ok (.getfield 26, 3) := by decide +kernel
theorem dW_comeTo_5 : decode cW_comeTo 5 = .ok (.iconst 1, 1) := by decide +kernel
theorem dW_comeTo_6 : decode cW_comeTo 6 = .ok (.iload_n 1, 1) := by decide +kernel
theorem dW_comeTo_7 : decode cW_comeTo 7 = .ok (.ishl, 1) := by decide +kernel
theorem dW_comeTo_8 : decode cW_comeTo 8 = .ok (.ior, 1) := by decide +kernel
theorem dW_comeTo_9 : decode cW_comeTo 9 = .ok (.putfield 26, 3) := by decide +kernel
theorem dW_comeTo_12 : decode cW_comeTo 12 = .ok (.iload_n 1, 1) := by decide +kernel
theorem dW_comeTo_13 : decode cW_comeTo 13 = .ok (.aload_n 0, 1) := by decide +kernel
theorem dW_comeTo_14 : decode cW_comeTo 14 = .ok (.getfield 30, 3) := by decide +kernel
theorem dW_comeTo_17 : decode cW_comeTo 17 = .ok (.if_icmp .ne 29, 3) := by decide +kernel
theorem dW_comeTo_20 : decode cW_comeTo 20 = .ok (.aload_n 0, 1) := by decide +kernel
theorem dW_comeTo_21 : decode cW_comeTo 21 = .ok (.aload_n 0, 1) := by decide +kernel
theorem dW_comeTo_22 : decode cW_comeTo 22 = .ok (.getfield 40, 3) := by decide +kernel
theorem dW_comeTo_25 : decode cW_comeTo 25 = .ok (.aload_n 0, 1) := by decide +kernel
theorem dW_comeTo_26 : decode cW_comeTo 26 = .ok (.getfield 12, 3) := by decide +kernel
theorem dW_comeTo_29 : decode cW_comeTo 29 = .ok (.aload_n 0, 1) := by decide +kernel
theorem dW_comeTo_30 : decode cW_comeTo 30 = .ok (.getfield 33, 3) := by decide +kernel
theorem dW_comeTo_33 : decode cW_comeTo 33 = .ok (.aload_n 0, 1) := by decide +kernel
theorem dW_comeTo_34 : decode cW_comeTo 34 = .ok (.getfield 36, 3) := by decide +kernel
theorem dW_comeTo_37 : decode cW_comeTo 37 = .ok (.invokevirtual 98, 3) := by decide +kernel
theorem dW_comeTo_40 : decode cW_comeTo 40 = .ok (.invokestatic 102, 3) := by decide +kernel
theorem dW_comeTo_43 : decode cW_comeTo 43 = .ok (.putfield 40, 3) := by decide +kernel
theorem dW_comeTo_46 : decode cW_comeTo 46 = .ok (.return_, 1) := by decide +kernel
theorem dW_endAt_0 : decode cW_endAt 0 = .ok (.aload_n 0, 1) := by decide +kernel
theorem dW_endAt_1 : decode cW_endAt 1 = .ok (.getfield 12, 3) := by decide +kernel
theorem dW_endAt_4 : decode cW_endAt 4 = .ok (.iconst 3, 1) := by decide +kernel
theorem dW_endAt_5 : decode cW_endAt 5 = .ok (.iload_n 3, 1) := by decide +kernel
theorem dW_endAt_6 : decode cW_endAt 6 = .ok (.iload 4, 2) := by decide +kernel
theorem dW_endAt_8 : decode cW_endAt 8 = .ok (.invokevirtual 125, 3) := by decide +kernel
theorem dW_endAt_11 : decode cW_endAt 11 = .ok (.aload_n 0, 1) := by decide +kernel
theorem dW_endAt_12 : decode cW_endAt 12 = .ok (.iload_n 1, 1) := by decide +kernel
theorem dW_endAt_13 : decode cW_endAt 13 = .ok (.aload_n 2, 1) := by decide +kernel
theorem dW_endAt_14 : decode cW_endAt 14 = .ok (.getfield 162, 3) := by decide +kernel
theorem dW_endAt_17 : decode cW_endAt 17 = .ok (.aload_n 0, 1) := by decide +kernel
theorem dW_endAt_18 : decode cW_endAt 18 = .ok (.getfield 12, 3) := by decide +kernel
theorem dW_endAt_21 : decode cW_endAt 21 = .ok (.iconst 1, 1) := by decide +kernel
theorem dW_endAt_22 : decode cW_endAt 22 = .ok (.iconst 2, 1) := by decide +kernel
theorem dW_endAt_23 : decode cW_endAt 23 = .ok (.invokevirtual 158, 3) := by decide +kernel
theorem dW_endAt_26 : decode cW_endAt 26 = .ok (.invokevirtual 148, 3) := by decide +kernel
theorem dW_endAt_29 : decode cW_endAt 29 = .ok (.aload_n 0, 1) := by decide +kernel
theorem dW_endAt_30 : decode cW_endAt 30 = .ok (.dup, 1) := by decide +kernel
theorem dW_endAt_31 : decode cW_endAt 31 = .ok (.getfield 46, 3) := by decide +kernel
theorem dW_endAt_34 : decode cW_endAt 34 = .ok (.iconst 1, 1) := by decide +kernel
theorem dW_endAt_35 : decode cW_endAt 35 = .ok (.iadd, 1) := by decide +kernel
theorem dW_endAt_36 : decode cW_endAt 36 = .ok (.putfield 46, 3) := by decide +kernel
theorem dW_endAt_39 : decode cW_endAt 39 = .ok (.return_, 1) := by decide +kernel
theorem dW_noteShown_0 : decode cW_noteShown 0 = .ok (.iload_n 2, 1) := by decide +kernel
theorem dW_noteShown_1 : decode cW_noteShown 1 = .ok (.ifCond .ne 24, 3) := by decide +kernel
theorem dW_noteShown_4 : decode cW_noteShown 4 = .ok (.aload_n 0, 1) := by decide +kernel
theorem dW_noteShown_5 : decode cW_noteShown 5 = .ok (.getfield 43, 3) := by decide +kernel
theorem dW_noteShown_8 : decode cW_noteShown 8 = .ok (.iconst (-1), 1) := by decide +kernel
theorem dW_noteShown_9 : decode cW_noteShown 9 = .ok (.if_icmp .eq 11, 3) := by decide +kernel
theorem dW_noteShown_12 : decode cW_noteShown 12 = .ok (.iload_n 1, 1) := by decide +kernel
theorem dW_noteShown_13 : decode cW_noteShown 13 = .ok (.aload_n 0, 1) := by decide +kernel
theorem dW_noteShown_14 : decode cW_noteShown 14 = .ok (.getfield 43, 3) := by decide +kernel
theorem dW_noteShown_17 : decode cW_noteShown 17 = .ok (.if_icmp .ge 8, 3) := by decide +kernel
theorem dW_noteShown_20 : decode cW_noteShown 20 = .ok (.aload_n 0, 1) := by decide +kernel
theorem dW_noteShown_21 : decode cW_noteShown 21 = .ok (.iload_n 1, 1) := by decide +kernel
theorem dW_noteShown_22 : decode cW_noteShown 22 = .ok (.putfield 43, 3) := by decide +kernel
theorem dW_noteShown_25 : decode cW_noteShown 25 = .ok (.return_, 1) := by decide +kernel
theorem dW_pass_0 : decode cW_pass 0 = .ok (.aload_n 3, 1) := by decide +kernel
theorem dW_pass_1 : decode cW_pass 1 = .ok (.getfield 107, 3) := by decide +kernel
theorem dW_pass_4 : decode cW_pass 4 = .ok (.iload_n 1, 1) := by decide +kernel
theorem dW_pass_5 : decode cW_pass 5 = .ok (.aaload, 1) := by decide +kernel
theorem dW_pass_6 : decode cW_pass 6 = .ok (.astore 4, 2) := by decide +kernel
theorem dW_pass_8 : decode cW_pass 8 = .ok (.iload_n 1, 1) := by decide +kernel
theorem dW_pass_9 : decode cW_pass 9 = .ok (.iconst 1, 1) := by decide +kernel
theorem dW_pass_10 : decode cW_pass 10 = .ok (.iadd, 1) := by decide +kernel
theorem dW_pass_11 : decode cW_pass 11 = .ok (.istore 5, 2) := by decide +kernel
theorem dW_pass_13 : decode cW_pass 13 = .ok (.aload 4, 2) := by decide +kernel
theorem dW_pass_15 : decode cW_pass 15 = .ok (.getfield 111, 3) := by decide +kernel
theorem dW_pass_18 : decode cW_pass 18 = .ok (.tableswitch 221 0 7 #[46, 71, 88, 125, 221, 136, 188, 206], 46) := by decide +kernel
theorem dW_pass_64 : decode cW_pass 64 = .ok (.aload_n 0, 1) := by decide +kernel
theorem dW_pass_65 : decode cW_pass 65 = .ok (.getfield 12, 3) := by decide +kernel
theorem dW_pass_68 : decode cW_pass 68 = .ok (.aload 4, 2) := by decide +kernel
theorem dW_pass_70 : decode cW_pass 70 = .ok (.getfield 116, 3) := by decide +kernel
theorem dW_pass_73 : decode cW_pass 73 = .ok (.aload 4, 2) := by decide +kernel
theorem dW_pass_75 : decode cW_pass 75 = .ok (.getfield 119, 3) := by decide +kernel
theorem dW_pass_78 : decode cW_pass 78 = .ok (.aload 4, 2) := by decide +kernel
theorem dW_pass_80 : decode cW_pass 80 = .ok (.getfield 122, 3) := by decide +kernel
theorem dW_pass_83 : decode cW_pass 83 = .ok (.invokevirtual 125, 3) := by decide +kernel
theorem dW_pass_86 : decode cW_pass 86 = .ok (.goto 153, 3) := by decide +kernel
theorem dW_pass_89 : decode cW_pass 89 = .ok (.aload_n 0, 1) := by decide +kernel
theorem dW_pass_90 : decode cW_pass 90 = .ok (.iload_n 1, 1) := by decide +kernel
theorem dW_pass_91 : decode cW_pass 91 = .ok (.aload 4, 2) := by decide +kernel
theorem dW_pass_93 : decode cW_pass 93 = .ok (.aload_n 2, 1) := by decide +kernel
theorem dW_pass_94 : decode cW_pass 94 = .ok (.aload 4, 2) := by decide +kernel
theorem dW_pass_96 : decode cW_pass 96 = .ok (.getfield 122, 3) := by decide +kernel
theorem dW_pass_99 : decode cW_pass 99 = .ok (.aaload, 1) := by decide +kernel
theorem dW_pass_100 : decode cW_pass 100 = .ok (.invokevirtual 129, 3) := by decide +kernel
theorem dW_pass_103 : decode cW_pass 103 = .ok (.goto 136, 3) := by decide +kernel
theorem dW_pass_106 : decode cW_pass 106 = .ok (.aload_n 0, 1) := by decide +kernel
theorem dW_pass_107 : decode cW_pass 107 = .ok (.aload 4, 2) := by decide +kernel
theorem dW_pass_109 : decode cW_pass 109 = .ok (.aload_n 3, 1) := by decide +kernel
theorem dW_pass_110 : decode cW_pass 110 = .ok (.aload 4, 2) := by decide +kernel
theorem dW_pass_112 : decode cW_pass 112 = .ok (.invokevirtual 133, 3) := by decide +kernel
theorem dW_pass_115 : decode cW_pass 115 = .ok (.invokevirtual 137, 3) := by decide +kernel
theorem dW_pass_118 : decode cW_pass 118 = .ok (.aload_n 0, 1) := by decide +kernel
theorem dW_pass_119 : decode cW_pass 119 = .ok (.getfield 12, 3) := by decide +kernel
theorem dW_pass_122 : decode cW_pass 122 = .ok (.aload 4, 2) := by decide +kernel
theorem dW_pass_124 : decode cW_pass 124 = .ok (.getfield 116, 3) := by decide +kernel
theorem dW_pass_127 : decode cW_pass 127 = .ok (.aload 4, 2) := by decide +kernel
theorem dW_pass_129 : decode cW_pass 129 = .ok (.getfield 119, 3) := by decide +kernel
theorem dW_pass_132 : decode cW_pass 132 = .ok (.aload 4, 2) := by decide +kernel
theorem dW_pass_134 : decode cW_pass 134 = .ok (.getfield 122, 3) := by decide +kernel
theorem dW_pass_137 : decode cW_pass 137 = .ok (.invokevirtual 141, 3) := by decide +kernel
theorem dW_pass_140 : decode cW_pass 140 = .ok (.goto 99, 3) := by decide +kernel
theorem dW_pass_143 : decode cW_pass 143 = .ok (.aload_n 3, 1) := by decide +kernel
theorem dW_pass_144 : decode cW_pass 144 = .ok (.aload 4, 2) := by decide +kernel
theorem dW_pass_146 : decode cW_pass 146 = .ok (.invokevirtual 133, 3) := by decide +kernel
theorem dW_pass_149 : decode cW_pass 149 = .ok (.istore 5, 2) := by decide +kernel
theorem dW_pass_151 : decode cW_pass 151 = .ok (.goto 88, 3) := by decide +kernel
theorem dW_pass_154 : decode cW_pass 154 = .ok (.aload_n 0, 1) := by decide +kernel
theorem dW_pass_155 : decode cW_pass 155 = .ok (.iload_n 1, 1) := by decide +kernel
theorem dW_pass_156 : decode cW_pass 156 = .ok (.aload_n 0, 1) := by decide +kernel
theorem dW_pass_157 : decode cW_pass 157 = .ok (.getfield 12, 3) := by decide +kernel
theorem dW_pass_160 : decode cW_pass 160 = .ok (.aload 4, 2) := by decide +kernel
theorem dW_pass_162 : decode cW_pass 162 = .ok (.getfield 116, 3) := by decide +kernel
theorem dW_pass_165 : decode cW_pass 165 = .ok (.aload 4, 2) := by decide +kernel
theorem dW_pass_167 : decode cW_pass 167 = .ok (.getfield 119, 3) := by decide +kernel
theorem dW_pass_170 : decode cW_pass 170 = .ok (.aload 4, 2) := by decide +kernel
theorem dW_pass_172 : decode cW_pass 172 = .ok (.getfield 122, 3) := by decide +kernel
theorem dW_pass_175 : decode cW_pass 175 = .ok (.invokevirtual 144, 3) := by decide +kernel
theorem dW_pass_178 : decode cW_pass 178 = .ok (.invokevirtual 148, 3) := by decide +kernel
theorem dW_pass_181 : decode cW_pass 181 = .ok (.aload_n 0, 1) := by decide +kernel
theorem dW_pass_182 : decode cW_pass 182 = .ok (.getfield 12, 3) := by decide +kernel
theorem dW_pass_185 : decode cW_pass 185 = .ok (.aload 4, 2) := by decide +kernel
theorem dW_pass_187 : decode cW_pass 187 = .ok (.getfield 116, 3) := by decide +kernel
theorem dW_pass_190 : decode cW_pass 190 = .ok (.aload 4, 2) := by decide +kernel
theorem dW_pass_192 : decode cW_pass 192 = .ok (.getfield 119, 3) := by decide +kernel
theorem dW_pass_195 : decode cW_pass 195 = .ok (.aload 4, 2) := by decide +kernel
theorem dW_pass_197 : decode cW_pass 197 = .ok (.getfield 122, 3) := by decide +kernel
theorem dW_pass_200 : decode cW_pass 200 = .ok (.invokevirtual 141, 3) := by decide +kernel
theorem dW_pass_203 : decode cW_pass 203 = .ok (.goto 36, 3) := by decide +kernel
theorem dW_pass_206 : decode cW_pass 206 = .ok (.aload_n 0, 1) := by decide +kernel
theorem dW_pass_207 : decode cW_pass 207 = .ok (.iload_n 1, 1) := by decide +kernel
theorem dW_pass_208 : decode cW_pass 208 = .ok (.aload_n 3, 1) := by decide +kernel
theorem dW_pass_209 : decode cW_pass 209 = .ok (.aload 4, 2) := by decide +kernel
theorem dW_pass_211 : decode cW_pass 211 = .ok (.getfield 119, 3) := by decide +kernel
theorem dW_pass_214 : decode cW_pass 214 = .ok (.aload 4, 2) := by decide +kernel
theorem dW_pass_216 : decode cW_pass 216 = .ok (.getfield 122, 3) := by decide +kernel
theorem dW_pass_219 : decode cW_pass 219 = .ok (.invokevirtual 90, 3) := by decide +kernel
theorem dW_pass_222 : decode cW_pass 222 = .ok (.iconst (-1), 1) := by decide +kernel
theorem dW_pass_223 : decode cW_pass 223 = .ok (.ireturn, 1) := by decide +kernel
theorem dW_pass_224 : decode cW_pass 224 = .ok (.aload_n 0, 1) := by decide +kernel
theorem dW_pass_225 : decode cW_pass 225 = .ok (.getfield 12, 3) := by decide +kernel
theorem dW_pass_228 : decode cW_pass 228 = .ok (.aload 4, 2) := by decide +kernel
theorem dW_pass_230 : decode cW_pass 230 = .ok (.getfield 116, 3) := by decide +kernel
theorem dW_pass_233 : decode cW_pass 233 = .ok (.invokevirtual 152, 3) := by decide +kernel
theorem dW_pass_236 : decode cW_pass 236 = .ok (.goto 3, 3) := by decide +kernel
theorem dW_pass_239 : decode cW_pass 239 = .ok (.aload_n 0, 1) := by decide +kernel
theorem dW_pass_240 : decode cW_pass 240 = .ok (.getfield 12, 3) := by decide +kernel
theorem dW_pass_243 : decode cW_pass 243 = .ok (.getfield 67, 3) := by decide +kernel
theorem dW_pass_246 : decode cW_pass 246 = .ok (.ifCond .eq 8, 3) := by decide +kernel
theorem dW_pass_249 : decode cW_pass 249 = .ok (.iload 5, 2) := by decide +kernel
theorem dW_pass_251 : decode cW_pass 251 = .ok (.goto 4, 3) := by decide +kernel
theorem dW_pass_254 : decode cW_pass 254 = .ok (.iconst (-1), 1) := by decide +kernel
theorem dW_pass_255 : decode cW_pass 255 = .ok (.ireturn, 1) := by decide +kernel
theorem dW_passCall_0 : decode cW_passCall 0 = .ok (.aload_n 0, 1) := by decide +kernel
theorem dW_passCall_1 : decode cW_passCall 1 = .ok (.iload_n 1, 1) := by decide +kernel
theorem dW_passCall_2 : decode cW_passCall 2 = .ok (.aload_n 3, 1) := by decide +kernel
theorem dW_passCall_3 : decode cW_passCall 3 = .ok (.getfield 55, 3) := by decide +kernel
theorem dW_passCall_6 : decode cW_passCall 6 = .ok (.aload_n 0, 1) := by decide +kernel
theorem dW_passCall_7 : decode cW_passCall 7 = .ok (.getfield 12, 3) := by decide +kernel
theorem dW_passCall_10 : decode cW_passCall 10 = .ok (.aload_n 2, 1) := by decide +kernel
theorem dW_passCall_11 : decode cW_passCall 11 = .ok (.getfield 119, 3) := by decide +kernel
theorem dW_passCall_14 : decode cW_passCall 14 = .ok (.aload_n 2, 1) := by decide +kernel
theorem dW_passCall_15 : decode cW_passCall 15 = .ok (.getfield 155, 3) := by decide +kernel
theorem dW_passCall_18 : decode cW_passCall 18 = .ok (.invokevirtual 158, 3) := by decide +kernel
theorem dW_passCall_21 : decode cW_passCall 21 = .ok (.invokevirtual 148, 3) := by decide +kernel
theorem dW_passCall_24 : decode cW_passCall 24 = .ok (.aload_n 3, 1) := by decide +kernel
theorem dW_passCall_25 : decode cW_passCall 25 = .ok (.getfield 162, 3) := by decide +kernel
theorem dW_passCall_28 : decode cW_passCall 28 = .ok (.aload_n 0, 1) := by decide +kernel
theorem dW_passCall_29 : decode cW_passCall 29 = .ok (.getfield 12, 3) := by decide +kernel
theorem dW_passCall_32 : decode cW_passCall 32 = .ok (.aload_n 2, 1) := by decide +kernel
theorem dW_passCall_33 : decode cW_passCall 33 = .ok (.getfield 119, 3) := by decide +kernel
theorem dW_passCall_36 : decode cW_passCall 36 = .ok (.aload_n 2, 1) := by decide +kernel
theorem dW_passCall_37 : decode cW_passCall 37 = .ok (.getfield 155, 3) := by decide +kernel
theorem dW_passCall_40 : decode cW_passCall 40 = .ok (.invokevirtual 61, 3) := by decide +kernel
theorem dW_passCall_43 : decode cW_passCall 43 = .ok (.aload_n 0, 1) := by decide +kernel
theorem dW_passCall_44 : decode cW_passCall 44 = .ok (.getfield 12, 3) := by decide +kernel
theorem dW_passCall_47 : decode cW_passCall 47 = .ok (.aload_n 2, 1) := by decide +kernel
theorem dW_passCall_48 : decode cW_passCall 48 = .ok (.getfield 116, 3) := by decide +kernel
theorem dW_passCall_51 : decode cW_passCall 51 = .ok (.iconst 3, 1) := by decide +kernel
theorem dW_passCall_52 : decode cW_passCall 52 = .ok (.iconst 0, 1) := by decide +kernel
theorem dW_passCall_53 : decode cW_passCall 53 = .ok (.invokevirtual 125, 3) := by decide +kernel
theorem dW_passCall_56 : decode cW_passCall 56 = .ok (.aload_n 0, 1) := by decide +kernel
theorem dW_passCall_57 : decode cW_passCall 57 = .ok (.getfield 12, 3) := by decide +kernel
theorem dW_passCall_60 : decode cW_passCall 60 = .ok (.iconst 3, 1) := by decide +kernel
theorem dW_passCall_61 : decode cW_passCall 61 = .ok (.invokevirtual 152, 3) := by decide +kernel
theorem dW_passCall_64 : decode cW_passCall 64 = .ok (.return_, 1) := by decide +kernel
theorem dF_targetOf_0 : decode cF_targetOf 0 = .ok (.aload_n 1, 1) := by decide +kernel
theorem dF_targetOf_1 : decode cF_targetOf 1 = .ok (.getfield 79, 3) := by decide +kernel
theorem dF_targetOf_4 : decode cF_targetOf 4 = .ok (.iconst (-1), 1) := by decide +kernel
theorem dF_targetOf_5 : decode cF_targetOf 5 = .ok (.if_icmp .ne 10, 3) := by decide +kernel
theorem dF_targetOf_8 : decode cF_targetOf 8 = .ok (.aload_n 0, 1) := by decide +kernel
theorem dF_targetOf_9 : decode cF_targetOf 9 = .ok (.getfield 36, 3) := by decide +kernel
theorem dF_targetOf_12 : decode cF_targetOf 12 = .ok (.goto 7, 3) := by decide +kernel
theorem dF_targetOf_15 : decode cF_targetOf 15 = .ok (.aload_n 1, 1) := by decide +kernel
theorem dF_targetOf_16 : decode cF_targetOf 16 = .ok (.getfield 79, 3) := by decide +kernel
theorem dF_targetOf_19 : decode cF_targetOf 19 = .ok (.ireturn, 1) := by decide +kernel
theorem dW_leaveOtherSide_0 : decode cW_leaveOtherSide 0 = .ok (.aload_n 0, 1) := by decide +kernel
theorem dW_leaveOtherSide_1 : decode cW_leaveOtherSide 1 = .ok (.getfield 49, 3) := by decide +kernel
theorem dW_leaveOtherSide_4 : decode cW_leaveOtherSide 4 = .ok (.bipush 6, 2) := by decide +kernel
theorem dW_leaveOtherSide_6 : decode cW_leaveOtherSide 6 = .ok (.if_icmp .lt 4, 3) := by decide +kernel
theorem dW_leaveOtherSide_9 : decode cW_leaveOtherSide 9 = .ok (.return_, 1) := by decide +kernel
theorem dW_leaveOtherSide_10 : decode cW_leaveOtherSide 10 = .ok (.aload_n 0, 1) := by decide +kernel
theorem dW_leaveOtherSide_11 : decode cW_leaveOtherSide 11 = .ok (.getfield 18, 3) := by decide +kernel
theorem dW_leaveOtherSide_14 : decode cW_leaveOtherSide 14 = .ok (.aload_n 0, 1) := by decide +kernel
theorem dW_leaveOtherSide_15 : decode cW_leaveOtherSide 15 = .ok (.getfield 49, 3) := by decide +kernel
theorem dW_leaveOtherSide_18 : decode cW_leaveOtherSide 18 = .ok (.aaload, 1) := by decide +kernel
theorem dW_leaveOtherSide_19 : decode cW_leaveOtherSide 19 = .ok (.astore_n 3, 1) := by decide +kernel
theorem dW_leaveOtherSide_20 : decode cW_leaveOtherSide 20 = .ok (.aload_n 3, 1) := by decide +kernel
theorem dW_leaveOtherSide_21 : decode cW_leaveOtherSide 21 = .ok (.aload_n 0, 1) := by decide +kernel
theorem dW_leaveOtherSide_22 : decode cW_leaveOtherSide 22 = .ok (.getfield 12, 3) := by decide +kernel
theorem dW_leaveOtherSide_25 : decode cW_leaveOtherSide 25 = .ok (.invokevirtual 79, 3) := by decide +kernel
theorem dW_leaveOtherSide_28 : decode cW_leaveOtherSide 28 = .ok (.aload_n 3, 1) := by decide +kernel
theorem dW_leaveOtherSide_29 : decode cW_leaveOtherSide 29 = .ok (.aload_n 1, 1) := by decide +kernel
theorem dW_leaveOtherSide_30 : decode cW_leaveOtherSide 30 = .ok (.getfield 119, 3) := by decide +kernel
theorem dW_leaveOtherSide_33 : decode cW_leaveOtherSide 33 = .ok (.aload_n 1, 1) := by decide +kernel
theorem dW_leaveOtherSide_34 : decode cW_leaveOtherSide 34 = .ok (.getfield 116, 3) := by decide +kernel
theorem dW_leaveOtherSide_37 : decode cW_leaveOtherSide 37 = .ok (.aload_n 1, 1) := by decide +kernel
theorem dW_leaveOtherSide_38 : decode cW_leaveOtherSide 38 = .ok (.getfield 122, 3) := by decide +kernel
theorem dW_leaveOtherSide_41 : decode cW_leaveOtherSide 41 = .ok (.ineg, 1) := by decide +kernel
theorem dW_leaveOtherSide_42 : decode cW_leaveOtherSide 42 = .ok (.iconst 1, 1) := by decide +kernel
theorem dW_leaveOtherSide_43 : decode cW_leaveOtherSide 43 = .ok (.isub, 1) := by decide +kernel
theorem dW_leaveOtherSide_44 : decode cW_leaveOtherSide 44 = .ok (.invokevirtual 141, 3) := by decide +kernel
theorem dW_leaveOtherSide_47 : decode cW_leaveOtherSide 47 = .ok (.aload_n 3, 1) := by decide +kernel
theorem dW_leaveOtherSide_48 : decode cW_leaveOtherSide 48 = .ok (.getfield 67, 3) := by decide +kernel
theorem dW_leaveOtherSide_51 : decode cW_leaveOtherSide 51 = .ok (.ifCond .eq 23, 3) := by decide +kernel
theorem dW_leaveOtherSide_54 : decode cW_leaveOtherSide 54 = .ok (.aload_n 0, 1) := by decide +kernel
theorem dW_leaveOtherSide_55 : decode cW_leaveOtherSide 55 = .ok (.getfield 22, 3) := by decide +kernel
theorem dW_leaveOtherSide_58 : decode cW_leaveOtherSide 58 = .ok (.aload_n 0, 1) := by decide +kernel
theorem dW_leaveOtherSide_59 : decode cW_leaveOtherSide 59 = .ok (.getfield 49, 3) := by decide +kernel
theorem dW_leaveOtherSide_62 : decode cW_leaveOtherSide 62 = .ok (.iload_n 2, 1) := by decide +kernel
theorem dW_leaveOtherSide_63 : decode cW_leaveOtherSide 63 = .ok (.iastore, 1) := by decide +kernel
theorem dW_leaveOtherSide_64 : decode cW_leaveOtherSide 64 = .ok (.aload_n 0, 1) := by decide +kernel
theorem dW_leaveOtherSide_65 : decode cW_leaveOtherSide 65 = .ok (.dup, 1) := by decide +kernel
theorem dW_leaveOtherSide_66 : decode cW_leaveOtherSide 66 = .ok (.getfield 49, 3) := by decide +kernel
theorem dW_leaveOtherSide_69 : decode cW_leaveOtherSide 69 = .ok (.iconst 1, 1) := by decide +kernel
theorem dW_leaveOtherSide_70 : decode cW_leaveOtherSide 70 = .ok (.iadd, 1) := by decide +kernel
theorem dW_leaveOtherSide_71 : decode cW_leaveOtherSide 71 = .ok (.putfield 49, 3) := by decide +kernel
theorem dW_leaveOtherSide_74 : decode cW_leaveOtherSide 74 = .ok (.return_, 1) := by decide +kernel
theorem dW_takeWaitingSide_0 : decode cW_takeWaitingSide 0 = .ok (.aload_n 0, 1) := by decide +kernel
theorem dW_takeWaitingSide_1 : decode cW_takeWaitingSide 1 = .ok (.getfield 49, 3) := by decide +kernel
theorem dW_takeWaitingSide_4 : decode cW_takeWaitingSide 4 = .ok (.ifCond .ne 5, 3) := by decide +kernel
theorem dW_takeWaitingSide_7 : decode cW_takeWaitingSide 7 = .ok (.iconst (-1), 1) := by decide +kernel
theorem dW_takeWaitingSide_8 : decode cW_takeWaitingSide 8 = .ok (.ireturn, 1) := by decide +kernel
theorem dW_takeWaitingSide_9 : decode cW_takeWaitingSide 9 = .ok (.aload_n 0, 1) := by decide +kernel
theorem dW_takeWaitingSide_10 : decode cW_takeWaitingSide 10 = .ok (.dup, 1) := by decide +kernel
theorem dW_takeWaitingSide_11 : decode cW_takeWaitingSide 11 = .ok (.getfield 49, 3) := by decide +kernel
theorem dW_takeWaitingSide_14 : decode cW_takeWaitingSide 14 = .ok (.iconst 1, 1) := by decide +kernel
theorem dW_takeWaitingSide_15 : decode cW_takeWaitingSide 15 = .ok (.isub, 1) := by decide +kernel
theorem dW_takeWaitingSide_16 : decode cW_takeWaitingSide 16 = .ok (.putfield 49, 3) := by decide +kernel
theorem dW_takeWaitingSide_19 : decode cW_takeWaitingSide 19 = .ok (.aload_n 0, 1) := by decide +kernel
theorem dW_takeWaitingSide_20 : decode cW_takeWaitingSide 20 = .ok (.getfield 12, 3) := by decide +kernel
theorem dW_takeWaitingSide_23 : decode cW_takeWaitingSide 23 = .ok (.aload_n 0, 1) := by decide +kernel
theorem dW_takeWaitingSide_24 : decode cW_takeWaitingSide 24 = .ok (.getfield 18, 3) := by decide +kernel
theorem dW_takeWaitingSide_27 : decode cW_takeWaitingSide 27 = .ok (.aload_n 0, 1) := by decide +kernel
theorem dW_takeWaitingSide_28 : decode cW_takeWaitingSide 28 = .ok (.getfield 49, 3) := by decide +kernel
theorem dW_takeWaitingSide_31 : decode cW_takeWaitingSide 31 = .ok (.aaload, 1) := by decide +kernel
theorem dW_takeWaitingSide_32 : decode cW_takeWaitingSide 32 = .ok (.invokevirtual 79, 3) := by decide +kernel
theorem dW_takeWaitingSide_35 : decode cW_takeWaitingSide 35 = .ok (.aload_n 0, 1) := by decide +kernel
theorem dW_takeWaitingSide_36 : decode cW_takeWaitingSide 36 = .ok (.getfield 22, 3) := by decide +kernel
theorem dW_takeWaitingSide_39 : decode cW_takeWaitingSide 39 = .ok (.aload_n 0, 1) := by decide +kernel
theorem dW_takeWaitingSide_40 : decode cW_takeWaitingSide 40 = .ok (.getfield 49, 3) := by decide +kernel
theorem dW_takeWaitingSide_43 : decode cW_takeWaitingSide 43 = .ok (.iaload, 1) := by decide +kernel
theorem dW_takeWaitingSide_44 : decode cW_takeWaitingSide 44 = .ok (.ireturn, 1) := by decide +kernel
theorem dW_cameTo_0 : decode cW_cameTo 0 = .ok (.aload_n 0, 1) := by decide +kernel
theorem dW_cameTo_1 : decode cW_cameTo 1 = .ok (.getfield 26, 3) := by decide +kernel
theorem dW_cameTo_4 : decode cW_cameTo 4 = .ok (.iload_n 1, 1) := by decide +kernel
theorem dW_cameTo_5 : decode cW_cameTo 5 = .ok (.ishr, 1) := by decide +kernel
theorem dW_cameTo_6 : decode cW_cameTo 6 = .ok (.iconst 1, 1) := by decide +kernel
theorem dW_cameTo_7 : decode cW_cameTo 7 = .ok (.iand, 1) := by decide +kernel
theorem dW_cameTo_8 : decode cW_cameTo 8 = .ok (.iconst 1, 1) := by decide +kernel
theorem dW_cameTo_9 : decode cW_cameTo 9 = .ok (.if_icmp .ne 7, 3) := by decide +kernel
theorem dW_cameTo_12 : decode cW_cameTo 12 = .ok (.iconst 1, 1) := by decide +kernel
theorem dW_cameTo_13 : decode cW_cameTo 13 = .ok (.goto 4, 3) := by decide +kernel
theorem dW_cameTo_16 : decode cW_cameTo 16 = .ok (.iconst 0, 1) := by decide +kernel
theorem dW_cameTo_17 : decode cW_cameTo 17 = .ok (.ireturn, 1) := by decide +kernel
