theorem dX4_init_0 : decode cX4_init 0 = .ok (.aload_n 0, 1) := by decide +kernel
theorem dX4_init_1 : decode cX4_init 1 = .ok (.invokespecial 1, 3) := by decide +kernel
theorem dX4_init_4 : decode cX4_init 4 = .ok (.aload_n 0, 1) := by decide +kernel
theorem dX4_init_5 : decode cX4_init 5 = .ok (.iconst 4, 1) := by decide +kernel
theorem dX4_init_6 : decode cX4_init 6 = .ok (.newarray .int, 2) := by decide +kernel
theorem dX4_init_8 : decode cX4_init 8 = .ok (.putfield 9, 3) := by decide +kernel
theorem dX4_init_11 : decode cX4_init 11 = .ok (.aload_n 0, 1) := by decide +kernel
theorem dX4_init_12 : decode cX4_init 12 = .ok (.bipush 64, 2) := by decide +kernel
theorem dX4_init_14 : decode cX4_init 14 = .ok (.newarray .int, 2) := by decide +kernel
theorem dX4_init_16 : decode cX4_init 16 = .ok (.putfield 13, 3) := by decide +kernel
theorem dX4_init_19 : decode cX4_init 19 = .ok (.aload_n 0, 1) := by decide +kernel
theorem dX4_init_20 : decode cX4_init 20 = .ok (.bipush 64, 2) := by decide +kernel
theorem dX4_init_22 : decode cX4_init 22 = .ok (.newarray .int, 2) := by decide +kernel
theorem dX4_init_24 : decode cX4_init 24 = .ok (.putfield 16, 3) := by decide +kernel
theorem dX4_init_27 : decode cX4_init 27 = .ok (.aload_n 0, 1) := by decide +kernel
theorem dX4_init_28 : decode cX4_init 28 = .ok (.bipush 64, 2) := by decide +kernel
theorem dX4_init_30 : decode cX4_init 30 = .ok (.newarray .int, 2) := by decide +kernel
theorem dX4_init_32 : decode cX4_init 32 = .ok (.putfield 19, 3) := by decide +kernel
theorem dX4_init_35 : decode cX4_init 35 = .ok (.aload_n 0, 1) := by decide +kernel
theorem dX4_init_36 : decode cX4_init 36 = .ok (.bipush 64, 2) := by decide +kernel
theorem dX4_init_38 : decode cX4_init 38 = .ok (.newarray .int, 2) := by decide +kernel
theorem dX4_init_40 : decode cX4_init 40 = .ok (.putfield 22, 3) := by decide +kernel
theorem dX4_init_43 : decode cX4_init 43 = .ok (.aload_n 0, 1) := by decide +kernel
theorem dX4_init_44 : decode cX4_init 44 = .ok (.bipush 64, 2) := by decide +kernel
theorem dX4_init_46 : decode cX4_init 46 = .ok (.newarray .int, 2) := by decide +kernel
theorem dX4_init_48 : decode cX4_init 48 = .ok (.putfield 25, 3) := by decide +kernel
theorem dX4_init_51 : decode cX4_init 51 = .ok (.aload_n 0, 1) := by decide +kernel
theorem dX4_init_52 : decode cX4_init 52 = .ok (.bipush 9, 2) := by decide +kernel
theorem dX4_init_54 : decode cX4_init 54 = .ok (.newarray .int, 2) := by decide +kernel
theorem dX4_init_56 : decode cX4_init 56 = .ok (.putfield 28, 3) := by decide +kernel
theorem dX4_init_59 : decode cX4_init 59 = .ok (.iconst 0, 1) := by decide +kernel
theorem dX4_init_60 : decode cX4_init 60 = .ok (.istore_n 1, 1) := by decide +kernel
theorem dX4_init_61 : decode cX4_init 61 = .ok (.iload_n 1, 1) := by decide +kernel
theorem dX4_init_62 : decode cX4_init 62 = .ok (.bipush 9, 2) := by decide +kernel
theorem dX4_init_64 : decode cX4_init 64 = .ok (.if_icmp .ge 16, 3) := by decide +kernel
theorem dX4_init_67 : decode cX4_init 67 = .ok (.aload_n 0, 1) := by decide +kernel
theorem dX4_init_68 : decode cX4_init 68 = .ok (.getfield 28, 3) := by decide +kernel
theorem dX4_init_71 : decode cX4_init 71 = .ok (.iload_n 1, 1) := by decide +kernel
theorem dX4_init_72 : decode cX4_init 72 = .ok (.iload_n 1, 1) := by decide +kernel
theorem dX4_init_73 : decode cX4_init 73 = .ok (.iastore, 1) := by decide +kernel
theorem dX4_init_74 : decode cX4_init 74 = .ok (.iinc 1 1, 3) := by decide +kernel
theorem dX4_init_77 : decode cX4_init 77 = .ok (.goto (-16), 3) := by decide +kernel
theorem dX4_init_80 : decode cX4_init 80 = .ok (.return_, 1) := by decide +kernel
theorem dX4_thrown_0 : decode cX4_thrown 0 = .ok (.aload_n 0, 1) := by decide +kernel
theorem dX4_thrown_1 : decode cX4_thrown 1 = .ok (.getfield 31, 3) := by decide +kernel
theorem dX4_thrown_4 : decode cX4_thrown 4 = .ok (.ireturn, 1) := by decide +kernel
theorem dX4_fail_0 : decode cX4_fail 0 = .ok (.aload_n 0, 1) := by decide +kernel
theorem dX4_fail_1 : decode cX4_fail 1 = .ok (.iload_n 1, 1) := by decide +kernel
theorem dX4_fail_2 : decode cX4_fail 2 = .ok (.putfield 31, 3) := by decide +kernel
theorem dX4_fail_5 : decode cX4_fail 5 = .ok (.iconst 0, 1) := by decide +kernel
theorem dX4_fail_6 : decode cX4_fail 6 = .ok (.ireturn, 1) := by decide +kernel
theorem dX4_told_0 : decode cX4_told 0 = .ok (.aload_n 0, 1) := by decide +kernel
theorem dX4_told_1 : decode cX4_told 1 = .ok (.iconst 0, 1) := by decide +kernel
theorem dX4_told_2 : decode cX4_told 2 = .ok (.putfield 31, 3) := by decide +kernel
theorem dX4_told_5 : decode cX4_told 5 = .ok (.iload_n 1, 1) := by decide +kernel
theorem dX4_told_6 : decode cX4_told 6 = .ok (.ireturn, 1) := by decide +kernel
theorem dX4_isIn_0 : decode cX4_isIn 0 = .ok (.iload_n 0, 1) := by decide +kernel
theorem dX4_isIn_1 : decode cX4_isIn 1 = .ok (.iload_n 1, 1) := by decide +kernel
theorem dX4_isIn_2 : decode cX4_isIn 2 = .ok (.if_icmp .lt 12, 3) := by decide +kernel
theorem dX4_isIn_5 : decode cX4_isIn 5 = .ok (.iload_n 0, 1) := by decide +kernel
theorem dX4_isIn_6 : decode cX4_isIn 6 = .ok (.iload_n 2, 1) := by decide +kernel
theorem dX4_isIn_7 : decode cX4_isIn 7 = .ok (.if_icmp .gt 7, 3) := by decide +kernel
theorem dX4_isIn_10 : decode cX4_isIn 10 = .ok (.iconst 1, 1) := by decide +kernel
theorem dX4_isIn_11 : decode cX4_isIn 11 = .ok (.goto 4, 3) := by decide +kernel
theorem dX4_isIn_14 : decode cX4_isIn 14 = .ok (.iconst 0, 1) := by decide +kernel
theorem dX4_isIn_15 : decode cX4_isIn 15 = .ok (.ireturn, 1) := by decide +kernel
theorem dX4_isLodge_0 : decode cX4_isLodge 0 = .ok (.iload_n 1, 1) := by decide +kernel
theorem dX4_isLodge_1 : decode cX4_isLodge 1 = .ok (.iconst 0, 1) := by decide +kernel
theorem dX4_isLodge_2 : decode cX4_isLodge 2 = .ok (.aload_n 0, 1) := by decide +kernel
theorem dX4_isLodge_3 : decode cX4_isLodge 3 = .ok (.getfield 35, 3) := by decide +kernel
theorem dX4_isLodge_6 : decode cX4_isLodge 6 = .ok (.iconst 1, 1) := by decide +kernel
theorem dX4_isLodge_7 : decode cX4_isLodge 7 = .ok (.isub, 1) := by decide +kernel
theorem dX4_isLodge_8 : decode cX4_isLodge 8 = .ok (.invokestatic 38, 3) := by decide +kernel
theorem dX4_isLodge_11 : decode cX4_isLodge 11 = .ok (.ireturn, 1) := by decide +kernel
theorem dX4_isSign_0 : decode cX4_isSign 0 = .ok (.aload_n 0, 1) := by decide +kernel
theorem dX4_isSign_1 : decode cX4_isSign 1 = .ok (.iload_n 1, 1) := by decide +kernel
theorem dX4_isSign_2 : decode cX4_isSign 2 = .ok (.invokevirtual 42, 3) := by decide +kernel
theorem dX4_isSign_5 : decode cX4_isSign 5 = .ok (.ifCond .eq 23, 3) := by decide +kernel
theorem dX4_isSign_8 : decode cX4_isSign 8 = .ok (.iload_n 2, 1) := by decide +kernel
theorem dX4_isSign_9 : decode cX4_isSign 9 = .ok (.iconst 0, 1) := by decide +kernel
theorem dX4_isSign_10 : decode cX4_isSign 10 = .ok (.aload_n 0, 1) := by decide +kernel
theorem dX4_isSign_11 : decode cX4_isSign 11 = .ok (.getfield 9, 3) := by decide +kernel
theorem dX4_isSign_14 : decode cX4_isSign 14 = .ok (.iload_n 1, 1) := by decide +kernel
theorem dX4_isSign_15 : decode cX4_isSign 15 = .ok (.iaload, 1) := by decide +kernel
theorem dX4_isSign_16 : decode cX4_isSign 16 = .ok (.iconst 1, 1) := by decide +kernel
theorem dX4_isSign_17 : decode cX4_isSign 17 = .ok (.isub, 1) := by decide +kernel
theorem dX4_isSign_18 : decode cX4_isSign 18 = .ok (.invokestatic 38, 3) := by decide +kernel
theorem dX4_isSign_21 : decode cX4_isSign 21 = .ok (.ifCond .eq 7, 3) := by decide +kernel
theorem dX4_isSign_24 : decode cX4_isSign 24 = .ok (.iconst 1, 1) := by decide +kernel
theorem dX4_isSign_25 : decode cX4_isSign 25 = .ok (.goto 4, 3) := by decide +kernel
theorem dX4_isSign_28 : decode cX4_isSign 28 = .ok (.iconst 0, 1) := by decide +kernel
theorem dX4_isSign_29 : decode cX4_isSign 29 = .ok (.ireturn, 1) := by decide +kernel
theorem dX4_isPlace_0 : decode cX4_isPlace 0 = .ok (.iload_n 0, 1) := by decide +kernel
theorem dX4_isPlace_1 : decode cX4_isPlace 1 = .ok (.iconst 0, 1) := by decide +kernel
theorem dX4_isPlace_2 : decode cX4_isPlace 2 = .ok (.bipush 8, 2) := by decide +kernel
theorem dX4_isPlace_4 : decode cX4_isPlace 4 = .ok (.invokestatic 38, 3) := by decide +kernel
theorem dX4_isPlace_7 : decode cX4_isPlace 7 = .ok (.ireturn, 1) := by decide +kernel
theorem dX4_isShown_0 : decode cX4_isShown 0 = .ok (.iload_n 0, 1) := by decide +kernel
theorem dX4_isShown_1 : decode cX4_isShown 1 = .ok (.iconst 0, 1) := by decide +kernel
theorem dX4_isShown_2 : decode cX4_isShown 2 = .ok (.bipush 15, 2) := by decide +kernel
theorem dX4_isShown_4 : decode cX4_isShown 4 = .ok (.invokestatic 38, 3) := by decide +kernel
theorem dX4_isShown_7 : decode cX4_isShown 7 = .ok (.ifCond .eq 32, 3) := by decide +kernel
theorem dX4_isShown_10 : decode cX4_isShown 10 = .ok (.iload_n 1, 1) := by decide +kernel
theorem dX4_isShown_11 : decode cX4_isShown 11 = .ok (.iconst 0, 1) := by decide +kernel
theorem dX4_isShown_12 : decode cX4_isShown 12 = .ok (.iconst 3, 1) := by decide +kernel
theorem dX4_isShown_13 : decode cX4_isShown 13 = .ok (.invokestatic 38, 3) := by decide +kernel
theorem dX4_isShown_16 : decode cX4_isShown 16 = .ok (.ifCond .eq 23, 3) := by decide +kernel
theorem dX4_isShown_19 : decode cX4_isShown 19 = .ok (.iload_n 2, 1) := by decide +kernel
theorem dX4_isShown_20 : decode cX4_isShown 20 = .ok (.invokestatic 46, 3) := by decide +kernel
theorem dX4_isShown_23 : decode cX4_isShown 23 = .ok (.ifCond .eq 16, 3) := by decide +kernel
theorem dX4_isShown_26 : decode cX4_isShown 26 = .ok (.iload_n 3, 1) := by decide +kernel
theorem dX4_isShown_27 : decode cX4_isShown 27 = .ok (.iconst 0, 1) := by decide +kernel
theorem dX4_isShown_28 : decode cX4_isShown 28 = .ok (.iconst 3, 1) := by decide +kernel
theorem dX4_isShown_29 : decode cX4_isShown 29 = .ok (.invokestatic 38, 3) := by decide +kernel
theorem dX4_isShown_32 : decode cX4_isShown 32 = .ok (.ifCond .eq 7, 3) := by decide +kernel
theorem dX4_isShown_35 : decode cX4_isShown 35 = .ok (.iconst 1, 1) := by decide +kernel
theorem dX4_isShown_36 : decode cX4_isShown 36 = .ok (.goto 4, 3) := by decide +kernel
theorem dX4_isShown_39 : decode cX4_isShown 39 = .ok (.iconst 0, 1) := by decide +kernel
theorem dX4_isShown_40 : decode cX4_isShown 40 = .ok (.ireturn, 1) := by decide +kernel
theorem dX4_at_0 : decode cX4_at 0 = .ok (.bipush 16, 2) := by decide +kernel
theorem dX4_at_2 : decode cX4_at 2 = .ok (.iload_n 0, 1) := by decide +kernel
theorem dX4_at_3 : decode cX4_at 3 = .ok (.imul, 1) := by decide +kernel
theorem dX4_at_4 : decode cX4_at 4 = .ok (.iload_n 1, 1) := by decide +kernel
theorem dX4_at_5 : decode cX4_at 5 = .ok (.iadd, 1) := by decide +kernel
theorem dX4_at_6 : decode cX4_at 6 = .ok (.ireturn, 1) := by decide +kernel
theorem dX4_stepsOf_0 : decode cX4_stepsOf 0 = .ok (.aload_n 0, 1) := by decide +kernel
theorem dX4_stepsOf_1 : decode cX4_stepsOf 1 = .ok (.getfield 28, 3) := by decide +kernel
theorem dX4_stepsOf_4 : decode cX4_stepsOf 4 = .ok (.iload_n 1, 1) := by decide +kernel
theorem dX4_stepsOf_5 : decode cX4_stepsOf 5 = .ok (.iaload, 1) := by decide +kernel
theorem dX4_stepsOf_6 : decode cX4_stepsOf 6 = .ok (.aload_n 0, 1) := by decide +kernel
theorem dX4_stepsOf_7 : decode cX4_stepsOf 7 = .ok (.getfield 28, 3) := by decide +kernel
theorem dX4_stepsOf_10 : decode cX4_stepsOf 10 = .ok (.iload_n 2, 1) := by decide +kernel
theorem dX4_stepsOf_11 : decode cX4_stepsOf 11 = .ok (.iaload, 1) := by decide +kernel
theorem dX4_stepsOf_12 : decode cX4_stepsOf 12 = .ok (.if_icmp .ne 7, 3) := by decide +kernel
theorem dX4_stepsOf_15 : decode cX4_stepsOf 15 = .ok (.iconst 0, 1) := by decide +kernel
theorem dX4_stepsOf_16 : decode cX4_stepsOf 16 = .ok (.goto 24, 3) := by decide +kernel
theorem dX4_stepsOf_19 : decode cX4_stepsOf 19 = .ok (.iload_n 1, 1) := by decide +kernel
theorem dX4_stepsOf_20 : decode cX4_stepsOf 20 = .ok (.iconst 3, 1) := by decide +kernel
theorem dX4_stepsOf_21 : decode cX4_stepsOf 21 = .ok (.idiv, 1) := by decide +kernel
theorem dX4_stepsOf_22 : decode cX4_stepsOf 22 = .ok (.iload_n 2, 1) := by decide +kernel
theorem dX4_stepsOf_23 : decode cX4_stepsOf 23 = .ok (.iconst 3, 1) := by decide +kernel
theorem dX4_stepsOf_24 : decode cX4_stepsOf 24 = .ok (.idiv, 1) := by decide +kernel
theorem dX4_stepsOf_25 : decode cX4_stepsOf 25 = .ok (.isub, 1) := by decide +kernel
theorem dX4_stepsOf_26 : decode cX4_stepsOf 26 = .ok (.invokestatic 49, 3) := by decide +kernel
theorem dX4_stepsOf_29 : decode cX4_stepsOf 29 = .ok (.iload_n 1, 1) := by decide +kernel
theorem dX4_stepsOf_30 : decode cX4_stepsOf 30 = .ok (.iconst 3, 1) := by decide +kernel
theorem dX4_stepsOf_31 : decode cX4_stepsOf 31 = .ok (.irem, 1) := by decide +kernel
theorem dX4_stepsOf_32 : decode cX4_stepsOf 32 = .ok (.iload_n 2, 1) := by decide +kernel
theorem dX4_stepsOf_33 : decode cX4_stepsOf 33 = .ok (.iconst 3, 1) := by decide +kernel
theorem dX4_stepsOf_34 : decode cX4_stepsOf 34 = .ok (.irem, 1) := by decide +kernel
theorem dX4_stepsOf_35 : decode cX4_stepsOf 35 = .ok (.isub, 1) := by decide +kernel
theorem dX4_stepsOf_36 : decode cX4_stepsOf 36 = .ok (.invokestatic 49, 3) := by decide +kernel
theorem dX4_stepsOf_39 : decode cX4_stepsOf 39 = .ok (.iadd, 1) := by decide +kernel
theorem dX4_stepsOf_40 : decode cX4_stepsOf 40 = .ok (.ireturn, 1) := by decide +kernel
theorem dX4_far_0 : decode cX4_far 0 = .ok (.aload_n 0, 1) := by decide +kernel
theorem dX4_far_1 : decode cX4_far 1 = .ok (.iload_n 3, 1) := by decide +kernel
theorem dX4_far_2 : decode cX4_far 2 = .ok (.aload_n 0, 1) := by decide +kernel
theorem dX4_far_3 : decode cX4_far 3 = .ok (.getfield 19, 3) := by decide +kernel
theorem dX4_far_6 : decode cX4_far 6 = .ok (.iload 5, 2) := by decide +kernel
theorem dX4_far_8 : decode cX4_far 8 = .ok (.iaload, 1) := by decide +kernel
theorem dX4_far_9 : decode cX4_far 9 = .ok (.invokevirtual 55, 3) := by decide +kernel
theorem dX4_far_12 : decode cX4_far 12 = .ok (.iload_n 2, 1) := by decide +kernel
theorem dX4_far_13 : decode cX4_far 13 = .ok (.aload_n 0, 1) := by decide +kernel
theorem dX4_far_14 : decode cX4_far 14 = .ok (.getfield 16, 3) := by decide +kernel
theorem dX4_far_17 : decode cX4_far 17 = .ok (.iload 5, 2) := by decide +kernel
theorem dX4_far_19 : decode cX4_far 19 = .ok (.iaload, 1) := by decide +kernel
theorem dX4_far_20 : decode cX4_far 20 = .ok (.if_icmp .ne 7, 3) := by decide +kernel
theorem dX4_far_23 : decode cX4_far 23 = .ok (.iconst 0, 1) := by decide +kernel
theorem dX4_far_24 : decode cX4_far 24 = .ok (.goto 4, 3) := by decide +kernel
theorem dX4_far_27 : decode cX4_far 27 = .ok (.iconst 1, 1) := by decide +kernel
theorem dX4_far_28 : decode cX4_far 28 = .ok (.iadd, 1) := by decide +kernel
theorem dX4_far_29 : decode cX4_far 29 = .ok (.iload 4, 2) := by decide +kernel
theorem dX4_far_31 : decode cX4_far 31 = .ok (.aload_n 0, 1) := by decide +kernel
theorem dX4_far_32 : decode cX4_far 32 = .ok (.getfield 22, 3) := by decide +kernel
theorem dX4_far_35 : decode cX4_far 35 = .ok (.iload 5, 2) := by decide +kernel
theorem dX4_far_37 : decode cX4_far 37 = .ok (.iaload, 1) := by decide +kernel
theorem dX4_far_38 : decode cX4_far 38 = .ok (.if_icmp .ne 7, 3) := by decide +kernel
theorem dX4_far_41 : decode cX4_far 41 = .ok (.iconst 0, 1) := by decide +kernel
theorem dX4_far_42 : decode cX4_far 42 = .ok (.goto 4, 3) := by decide +kernel
theorem dX4_far_45 : decode cX4_far 45 = .ok (.iconst 2, 1) := by decide +kernel
theorem dX4_far_46 : decode cX4_far 46 = .ok (.iadd, 1) := by decide +kernel
theorem dX4_far_47 : decode cX4_far 47 = .ok (.istore 6, 2) := by decide +kernel
theorem dX4_far_49 : decode cX4_far 49 = .ok (.iload_n 1, 1) := by decide +kernel
theorem dX4_far_50 : decode cX4_far 50 = .ok (.aload_n 0, 1) := by decide +kernel
theorem dX4_far_51 : decode cX4_far 51 = .ok (.getfield 13, 3) := by decide +kernel
theorem dX4_far_54 : decode cX4_far 54 = .ok (.iload 5, 2) := by decide +kernel
theorem dX4_far_56 : decode cX4_far 56 = .ok (.iaload, 1) := by decide +kernel
theorem dX4_far_57 : decode cX4_far 57 = .ok (.ixor, 1) := by decide +kernel
theorem dX4_far_58 : decode cX4_far 58 = .ok (.istore 7, 2) := by decide +kernel
theorem dX4_far_60 : decode cX4_far 60 = .ok (.iload 7, 2) := by decide +kernel
theorem dX4_far_62 : decode cX4_far 62 = .ok (.ifCond .le 21, 3) := by decide +kernel
theorem dX4_far_65 : decode cX4_far 65 = .ok (.iload 6, 2) := by decide +kernel
theorem dX4_far_67 : decode cX4_far 67 = .ok (.iload 7, 2) := by decide +kernel
theorem dX4_far_69 : decode cX4_far 69 = .ok (.iconst 2, 1) := by decide +kernel
theorem dX4_far_70 : decode cX4_far 70 = .ok (.irem, 1) := by decide +kernel
theorem dX4_far_71 : decode cX4_far 71 = .ok (.iadd, 1) := by decide +kernel
theorem dX4_far_72 : decode cX4_far 72 = .ok (.istore 6, 2) := by decide +kernel
theorem dX4_far_74 : decode cX4_far 74 = .ok (.iload 7, 2) := by decide +kernel
theorem dX4_far_76 : decode cX4_far 76 = .ok (.iconst 2, 1) := by decide +kernel
theorem dX4_far_77 : decode cX4_far 77 = .ok (.idiv, 1) := by decide +kernel
theorem dX4_far_78 : decode cX4_far 78 = .ok (.istore 7, 2) := by decide +kernel
theorem dX4_far_80 : decode cX4_far 80 = .ok (.goto (-20), 3) := by decide +kernel
theorem dX4_far_83 : decode cX4_far 83 = .ok (.iload 6, 2) := by decide +kernel
theorem dX4_far_85 : decode cX4_far 85 = .ok (.ireturn, 1) := by decide +kernel
theorem dX4_far__0 : decode cX4_far_ 0 = .ok (.aload_n 0, 1) := by decide +kernel
theorem dX4_far__1 : decode cX4_far_ 1 = .ok (.aload_n 0, 1) := by decide +kernel
theorem dX4_far__2 : decode cX4_far_ 2 = .ok (.getfield 13, 3) := by decide +kernel
theorem dX4_far__5 : decode cX4_far_ 5 = .ok (.iload_n 1, 1) := by decide +kernel
theorem dX4_far__6 : decode cX4_far_ 6 = .ok (.iaload, 1) := by decide +kernel
theorem dX4_far__7 : decode cX4_far_ 7 = .ok (.aload_n 0, 1) := by decide +kernel
theorem dX4_far__8 : decode cX4_far_ 8 = .ok (.getfield 16, 3) := by decide +kernel
theorem dX4_far__11 : decode cX4_far_ 11 = .ok (.iload_n 1, 1) := by decide +kernel
theorem dX4_far__12 : decode cX4_far_ 12 = .ok (.iaload, 1) := by decide +kernel
theorem dX4_far__13 : decode cX4_far_ 13 = .ok (.aload_n 0, 1) := by decide +kernel
theorem dX4_far__14 : decode cX4_far_ 14 = .ok (.getfield 19, 3) := by decide +kernel
theorem dX4_far__17 : decode cX4_far_ 17 = .ok (.iload_n 1, 1) := by decide +kernel
theorem dX4_far__18 : decode cX4_far_ 18 = .ok (.iaload, 1) := by decide +kernel
theorem dX4_far__19 : decode cX4_far_ 19 = .ok (.aload_n 0, 1) := by decide +kernel
theorem dX4_far__20 : decode cX4_far_ 20 = .ok (.getfield 22, 3) := by decide +kernel
theorem dX4_far__23 : decode cX4_far_ 23 = .ok (.iload_n 1, 1) := by decide +kernel
theorem dX4_far__24 : decode cX4_far_ 24 = .ok (.iaload, 1) := by decide +kernel
theorem dX4_far__25 : decode cX4_far_ 25 = .ok (.iload_n 2, 1) := by decide +kernel
theorem dX4_far__26 : decode cX4_far_ 26 = .ok (.invokevirtual 59, 3) := by decide +kernel
theorem dX4_far__29 : decode cX4_far_ 29 = .ok (.ireturn, 1) := by decide +kernel
theorem dX4_reads_0 : decode cX4_reads 0 = .ok (.iconst 4, 1) := by decide +kernel
theorem dX4_reads_1 : decode cX4_reads 1 = .ok (.istore 6, 2) := by decide +kernel
theorem dX4_reads_3 : decode cX4_reads 3 = .ok (.iconst (-1), 1) := by decide +kernel
theorem dX4_reads_4 : decode cX4_reads 4 = .ok (.istore 7, 2) := by decide +kernel
theorem dX4_reads_6 : decode cX4_reads 6 = .ok (.iload 5, 2) := by decide +kernel
theorem dX4_reads_8 : decode cX4_reads 8 = .ok (.iconst 0, 1) := by decide +kernel
theorem dX4_reads_9 : decode cX4_reads 9 = .ok (.invokestatic 63, 3) := by decide +kernel
theorem dX4_reads_12 : decode cX4_reads 12 = .ok (.istore 8, 2) := by decide +kernel
theorem dX4_reads_14 : decode cX4_reads 14 = .ok (.iload 8, 2) := by decide +kernel
theorem dX4_reads_16 : decode cX4_reads 16 = .ok (.iload 5, 2) := by decide +kernel
theorem dX4_reads_18 : decode cX4_reads 18 = .ok (.aload_n 0, 1) := by decide +kernel
theorem dX4_reads_19 : decode cX4_reads 19 = .ok (.getfield 9, 3) := by decide +kernel
theorem dX4_reads_22 : decode cX4_reads 22 = .ok (.iload 5, 2) := by decide +kernel
theorem dX4_reads_24 : decode cX4_reads 24 = .ok (.iaload, 1) := by decide +kernel
theorem dX4_reads_25 : decode cX4_reads 25 = .ok (.invokestatic 63, 3) := by decide +kernel
theorem dX4_reads_28 : decode cX4_reads 28 = .ok (.if_icmp .ge 55, 3) := by decide +kernel
theorem dX4_reads_31 : decode cX4_reads 31 = .ok (.aload_n 0, 1) := by decide +kernel
theorem dX4_reads_32 : decode cX4_reads 32 = .ok (.iload_n 1, 1) := by decide +kernel
theorem dX4_reads_33 : decode cX4_reads 33 = .ok (.iload_n 2, 1) := by decide +kernel
theorem dX4_reads_34 : decode cX4_reads 34 = .ok (.iload_n 3, 1) := by decide +kernel
theorem dX4_reads_35 : decode cX4_reads 35 = .ok (.iload 4, 2) := by decide +kernel
theorem dX4_reads_37 : decode cX4_reads 37 = .ok (.iload 8, 2) := by decide +kernel
theorem dX4_reads_39 : decode cX4_reads 39 = .ok (.invokevirtual 59, 3) := by decide +kernel
theorem dX4_reads_42 : decode cX4_reads 42 = .ok (.istore 9, 2) := by decide +kernel
theorem dX4_reads_44 : decode cX4_reads 44 = .ok (.iload 9, 2) := by decide +kernel
theorem dX4_reads_46 : decode cX4_reads 46 = .ok (.iload 6, 2) := by decide +kernel
theorem dX4_reads_48 : decode cX4_reads 48 = .ok (.if_icmp .ne 6, 3) := by decide +kernel
theorem dX4_reads_51 : decode cX4_reads 51 = .ok (.iconst (-1), 1) := by decide +kernel
theorem dX4_reads_52 : decode cX4_reads 52 = .ok (.istore 7, 2) := by decide +kernel
theorem dX4_reads_54 : decode cX4_reads 54 = .ok (.iload 9, 2) := by decide +kernel
theorem dX4_reads_56 : decode cX4_reads 56 = .ok (.iload 6, 2) := by decide +kernel
theorem dX4_reads_58 : decode cX4_reads 58 = .ok (.if_icmp .lt 6, 3) := by decide +kernel
theorem dX4_reads_61 : decode cX4_reads 61 = .ok (.goto 16, 3) := by decide +kernel
theorem dX4_reads_64 : decode cX4_reads 64 = .ok (.iload 9, 2) := by decide +kernel
theorem dX4_reads_66 : decode cX4_reads 66 = .ok (.istore 6, 2) := by decide +kernel
theorem dX4_reads_68 : decode cX4_reads 68 = .ok (.aload_n 0, 1) := by decide +kernel
theorem dX4_reads_69 : decode cX4_reads 69 = .ok (.getfield 25, 3) := by decide +kernel
theorem dX4_reads_72 : decode cX4_reads 72 = .ok (.iload 8, 2) := by decide +kernel
theorem dX4_reads_74 : decode cX4_reads 74 = .ok (.iaload, 1) := by decide +kernel
theorem dX4_reads_75 : decode cX4_reads 75 = .ok (.istore 7, 2) := by decide +kernel
theorem dX4_reads_77 : decode cX4_reads 77 = .ok (.iinc 8 1, 3) := by decide +kernel
theorem dX4_reads_80 : decode cX4_reads 80 = .ok (.goto (-66), 3) := by decide +kernel
theorem dX4_reads_83 : decode cX4_reads 83 = .ok (.iload 7, 2) := by decide +kernel
theorem dX4_reads_85 : decode cX4_reads 85 = .ok (.ireturn, 1) := by decide +kernel
theorem dX4_reads__0 : decode cX4_reads_ 0 = .ok (.aload_n 0, 1) := by decide +kernel
theorem dX4_reads__1 : decode cX4_reads_ 1 = .ok (.aload_n 0, 1) := by decide +kernel
theorem dX4_reads__2 : decode cX4_reads_ 2 = .ok (.getfield 13, 3) := by decide +kernel
theorem dX4_reads__5 : decode cX4_reads_ 5 = .ok (.iload_n 1, 1) := by decide +kernel
theorem dX4_reads__6 : decode cX4_reads_ 6 = .ok (.iaload, 1) := by decide +kernel
theorem dX4_reads__7 : decode cX4_reads_ 7 = .ok (.aload_n 0, 1) := by decide +kernel
theorem dX4_reads__8 : decode cX4_reads_ 8 = .ok (.getfield 16, 3) := by decide +kernel
theorem dX4_reads__11 : decode cX4_reads_ 11 = .ok (.iload_n 1, 1) := by decide +kernel
theorem dX4_reads__12 : decode cX4_reads_ 12 = .ok (.iaload, 1) := by decide +kernel
theorem dX4_reads__13 : decode cX4_reads_ 13 = .ok (.aload_n 0, 1) := by decide +kernel
theorem dX4_reads__14 : decode cX4_reads_ 14 = .ok (.getfield 19, 3) := by decide +kernel
theorem dX4_reads__17 : decode cX4_reads_ 17 = .ok (.iload_n 1, 1) := by decide +kernel
theorem dX4_reads__18 : decode cX4_reads_ 18 = .ok (.iaload, 1) := by decide +kernel
theorem dX4_reads__19 : decode cX4_reads_ 19 = .ok (.aload_n 0, 1) := by decide +kernel
theorem dX4_reads__20 : decode cX4_reads_ 20 = .ok (.getfield 22, 3) := by decide +kernel
theorem dX4_reads__23 : decode cX4_reads_ 23 = .ok (.iload_n 1, 1) := by decide +kernel
theorem dX4_reads__24 : decode cX4_reads_ 24 = .ok (.iaload, 1) := by decide +kernel
theorem dX4_reads__25 : decode cX4_reads_ 25 = .ok (.iload_n 2, 1) := by decide +kernel
theorem dX4_reads__26 : decode cX4_reads_ 26 = .ok (.invokevirtual 66, 3) := by decide +kernel
theorem dX4_reads__29 : decode cX4_reads_ 29 = .ok (.ireturn, 1) := by decide +kernel
theorem dX4_signOf_0 : decode cX4_signOf 0 = .ok (.iconst 0, 1) := by decide +kernel
theorem dX4_signOf_1 : decode cX4_signOf 1 = .ok (.istore_n 3, 1) := by decide +kernel
theorem dX4_signOf_2 : decode cX4_signOf 2 = .ok (.iload_n 3, 1) := by decide +kernel
theorem dX4_signOf_3 : decode cX4_signOf 3 = .ok (.aload_n 0, 1) := by decide +kernel
theorem dX4_signOf_4 : decode cX4_signOf 4 = .ok (.getfield 9, 3) := by decide +kernel
theorem dX4_signOf_7 : decode cX4_signOf 7 = .ok (.iload_n 1, 1) := by decide +kernel
theorem dX4_signOf_8 : decode cX4_signOf 8 = .ok (.iaload, 1) := by decide +kernel
theorem dX4_signOf_9 : decode cX4_signOf 9 = .ok (.if_icmp .ge 25, 3) := by decide +kernel
theorem dX4_signOf_12 : decode cX4_signOf 12 = .ok (.aload_n 0, 1) := by decide +kernel
theorem dX4_signOf_13 : decode cX4_signOf 13 = .ok (.getfield 25, 3) := by decide +kernel
theorem dX4_signOf_16 : decode cX4_signOf 16 = .ok (.iload_n 1, 1) := by decide +kernel
theorem dX4_signOf_17 : decode cX4_signOf 17 = .ok (.iload_n 3, 1) := by decide +kernel
theorem dX4_signOf_18 : decode cX4_signOf 18 = .ok (.invokestatic 63, 3) := by decide +kernel
theorem dX4_signOf_21 : decode cX4_signOf 21 = .ok (.iaload, 1) := by decide +kernel
theorem dX4_signOf_22 : decode cX4_signOf 22 = .ok (.iload_n 2, 1) := by decide +kernel
theorem dX4_signOf_23 : decode cX4_signOf 23 = .ok (.if_icmp .ne 5, 3) := by decide +kernel
theorem dX4_signOf_26 : decode cX4_signOf 26 = .ok (.iload_n 3, 1) := by decide +kernel
theorem dX4_signOf_27 : decode cX4_signOf 27 = .ok (.ireturn, 1) := by decide +kernel
theorem dX4_signOf_28 : decode cX4_signOf 28 = .ok (.iinc 3 1, 3) := by decide +kernel
theorem dX4_signOf_31 : decode cX4_signOf 31 = .ok (.goto (-29), 3) := by decide +kernel
theorem dX4_signOf_34 : decode cX4_signOf 34 = .ok (.iconst (-1), 1) := by decide +kernel
theorem dX4_signOf_35 : decode cX4_signOf 35 = .ok (.ireturn, 1) := by decide +kernel
theorem dX4_write_0 : decode cX4_write 0 = .ok (.iload_n 1, 1) := by decide +kernel
theorem dX4_write_1 : decode cX4_write 1 = .ok (.aload_n 0, 1) := by decide +kernel
theorem dX4_write_2 : decode cX4_write 2 = .ok (.getfield 9, 3) := by decide +kernel
theorem dX4_write_5 : decode cX4_write 5 = .ok (.iload_n 1, 1) := by decide +kernel
theorem dX4_write_6 : decode cX4_write 6 = .ok (.iaload, 1) := by decide +kernel
theorem dX4_write_7 : decode cX4_write 7 = .ok (.invokestatic 63, 3) := by decide +kernel
theorem dX4_write_10 : decode cX4_write 10 = .ok (.istore 7, 2) := by decide +kernel
theorem dX4_write_12 : decode cX4_write 12 = .ok (.aload_n 0, 1) := by decide +kernel
theorem dX4_write_13 : decode cX4_write 13 = .ok (.getfield 13, 3) := by decide +kernel
theorem dX4_write_16 : decode cX4_write 16 = .ok (.iload 7, 2) := by decide +kernel
theorem dX4_write_18 : decode cX4_write 18 = .ok (.iload_n 2, 1) := by decide +kernel
theorem dX4_write_19 : decode cX4_write 19 = .ok (.iastore, 1) := by decide +kernel
theorem dX4_write_20 : decode cX4_write 20 = .ok (.aload_n 0, 1) := by decide +kernel
theorem dX4_write_21 : decode cX4_write 21 = .ok (.getfield 16, 3) := by decide +kernel
theorem dX4_write_24 : decode cX4_write 24 = .ok (.iload 7, 2) := by decide +kernel
theorem dX4_write_26 : decode cX4_write 26 = .ok (.iload_n 3, 1) := by decide +kernel
theorem dX4_write_27 : decode cX4_write 27 = .ok (.iastore, 1) := by decide +kernel
theorem dX4_write_28 : decode cX4_write 28 = .ok (.aload_n 0, 1) := by decide +kernel
theorem dX4_write_29 : decode cX4_write 29 = .ok (.getfield 19, 3) := by decide +kernel
theorem dX4_write_32 : decode cX4_write 32 = .ok (.iload 7, 2) := by decide +kernel
theorem dX4_write_34 : decode cX4_write 34 = .ok (.iload 4, 2) := by decide +kernel
theorem dX4_write_36 : decode cX4_write 36 = .ok (.iastore, 1) := by decide +kernel
theorem dX4_write_37 : decode cX4_write 37 = .ok (.aload_n 0, 1) := by decide +kernel
theorem dX4_write_38 : decode cX4_write 38 = .ok (.getfield 22, 3) := by decide +kernel
theorem dX4_write_41 : decode cX4_write 41 = .ok (.iload 7, 2) := by decide +kernel
theorem dX4_write_43 : decode cX4_write 43 = .ok (.iload 5, 2) := by decide +kernel
theorem dX4_write_45 : decode cX4_write 45 = .ok (.iastore, 1) := by decide +kernel
theorem dX4_write_46 : decode cX4_write 46 = .ok (.aload_n 0, 1) := by decide +kernel
theorem dX4_write_47 : decode cX4_write 47 = .ok (.getfield 25, 3) := by decide +kernel
theorem dX4_write_50 : decode cX4_write 50 = .ok (.iload 7, 2) := by decide +kernel
theorem dX4_write_52 : decode cX4_write 52 = .ok (.iload 6, 2) := by decide +kernel
theorem dX4_write_54 : decode cX4_write 54 = .ok (.iastore, 1) := by decide +kernel
theorem dX4_write_55 : decode cX4_write 55 = .ok (.aload_n 0, 1) := by decide +kernel
theorem dX4_write_56 : decode cX4_write 56 = .ok (.getfield 9, 3) := by decide +kernel
theorem dX4_write_59 : decode cX4_write 59 = .ok (.iload_n 1, 1) := by decide +kernel
theorem dX4_write_60 : decode cX4_write 60 = .ok (.dup2, 1) := by decide +kernel
theorem dX4_write_61 : decode cX4_write 61 = .ok (.iaload, 1) := by decide +kernel
theorem dX4_write_62 : decode cX4_write 62 = .ok (.iconst 1, 1) := by decide +kernel
theorem dX4_write_63 : decode cX4_write 63 = .ok (.iadd, 1) := by decide +kernel
theorem dX4_write_64 : decode cX4_write 64 = .ok (.iastore, 1) := by decide +kernel
theorem dX4_write_65 : decode cX4_write 65 = .ok (.return_, 1) := by decide +kernel
theorem dX4_thumbFor_0 : decode cX4_thumbFor 0 = .ok (.aload_n 0, 1) := by decide +kernel
theorem dX4_thumbFor_1 : decode cX4_thumbFor 1 = .ok (.getfield 9, 3) := by decide +kernel
theorem dX4_thumbFor_4 : decode cX4_thumbFor 4 = .ok (.iload_n 2, 1) := by decide +kernel
theorem dX4_thumbFor_5 : decode cX4_thumbFor 5 = .ok (.iaload, 1) := by decide +kernel
theorem dX4_thumbFor_6 : decode cX4_thumbFor 6 = .ok (.bipush 16, 2) := by decide +kernel
theorem dX4_thumbFor_8 : decode cX4_thumbFor 8 = .ok (.if_icmp .eq 18, 3) := by decide +kernel
theorem dX4_thumbFor_11 : decode cX4_thumbFor 11 = .ok (.aload_n 0, 1) := by decide +kernel
theorem dX4_thumbFor_12 : decode cX4_thumbFor 12 = .ok (.iload_n 2, 1) := by decide +kernel
theorem dX4_thumbFor_13 : decode cX4_thumbFor 13 = .ok (.aload_n 0, 1) := by decide +kernel
theorem dX4_thumbFor_14 : decode cX4_thumbFor 14 = .ok (.getfield 25, 3) := by decide +kernel
theorem dX4_thumbFor_17 : decode cX4_thumbFor 17 = .ok (.iload_n 1, 1) := by decide +kernel
theorem dX4_thumbFor_18 : decode cX4_thumbFor 18 = .ok (.iaload, 1) := by decide +kernel
theorem dX4_thumbFor_19 : decode cX4_thumbFor 19 = .ok (.invokevirtual 69, 3) := by decide +kernel
theorem dX4_thumbFor_22 : decode cX4_thumbFor 22 = .ok (.iconst (-1), 1) := by decide +kernel
theorem dX4_thumbFor_23 : decode cX4_thumbFor 23 = .ok (.if_icmp .eq 5, 3) := by decide +kernel
theorem dX4_thumbFor_26 : decode cX4_thumbFor 26 = .ok (.iconst (-1), 1) := by decide +kernel
theorem dX4_thumbFor_27 : decode cX4_thumbFor 27 = .ok (.ireturn, 1) := by decide +kernel
theorem dX4_thumbFor_28 : decode cX4_thumbFor 28 = .ok (.iconst 0, 1) := by decide +kernel
theorem dX4_thumbFor_29 : decode cX4_thumbFor 29 = .ok (.istore_n 3, 1) := by decide +kernel
theorem dX4_thumbFor_30 : decode cX4_thumbFor 30 = .ok (.iload_n 3, 1) := by decide +kernel
theorem dX4_thumbFor_31 : decode cX4_thumbFor 31 = .ok (.iconst 4, 1) := by decide +kernel
theorem dX4_thumbFor_32 : decode cX4_thumbFor 32 = .ok (.if_icmp .ge 101, 3) := by decide +kernel
theorem dX4_thumbFor_35 : decode cX4_thumbFor 35 = .ok (.aload_n 0, 1) := by decide +kernel
theorem dX4_thumbFor_36 : decode cX4_thumbFor 36 = .ok (.getfield 16, 3) := by decide +kernel
theorem dX4_thumbFor_39 : decode cX4_thumbFor 39 = .ok (.iload_n 1, 1) := by decide +kernel
theorem dX4_thumbFor_40 : decode cX4_thumbFor 40 = .ok (.iaload, 1) := by decide +kernel
theorem dX4_thumbFor_41 : decode cX4_thumbFor 41 = .ok (.iload_n 3, 1) := by decide +kernel
theorem dX4_thumbFor_42 : decode cX4_thumbFor 42 = .ok (.iadd, 1) := by decide +kernel
theorem dX4_thumbFor_43 : decode cX4_thumbFor 43 = .ok (.iconst 4, 1) := by decide +kernel
theorem dX4_thumbFor_44 : decode cX4_thumbFor 44 = .ok (.irem, 1) := by decide +kernel
theorem dX4_thumbFor_45 : decode cX4_thumbFor 45 = .ok (.istore 4, 2) := by decide +kernel
theorem dX4_thumbFor_47 : decode cX4_thumbFor 47 = .ok (.iconst 1, 1) := by decide +kernel
theorem dX4_thumbFor_48 : decode cX4_thumbFor 48 = .ok (.istore 5, 2) := by decide +kernel
theorem dX4_thumbFor_50 : decode cX4_thumbFor 50 = .ok (.iload_n 2, 1) := by decide +kernel
theorem dX4_thumbFor_51 : decode cX4_thumbFor 51 = .ok (.iconst 0, 1) := by decide +kernel
theorem dX4_thumbFor_52 : decode cX4_thumbFor 52 = .ok (.invokestatic 63, 3) := by decide +kernel
theorem dX4_thumbFor_55 : decode cX4_thumbFor 55 = .ok (.istore 6, 2) := by decide +kernel
theorem dX4_thumbFor_57 : decode cX4_thumbFor 57 = .ok (.iload 6, 2) := by decide +kernel
theorem dX4_thumbFor_59 : decode cX4_thumbFor 59 = .ok (.iload_n 2, 1) := by decide +kernel
theorem dX4_thumbFor_60 : decode cX4_thumbFor 60 = .ok (.aload_n 0, 1) := by decide +kernel
theorem dX4_thumbFor_61 : decode cX4_thumbFor 61 = .ok (.getfield 9, 3) := by decide +kernel
theorem dX4_thumbFor_64 : decode cX4_thumbFor 64 = .ok (.iload_n 2, 1) := by decide +kernel
theorem dX4_thumbFor_65 : decode cX4_thumbFor 65 = .ok (.iaload, 1) := by decide +kernel
theorem dX4_thumbFor_66 : decode cX4_thumbFor 66 = .ok (.invokestatic 63, 3) := by decide +kernel
theorem dX4_thumbFor_69 : decode cX4_thumbFor 69 = .ok (.if_icmp .ge 50, 3) := by decide +kernel
theorem dX4_thumbFor_72 : decode cX4_thumbFor 72 = .ok (.iload 5, 2) := by decide +kernel
theorem dX4_thumbFor_74 : decode cX4_thumbFor 74 = .ok (.ifCond .eq 36, 3) := by decide +kernel
theorem dX4_thumbFor_77 : decode cX4_thumbFor 77 = .ok (.aload_n 0, 1) := by decide +kernel
theorem dX4_thumbFor_78 : decode cX4_thumbFor 78 = .ok (.aload_n 0, 1) := by decide +kernel
theorem dX4_thumbFor_79 : decode cX4_thumbFor 79 = .ok (.getfield 13, 3) := by decide +kernel
theorem dX4_thumbFor_82 : decode cX4_thumbFor 82 = .ok (.iload_n 1, 1) := by decide +kernel
theorem dX4_thumbFor_83 : decode cX4_thumbFor 83 = .ok (.iaload, 1) := by decide +kernel
theorem dX4_thumbFor_84 : decode cX4_thumbFor 84 = .ok (.iload 4, 2) := by decide +kernel
theorem dX4_thumbFor_86 : decode cX4_thumbFor 86 = .ok (.aload_n 0, 1) := by decide +kernel
theorem dX4_thumbFor_87 : decode cX4_thumbFor 87 = .ok (.getfield 19, 3) := by decide +kernel
theorem dX4_thumbFor_90 : decode cX4_thumbFor 90 = .ok (.iload_n 1, 1) := by decide +kernel
theorem dX4_thumbFor_91 : decode cX4_thumbFor 91 = .ok (.iaload, 1) := by decide +kernel
theorem dX4_thumbFor_92 : decode cX4_thumbFor 92 = .ok (.aload_n 0, 1) := by decide +kernel
theorem dX4_thumbFor_93 : decode cX4_thumbFor 93 = .ok (.getfield 22, 3) := by decide +kernel
theorem dX4_thumbFor_96 : decode cX4_thumbFor 96 = .ok (.iload_n 1, 1) := by decide +kernel
theorem dX4_thumbFor_97 : decode cX4_thumbFor 97 = .ok (.iaload, 1) := by decide +kernel
theorem dX4_thumbFor_98 : decode cX4_thumbFor 98 = .ok (.iload 6, 2) := by decide +kernel
theorem dX4_thumbFor_100 : decode cX4_thumbFor 100 = .ok (.invokevirtual 59, 3) := by decide +kernel
theorem dX4_thumbFor_103 : decode cX4_thumbFor 103 = .ok (.ifCond .le 7, 3) := by decide +kernel
theorem dX4_thumbFor_106 : decode cX4_thumbFor 106 = .ok (.iconst 1, 1) := by decide +kernel
theorem dX4_thumbFor_107 : decode cX4_thumbFor 107 = .ok (.goto 4, 3) := by decide +kernel
theorem dX4_thumbFor_110 : decode cX4_thumbFor 110 = .ok (.iconst 0, 1) := by decide +kernel
theorem dX4_thumbFor_111 : decode cX4_thumbFor 111 = .ok (.istore 5, 2) := by decide +kernel
theorem dX4_thumbFor_113 : decode cX4_thumbFor 113 = .ok (.iinc 6 1, 3) := by decide +kernel
theorem dX4_thumbFor_116 : decode cX4_thumbFor 116 = .ok (.goto (-59), 3) := by decide +kernel
theorem dX4_thumbFor_119 : decode cX4_thumbFor 119 = .ok (.iload 5, 2) := by decide +kernel
theorem dX4_thumbFor_121 : decode cX4_thumbFor 121 = .ok (.ifCond .eq 6, 3) := by decide +kernel
theorem dX4_thumbFor_124 : decode cX4_thumbFor 124 = .ok (.iload 4, 2) := by decide +kernel
theorem dX4_thumbFor_126 : decode cX4_thumbFor 126 = .ok (.ireturn, 1) := by decide +kernel
theorem dX4_thumbFor_127 : decode cX4_thumbFor 127 = .ok (.iinc 3 1, 3) := by decide +kernel
theorem dX4_thumbFor_130 : decode cX4_thumbFor 130 = .ok (.goto (-100), 3) := by decide +kernel
theorem dX4_thumbFor_133 : decode cX4_thumbFor 133 = .ok (.iconst (-1), 1) := by decide +kernel
theorem dX4_thumbFor_134 : decode cX4_thumbFor 134 = .ok (.ireturn, 1) := by decide +kernel
theorem dX4_alike_0 : decode cX4_alike 0 = .ok (.iconst 0, 1) := by decide +kernel
theorem dX4_alike_1 : decode cX4_alike 1 = .ok (.istore_n 2, 1) := by decide +kernel
theorem dX4_alike_2 : decode cX4_alike 2 = .ok (.iload_n 1, 1) := by decide +kernel
theorem dX4_alike_3 : decode cX4_alike 3 = .ok (.iconst 0, 1) := by decide +kernel
theorem dX4_alike_4 : decode cX4_alike 4 = .ok (.invokestatic 63, 3) := by decide +kernel
theorem dX4_alike_7 : decode cX4_alike 7 = .ok (.istore_n 3, 1) := by decide +kernel
theorem dX4_alike_8 : decode cX4_alike 8 = .ok (.iload_n 3, 1) := by decide +kernel
theorem dX4_alike_9 : decode cX4_alike 9 = .ok (.iload_n 1, 1) := by decide +kernel
theorem dX4_alike_10 : decode cX4_alike 10 = .ok (.aload_n 0, 1) := by decide +kernel
theorem dX4_alike_11 : decode cX4_alike 11 = .ok (.getfield 9, 3) := by decide +kernel
theorem dX4_alike_14 : decode cX4_alike 14 = .ok (.iload_n 1, 1) := by decide +kernel
theorem dX4_alike_15 : decode cX4_alike 15 = .ok (.iaload, 1) := by decide +kernel
theorem dX4_alike_16 : decode cX4_alike 16 = .ok (.invokestatic 63, 3) := by decide +kernel
theorem dX4_alike_19 : decode cX4_alike 19 = .ok (.if_icmp .ge 46, 3) := by decide +kernel
theorem dX4_alike_22 : decode cX4_alike 22 = .ok (.iload_n 1, 1) := by decide +kernel
theorem dX4_alike_23 : decode cX4_alike 23 = .ok (.iconst 0, 1) := by decide +kernel
theorem dX4_alike_24 : decode cX4_alike 24 = .ok (.invokestatic 63, 3) := by decide +kernel
theorem dX4_alike_27 : decode cX4_alike 27 = .ok (.istore 4, 2) := by decide +kernel
theorem dX4_alike_29 : decode cX4_alike 29 = .ok (.iload 4, 2) := by decide +kernel
theorem dX4_alike_31 : decode cX4_alike 31 = .ok (.iload_n 3, 1) := by decide +kernel
theorem dX4_alike_32 : decode cX4_alike 32 = .ok (.if_icmp .ge 27, 3) := by decide +kernel
theorem dX4_alike_35 : decode cX4_alike 35 = .ok (.iload_n 2, 1) := by decide +kernel
theorem dX4_alike_36 : decode cX4_alike 36 = .ok (.aload_n 0, 1) := by decide +kernel
theorem dX4_alike_37 : decode cX4_alike 37 = .ok (.iload_n 3, 1) := by decide +kernel
theorem dX4_alike_38 : decode cX4_alike 38 = .ok (.iload 4, 2) := by decide +kernel
theorem dX4_alike_40 : decode cX4_alike 40 = .ok (.invokevirtual 72, 3) := by decide +kernel
theorem dX4_alike_43 : decode cX4_alike 43 = .ok (.ifCond .ne 7, 3) := by decide +kernel
theorem dX4_alike_46 : decode cX4_alike 46 = .ok (.iconst 1, 1) := by decide +kernel
theorem dX4_alike_47 : decode cX4_alike 47 = .ok (.goto 4, 3) := by decide +kernel
theorem dX4_alike_50 : decode cX4_alike 50 = .ok (.iconst 0, 1) := by decide +kernel
theorem dX4_alike_51 : decode cX4_alike 51 = .ok (.iadd, 1) := by decide +kernel
theorem dX4_alike_52 : decode cX4_alike 52 = .ok (.istore_n 2, 1) := by decide +kernel
theorem dX4_alike_53 : decode cX4_alike 53 = .ok (.iinc 4 1, 3) := by decide +kernel
theorem dX4_alike_56 : decode cX4_alike 56 = .ok (.goto (-27), 3) := by decide +kernel
theorem dX4_alike_59 : decode cX4_alike 59 = .ok (.iinc 3 1, 3) := by decide +kernel
theorem dX4_alike_62 : decode cX4_alike 62 = .ok (.goto (-54), 3) := by decide +kernel
theorem dX4_alike_65 : decode cX4_alike 65 = .ok (.iload_n 2, 1) := by decide +kernel
theorem dX4_alike_66 : decode cX4_alike 66 = .ok (.ireturn, 1) := by decide +kernel
theorem dX4_readAs_0 : decode cX4_readAs 0 = .ok (.iconst 0, 1) := by decide +kernel
theorem dX4_readAs_1 : decode cX4_readAs 1 = .ok (.istore 4, 2) := by decide +kernel
theorem dX4_readAs_3 : decode cX4_readAs 3 = .ok (.iload_n 1, 1) := by decide +kernel
theorem dX4_readAs_4 : decode cX4_readAs 4 = .ok (.iconst 0, 1) := by decide +kernel
theorem dX4_readAs_5 : decode cX4_readAs 5 = .ok (.invokestatic 63, 3) := by decide +kernel
theorem dX4_readAs_8 : decode cX4_readAs 8 = .ok (.istore 5, 2) := by decide +kernel
theorem dX4_readAs_10 : decode cX4_readAs 10 = .ok (.iload 5, 2) := by decide +kernel
theorem dX4_readAs_12 : decode cX4_readAs 12 = .ok (.iload_n 1, 1) := by decide +kernel
theorem dX4_readAs_13 : decode cX4_readAs 13 = .ok (.aload_n 0, 1) := by decide +kernel
theorem dX4_readAs_14 : decode cX4_readAs 14 = .ok (.getfield 9, 3) := by decide +kernel
theorem dX4_readAs_17 : decode cX4_readAs 17 = .ok (.iload_n 1, 1) := by decide +kernel
theorem dX4_readAs_18 : decode cX4_readAs 18 = .ok (.iaload, 1) := by decide +kernel
theorem dX4_readAs_19 : decode cX4_readAs 19 = .ok (.invokestatic 63, 3) := by decide +kernel
theorem dX4_readAs_22 : decode cX4_readAs 22 = .ok (.if_icmp .ge 55, 3) := by decide +kernel
theorem dX4_readAs_25 : decode cX4_readAs 25 = .ok (.aload_n 0, 1) := by decide +kernel
theorem dX4_readAs_26 : decode cX4_readAs 26 = .ok (.iload 5, 2) := by decide +kernel
theorem dX4_readAs_28 : decode cX4_readAs 28 = .ok (.iload_n 2, 1) := by decide +kernel
theorem dX4_readAs_29 : decode cX4_readAs 29 = .ok (.invokevirtual 74, 3) := by decide +kernel
theorem dX4_readAs_32 : decode cX4_readAs 32 = .ok (.istore 6, 2) := by decide +kernel
theorem dX4_readAs_34 : decode cX4_readAs 34 = .ok (.iload 4, 2) := by decide +kernel
theorem dX4_readAs_36 : decode cX4_readAs 36 = .ok (.iload 6, 2) := by decide +kernel
theorem dX4_readAs_38 : decode cX4_readAs 38 = .ok (.iconst (-1), 1) := by decide +kernel
theorem dX4_readAs_39 : decode cX4_readAs 39 = .ok (.if_icmp .eq 28, 3) := by decide +kernel
theorem dX4_readAs_42 : decode cX4_readAs 42 = .ok (.iload 6, 2) := by decide +kernel
theorem dX4_readAs_44 : decode cX4_readAs 44 = .ok (.aload_n 0, 1) := by decide +kernel
theorem dX4_readAs_45 : decode cX4_readAs 45 = .ok (.getfield 25, 3) := by decide +kernel
theorem dX4_readAs_48 : decode cX4_readAs 48 = .ok (.iload 5, 2) := by decide +kernel
theorem dX4_readAs_50 : decode cX4_readAs 50 = .ok (.iaload, 1) := by decide +kernel
theorem dX4_readAs_51 : decode cX4_readAs 51 = .ok (.if_icmp .ne 7, 3) := by decide +kernel
theorem dX4_readAs_54 : decode cX4_readAs 54 = .ok (.iconst 1, 1) := by decide +kernel
theorem dX4_readAs_55 : decode cX4_readAs 55 = .ok (.goto 4, 3) := by decide +kernel
theorem dX4_readAs_58 : decode cX4_readAs 58 = .ok (.iconst 0, 1) := by decide +kernel
theorem dX4_readAs_59 : decode cX4_readAs 59 = .ok (.iload_n 3, 1) := by decide +kernel
theorem dX4_readAs_60 : decode cX4_readAs 60 = .ok (.if_icmp .ne 7, 3) := by decide +kernel
theorem dX4_readAs_63 : decode cX4_readAs 63 = .ok (.iconst 1, 1) := by decide +kernel
theorem dX4_readAs_64 : decode cX4_readAs 64 = .ok (.goto 4, 3) := by decide +kernel
theorem dX4_readAs_67 : decode cX4_readAs 67 = .ok (.iconst 0, 1) := by decide +kernel
theorem dX4_readAs_68 : decode cX4_readAs 68 = .ok (.iadd, 1) := by decide +kernel
theorem dX4_readAs_69 : decode cX4_readAs 69 = .ok (.istore 4, 2) := by decide +kernel
theorem dX4_readAs_71 : decode cX4_readAs 71 = .ok (.iinc 5 1, 3) := by decide +kernel
theorem dX4_readAs_74 : decode cX4_readAs 74 = .ok (.goto (-64), 3) := by decide +kernel
theorem dX4_readAs_77 : decode cX4_readAs 77 = .ok (.iload 4, 2) := by decide +kernel
theorem dX4_readAs_79 : decode cX4_readAs 79 = .ok (.ireturn, 1) := by decide +kernel
theorem dX4_addLodge_0 : decode cX4_addLodge 0 = .ok (.aload_n 0, 1) := by decide +kernel
theorem dX4_addLodge_1 : decode cX4_addLodge 1 = .ok (.iconst 0, 1) := by decide +kernel
theorem dX4_addLodge_2 : decode cX4_addLodge 2 = .ok (.putfield 31, 3) := by decide +kernel
theorem dX4_addLodge_5 : decode cX4_addLodge 5 = .ok (.aload_n 0, 1) := by decide +kernel
theorem dX4_addLodge_6 : decode cX4_addLodge 6 = .ok (.getfield 35, 3) := by decide +kernel
theorem dX4_addLodge_9 : decode cX4_addLodge 9 = .ok (.iconst 4, 1) := by decide +kernel
theorem dX4_addLodge_10 : decode cX4_addLodge 10 = .ok (.if_icmp .ne 9, 3) := by decide +kernel
theorem dX4_addLodge_13 : decode cX4_addLodge 13 = .ok (.aload_n 0, 1) := by decide +kernel
theorem dX4_addLodge_14 : decode cX4_addLodge 14 = .ok (.iconst 1, 1) := by decide +kernel
theorem dX4_addLodge_15 : decode cX4_addLodge 15 = .ok (.invokevirtual 76, 3) := by decide +kernel
theorem dX4_addLodge_18 : decode cX4_addLodge 18 = .ok (.ireturn, 1) := by decide +kernel
theorem dX4_addLodge_19 : decode cX4_addLodge 19 = .ok (.aload_n 0, 1) := by decide +kernel
theorem dX4_addLodge_20 : decode cX4_addLodge 20 = .ok (.dup, 1) := by decide +kernel
theorem dX4_addLodge_21 : decode cX4_addLodge 21 = .ok (.getfield 35, 3) := by decide +kernel
theorem dX4_addLodge_24 : decode cX4_addLodge 24 = .ok (.iconst 1, 1) := by decide +kernel
theorem dX4_addLodge_25 : decode cX4_addLodge 25 = .ok (.iadd, 1) := by decide +kernel
theorem dX4_addLodge_26 : decode cX4_addLodge 26 = .ok (.putfield 35, 3) := by decide +kernel
theorem dX4_addLodge_29 : decode cX4_addLodge 29 = .ok (.aload_n 0, 1) := by decide +kernel
theorem dX4_addLodge_30 : decode cX4_addLodge 30 = .ok (.getfield 35, 3) := by decide +kernel
theorem dX4_addLodge_33 : decode cX4_addLodge 33 = .ok (.iconst 1, 1) := by decide +kernel
theorem dX4_addLodge_34 : decode cX4_addLodge 34 = .ok (.isub, 1) := by decide +kernel
theorem dX4_addLodge_35 : decode cX4_addLodge 35 = .ok (.ireturn, 1) := by decide +kernel
theorem dX4_addSign_0 : decode cX4_addSign 0 = .ok (.aload_n 0, 1) := by decide +kernel
theorem dX4_addSign_1 : decode cX4_addSign 1 = .ok (.iconst 0, 1) := by decide +kernel
theorem dX4_addSign_2 : decode cX4_addSign 2 = .ok (.putfield 31, 3) := by decide +kernel
theorem dX4_addSign_5 : decode cX4_addSign 5 = .ok (.aload_n 0, 1) := by decide +kernel
theorem dX4_addSign_6 : decode cX4_addSign 6 = .ok (.iload_n 1, 1) := by decide +kernel
theorem dX4_addSign_7 : decode cX4_addSign 7 = .ok (.invokevirtual 42, 3) := by decide +kernel
theorem dX4_addSign_10 : decode cX4_addSign 10 = .ok (.ifCond .ne 9, 3) := by decide +kernel
theorem dX4_addSign_13 : decode cX4_addSign 13 = .ok (.aload_n 0, 1) := by decide +kernel
theorem dX4_addSign_14 : decode cX4_addSign 14 = .ok (.iconst 1, 1) := by decide +kernel
theorem dX4_addSign_15 : decode cX4_addSign 15 = .ok (.invokevirtual 76, 3) := by decide +kernel
theorem dX4_addSign_18 : decode cX4_addSign 18 = .ok (.ireturn, 1) := by decide +kernel
theorem dX4_addSign_19 : decode cX4_addSign 19 = .ok (.iload_n 2, 1) := by decide +kernel
theorem dX4_addSign_20 : decode cX4_addSign 20 = .ok (.iload_n 3, 1) := by decide +kernel
theorem dX4_addSign_21 : decode cX4_addSign 21 = .ok (.iload 4, 2) := by decide +kernel
theorem dX4_addSign_23 : decode cX4_addSign 23 = .ok (.iload 5, 2) := by decide +kernel
theorem dX4_addSign_25 : decode cX4_addSign 25 = .ok (.invokestatic 79, 3) := by decide +kernel
theorem dX4_addSign_28 : decode cX4_addSign 28 = .ok (.ifCond .eq 14, 3) := by decide +kernel
theorem dX4_addSign_31 : decode cX4_addSign 31 = .ok (.iload 6, 2) := by decide +kernel
theorem dX4_addSign_33 : decode cX4_addSign 33 = .ok (.iconst 0, 1) := by decide +kernel
theorem dX4_addSign_34 : decode cX4_addSign 34 = .ok (.bipush 29, 2) := by decide +kernel
theorem dX4_addSign_36 : decode cX4_addSign 36 = .ok (.invokestatic 38, 3) := by decide +kernel
theorem dX4_addSign_39 : decode cX4_addSign 39 = .ok (.ifCond .ne 9, 3) := by decide +kernel
theorem dX4_addSign_42 : decode cX4_addSign 42 = .ok (.aload_n 0, 1) := by decide +kernel
theorem dX4_addSign_43 : decode cX4_addSign 43 = .ok (.iconst 2, 1) := by decide +kernel
theorem dX4_addSign_44 : decode cX4_addSign 44 = .ok (.invokevirtual 76, 3) := by decide +kernel
theorem dX4_addSign_47 : decode cX4_addSign 47 = .ok (.ireturn, 1) := by decide +kernel
theorem dX4_addSign_48 : decode cX4_addSign 48 = .ok (.aload_n 0, 1) := by decide +kernel
theorem dX4_addSign_49 : decode cX4_addSign 49 = .ok (.getfield 9, 3) := by decide +kernel
theorem dX4_addSign_52 : decode cX4_addSign 52 = .ok (.iload_n 1, 1) := by decide +kernel
theorem dX4_addSign_53 : decode cX4_addSign 53 = .ok (.iaload, 1) := by decide +kernel
theorem dX4_addSign_54 : decode cX4_addSign 54 = .ok (.bipush 16, 2) := by decide +kernel
theorem dX4_addSign_56 : decode cX4_addSign 56 = .ok (.if_icmp .eq 14, 3) := by decide +kernel
theorem dX4_addSign_59 : decode cX4_addSign 59 = .ok (.aload_n 0, 1) := by decide +kernel
theorem dX4_addSign_60 : decode cX4_addSign 60 = .ok (.iload_n 1, 1) := by decide +kernel
theorem dX4_addSign_61 : decode cX4_addSign 61 = .ok (.iload 6, 2) := by decide +kernel
theorem dX4_addSign_63 : decode cX4_addSign 63 = .ok (.invokevirtual 69, 3) := by decide +kernel
theorem dX4_addSign_66 : decode cX4_addSign 66 = .ok (.iconst (-1), 1) := by decide +kernel
theorem dX4_addSign_67 : decode cX4_addSign 67 = .ok (.if_icmp .eq 9, 3) := by decide +kernel
theorem dX4_addSign_70 : decode cX4_addSign 70 = .ok (.aload_n 0, 1) := by decide +kernel
theorem dX4_addSign_71 : decode cX4_addSign 71 = .ok (.iconst 3, 1) := by decide +kernel
theorem dX4_addSign_72 : decode cX4_addSign 72 = .ok (.invokevirtual 76, 3) := by decide +kernel
theorem dX4_addSign_75 : decode cX4_addSign 75 = .ok (.ireturn, 1) := by decide +kernel
theorem dX4_addSign_76 : decode cX4_addSign 76 = .ok (.aload_n 0, 1) := by decide +kernel
theorem dX4_addSign_77 : decode cX4_addSign 77 = .ok (.iload_n 1, 1) := by decide +kernel
theorem dX4_addSign_78 : decode cX4_addSign 78 = .ok (.iload_n 2, 1) := by decide +kernel
theorem dX4_addSign_79 : decode cX4_addSign 79 = .ok (.iload_n 3, 1) := by decide +kernel
theorem dX4_addSign_80 : decode cX4_addSign 80 = .ok (.iload 4, 2) := by decide +kernel
theorem dX4_addSign_82 : decode cX4_addSign 82 = .ok (.iload 5, 2) := by decide +kernel
theorem dX4_addSign_84 : decode cX4_addSign 84 = .ok (.iload 6, 2) := by decide +kernel
theorem dX4_addSign_86 : decode cX4_addSign 86 = .ok (.invokevirtual 83, 3) := by decide +kernel
theorem dX4_addSign_89 : decode cX4_addSign 89 = .ok (.aload_n 0, 1) := by decide +kernel
theorem dX4_addSign_90 : decode cX4_addSign 90 = .ok (.getfield 9, 3) := by decide +kernel
theorem dX4_addSign_93 : decode cX4_addSign 93 = .ok (.iload_n 1, 1) := by decide +kernel
theorem dX4_addSign_94 : decode cX4_addSign 94 = .ok (.iaload, 1) := by decide +kernel
theorem dX4_addSign_95 : decode cX4_addSign 95 = .ok (.iconst 1, 1) := by decide +kernel
theorem dX4_addSign_96 : decode cX4_addSign 96 = .ok (.isub, 1) := by decide +kernel
theorem dX4_addSign_97 : decode cX4_addSign 97 = .ok (.ireturn, 1) := by decide +kernel
theorem dX4_close_0 : decode cX4_close 0 = .ok (.iload_n 1, 1) := by decide +kernel
theorem dX4_close_1 : decode cX4_close 1 = .ok (.istore_n 3, 1) := by decide +kernel
theorem dX4_close_2 : decode cX4_close 2 = .ok (.iload_n 3, 1) := by decide +kernel
theorem dX4_close_3 : decode cX4_close 3 = .ok (.iload_n 2, 1) := by decide +kernel
theorem dX4_close_4 : decode cX4_close 4 = .ok (.if_icmp .ge 17, 3) := by decide +kernel
theorem dX4_close_7 : decode cX4_close 7 = .ok (.aload_n 0, 1) := by decide +kernel
theorem dX4_close_8 : decode cX4_close 8 = .ok (.iload_n 3, 1) := by decide +kernel
theorem dX4_close_9 : decode cX4_close 9 = .ok (.aload_n 0, 1) := by decide +kernel
theorem dX4_close_10 : decode cX4_close 10 = .ok (.iload_n 3, 1) := by decide +kernel
theorem dX4_close_11 : decode cX4_close 11 = .ok (.iconst 1, 1) := by decide +kernel
theorem dX4_close_12 : decode cX4_close 12 = .ok (.iadd, 1) := by decide +kernel
theorem dX4_close_13 : decode cX4_close 13 = .ok (.iaload, 1) := by decide +kernel
theorem dX4_close_14 : decode cX4_close 14 = .ok (.iastore, 1) := by decide +kernel
theorem dX4_close_15 : decode cX4_close 15 = .ok (.iinc 3 1, 3) := by decide +kernel
theorem dX4_close_18 : decode cX4_close 18 = .ok (.goto (-16), 3) := by decide +kernel
theorem dX4_close_21 : decode cX4_close 21 = .ok (.return_, 1) := by decide +kernel
theorem dX4_forget_0 : decode cX4_forget 0 = .ok (.aload_n 0, 1) := by decide +kernel
theorem dX4_forget_1 : decode cX4_forget 1 = .ok (.iconst 0, 1) := by decide +kernel
theorem dX4_forget_2 : decode cX4_forget 2 = .ok (.putfield 31, 3) := by decide +kernel
theorem dX4_forget_5 : decode cX4_forget 5 = .ok (.aload_n 0, 1) := by decide +kernel
theorem dX4_forget_6 : decode cX4_forget 6 = .ok (.iload_n 1, 1) := by decide +kernel
theorem dX4_forget_7 : decode cX4_forget 7 = .ok (.iload_n 2, 1) := by decide +kernel
theorem dX4_forget_8 : decode cX4_forget 8 = .ok (.invokevirtual 87, 3) := by decide +kernel
theorem dX4_forget_11 : decode cX4_forget 11 = .ok (.ifCond .ne 9, 3) := by decide +kernel
theorem dX4_forget_14 : decode cX4_forget 14 = .ok (.aload_n 0, 1) := by decide +kernel
theorem dX4_forget_15 : decode cX4_forget 15 = .ok (.iconst 1, 1) := by decide +kernel
theorem dX4_forget_16 : decode cX4_forget 16 = .ok (.invokevirtual 76, 3) := by decide +kernel
theorem dX4_forget_19 : decode cX4_forget 19 = .ok (.ireturn, 1) := by decide +kernel
theorem dX4_forget_20 : decode cX4_forget 20 = .ok (.aload_n 0, 1) := by decide +kernel
theorem dX4_forget_21 : decode cX4_forget 21 = .ok (.getfield 25, 3) := by decide +kernel
theorem dX4_forget_24 : decode cX4_forget 24 = .ok (.iload_n 1, 1) := by decide +kernel
theorem dX4_forget_25 : decode cX4_forget 25 = .ok (.iload_n 2, 1) := by decide +kernel
theorem dX4_forget_26 : decode cX4_forget 26 = .ok (.invokestatic 63, 3) := by decide +kernel
theorem dX4_forget_29 : decode cX4_forget 29 = .ok (.iaload, 1) := by decide +kernel
theorem dX4_forget_30 : decode cX4_forget 30 = .ok (.istore_n 3, 1) := by decide +kernel
theorem dX4_forget_31 : decode cX4_forget 31 = .ok (.iload_n 1, 1) := by decide +kernel
theorem dX4_forget_32 : decode cX4_forget 32 = .ok (.aload_n 0, 1) := by decide +kernel
theorem dX4_forget_33 : decode cX4_forget 33 = .ok (.getfield 9, 3) := by decide +kernel
theorem dX4_forget_36 : decode cX4_forget 36 = .ok (.iload_n 1, 1) := by decide +kernel
theorem dX4_forget_37 : decode cX4_forget 37 = .ok (.iaload, 1) := by decide +kernel
theorem dX4_forget_38 : decode cX4_forget 38 = .ok (.iconst 1, 1) := by decide +kernel
theorem dX4_forget_39 : decode cX4_forget 39 = .ok (.isub, 1) := by decide +kernel
theorem dX4_forget_40 : decode cX4_forget 40 = .ok (.invokestatic 63, 3) := by decide +kernel
theorem dX4_forget_43 : decode cX4_forget 43 = .ok (.istore 4, 2) := by decide +kernel
theorem dX4_forget_45 : decode cX4_forget 45 = .ok (.aload_n 0, 1) := by decide +kernel
theorem dX4_forget_46 : decode cX4_forget 46 = .ok (.getfield 13, 3) := by decide +kernel
theorem dX4_forget_49 : decode cX4_forget 49 = .ok (.iload_n 1, 1) := by decide +kernel
theorem dX4_forget_50 : decode cX4_forget 50 = .ok (.iload_n 2, 1) := by decide +kernel
theorem dX4_forget_51 : decode cX4_forget 51 = .ok (.invokestatic 63, 3) := by decide +kernel
theorem dX4_forget_54 : decode cX4_forget 54 = .ok (.iload 4, 2) := by decide +kernel
theorem dX4_forget_56 : decode cX4_forget 56 = .ok (.invokestatic 91, 3) := by decide +kernel
theorem dX4_forget_59 : decode cX4_forget 59 = .ok (.aload_n 0, 1) := by decide +kernel
theorem dX4_forget_60 : decode cX4_forget 60 = .ok (.getfield 16, 3) := by decide +kernel
theorem dX4_forget_63 : decode cX4_forget 63 = .ok (.iload_n 1, 1) := by decide +kernel
theorem dX4_forget_64 : decode cX4_forget 64 = .ok (.iload_n 2, 1) := by decide +kernel
theorem dX4_forget_65 : decode cX4_forget 65 = .ok (.invokestatic 63, 3) := by decide +kernel
theorem dX4_forget_68 : decode cX4_forget 68 = .ok (.iload 4, 2) := by decide +kernel
theorem dX4_forget_70 : decode cX4_forget 70 = .ok (.invokestatic 91, 3) := by decide +kernel
theorem dX4_forget_73 : decode cX4_forget 73 = .ok (.aload_n 0, 1) := by decide +kernel
theorem dX4_forget_74 : decode cX4_forget 74 = .ok (.getfield 19, 3) := by decide +kernel
theorem dX4_forget_77 : decode cX4_forget 77 = .ok (.iload_n 1, 1) := by decide +kernel
theorem dX4_forget_78 : decode cX4_forget 78 = .ok (.iload_n 2, 1) := by decide +kernel
theorem dX4_forget_79 : decode cX4_forget 79 = .ok (.invokestatic 63, 3) := by decide +kernel
theorem dX4_forget_82 : decode cX4_forget 82 = .ok (.iload 4, 2) := by decide +kernel
theorem dX4_forget_84 : decode cX4_forget 84 = .ok (.invokestatic 91, 3) := by decide +kernel
theorem dX4_forget_87 : decode cX4_forget 87 = .ok (.aload_n 0, 1) := by decide +kernel
theorem dX4_forget_88 : decode cX4_forget 88 = .ok (.getfield 22, 3) := by decide +kernel
theorem dX4_forget_91 : decode cX4_forget 91 = .ok (.iload_n 1, 1) := by decide +kernel
theorem dX4_forget_92 : decode cX4_forget 92 = .ok (.iload_n 2, 1) := by decide +kernel
theorem dX4_forget_93 : decode cX4_forget 93 = .ok (.invokestatic 63, 3) := by decide +kernel
theorem dX4_forget_96 : decode cX4_forget 96 = .ok (.iload 4, 2) := by decide +kernel
theorem dX4_forget_98 : decode cX4_forget 98 = .ok (.invokestatic 91, 3) := by decide +kernel
theorem dX4_forget_101 : decode cX4_forget 101 = .ok (.aload_n 0, 1) := by decide +kernel
theorem dX4_forget_102 : decode cX4_forget 102 = .ok (.getfield 25, 3) := by decide +kernel
theorem dX4_forget_105 : decode cX4_forget 105 = .ok (.iload_n 1, 1) := by decide +kernel
theorem dX4_forget_106 : decode cX4_forget 106 = .ok (.iload_n 2, 1) := by decide +kernel
theorem dX4_forget_107 : decode cX4_forget 107 = .ok (.invokestatic 63, 3) := by decide +kernel
theorem dX4_forget_110 : decode cX4_forget 110 = .ok (.iload 4, 2) := by decide +kernel
theorem dX4_forget_112 : decode cX4_forget 112 = .ok (.invokestatic 91, 3) := by decide +kernel
theorem dX4_forget_115 : decode cX4_forget 115 = .ok (.aload_n 0, 1) := by decide +kernel
theorem dX4_forget_116 : decode cX4_forget 116 = .ok (.getfield 9, 3) := by decide +kernel
theorem dX4_forget_119 : decode cX4_forget 119 = .ok (.iload_n 1, 1) := by decide +kernel
theorem dX4_forget_120 : decode cX4_forget 120 = .ok (.dup2, 1) := by decide +kernel
theorem dX4_forget_121 : decode cX4_forget 121 = .ok (.iaload, 1) := by decide +kernel
theorem dX4_forget_122 : decode cX4_forget 122 = .ok (.iconst 1, 1) := by decide +kernel
theorem dX4_forget_123 : decode cX4_forget 123 = .ok (.isub, 1) := by decide +kernel
theorem dX4_forget_124 : decode cX4_forget 124 = .ok (.iastore, 1) := by decide +kernel
theorem dX4_forget_125 : decode cX4_forget 125 = .ok (.iload_n 3, 1) := by decide +kernel
theorem dX4_forget_126 : decode cX4_forget 126 = .ok (.ireturn, 1) := by decide +kernel
theorem dX4_setThumb_0 : decode cX4_setThumb 0 = .ok (.aload_n 0, 1) := by decide +kernel
theorem dX4_setThumb_1 : decode cX4_setThumb 1 = .ok (.iconst 0, 1) := by decide +kernel
theorem dX4_setThumb_2 : decode cX4_setThumb 2 = .ok (.putfield 31, 3) := by decide +kernel
theorem dX4_setThumb_5 : decode cX4_setThumb 5 = .ok (.aload_n 0, 1) := by decide +kernel
theorem dX4_setThumb_6 : decode cX4_setThumb 6 = .ok (.iload_n 1, 1) := by decide +kernel
theorem dX4_setThumb_7 : decode cX4_setThumb 7 = .ok (.iload_n 2, 1) := by decide +kernel
theorem dX4_setThumb_8 : decode cX4_setThumb 8 = .ok (.invokevirtual 87, 3) := by decide +kernel
theorem dX4_setThumb_11 : decode cX4_setThumb 11 = .ok (.ifCond .ne 9, 3) := by decide +kernel
theorem dX4_setThumb_14 : decode cX4_setThumb 14 = .ok (.aload_n 0, 1) := by decide +kernel
theorem dX4_setThumb_15 : decode cX4_setThumb 15 = .ok (.iconst 1, 1) := by decide +kernel
theorem dX4_setThumb_16 : decode cX4_setThumb 16 = .ok (.invokevirtual 76, 3) := by decide +kernel
theorem dX4_setThumb_19 : decode cX4_setThumb 19 = .ok (.ireturn, 1) := by decide +kernel
theorem dX4_setThumb_20 : decode cX4_setThumb 20 = .ok (.iload_n 3, 1) := by decide +kernel
theorem dX4_setThumb_21 : decode cX4_setThumb 21 = .ok (.iconst 0, 1) := by decide +kernel
theorem dX4_setThumb_22 : decode cX4_setThumb 22 = .ok (.iconst 3, 1) := by decide +kernel
theorem dX4_setThumb_23 : decode cX4_setThumb 23 = .ok (.invokestatic 38, 3) := by decide +kernel
theorem dX4_setThumb_26 : decode cX4_setThumb 26 = .ok (.ifCond .ne 9, 3) := by decide +kernel
theorem dX4_setThumb_29 : decode cX4_setThumb 29 = .ok (.aload_n 0, 1) := by decide +kernel
theorem dX4_setThumb_30 : decode cX4_setThumb 30 = .ok (.iconst 2, 1) := by decide +kernel
theorem dX4_setThumb_31 : decode cX4_setThumb 31 = .ok (.invokevirtual 76, 3) := by decide +kernel
theorem dX4_setThumb_34 : decode cX4_setThumb 34 = .ok (.ireturn, 1) := by decide +kernel
theorem dX4_setThumb_35 : decode cX4_setThumb 35 = .ok (.aload_n 0, 1) := by decide +kernel
theorem dX4_setThumb_36 : decode cX4_setThumb 36 = .ok (.getfield 16, 3) := by decide +kernel
theorem dX4_setThumb_39 : decode cX4_setThumb 39 = .ok (.iload_n 1, 1) := by decide +kernel
theorem dX4_setThumb_40 : decode cX4_setThumb 40 = .ok (.iload_n 2, 1) := by decide +kernel
theorem dX4_setThumb_41 : decode cX4_setThumb 41 = .ok (.invokestatic 63, 3) := by decide +kernel
theorem dX4_setThumb_44 : decode cX4_setThumb 44 = .ok (.iaload, 1) := by decide +kernel
theorem dX4_setThumb_45 : decode cX4_setThumb 45 = .ok (.istore 4, 2) := by decide +kernel
theorem dX4_setThumb_47 : decode cX4_setThumb 47 = .ok (.aload_n 0, 1) := by decide +kernel
theorem dX4_setThumb_48 : decode cX4_setThumb 48 = .ok (.getfield 16, 3) := by decide +kernel
theorem dX4_setThumb_51 : decode cX4_setThumb 51 = .ok (.iload_n 1, 1) := by decide +kernel
theorem dX4_setThumb_52 : decode cX4_setThumb 52 = .ok (.iload_n 2, 1) := by decide +kernel
theorem dX4_setThumb_53 : decode cX4_setThumb 53 = .ok (.invokestatic 63, 3) := by decide +kernel
theorem dX4_setThumb_56 : decode cX4_setThumb 56 = .ok (.iload_n 3, 1) := by decide +kernel
theorem dX4_setThumb_57 : decode cX4_setThumb 57 = .ok (.iastore, 1) := by decide +kernel
theorem dX4_setThumb_58 : decode cX4_setThumb 58 = .ok (.iload 4, 2) := by decide +kernel
theorem dX4_setThumb_60 : decode cX4_setThumb 60 = .ok (.ireturn, 1) := by decide +kernel
theorem dX4_allGroups_0 : decode cX4_allGroups 0 = .ok (.iconst 0, 1) := by decide +kernel
theorem dX4_allGroups_1 : decode cX4_allGroups 1 = .ok (.istore_n 1, 1) := by decide +kernel
theorem dX4_allGroups_2 : decode cX4_allGroups 2 = .ok (.iconst 0, 1) := by decide +kernel
theorem dX4_allGroups_3 : decode cX4_allGroups 3 = .ok (.istore_n 2, 1) := by decide +kernel
theorem dX4_allGroups_4 : decode cX4_allGroups 4 = .ok (.iload_n 2, 1) := by decide +kernel
theorem dX4_allGroups_5 : decode cX4_allGroups 5 = .ok (.bipush 9, 2) := by decide +kernel
theorem dX4_allGroups_7 : decode cX4_allGroups 7 = .ok (.if_icmp .ge 27, 3) := by decide +kernel
theorem dX4_allGroups_10 : decode cX4_allGroups 10 = .ok (.iload_n 1, 1) := by decide +kernel
theorem dX4_allGroups_11 : decode cX4_allGroups 11 = .ok (.aload_n 0, 1) := by decide +kernel
theorem dX4_allGroups_12 : decode cX4_allGroups 12 = .ok (.getfield 28, 3) := by decide +kernel
theorem dX4_allGroups_15 : decode cX4_allGroups 15 = .ok (.iload_n 2, 1) := by decide +kernel
theorem dX4_allGroups_16 : decode cX4_allGroups 16 = .ok (.iaload, 1) := by decide +kernel
theorem dX4_allGroups_17 : decode cX4_allGroups 17 = .ok (.iload_n 2, 1) := by decide +kernel
theorem dX4_allGroups_18 : decode cX4_allGroups 18 = .ok (.if_icmp .ne 7, 3) := by decide +kernel
theorem dX4_allGroups_21 : decode cX4_allGroups 21 = .ok (.iconst 1, 1) := by decide +kernel
theorem dX4_allGroups_22 : decode cX4_allGroups 22 = .ok (.goto 4, 3) := by decide +kernel
theorem dX4_allGroups_25 : decode cX4_allGroups 25 = .ok (.iconst 0, 1) := by decide +kernel
theorem dX4_allGroups_26 : decode cX4_allGroups 26 = .ok (.iadd, 1) := by decide +kernel
theorem dX4_allGroups_27 : decode cX4_allGroups 27 = .ok (.istore_n 1, 1) := by decide +kernel
theorem dX4_allGroups_28 : decode cX4_allGroups 28 = .ok (.iinc 2 1, 3) := by decide +kernel
theorem dX4_allGroups_31 : decode cX4_allGroups 31 = .ok (.goto (-27), 3) := by decide +kernel
theorem dX4_allGroups_34 : decode cX4_allGroups 34 = .ok (.iload_n 1, 1) := by decide +kernel
theorem dX4_allGroups_35 : decode cX4_allGroups 35 = .ok (.ireturn, 1) := by decide +kernel
theorem dX4_joinNow_0 : decode cX4_joinNow 0 = .ok (.aload_n 0, 1) := by decide +kernel
theorem dX4_joinNow_1 : decode cX4_joinNow 1 = .ok (.getfield 28, 3) := by decide +kernel
theorem dX4_joinNow_4 : decode cX4_joinNow 4 = .ok (.iload_n 1, 1) := by decide +kernel
theorem dX4_joinNow_5 : decode cX4_joinNow 5 = .ok (.iaload, 1) := by decide +kernel
theorem dX4_joinNow_6 : decode cX4_joinNow 6 = .ok (.aload_n 0, 1) := by decide +kernel
theorem dX4_joinNow_7 : decode cX4_joinNow 7 = .ok (.getfield 28, 3) := by decide +kernel
theorem dX4_joinNow_10 : decode cX4_joinNow 10 = .ok (.iload_n 2, 1) := by decide +kernel
theorem dX4_joinNow_11 : decode cX4_joinNow 11 = .ok (.iaload, 1) := by decide +kernel
theorem dX4_joinNow_12 : decode cX4_joinNow 12 = .ok (.invokestatic 95, 3) := by decide +kernel
theorem dX4_joinNow_15 : decode cX4_joinNow 15 = .ok (.istore_n 3, 1) := by decide +kernel
theorem dX4_joinNow_16 : decode cX4_joinNow 16 = .ok (.aload_n 0, 1) := by decide +kernel
theorem dX4_joinNow_17 : decode cX4_joinNow 17 = .ok (.getfield 28, 3) := by decide +kernel
theorem dX4_joinNow_20 : decode cX4_joinNow 20 = .ok (.iload_n 1, 1) := by decide +kernel
theorem dX4_joinNow_21 : decode cX4_joinNow 21 = .ok (.iaload, 1) := by decide +kernel
theorem dX4_joinNow_22 : decode cX4_joinNow 22 = .ok (.aload_n 0, 1) := by decide +kernel
theorem dX4_joinNow_23 : decode cX4_joinNow 23 = .ok (.getfield 28, 3) := by decide +kernel
theorem dX4_joinNow_26 : decode cX4_joinNow 26 = .ok (.iload_n 2, 1) := by decide +kernel
theorem dX4_joinNow_27 : decode cX4_joinNow 27 = .ok (.iaload, 1) := by decide +kernel
theorem dX4_joinNow_28 : decode cX4_joinNow 28 = .ok (.invokestatic 98, 3) := by decide +kernel
theorem dX4_joinNow_31 : decode cX4_joinNow 31 = .ok (.istore 4, 2) := by decide +kernel
theorem dX4_joinNow_33 : decode cX4_joinNow 33 = .ok (.iconst 0, 1) := by decide +kernel
theorem dX4_joinNow_34 : decode cX4_joinNow 34 = .ok (.istore 5, 2) := by decide +kernel
theorem dX4_joinNow_36 : decode cX4_joinNow 36 = .ok (.iload 5, 2) := by decide +kernel
theorem dX4_joinNow_38 : decode cX4_joinNow 38 = .ok (.bipush 9, 2) := by decide +kernel
theorem dX4_joinNow_40 : decode cX4_joinNow 40 = .ok (.if_icmp .ge 29, 3) := by decide +kernel
theorem dX4_joinNow_43 : decode cX4_joinNow 43 = .ok (.aload_n 0, 1) := by decide +kernel
theorem dX4_joinNow_44 : decode cX4_joinNow 44 = .ok (.getfield 28, 3) := by decide +kernel
theorem dX4_joinNow_47 : decode cX4_joinNow 47 = .ok (.iload 5, 2) := by decide +kernel
theorem dX4_joinNow_49 : decode cX4_joinNow 49 = .ok (.iaload, 1) := by decide +kernel
theorem dX4_joinNow_50 : decode cX4_joinNow 50 = .ok (.iload 4, 2) := by decide +kernel
theorem dX4_joinNow_52 : decode cX4_joinNow 52 = .ok (.if_icmp .ne 11, 3) := by decide +kernel
theorem dX4_joinNow_55 : decode cX4_joinNow 55 = .ok (.aload_n 0, 1) := by decide +kernel
theorem dX4_joinNow_56 : decode cX4_joinNow 56 = .ok (.getfield 28, 3) := by decide +kernel
theorem dX4_joinNow_59 : decode cX4_joinNow 59 = .ok (.iload 5, 2) := by decide +kernel
theorem dX4_joinNow_61 : decode cX4_joinNow 61 = .ok (.iload_n 3, 1) := by decide +kernel
theorem dX4_joinNow_62 : decode cX4_joinNow 62 = .ok (.iastore, 1) := by decide +kernel
theorem dX4_joinNow_63 : decode cX4_joinNow 63 = .ok (.iinc 5 1, 3) := by decide +kernel
theorem dX4_joinNow_66 : decode cX4_joinNow 66 = .ok (.goto (-30), 3) := by decide +kernel
theorem dX4_joinNow_69 : decode cX4_joinNow 69 = .ok (.return_, 1) := by decide +kernel
theorem dX4_join_0 : decode cX4_join 0 = .ok (.aload_n 0, 1) := by decide +kernel
theorem dX4_join_1 : decode cX4_join 1 = .ok (.iconst 0, 1) := by decide +kernel
theorem dX4_join_2 : decode cX4_join 2 = .ok (.putfield 31, 3) := by decide +kernel
theorem dX4_join_5 : decode cX4_join 5 = .ok (.iload_n 1, 1) := by decide +kernel
theorem dX4_join_6 : decode cX4_join 6 = .ok (.invokestatic 46, 3) := by decide +kernel
theorem dX4_join_9 : decode cX4_join 9 = .ok (.ifCond .eq 10, 3) := by decide +kernel
theorem dX4_join_12 : decode cX4_join 12 = .ok (.iload_n 2, 1) := by decide +kernel
theorem dX4_join_13 : decode cX4_join 13 = .ok (.invokestatic 46, 3) := by decide +kernel
theorem dX4_join_16 : decode cX4_join 16 = .ok (.ifCond .ne 9, 3) := by decide +kernel
theorem dX4_join_19 : decode cX4_join 19 = .ok (.aload_n 0, 1) := by decide +kernel
theorem dX4_join_20 : decode cX4_join 20 = .ok (.iconst 1, 1) := by decide +kernel
theorem dX4_join_21 : decode cX4_join 21 = .ok (.invokevirtual 76, 3) := by decide +kernel
theorem dX4_join_24 : decode cX4_join 24 = .ok (.ireturn, 1) := by decide +kernel
theorem dX4_join_25 : decode cX4_join 25 = .ok (.aload_n 0, 1) := by decide +kernel
theorem dX4_join_26 : decode cX4_join 26 = .ok (.iload_n 1, 1) := by decide +kernel
theorem dX4_join_27 : decode cX4_join 27 = .ok (.iload_n 2, 1) := by decide +kernel
theorem dX4_join_28 : decode cX4_join 28 = .ok (.invokevirtual 101, 3) := by decide +kernel
theorem dX4_join_31 : decode cX4_join 31 = .ok (.aload_n 0, 1) := by decide +kernel
theorem dX4_join_32 : decode cX4_join 32 = .ok (.invokevirtual 105, 3) := by decide +kernel
theorem dX4_join_35 : decode cX4_join 35 = .ok (.ireturn, 1) := by decide +kernel
theorem dX4_borrow_0 : decode cX4_borrow 0 = .ok (.aload_n 0, 1) := by decide +kernel
theorem dX4_borrow_1 : decode cX4_borrow 1 = .ok (.iconst 0, 1) := by decide +kernel
theorem dX4_borrow_2 : decode cX4_borrow 2 = .ok (.putfield 31, 3) := by decide +kernel
theorem dX4_borrow_5 : decode cX4_borrow 5 = .ok (.aload_n 0, 1) := by decide +kernel
theorem dX4_borrow_6 : decode cX4_borrow 6 = .ok (.iload_n 3, 1) := by decide +kernel
theorem dX4_borrow_7 : decode cX4_borrow 7 = .ok (.invokevirtual 42, 3) := by decide +kernel
theorem dX4_borrow_10 : decode cX4_borrow 10 = .ok (.ifCond .eq 12, 3) := by decide +kernel
theorem dX4_borrow_13 : decode cX4_borrow 13 = .ok (.aload_n 0, 1) := by decide +kernel
theorem dX4_borrow_14 : decode cX4_borrow 14 = .ok (.iload_n 1, 1) := by decide +kernel
theorem dX4_borrow_15 : decode cX4_borrow 15 = .ok (.iload_n 2, 1) := by decide +kernel
theorem dX4_borrow_16 : decode cX4_borrow 16 = .ok (.invokevirtual 87, 3) := by decide +kernel
theorem dX4_borrow_19 : decode cX4_borrow 19 = .ok (.ifCond .ne 9, 3) := by decide +kernel
theorem dX4_borrow_22 : decode cX4_borrow 22 = .ok (.aload_n 0, 1) := by decide +kernel
theorem dX4_borrow_23 : decode cX4_borrow 23 = .ok (.iconst 1, 1) := by decide +kernel
theorem dX4_borrow_24 : decode cX4_borrow 24 = .ok (.invokevirtual 76, 3) := by decide +kernel
theorem dX4_borrow_27 : decode cX4_borrow 27 = .ok (.ireturn, 1) := by decide +kernel
theorem dX4_borrow_28 : decode cX4_borrow 28 = .ok (.iload_n 1, 1) := by decide +kernel
theorem dX4_borrow_29 : decode cX4_borrow 29 = .ok (.iload_n 3, 1) := by decide +kernel
theorem dX4_borrow_30 : decode cX4_borrow 30 = .ok (.if_icmp .ne 9, 3) := by decide +kernel
theorem dX4_borrow_33 : decode cX4_borrow 33 = .ok (.aload_n 0, 1) := by decide +kernel
theorem dX4_borrow_34 : decode cX4_borrow 34 = .ok (.iconst 2, 1) := by decide +kernel
theorem dX4_borrow_35 : decode cX4_borrow 35 = .ok (.invokevirtual 76, 3) := by decide +kernel
theorem dX4_borrow_38 : decode cX4_borrow 38 = .ok (.ireturn, 1) := by decide +kernel
theorem dX4_borrow_39 : decode cX4_borrow 39 = .ok (.iload_n 1, 1) := by decide +kernel
theorem dX4_borrow_40 : decode cX4_borrow 40 = .ok (.iload_n 2, 1) := by decide +kernel
theorem dX4_borrow_41 : decode cX4_borrow 41 = .ok (.invokestatic 63, 3) := by decide +kernel
theorem dX4_borrow_44 : decode cX4_borrow 44 = .ok (.istore 4, 2) := by decide +kernel
theorem dX4_borrow_46 : decode cX4_borrow 46 = .ok (.aload_n 0, 1) := by decide +kernel
theorem dX4_borrow_47 : decode cX4_borrow 47 = .ok (.iload 4, 2) := by decide +kernel
theorem dX4_borrow_49 : decode cX4_borrow 49 = .ok (.iload_n 3, 1) := by decide +kernel
theorem dX4_borrow_50 : decode cX4_borrow 50 = .ok (.invokevirtual 109, 3) := by decide +kernel
theorem dX4_borrow_53 : decode cX4_borrow 53 = .ok (.istore 5, 2) := by decide +kernel
theorem dX4_borrow_55 : decode cX4_borrow 55 = .ok (.iload 5, 2) := by decide +kernel
theorem dX4_borrow_57 : decode cX4_borrow 57 = .ok (.iconst (-1), 1) := by decide +kernel
theorem dX4_borrow_58 : decode cX4_borrow 58 = .ok (.if_icmp .ne 9, 3) := by decide +kernel
theorem dX4_borrow_61 : decode cX4_borrow 61 = .ok (.aload_n 0, 1) := by decide +kernel
theorem dX4_borrow_62 : decode cX4_borrow 62 = .ok (.iconst 3, 1) := by decide +kernel
theorem dX4_borrow_63 : decode cX4_borrow 63 = .ok (.invokevirtual 76, 3) := by decide +kernel
theorem dX4_borrow_66 : decode cX4_borrow 66 = .ok (.ireturn, 1) := by decide +kernel
theorem dX4_borrow_67 : decode cX4_borrow 67 = .ok (.aload_n 0, 1) := by decide +kernel
theorem dX4_borrow_68 : decode cX4_borrow 68 = .ok (.iload_n 3, 1) := by decide +kernel
theorem dX4_borrow_69 : decode cX4_borrow 69 = .ok (.aload_n 0, 1) := by decide +kernel
theorem dX4_borrow_70 : decode cX4_borrow 70 = .ok (.getfield 13, 3) := by decide +kernel
theorem dX4_borrow_73 : decode cX4_borrow 73 = .ok (.iload 4, 2) := by decide +kernel
theorem dX4_borrow_75 : decode cX4_borrow 75 = .ok (.iaload, 1) := by decide +kernel
theorem dX4_borrow_76 : decode cX4_borrow 76 = .ok (.iload 5, 2) := by decide +kernel
theorem dX4_borrow_78 : decode cX4_borrow 78 = .ok (.aload_n 0, 1) := by decide +kernel
theorem dX4_borrow_79 : decode cX4_borrow 79 = .ok (.getfield 19, 3) := by decide +kernel
theorem dX4_borrow_82 : decode cX4_borrow 82 = .ok (.iload 4, 2) := by decide +kernel
theorem dX4_borrow_84 : decode cX4_borrow 84 = .ok (.iaload, 1) := by decide +kernel
theorem dX4_borrow_85 : decode cX4_borrow 85 = .ok (.aload_n 0, 1) := by decide +kernel
theorem dX4_borrow_86 : decode cX4_borrow 86 = .ok (.getfield 22, 3) := by decide +kernel
theorem dX4_borrow_89 : decode cX4_borrow 89 = .ok (.iload 4, 2) := by decide +kernel
theorem dX4_borrow_91 : decode cX4_borrow 91 = .ok (.iaload, 1) := by decide +kernel
theorem dX4_borrow_92 : decode cX4_borrow 92 = .ok (.aload_n 0, 1) := by decide +kernel
theorem dX4_borrow_93 : decode cX4_borrow 93 = .ok (.getfield 25, 3) := by decide +kernel
theorem dX4_borrow_96 : decode cX4_borrow 96 = .ok (.iload 4, 2) := by decide +kernel
theorem dX4_borrow_98 : decode cX4_borrow 98 = .ok (.iaload, 1) := by decide +kernel
theorem dX4_borrow_99 : decode cX4_borrow 99 = .ok (.invokevirtual 83, 3) := by decide +kernel
theorem dX4_borrow_102 : decode cX4_borrow 102 = .ok (.aload_n 0, 1) := by decide +kernel
theorem dX4_borrow_103 : decode cX4_borrow 103 = .ok (.getfield 9, 3) := by decide +kernel
theorem dX4_borrow_106 : decode cX4_borrow 106 = .ok (.iload_n 3, 1) := by decide +kernel
theorem dX4_borrow_107 : decode cX4_borrow 107 = .ok (.iaload, 1) := by decide +kernel
theorem dX4_borrow_108 : decode cX4_borrow 108 = .ok (.iconst 1, 1) := by decide +kernel
theorem dX4_borrow_109 : decode cX4_borrow 109 = .ok (.isub, 1) := by decide +kernel
theorem dX4_borrow_110 : decode cX4_borrow 110 = .ok (.ireturn, 1) := by decide +kernel
theorem dX4_groups_0 : decode cX4_groups 0 = .ok (.aload_n 0, 1) := by decide +kernel
theorem dX4_groups_1 : decode cX4_groups 1 = .ok (.aload_n 0, 1) := by decide +kernel
theorem dX4_groups_2 : decode cX4_groups 2 = .ok (.invokevirtual 105, 3) := by decide +kernel
theorem dX4_groups_5 : decode cX4_groups 5 = .ok (.invokevirtual 112, 3) := by decide +kernel
theorem dX4_groups_8 : decode cX4_groups 8 = .ok (.ireturn, 1) := by decide +kernel
theorem dX4_areJoined_0 : decode cX4_areJoined 0 = .ok (.aload_n 0, 1) := by decide +kernel
theorem dX4_areJoined_1 : decode cX4_areJoined 1 = .ok (.iload_n 1, 1) := by decide +kernel
theorem dX4_areJoined_2 : decode cX4_areJoined 2 = .ok (.invokestatic 46, 3) := by decide +kernel
theorem dX4_areJoined_5 : decode cX4_areJoined 5 = .ok (.ifCond .eq 14, 3) := by decide +kernel
theorem dX4_areJoined_8 : decode cX4_areJoined 8 = .ok (.iload_n 2, 1) := by decide +kernel
theorem dX4_areJoined_9 : decode cX4_areJoined 9 = .ok (.invokestatic 46, 3) := by decide +kernel
theorem dX4_areJoined_12 : decode cX4_areJoined 12 = .ok (.ifCond .eq 7, 3) := by decide +kernel
theorem dX4_areJoined_15 : decode cX4_areJoined 15 = .ok (.iconst 0, 1) := by decide +kernel
theorem dX4_areJoined_16 : decode cX4_areJoined 16 = .ok (.goto 4, 3) := by decide +kernel
theorem dX4_areJoined_19 : decode cX4_areJoined 19 = .ok (.iconst 1, 1) := by decide +kernel
theorem dX4_areJoined_20 : decode cX4_areJoined 20 = .ok (.putfield 31, 3) := by decide +kernel
theorem dX4_areJoined_23 : decode cX4_areJoined 23 = .ok (.aload_n 0, 1) := by decide +kernel
theorem dX4_areJoined_24 : decode cX4_areJoined 24 = .ok (.getfield 31, 3) := by decide +kernel
theorem dX4_areJoined_27 : decode cX4_areJoined 27 = .ok (.ifCond .ne 22, 3) := by decide +kernel
theorem dX4_areJoined_30 : decode cX4_areJoined 30 = .ok (.aload_n 0, 1) := by decide +kernel
theorem dX4_areJoined_31 : decode cX4_areJoined 31 = .ok (.getfield 28, 3) := by decide +kernel
theorem dX4_areJoined_34 : decode cX4_areJoined 34 = .ok (.iload_n 1, 1) := by decide +kernel
theorem dX4_areJoined_35 : decode cX4_areJoined 35 = .ok (.iaload, 1) := by decide +kernel
theorem dX4_areJoined_36 : decode cX4_areJoined 36 = .ok (.aload_n 0, 1) := by decide +kernel
theorem dX4_areJoined_37 : decode cX4_areJoined 37 = .ok (.getfield 28, 3) := by decide +kernel
theorem dX4_areJoined_40 : decode cX4_areJoined 40 = .ok (.iload_n 2, 1) := by decide +kernel
theorem dX4_areJoined_41 : decode cX4_areJoined 41 = .ok (.iaload, 1) := by decide +kernel
theorem dX4_areJoined_42 : decode cX4_areJoined 42 = .ok (.if_icmp .ne 7, 3) := by decide +kernel
theorem dX4_areJoined_45 : decode cX4_areJoined 45 = .ok (.iconst 1, 1) := by decide +kernel
theorem dX4_areJoined_46 : decode cX4_areJoined 46 = .ok (.goto 4, 3) := by decide +kernel
theorem dX4_areJoined_49 : decode cX4_areJoined 49 = .ok (.iconst 0, 1) := by decide +kernel
theorem dX4_areJoined_50 : decode cX4_areJoined 50 = .ok (.ireturn, 1) := by decide +kernel
theorem dX4_steps_0 : decode cX4_steps 0 = .ok (.aload_n 0, 1) := by decide +kernel
theorem dX4_steps_1 : decode cX4_steps 1 = .ok (.iconst 0, 1) := by decide +kernel
theorem dX4_steps_2 : decode cX4_steps 2 = .ok (.putfield 31, 3) := by decide +kernel
theorem dX4_steps_5 : decode cX4_steps 5 = .ok (.iload_n 1, 1) := by decide +kernel
theorem dX4_steps_6 : decode cX4_steps 6 = .ok (.invokestatic 46, 3) := by decide +kernel
theorem dX4_steps_9 : decode cX4_steps 9 = .ok (.ifCond .eq 19, 3) := by decide +kernel
theorem dX4_steps_12 : decode cX4_steps 12 = .ok (.iload_n 2, 1) := by decide +kernel
theorem dX4_steps_13 : decode cX4_steps 13 = .ok (.invokestatic 46, 3) := by decide +kernel
theorem dX4_steps_16 : decode cX4_steps 16 = .ok (.ifCond .eq 12, 3) := by decide +kernel
theorem dX4_steps_19 : decode cX4_steps 19 = .ok (.aload_n 0, 1) := by decide +kernel
theorem dX4_steps_20 : decode cX4_steps 20 = .ok (.iload_n 1, 1) := by decide +kernel
theorem dX4_steps_21 : decode cX4_steps 21 = .ok (.iload_n 2, 1) := by decide +kernel
theorem dX4_steps_22 : decode cX4_steps 22 = .ok (.invokevirtual 55, 3) := by decide +kernel
theorem dX4_steps_25 : decode cX4_steps 25 = .ok (.goto 8, 3) := by decide +kernel
theorem dX4_steps_28 : decode cX4_steps 28 = .ok (.aload_n 0, 1) := by decide +kernel
theorem dX4_steps_29 : decode cX4_steps 29 = .ok (.iconst 1, 1) := by decide +kernel
theorem dX4_steps_30 : decode cX4_steps 30 = .ok (.invokevirtual 76, 3) := by decide +kernel
theorem dX4_steps_33 : decode cX4_steps 33 = .ok (.ireturn, 1) := by decide +kernel
theorem dX4_lodges_0 : decode cX4_lodges 0 = .ok (.aload_n 0, 1) := by decide +kernel
theorem dX4_lodges_1 : decode cX4_lodges 1 = .ok (.aload_n 0, 1) := by decide +kernel
theorem dX4_lodges_2 : decode cX4_lodges 2 = .ok (.getfield 35, 3) := by decide +kernel
theorem dX4_lodges_5 : decode cX4_lodges 5 = .ok (.invokevirtual 112, 3) := by decide +kernel
theorem dX4_lodges_8 : decode cX4_lodges 8 = .ok (.ireturn, 1) := by decide +kernel
theorem dX4_signsOf_0 : decode cX4_signsOf 0 = .ok (.aload_n 0, 1) := by decide +kernel
theorem dX4_signsOf_1 : decode cX4_signsOf 1 = .ok (.iconst 0, 1) := by decide +kernel
theorem dX4_signsOf_2 : decode cX4_signsOf 2 = .ok (.putfield 31, 3) := by decide +kernel
theorem dX4_signsOf_5 : decode cX4_signsOf 5 = .ok (.aload_n 0, 1) := by decide +kernel
theorem dX4_signsOf_6 : decode cX4_signsOf 6 = .ok (.iload_n 1, 1) := by decide +kernel
theorem dX4_signsOf_7 : decode cX4_signsOf 7 = .ok (.invokevirtual 42, 3) := by decide +kernel
theorem dX4_signsOf_10 : decode cX4_signsOf 10 = .ok (.ifCond .eq 12, 3) := by decide +kernel
theorem dX4_signsOf_13 : decode cX4_signsOf 13 = .ok (.aload_n 0, 1) := by decide +kernel
theorem dX4_signsOf_14 : decode cX4_signsOf 14 = .ok (.getfield 9, 3) := by decide +kernel
theorem dX4_signsOf_17 : decode cX4_signsOf 17 = .ok (.iload_n 1, 1) := by decide +kernel
theorem dX4_signsOf_18 : decode cX4_signsOf 18 = .ok (.iaload, 1) := by decide +kernel
theorem dX4_signsOf_19 : decode cX4_signsOf 19 = .ok (.goto 8, 3) := by decide +kernel
theorem dX4_signsOf_22 : decode cX4_signsOf 22 = .ok (.aload_n 0, 1) := by decide +kernel
theorem dX4_signsOf_23 : decode cX4_signsOf 23 = .ok (.iconst 1, 1) := by decide +kernel
theorem dX4_signsOf_24 : decode cX4_signsOf 24 = .ok (.invokevirtual 76, 3) := by decide +kernel
theorem dX4_signsOf_27 : decode cX4_signsOf 27 = .ok (.ireturn, 1) := by decide +kernel
theorem dX4_of_0 : decode cX4_of 0 = .ok (.aload_n 0, 1) := by decide +kernel
theorem dX4_of_1 : decode cX4_of 1 = .ok (.iconst 0, 1) := by decide +kernel
theorem dX4_of_2 : decode cX4_of 2 = .ok (.putfield 31, 3) := by decide +kernel
theorem dX4_of_5 : decode cX4_of 5 = .ok (.aload_n 0, 1) := by decide +kernel
theorem dX4_of_6 : decode cX4_of 6 = .ok (.iload_n 1, 1) := by decide +kernel
theorem dX4_of_7 : decode cX4_of 7 = .ok (.iload_n 2, 1) := by decide +kernel
theorem dX4_of_8 : decode cX4_of 8 = .ok (.invokevirtual 87, 3) := by decide +kernel
theorem dX4_of_11 : decode cX4_of 11 = .ok (.ifCond .eq 13, 3) := by decide +kernel
theorem dX4_of_14 : decode cX4_of 14 = .ok (.aload_n 3, 1) := by decide +kernel
theorem dX4_of_15 : decode cX4_of 15 = .ok (.iload_n 1, 1) := by decide +kernel
theorem dX4_of_16 : decode cX4_of 16 = .ok (.iload_n 2, 1) := by decide +kernel
theorem dX4_of_17 : decode cX4_of 17 = .ok (.invokestatic 63, 3) := by decide +kernel
theorem dX4_of_20 : decode cX4_of 20 = .ok (.iaload, 1) := by decide +kernel
theorem dX4_of_21 : decode cX4_of 21 = .ok (.goto 8, 3) := by decide +kernel
theorem dX4_of_24 : decode cX4_of 24 = .ok (.aload_n 0, 1) := by decide +kernel
theorem dX4_of_25 : decode cX4_of 25 = .ok (.iconst 1, 1) := by decide +kernel
theorem dX4_of_26 : decode cX4_of 26 = .ok (.invokevirtual 76, 3) := by decide +kernel
theorem dX4_of_29 : decode cX4_of 29 = .ok (.ireturn, 1) := by decide +kernel
theorem dX4_shapeOf_0 : decode cX4_shapeOf 0 = .ok (.aload_n 0, 1) := by decide +kernel
theorem dX4_shapeOf_1 : decode cX4_shapeOf 1 = .ok (.iload_n 1, 1) := by decide +kernel
theorem dX4_shapeOf_2 : decode cX4_shapeOf 2 = .ok (.iload_n 2, 1) := by decide +kernel
theorem dX4_shapeOf_3 : decode cX4_shapeOf 3 = .ok (.aload_n 0, 1) := by decide +kernel
theorem dX4_shapeOf_4 : decode cX4_shapeOf 4 = .ok (.getfield 13, 3) := by decide +kernel
theorem dX4_shapeOf_7 : decode cX4_shapeOf 7 = .ok (.invokevirtual 115, 3) := by decide +kernel
theorem dX4_shapeOf_10 : decode cX4_shapeOf 10 = .ok (.ireturn, 1) := by decide +kernel
theorem dX4_thumbOf_0 : decode cX4_thumbOf 0 = .ok (.aload_n 0, 1) := by decide +kernel
theorem dX4_thumbOf_1 : decode cX4_thumbOf 1 = .ok (.iload_n 1, 1) := by decide +kernel
theorem dX4_thumbOf_2 : decode cX4_thumbOf 2 = .ok (.iload_n 2, 1) := by decide +kernel
theorem dX4_thumbOf_3 : decode cX4_thumbOf 3 = .ok (.aload_n 0, 1) := by decide +kernel
theorem dX4_thumbOf_4 : decode cX4_thumbOf 4 = .ok (.getfield 16, 3) := by decide +kernel
theorem dX4_thumbOf_7 : decode cX4_thumbOf 7 = .ok (.invokevirtual 115, 3) := by decide +kernel
theorem dX4_thumbOf_10 : decode cX4_thumbOf 10 = .ok (.ireturn, 1) := by decide +kernel
theorem dX4_placeOf_0 : decode cX4_placeOf 0 = .ok (.aload_n 0, 1) := by decide +kernel
theorem dX4_placeOf_1 : decode cX4_placeOf 1 = .ok (.iload_n 1, 1) := by decide +kernel
theorem dX4_placeOf_2 : decode cX4_placeOf 2 = .ok (.iload_n 2, 1) := by decide +kernel
theorem dX4_placeOf_3 : decode cX4_placeOf 3 = .ok (.aload_n 0, 1) := by decide +kernel
theorem dX4_placeOf_4 : decode cX4_placeOf 4 = .ok (.getfield 19, 3) := by decide +kernel
theorem dX4_placeOf_7 : decode cX4_placeOf 7 = .ok (.invokevirtual 115, 3) := by decide +kernel
theorem dX4_placeOf_10 : decode cX4_placeOf 10 = .ok (.ireturn, 1) := by decide +kernel
theorem dX4_meaningOf_0 : decode cX4_meaningOf 0 = .ok (.aload_n 0, 1) := by decide +kernel
theorem dX4_meaningOf_1 : decode cX4_meaningOf 1 = .ok (.iload_n 1, 1) := by decide +kernel
theorem dX4_meaningOf_2 : decode cX4_meaningOf 2 = .ok (.iload_n 2, 1) := by decide +kernel
theorem dX4_meaningOf_3 : decode cX4_meaningOf 3 = .ok (.aload_n 0, 1) := by decide +kernel
theorem dX4_meaningOf_4 : decode cX4_meaningOf 4 = .ok (.getfield 25, 3) := by decide +kernel
theorem dX4_meaningOf_7 : decode cX4_meaningOf 7 = .ok (.invokevirtual 115, 3) := by decide +kernel
theorem dX4_meaningOf_10 : decode cX4_meaningOf 10 = .ok (.ireturn, 1) := by decide +kernel
theorem dX4_signFor_0 : decode cX4_signFor 0 = .ok (.aload_n 0, 1) := by decide +kernel
theorem dX4_signFor_1 : decode cX4_signFor 1 = .ok (.iconst 0, 1) := by decide +kernel
theorem dX4_signFor_2 : decode cX4_signFor 2 = .ok (.putfield 31, 3) := by decide +kernel
theorem dX4_signFor_5 : decode cX4_signFor 5 = .ok (.aload_n 0, 1) := by decide +kernel
theorem dX4_signFor_6 : decode cX4_signFor 6 = .ok (.iload_n 1, 1) := by decide +kernel
theorem dX4_signFor_7 : decode cX4_signFor 7 = .ok (.invokevirtual 42, 3) := by decide +kernel
theorem dX4_signFor_10 : decode cX4_signFor 10 = .ok (.ifCond .eq 22, 3) := by decide +kernel
theorem dX4_signFor_13 : decode cX4_signFor 13 = .ok (.iload_n 2, 1) := by decide +kernel
theorem dX4_signFor_14 : decode cX4_signFor 14 = .ok (.iconst 0, 1) := by decide +kernel
theorem dX4_signFor_15 : decode cX4_signFor 15 = .ok (.bipush 29, 2) := by decide +kernel
theorem dX4_signFor_17 : decode cX4_signFor 17 = .ok (.invokestatic 38, 3) := by decide +kernel
theorem dX4_signFor_20 : decode cX4_signFor 20 = .ok (.ifCond .eq 12, 3) := by decide +kernel
theorem dX4_signFor_23 : decode cX4_signFor 23 = .ok (.aload_n 0, 1) := by decide +kernel
theorem dX4_signFor_24 : decode cX4_signFor 24 = .ok (.iload_n 1, 1) := by decide +kernel
theorem dX4_signFor_25 : decode cX4_signFor 25 = .ok (.iload_n 2, 1) := by decide +kernel
theorem dX4_signFor_26 : decode cX4_signFor 26 = .ok (.invokevirtual 69, 3) := by decide +kernel
theorem dX4_signFor_29 : decode cX4_signFor 29 = .ok (.goto 8, 3) := by decide +kernel
theorem dX4_signFor_32 : decode cX4_signFor 32 = .ok (.aload_n 0, 1) := by decide +kernel
theorem dX4_signFor_33 : decode cX4_signFor 33 = .ok (.iconst 1, 1) := by decide +kernel
theorem dX4_signFor_34 : decode cX4_signFor 34 = .ok (.invokevirtual 76, 3) := by decide +kernel
theorem dX4_signFor_37 : decode cX4_signFor 37 = .ok (.ireturn, 1) := by decide +kernel
theorem dX4_apart_0 : decode cX4_apart 0 = .ok (.aload_n 0, 1) := by decide +kernel
theorem dX4_apart_1 : decode cX4_apart 1 = .ok (.iconst 0, 1) := by decide +kernel
theorem dX4_apart_2 : decode cX4_apart 2 = .ok (.putfield 31, 3) := by decide +kernel
theorem dX4_apart_5 : decode cX4_apart 5 = .ok (.aload_n 0, 1) := by decide +kernel
theorem dX4_apart_6 : decode cX4_apart 6 = .ok (.iload_n 1, 1) := by decide +kernel
theorem dX4_apart_7 : decode cX4_apart 7 = .ok (.iload_n 2, 1) := by decide +kernel
theorem dX4_apart_8 : decode cX4_apart 8 = .ok (.invokevirtual 87, 3) := by decide +kernel
theorem dX4_apart_11 : decode cX4_apart 11 = .ok (.ifCond .eq 29, 3) := by decide +kernel
theorem dX4_apart_14 : decode cX4_apart 14 = .ok (.aload_n 0, 1) := by decide +kernel
theorem dX4_apart_15 : decode cX4_apart 15 = .ok (.iload_n 1, 1) := by decide +kernel
theorem dX4_apart_16 : decode cX4_apart 16 = .ok (.iload_n 3, 1) := by decide +kernel
theorem dX4_apart_17 : decode cX4_apart 17 = .ok (.invokevirtual 87, 3) := by decide +kernel
theorem dX4_apart_20 : decode cX4_apart 20 = .ok (.ifCond .eq 20, 3) := by decide +kernel
theorem dX4_apart_23 : decode cX4_apart 23 = .ok (.aload_n 0, 1) := by decide +kernel
theorem dX4_apart_24 : decode cX4_apart 24 = .ok (.iload_n 1, 1) := by decide +kernel
theorem dX4_apart_25 : decode cX4_apart 25 = .ok (.iload_n 2, 1) := by decide +kernel
theorem dX4_apart_26 : decode cX4_apart 26 = .ok (.invokestatic 63, 3) := by decide +kernel
theorem dX4_apart_29 : decode cX4_apart 29 = .ok (.iload_n 1, 1) := by decide +kernel
theorem dX4_apart_30 : decode cX4_apart 30 = .ok (.iload_n 3, 1) := by decide +kernel
theorem dX4_apart_31 : decode cX4_apart 31 = .ok (.invokestatic 63, 3) := by decide +kernel
theorem dX4_apart_34 : decode cX4_apart 34 = .ok (.invokevirtual 72, 3) := by decide +kernel
theorem dX4_apart_37 : decode cX4_apart 37 = .ok (.goto 8, 3) := by decide +kernel
theorem dX4_apart_40 : decode cX4_apart 40 = .ok (.aload_n 0, 1) := by decide +kernel
theorem dX4_apart_41 : decode cX4_apart 41 = .ok (.iconst 1, 1) := by decide +kernel
theorem dX4_apart_42 : decode cX4_apart 42 = .ok (.invokevirtual 76, 3) := by decide +kernel
theorem dX4_apart_45 : decode cX4_apart 45 = .ok (.ireturn, 1) := by decide +kernel
theorem dX4_alikePairs_0 : decode cX4_alikePairs 0 = .ok (.aload_n 0, 1) := by decide +kernel
theorem dX4_alikePairs_1 : decode cX4_alikePairs 1 = .ok (.iconst 0, 1) := by decide +kernel
theorem dX4_alikePairs_2 : decode cX4_alikePairs 2 = .ok (.putfield 31, 3) := by decide +kernel
theorem dX4_alikePairs_5 : decode cX4_alikePairs 5 = .ok (.aload_n 0, 1) := by decide +kernel
theorem dX4_alikePairs_6 : decode cX4_alikePairs 6 = .ok (.iload_n 1, 1) := by decide +kernel
theorem dX4_alikePairs_7 : decode cX4_alikePairs 7 = .ok (.invokevirtual 42, 3) := by decide +kernel
theorem dX4_alikePairs_10 : decode cX4_alikePairs 10 = .ok (.ifCond .eq 11, 3) := by decide +kernel
theorem dX4_alikePairs_13 : decode cX4_alikePairs 13 = .ok (.aload_n 0, 1) := by decide +kernel
theorem dX4_alikePairs_14 : decode cX4_alikePairs 14 = .ok (.iload_n 1, 1) := by decide +kernel
theorem dX4_alikePairs_15 : decode cX4_alikePairs 15 = .ok (.invokevirtual 119, 3) := by decide +kernel
theorem dX4_alikePairs_18 : decode cX4_alikePairs 18 = .ok (.goto 8, 3) := by decide +kernel
theorem dX4_alikePairs_21 : decode cX4_alikePairs 21 = .ok (.aload_n 0, 1) := by decide +kernel
theorem dX4_alikePairs_22 : decode cX4_alikePairs 22 = .ok (.iconst 1, 1) := by decide +kernel
theorem dX4_alikePairs_23 : decode cX4_alikePairs 23 = .ok (.invokevirtual 76, 3) := by decide +kernel
theorem dX4_alikePairs_26 : decode cX4_alikePairs 26 = .ok (.ireturn, 1) := by decide +kernel
theorem dX4_thumbs_0 : decode cX4_thumbs 0 = .ok (.iconst 0, 1) := by decide +kernel
theorem dX4_thumbs_1 : decode cX4_thumbs 1 = .ok (.istore_n 2, 1) := by decide +kernel
theorem dX4_thumbs_2 : decode cX4_thumbs 2 = .ok (.iload_n 1, 1) := by decide +kernel
theorem dX4_thumbs_3 : decode cX4_thumbs 3 = .ok (.iconst 0, 1) := by decide +kernel
theorem dX4_thumbs_4 : decode cX4_thumbs 4 = .ok (.invokestatic 63, 3) := by decide +kernel
theorem dX4_thumbs_7 : decode cX4_thumbs 7 = .ok (.istore_n 3, 1) := by decide +kernel
theorem dX4_thumbs_8 : decode cX4_thumbs 8 = .ok (.iload_n 3, 1) := by decide +kernel
theorem dX4_thumbs_9 : decode cX4_thumbs 9 = .ok (.iload_n 1, 1) := by decide +kernel
theorem dX4_thumbs_10 : decode cX4_thumbs 10 = .ok (.aload_n 0, 1) := by decide +kernel
theorem dX4_thumbs_11 : decode cX4_thumbs 11 = .ok (.getfield 9, 3) := by decide +kernel
theorem dX4_thumbs_14 : decode cX4_thumbs 14 = .ok (.iload_n 1, 1) := by decide +kernel
theorem dX4_thumbs_15 : decode cX4_thumbs 15 = .ok (.iaload, 1) := by decide +kernel
theorem dX4_thumbs_16 : decode cX4_thumbs 16 = .ok (.invokestatic 63, 3) := by decide +kernel
theorem dX4_thumbs_19 : decode cX4_thumbs 19 = .ok (.if_icmp .ge 63, 3) := by decide +kernel
theorem dX4_thumbs_22 : decode cX4_thumbs 22 = .ok (.iload_n 1, 1) := by decide +kernel
theorem dX4_thumbs_23 : decode cX4_thumbs 23 = .ok (.iconst 0, 1) := by decide +kernel
theorem dX4_thumbs_24 : decode cX4_thumbs 24 = .ok (.invokestatic 63, 3) := by decide +kernel
theorem dX4_thumbs_27 : decode cX4_thumbs 27 = .ok (.istore 4, 2) := by decide +kernel
theorem dX4_thumbs_29 : decode cX4_thumbs 29 = .ok (.iload 4, 2) := by decide +kernel
theorem dX4_thumbs_31 : decode cX4_thumbs 31 = .ok (.iload_n 3, 1) := by decide +kernel
theorem dX4_thumbs_32 : decode cX4_thumbs 32 = .ok (.if_icmp .ge 44, 3) := by decide +kernel
theorem dX4_thumbs_35 : decode cX4_thumbs 35 = .ok (.iload_n 2, 1) := by decide +kernel
theorem dX4_thumbs_36 : decode cX4_thumbs 36 = .ok (.aload_n 0, 1) := by decide +kernel
theorem dX4_thumbs_37 : decode cX4_thumbs 37 = .ok (.getfield 16, 3) := by decide +kernel
theorem dX4_thumbs_40 : decode cX4_thumbs 40 = .ok (.iload_n 3, 1) := by decide +kernel
theorem dX4_thumbs_41 : decode cX4_thumbs 41 = .ok (.iaload, 1) := by decide +kernel
theorem dX4_thumbs_42 : decode cX4_thumbs 42 = .ok (.aload_n 0, 1) := by decide +kernel
theorem dX4_thumbs_43 : decode cX4_thumbs 43 = .ok (.getfield 16, 3) := by decide +kernel
theorem dX4_thumbs_46 : decode cX4_thumbs 46 = .ok (.iload 4, 2) := by decide +kernel
theorem dX4_thumbs_48 : decode cX4_thumbs 48 = .ok (.iaload, 1) := by decide +kernel
theorem dX4_thumbs_49 : decode cX4_thumbs 49 = .ok (.if_icmp .eq 18, 3) := by decide +kernel
theorem dX4_thumbs_52 : decode cX4_thumbs 52 = .ok (.aload_n 0, 1) := by decide +kernel
theorem dX4_thumbs_53 : decode cX4_thumbs 53 = .ok (.iload_n 3, 1) := by decide +kernel
theorem dX4_thumbs_54 : decode cX4_thumbs 54 = .ok (.iload 4, 2) := by decide +kernel
theorem dX4_thumbs_56 : decode cX4_thumbs 56 = .ok (.invokevirtual 72, 3) := by decide +kernel
theorem dX4_thumbs_59 : decode cX4_thumbs 59 = .ok (.iconst 1, 1) := by decide +kernel
theorem dX4_thumbs_60 : decode cX4_thumbs 60 = .ok (.if_icmp .ne 7, 3) := by decide +kernel
theorem dX4_thumbs_63 : decode cX4_thumbs 63 = .ok (.iconst 1, 1) := by decide +kernel
theorem dX4_thumbs_64 : decode cX4_thumbs 64 = .ok (.goto 4, 3) := by decide +kernel
theorem dX4_thumbs_67 : decode cX4_thumbs 67 = .ok (.iconst 0, 1) := by decide +kernel
theorem dX4_thumbs_68 : decode cX4_thumbs 68 = .ok (.iadd, 1) := by decide +kernel
theorem dX4_thumbs_69 : decode cX4_thumbs 69 = .ok (.istore_n 2, 1) := by decide +kernel
theorem dX4_thumbs_70 : decode cX4_thumbs 70 = .ok (.iinc 4 1, 3) := by decide +kernel
theorem dX4_thumbs_73 : decode cX4_thumbs 73 = .ok (.goto (-44), 3) := by decide +kernel
theorem dX4_thumbs_76 : decode cX4_thumbs 76 = .ok (.iinc 3 1, 3) := by decide +kernel
theorem dX4_thumbs_79 : decode cX4_thumbs 79 = .ok (.goto (-71), 3) := by decide +kernel
theorem dX4_thumbs_82 : decode cX4_thumbs 82 = .ok (.iload_n 2, 1) := by decide +kernel
theorem dX4_thumbs_83 : decode cX4_thumbs 83 = .ok (.ireturn, 1) := by decide +kernel
theorem dX4_thumbPairs_0 : decode cX4_thumbPairs 0 = .ok (.aload_n 0, 1) := by decide +kernel
theorem dX4_thumbPairs_1 : decode cX4_thumbPairs 1 = .ok (.iconst 0, 1) := by decide +kernel
theorem dX4_thumbPairs_2 : decode cX4_thumbPairs 2 = .ok (.putfield 31, 3) := by decide +kernel
theorem dX4_thumbPairs_5 : decode cX4_thumbPairs 5 = .ok (.aload_n 0, 1) := by decide +kernel
theorem dX4_thumbPairs_6 : decode cX4_thumbPairs 6 = .ok (.iload_n 1, 1) := by decide +kernel
theorem dX4_thumbPairs_7 : decode cX4_thumbPairs 7 = .ok (.invokevirtual 42, 3) := by decide +kernel
theorem dX4_thumbPairs_10 : decode cX4_thumbPairs 10 = .ok (.ifCond .eq 11, 3) := by decide +kernel
theorem dX4_thumbPairs_13 : decode cX4_thumbPairs 13 = .ok (.aload_n 0, 1) := by decide +kernel
theorem dX4_thumbPairs_14 : decode cX4_thumbPairs 14 = .ok (.iload_n 1, 1) := by decide +kernel
theorem dX4_thumbPairs_15 : decode cX4_thumbPairs 15 = .ok (.invokevirtual 122, 3) := by decide +kernel
theorem dX4_thumbPairs_18 : decode cX4_thumbPairs 18 = .ok (.goto 8, 3) := by decide +kernel
theorem dX4_thumbPairs_21 : decode cX4_thumbPairs 21 = .ok (.aload_n 0, 1) := by decide +kernel
theorem dX4_thumbPairs_22 : decode cX4_thumbPairs 22 = .ok (.iconst 1, 1) := by decide +kernel
theorem dX4_thumbPairs_23 : decode cX4_thumbPairs 23 = .ok (.invokevirtual 76, 3) := by decide +kernel
theorem dX4_thumbPairs_26 : decode cX4_thumbPairs 26 = .ok (.ireturn, 1) := by decide +kernel
theorem dX4_nearest_0 : decode cX4_nearest 0 = .ok (.iconst (-1), 1) := by decide +kernel
theorem dX4_nearest_1 : decode cX4_nearest 1 = .ok (.istore_n 2, 1) := by decide +kernel
theorem dX4_nearest_2 : decode cX4_nearest 2 = .ok (.iload_n 1, 1) := by decide +kernel
theorem dX4_nearest_3 : decode cX4_nearest 3 = .ok (.iconst 0, 1) := by decide +kernel
theorem dX4_nearest_4 : decode cX4_nearest 4 = .ok (.invokestatic 63, 3) := by decide +kernel
theorem dX4_nearest_7 : decode cX4_nearest 7 = .ok (.istore_n 3, 1) := by decide +kernel
theorem dX4_nearest_8 : decode cX4_nearest 8 = .ok (.iload_n 3, 1) := by decide +kernel
theorem dX4_nearest_9 : decode cX4_nearest 9 = .ok (.iload_n 1, 1) := by decide +kernel
theorem dX4_nearest_10 : decode cX4_nearest 10 = .ok (.aload_n 0, 1) := by decide +kernel
theorem dX4_nearest_11 : decode cX4_nearest 11 = .ok (.getfield 9, 3) := by decide +kernel
theorem dX4_nearest_14 : decode cX4_nearest 14 = .ok (.iload_n 1, 1) := by decide +kernel
theorem dX4_nearest_15 : decode cX4_nearest 15 = .ok (.iaload, 1) := by decide +kernel
theorem dX4_nearest_16 : decode cX4_nearest 16 = .ok (.invokestatic 63, 3) := by decide +kernel
theorem dX4_nearest_19 : decode cX4_nearest 19 = .ok (.if_icmp .ge 52, 3) := by decide +kernel
theorem dX4_nearest_22 : decode cX4_nearest 22 = .ok (.iload_n 1, 1) := by decide +kernel
theorem dX4_nearest_23 : decode cX4_nearest 23 = .ok (.iconst 0, 1) := by decide +kernel
theorem dX4_nearest_24 : decode cX4_nearest 24 = .ok (.invokestatic 63, 3) := by decide +kernel
theorem dX4_nearest_27 : decode cX4_nearest 27 = .ok (.istore 4, 2) := by decide +kernel
theorem dX4_nearest_29 : decode cX4_nearest 29 = .ok (.iload 4, 2) := by decide +kernel
theorem dX4_nearest_31 : decode cX4_nearest 31 = .ok (.iload_n 3, 1) := by decide +kernel
theorem dX4_nearest_32 : decode cX4_nearest 32 = .ok (.if_icmp .ge 33, 3) := by decide +kernel
theorem dX4_nearest_35 : decode cX4_nearest 35 = .ok (.iload_n 2, 1) := by decide +kernel
theorem dX4_nearest_36 : decode cX4_nearest 36 = .ok (.iconst (-1), 1) := by decide +kernel
theorem dX4_nearest_37 : decode cX4_nearest 37 = .ok (.if_icmp .eq 14, 3) := by decide +kernel
theorem dX4_nearest_40 : decode cX4_nearest 40 = .ok (.aload_n 0, 1) := by decide +kernel
theorem dX4_nearest_41 : decode cX4_nearest 41 = .ok (.iload_n 3, 1) := by decide +kernel
theorem dX4_nearest_42 : decode cX4_nearest 42 = .ok (.iload 4, 2) := by decide +kernel
theorem dX4_nearest_44 : decode cX4_nearest 44 = .ok (.invokevirtual 72, 3) := by decide +kernel
theorem dX4_nearest_47 : decode cX4_nearest 47 = .ok (.iload_n 2, 1) := by decide +kernel
theorem dX4_nearest_48 : decode cX4_nearest 48 = .ok (.if_icmp .ge 11, 3) := by decide +kernel
theorem dX4_nearest_51 : decode cX4_nearest 51 = .ok (.aload_n 0, 1) := by decide +kernel
theorem dX4_nearest_52 : decode cX4_nearest 52 = .ok (.iload_n 3, 1) := by decide +kernel
theorem dX4_nearest_53 : decode cX4_nearest 53 = .ok (.iload 4, 2) := by decide +kernel
theorem dX4_nearest_55 : decode cX4_nearest 55 = .ok (.invokevirtual 72, 3) := by decide +kernel
theorem dX4_nearest_58 : decode cX4_nearest 58 = .ok (.istore_n 2, 1) := by decide +kernel
theorem dX4_nearest_59 : decode cX4_nearest 59 = .ok (.iinc 4 1, 3) := by decide +kernel
theorem dX4_nearest_62 : decode cX4_nearest 62 = .ok (.goto (-33), 3) := by decide +kernel
theorem dX4_nearest_65 : decode cX4_nearest 65 = .ok (.iinc 3 1, 3) := by decide +kernel
theorem dX4_nearest_68 : decode cX4_nearest 68 = .ok (.goto (-60), 3) := by decide +kernel
theorem dX4_nearest_71 : decode cX4_nearest 71 = .ok (.iconst 0, 1) := by decide +kernel
theorem dX4_nearest_72 : decode cX4_nearest 72 = .ok (.iload_n 2, 1) := by decide +kernel
theorem dX4_nearest_73 : decode cX4_nearest 73 = .ok (.invokestatic 98, 3) := by decide +kernel
theorem dX4_nearest_76 : decode cX4_nearest 76 = .ok (.ireturn, 1) := by decide +kernel
theorem dX4_closest_0 : decode cX4_closest 0 = .ok (.aload_n 0, 1) := by decide +kernel
theorem dX4_closest_1 : decode cX4_closest 1 = .ok (.iconst 0, 1) := by decide +kernel
theorem dX4_closest_2 : decode cX4_closest 2 = .ok (.putfield 31, 3) := by decide +kernel
theorem dX4_closest_5 : decode cX4_closest 5 = .ok (.aload_n 0, 1) := by decide +kernel
theorem dX4_closest_6 : decode cX4_closest 6 = .ok (.iload_n 1, 1) := by decide +kernel
theorem dX4_closest_7 : decode cX4_closest 7 = .ok (.invokevirtual 42, 3) := by decide +kernel
theorem dX4_closest_10 : decode cX4_closest 10 = .ok (.ifCond .eq 11, 3) := by decide +kernel
theorem dX4_closest_13 : decode cX4_closest 13 = .ok (.aload_n 0, 1) := by decide +kernel
theorem dX4_closest_14 : decode cX4_closest 14 = .ok (.iload_n 1, 1) := by decide +kernel
theorem dX4_closest_15 : decode cX4_closest 15 = .ok (.invokevirtual 125, 3) := by decide +kernel
theorem dX4_closest_18 : decode cX4_closest 18 = .ok (.goto 8, 3) := by decide +kernel
theorem dX4_closest_21 : decode cX4_closest 21 = .ok (.aload_n 0, 1) := by decide +kernel
theorem dX4_closest_22 : decode cX4_closest 22 = .ok (.iconst 1, 1) := by decide +kernel
theorem dX4_closest_23 : decode cX4_closest 23 = .ok (.invokevirtual 76, 3) := by decide +kernel
theorem dX4_closest_26 : decode cX4_closest 26 = .ok (.ireturn, 1) := by decide +kernel
theorem dX4_mistaken_0 : decode cX4_mistaken 0 = .ok (.iconst (-1), 1) := by decide +kernel
theorem dX4_mistaken_1 : decode cX4_mistaken 1 = .ok (.istore_n 2, 1) := by decide +kernel
theorem dX4_mistaken_2 : decode cX4_mistaken 2 = .ok (.iconst (-1), 1) := by decide +kernel
theorem dX4_mistaken_3 : decode cX4_mistaken 3 = .ok (.istore_n 3, 1) := by decide +kernel
theorem dX4_mistaken_4 : decode cX4_mistaken 4 = .ok (.iload_n 1, 1) := by decide +kernel
theorem dX4_mistaken_5 : decode cX4_mistaken 5 = .ok (.iconst 0, 1) := by decide +kernel
theorem dX4_mistaken_6 : decode cX4_mistaken 6 = .ok (.invokestatic 63, 3) := by decide +kernel
theorem dX4_mistaken_9 : decode cX4_mistaken 9 = .ok (.istore 4, 2) := by decide +kernel
theorem dX4_mistaken_11 : decode cX4_mistaken 11 = .ok (.iload 4, 2) := by decide +kernel
theorem dX4_mistaken_13 : decode cX4_mistaken 13 = .ok (.iload_n 1, 1) := by decide +kernel
theorem dX4_mistaken_14 : decode cX4_mistaken 14 = .ok (.aload_n 0, 1) := by decide +kernel
theorem dX4_mistaken_15 : decode cX4_mistaken 15 = .ok (.getfield 9, 3) := by decide +kernel
theorem dX4_mistaken_18 : decode cX4_mistaken 18 = .ok (.iload_n 1, 1) := by decide +kernel
theorem dX4_mistaken_19 : decode cX4_mistaken 19 = .ok (.iaload, 1) := by decide +kernel
theorem dX4_mistaken_20 : decode cX4_mistaken 20 = .ok (.invokestatic 63, 3) := by decide +kernel
theorem dX4_mistaken_23 : decode cX4_mistaken 23 = .ok (.if_icmp .ge 90, 3) := by decide +kernel
theorem dX4_mistaken_26 : decode cX4_mistaken 26 = .ok (.iconst 0, 1) := by decide +kernel
theorem dX4_mistaken_27 : decode cX4_mistaken 27 = .ok (.istore 5, 2) := by decide +kernel
theorem dX4_mistaken_29 : decode cX4_mistaken 29 = .ok (.iload_n 1, 1) := by decide +kernel
theorem dX4_mistaken_30 : decode cX4_mistaken 30 = .ok (.iconst 0, 1) := by decide +kernel
theorem dX4_mistaken_31 : decode cX4_mistaken 31 = .ok (.invokestatic 63, 3) := by decide +kernel
theorem dX4_mistaken_34 : decode cX4_mistaken 34 = .ok (.istore 6, 2) := by decide +kernel
theorem dX4_mistaken_36 : decode cX4_mistaken 36 = .ok (.iload 6, 2) := by decide +kernel
theorem dX4_mistaken_38 : decode cX4_mistaken 38 = .ok (.iload_n 1, 1) := by decide +kernel
theorem dX4_mistaken_39 : decode cX4_mistaken 39 = .ok (.aload_n 0, 1) := by decide +kernel
theorem dX4_mistaken_40 : decode cX4_mistaken 40 = .ok (.getfield 9, 3) := by decide +kernel
theorem dX4_mistaken_43 : decode cX4_mistaken 43 = .ok (.iload_n 1, 1) := by decide +kernel
theorem dX4_mistaken_44 : decode cX4_mistaken 44 = .ok (.iaload, 1) := by decide +kernel
theorem dX4_mistaken_45 : decode cX4_mistaken 45 = .ok (.invokestatic 63, 3) := by decide +kernel
theorem dX4_mistaken_48 : decode cX4_mistaken 48 = .ok (.if_icmp .ge 38, 3) := by decide +kernel
theorem dX4_mistaken_51 : decode cX4_mistaken 51 = .ok (.iload 5, 2) := by decide +kernel
theorem dX4_mistaken_53 : decode cX4_mistaken 53 = .ok (.iload 6, 2) := by decide +kernel
theorem dX4_mistaken_55 : decode cX4_mistaken 55 = .ok (.iload 4, 2) := by decide +kernel
theorem dX4_mistaken_57 : decode cX4_mistaken 57 = .ok (.if_icmp .eq 19, 3) := by decide +kernel
theorem dX4_mistaken_60 : decode cX4_mistaken 60 = .ok (.aload_n 0, 1) := by decide +kernel
theorem dX4_mistaken_61 : decode cX4_mistaken 61 = .ok (.iload 4, 2) := by decide +kernel
theorem dX4_mistaken_63 : decode cX4_mistaken 63 = .ok (.iload 6, 2) := by decide +kernel
theorem dX4_mistaken_65 : decode cX4_mistaken 65 = .ok (.invokevirtual 72, 3) := by decide +kernel
theorem dX4_mistaken_68 : decode cX4_mistaken 68 = .ok (.iconst 3, 1) := by decide +kernel
theorem dX4_mistaken_69 : decode cX4_mistaken 69 = .ok (.if_icmp .gt 7, 3) := by decide +kernel
theorem dX4_mistaken_72 : decode cX4_mistaken 72 = .ok (.iconst 1, 1) := by decide +kernel
theorem dX4_mistaken_73 : decode cX4_mistaken 73 = .ok (.goto 4, 3) := by decide +kernel
theorem dX4_mistaken_76 : decode cX4_mistaken 76 = .ok (.iconst 0, 1) := by decide +kernel
theorem dX4_mistaken_77 : decode cX4_mistaken 77 = .ok (.iadd, 1) := by decide +kernel
theorem dX4_mistaken_78 : decode cX4_mistaken 78 = .ok (.istore 5, 2) := by decide +kernel
theorem dX4_mistaken_80 : decode cX4_mistaken 80 = .ok (.iinc 6 1, 3) := by decide +kernel
theorem dX4_mistaken_83 : decode cX4_mistaken 83 = .ok (.goto (-47), 3) := by decide +kernel
theorem dX4_mistaken_86 : decode cX4_mistaken 86 = .ok (.iload 5, 2) := by decide +kernel
theorem dX4_mistaken_88 : decode cX4_mistaken 88 = .ok (.iload_n 3, 1) := by decide +kernel
theorem dX4_mistaken_89 : decode cX4_mistaken 89 = .ok (.if_icmp .gt 6, 3) := by decide +kernel
theorem dX4_mistaken_92 : decode cX4_mistaken 92 = .ok (.goto 15, 3) := by decide +kernel
theorem dX4_mistaken_95 : decode cX4_mistaken 95 = .ok (.iload 4, 2) := by decide +kernel
theorem dX4_mistaken_97 : decode cX4_mistaken 97 = .ok (.iload_n 1, 1) := by decide +kernel
theorem dX4_mistaken_98 : decode cX4_mistaken 98 = .ok (.iconst 0, 1) := by decide +kernel
theorem dX4_mistaken_99 : decode cX4_mistaken 99 = .ok (.invokestatic 63, 3) := by decide +kernel
theorem dX4_mistaken_102 : decode cX4_mistaken 102 = .ok (.isub, 1) := by decide +kernel
theorem dX4_mistaken_103 : decode cX4_mistaken 103 = .ok (.istore_n 2, 1) := by decide +kernel
theorem dX4_mistaken_104 : decode cX4_mistaken 104 = .ok (.iload 5, 2) := by decide +kernel
theorem dX4_mistaken_106 : decode cX4_mistaken 106 = .ok (.istore_n 3, 1) := by decide +kernel
theorem dX4_mistaken_107 : decode cX4_mistaken 107 = .ok (.iinc 4 1, 3) := by decide +kernel
theorem dX4_mistaken_110 : decode cX4_mistaken 110 = .ok (.goto (-99), 3) := by decide +kernel
theorem dX4_mistaken_113 : decode cX4_mistaken 113 = .ok (.iload_n 2, 1) := by decide +kernel
theorem dX4_mistaken_114 : decode cX4_mistaken 114 = .ok (.ireturn, 1) := by decide +kernel
theorem dX4_mostMistaken_0 : decode cX4_mostMistaken 0 = .ok (.aload_n 0, 1) := by decide +kernel
theorem dX4_mostMistaken_1 : decode cX4_mostMistaken 1 = .ok (.iconst 0, 1) := by decide +kernel
theorem dX4_mostMistaken_2 : decode cX4_mostMistaken 2 = .ok (.putfield 31, 3) := by decide +kernel
theorem dX4_mostMistaken_5 : decode cX4_mostMistaken 5 = .ok (.aload_n 0, 1) := by decide +kernel
theorem dX4_mostMistaken_6 : decode cX4_mostMistaken 6 = .ok (.iload_n 1, 1) := by decide +kernel
theorem dX4_mostMistaken_7 : decode cX4_mostMistaken 7 = .ok (.invokevirtual 42, 3) := by decide +kernel
theorem dX4_mostMistaken_10 : decode cX4_mostMistaken 10 = .ok (.ifCond .eq 11, 3) := by decide +kernel
theorem dX4_mostMistaken_13 : decode cX4_mostMistaken 13 = .ok (.aload_n 0, 1) := by decide +kernel
theorem dX4_mostMistaken_14 : decode cX4_mostMistaken 14 = .ok (.iload_n 1, 1) := by decide +kernel
theorem dX4_mostMistaken_15 : decode cX4_mostMistaken 15 = .ok (.invokevirtual 128, 3) := by decide +kernel
theorem dX4_mostMistaken_18 : decode cX4_mostMistaken 18 = .ok (.goto 8, 3) := by decide +kernel
theorem dX4_mostMistaken_21 : decode cX4_mostMistaken 21 = .ok (.aload_n 0, 1) := by decide +kernel
theorem dX4_mostMistaken_22 : decode cX4_mostMistaken 22 = .ok (.iconst 1, 1) := by decide +kernel
theorem dX4_mostMistaken_23 : decode cX4_mostMistaken 23 = .ok (.invokevirtual 76, 3) := by decide +kernel
theorem dX4_mostMistaken_26 : decode cX4_mostMistaken 26 = .ok (.ireturn, 1) := by decide +kernel
theorem dX4_read_0 : decode cX4_read 0 = .ok (.aload_n 0, 1) := by decide +kernel
theorem dX4_read_1 : decode cX4_read 1 = .ok (.iconst 0, 1) := by decide +kernel
theorem dX4_read_2 : decode cX4_read 2 = .ok (.putfield 31, 3) := by decide +kernel
theorem dX4_read_5 : decode cX4_read 5 = .ok (.aload_n 0, 1) := by decide +kernel
theorem dX4_read_6 : decode cX4_read 6 = .ok (.iload_n 1, 1) := by decide +kernel
theorem dX4_read_7 : decode cX4_read 7 = .ok (.iload_n 2, 1) := by decide +kernel
theorem dX4_read_8 : decode cX4_read 8 = .ok (.invokevirtual 87, 3) := by decide +kernel
theorem dX4_read_11 : decode cX4_read 11 = .ok (.ifCond .eq 24, 3) := by decide +kernel
theorem dX4_read_14 : decode cX4_read 14 = .ok (.aload_n 0, 1) := by decide +kernel
theorem dX4_read_15 : decode cX4_read 15 = .ok (.iload_n 3, 1) := by decide +kernel
theorem dX4_read_16 : decode cX4_read 16 = .ok (.invokevirtual 42, 3) := by decide +kernel
theorem dX4_read_19 : decode cX4_read 19 = .ok (.ifCond .eq 16, 3) := by decide +kernel
theorem dX4_read_22 : decode cX4_read 22 = .ok (.aload_n 0, 1) := by decide +kernel
theorem dX4_read_23 : decode cX4_read 23 = .ok (.iload_n 1, 1) := by decide +kernel
theorem dX4_read_24 : decode cX4_read 24 = .ok (.iload_n 2, 1) := by decide +kernel
theorem dX4_read_25 : decode cX4_read 25 = .ok (.invokestatic 63, 3) := by decide +kernel
theorem dX4_read_28 : decode cX4_read 28 = .ok (.iload_n 3, 1) := by decide +kernel
theorem dX4_read_29 : decode cX4_read 29 = .ok (.invokevirtual 74, 3) := by decide +kernel
theorem dX4_read_32 : decode cX4_read 32 = .ok (.goto 8, 3) := by decide +kernel
theorem dX4_read_35 : decode cX4_read 35 = .ok (.aload_n 0, 1) := by decide +kernel
theorem dX4_read_36 : decode cX4_read 36 = .ok (.iconst 1, 1) := by decide +kernel
theorem dX4_read_37 : decode cX4_read 37 = .ok (.invokevirtual 76, 3) := by decide +kernel
theorem dX4_read_40 : decode cX4_read 40 = .ok (.ireturn, 1) := by decide +kernel
theorem dX4_readShown_0 : decode cX4_readShown 0 = .ok (.aload_n 0, 1) := by decide +kernel
theorem dX4_readShown_1 : decode cX4_readShown 1 = .ok (.iconst 0, 1) := by decide +kernel
theorem dX4_readShown_2 : decode cX4_readShown 2 = .ok (.putfield 31, 3) := by decide +kernel
theorem dX4_readShown_5 : decode cX4_readShown 5 = .ok (.aload_n 0, 1) := by decide +kernel
theorem dX4_readShown_6 : decode cX4_readShown 6 = .ok (.iload 5, 2) := by decide +kernel
theorem dX4_readShown_8 : decode cX4_readShown 8 = .ok (.invokevirtual 42, 3) := by decide +kernel
theorem dX4_readShown_11 : decode cX4_readShown 11 = .ok (.ifCond .ne 9, 3) := by decide +kernel
theorem dX4_readShown_14 : decode cX4_readShown 14 = .ok (.aload_n 0, 1) := by decide +kernel
theorem dX4_readShown_15 : decode cX4_readShown 15 = .ok (.iconst 1, 1) := by decide +kernel
theorem dX4_readShown_16 : decode cX4_readShown 16 = .ok (.invokevirtual 76, 3) := by decide +kernel
theorem dX4_readShown_19 : decode cX4_readShown 19 = .ok (.ireturn, 1) := by decide +kernel
theorem dX4_readShown_20 : decode cX4_readShown 20 = .ok (.iload_n 1, 1) := by decide +kernel
theorem dX4_readShown_21 : decode cX4_readShown 21 = .ok (.iload_n 2, 1) := by decide +kernel
theorem dX4_readShown_22 : decode cX4_readShown 22 = .ok (.iload_n 3, 1) := by decide +kernel
theorem dX4_readShown_23 : decode cX4_readShown 23 = .ok (.iload 4, 2) := by decide +kernel
theorem dX4_readShown_25 : decode cX4_readShown 25 = .ok (.invokestatic 79, 3) := by decide +kernel
theorem dX4_readShown_28 : decode cX4_readShown 28 = .ok (.ifCond .eq 17, 3) := by decide +kernel
theorem dX4_readShown_31 : decode cX4_readShown 31 = .ok (.aload_n 0, 1) := by decide +kernel
theorem dX4_readShown_32 : decode cX4_readShown 32 = .ok (.iload_n 1, 1) := by decide +kernel
theorem dX4_readShown_33 : decode cX4_readShown 33 = .ok (.iload_n 2, 1) := by decide +kernel
theorem dX4_readShown_34 : decode cX4_readShown 34 = .ok (.iload_n 3, 1) := by decide +kernel
theorem dX4_readShown_35 : decode cX4_readShown 35 = .ok (.iload 4, 2) := by decide +kernel
theorem dX4_readShown_37 : decode cX4_readShown 37 = .ok (.iload 5, 2) := by decide +kernel
theorem dX4_readShown_39 : decode cX4_readShown 39 = .ok (.invokevirtual 66, 3) := by decide +kernel
theorem dX4_readShown_42 : decode cX4_readShown 42 = .ok (.goto 8, 3) := by decide +kernel
theorem dX4_readShown_45 : decode cX4_readShown 45 = .ok (.aload_n 0, 1) := by decide +kernel
theorem dX4_readShown_46 : decode cX4_readShown 46 = .ok (.iconst 2, 1) := by decide +kernel
theorem dX4_readShown_47 : decode cX4_readShown 47 = .ok (.invokevirtual 76, 3) := by decide +kernel
theorem dX4_readShown_50 : decode cX4_readShown 50 = .ok (.ireturn, 1) := by decide +kernel
theorem dX4_understood_0 : decode cX4_understood 0 = .ok (.aload_n 0, 1) := by decide +kernel
theorem dX4_understood_1 : decode cX4_understood 1 = .ok (.iconst 0, 1) := by decide +kernel
theorem dX4_understood_2 : decode cX4_understood 2 = .ok (.putfield 31, 3) := by decide +kernel
theorem dX4_understood_5 : decode cX4_understood 5 = .ok (.aload_n 0, 1) := by decide +kernel
theorem dX4_understood_6 : decode cX4_understood 6 = .ok (.iload_n 1, 1) := by decide +kernel
theorem dX4_understood_7 : decode cX4_understood 7 = .ok (.invokevirtual 42, 3) := by decide +kernel
theorem dX4_understood_10 : decode cX4_understood 10 = .ok (.ifCond .eq 21, 3) := by decide +kernel
theorem dX4_understood_13 : decode cX4_understood 13 = .ok (.aload_n 0, 1) := by decide +kernel
theorem dX4_understood_14 : decode cX4_understood 14 = .ok (.iload_n 2, 1) := by decide +kernel
theorem dX4_understood_15 : decode cX4_understood 15 = .ok (.invokevirtual 42, 3) := by decide +kernel
theorem dX4_understood_18 : decode cX4_understood 18 = .ok (.ifCond .eq 13, 3) := by decide +kernel
theorem dX4_understood_21 : decode cX4_understood 21 = .ok (.aload_n 0, 1) := by decide +kernel
theorem dX4_understood_22 : decode cX4_understood 22 = .ok (.iload_n 1, 1) := by decide +kernel
theorem dX4_understood_23 : decode cX4_understood 23 = .ok (.iload_n 2, 1) := by decide +kernel
theorem dX4_understood_24 : decode cX4_understood 24 = .ok (.iconst 1, 1) := by decide +kernel
theorem dX4_understood_25 : decode cX4_understood 25 = .ok (.invokevirtual 131, 3) := by decide +kernel
theorem dX4_understood_28 : decode cX4_understood 28 = .ok (.goto 8, 3) := by decide +kernel
theorem dX4_understood_31 : decode cX4_understood 31 = .ok (.aload_n 0, 1) := by decide +kernel
theorem dX4_understood_32 : decode cX4_understood 32 = .ok (.iconst 1, 1) := by decide +kernel
theorem dX4_understood_33 : decode cX4_understood 33 = .ok (.invokevirtual 76, 3) := by decide +kernel
theorem dX4_understood_36 : decode cX4_understood 36 = .ok (.ireturn, 1) := by decide +kernel
theorem dX4_misread_0 : decode cX4_misread 0 = .ok (.aload_n 0, 1) := by decide +kernel
theorem dX4_misread_1 : decode cX4_misread 1 = .ok (.iconst 0, 1) := by decide +kernel
theorem dX4_misread_2 : decode cX4_misread 2 = .ok (.putfield 31, 3) := by decide +kernel
theorem dX4_misread_5 : decode cX4_misread 5 = .ok (.aload_n 0, 1) := by decide +kernel
theorem dX4_misread_6 : decode cX4_misread 6 = .ok (.iload_n 1, 1) := by decide +kernel
theorem dX4_misread_7 : decode cX4_misread 7 = .ok (.invokevirtual 42, 3) := by decide +kernel
theorem dX4_misread_10 : decode cX4_misread 10 = .ok (.ifCond .eq 21, 3) := by decide +kernel
theorem dX4_misread_13 : decode cX4_misread 13 = .ok (.aload_n 0, 1) := by decide +kernel
theorem dX4_misread_14 : decode cX4_misread 14 = .ok (.iload_n 2, 1) := by decide +kernel
theorem dX4_misread_15 : decode cX4_misread 15 = .ok (.invokevirtual 42, 3) := by decide +kernel
theorem dX4_misread_18 : decode cX4_misread 18 = .ok (.ifCond .eq 13, 3) := by decide +kernel
theorem dX4_misread_21 : decode cX4_misread 21 = .ok (.aload_n 0, 1) := by decide +kernel
theorem dX4_misread_22 : decode cX4_misread 22 = .ok (.iload_n 1, 1) := by decide +kernel
theorem dX4_misread_23 : decode cX4_misread 23 = .ok (.iload_n 2, 1) := by decide +kernel
theorem dX4_misread_24 : decode cX4_misread 24 = .ok (.iconst 0, 1) := by decide +kernel
theorem dX4_misread_25 : decode cX4_misread 25 = .ok (.invokevirtual 131, 3) := by decide +kernel
theorem dX4_misread_28 : decode cX4_misread 28 = .ok (.goto 8, 3) := by decide +kernel
theorem dX4_misread_31 : decode cX4_misread 31 = .ok (.aload_n 0, 1) := by decide +kernel
theorem dX4_misread_32 : decode cX4_misread 32 = .ok (.iconst 1, 1) := by decide +kernel
theorem dX4_misread_33 : decode cX4_misread 33 = .ok (.invokevirtual 76, 3) := by decide +kernel
theorem dX4_misread_36 : decode cX4_misread 36 = .ok (.ireturn, 1) := by decide +kernel
theorem dX4_common_0 : decode cX4_common 0 = .ok (.aload_n 0, 1) := by decide +kernel
theorem dX4_common_1 : decode cX4_common 1 = .ok (.iconst 0, 1) := by decide +kernel
theorem dX4_common_2 : decode cX4_common 2 = .ok (.putfield 31, 3) := by decide +kernel
theorem dX4_common_5 : decode cX4_common 5 = .ok (.aload_n 0, 1) := by decide +kernel
theorem dX4_common_6 : decode cX4_common 6 = .ok (.iload_n 1, 1) := by decide +kernel
theorem dX4_common_7 : decode cX4_common 7 = .ok (.invokevirtual 42, 3) := by decide +kernel
theorem dX4_common_10 : decode cX4_common 10 = .ok (.ifCond .eq 11, 3) := by decide +kernel
theorem dX4_common_13 : decode cX4_common 13 = .ok (.aload_n 0, 1) := by decide +kernel
theorem dX4_common_14 : decode cX4_common 14 = .ok (.iload_n 2, 1) := by decide +kernel
theorem dX4_common_15 : decode cX4_common 15 = .ok (.invokevirtual 42, 3) := by decide +kernel
theorem dX4_common_18 : decode cX4_common 18 = .ok (.ifCond .ne 9, 3) := by decide +kernel
theorem dX4_common_21 : decode cX4_common 21 = .ok (.aload_n 0, 1) := by decide +kernel
theorem dX4_common_22 : decode cX4_common 22 = .ok (.iconst 1, 1) := by decide +kernel
theorem dX4_common_23 : decode cX4_common 23 = .ok (.invokevirtual 76, 3) := by decide +kernel
theorem dX4_common_26 : decode cX4_common 26 = .ok (.ireturn, 1) := by decide +kernel
theorem dX4_common_27 : decode cX4_common 27 = .ok (.iconst 0, 1) := by decide +kernel
theorem dX4_common_28 : decode cX4_common 28 = .ok (.istore_n 3, 1) := by decide +kernel
theorem dX4_common_29 : decode cX4_common 29 = .ok (.iload_n 1, 1) := by decide +kernel
theorem dX4_common_30 : decode cX4_common 30 = .ok (.iconst 0, 1) := by decide +kernel
theorem dX4_common_31 : decode cX4_common 31 = .ok (.invokestatic 63, 3) := by decide +kernel
theorem dX4_common_34 : decode cX4_common 34 = .ok (.istore 4, 2) := by decide +kernel
theorem dX4_common_36 : decode cX4_common 36 = .ok (.iload 4, 2) := by decide +kernel
theorem dX4_common_38 : decode cX4_common 38 = .ok (.iload_n 1, 1) := by decide +kernel
theorem dX4_common_39 : decode cX4_common 39 = .ok (.aload_n 0, 1) := by decide +kernel
theorem dX4_common_40 : decode cX4_common 40 = .ok (.getfield 9, 3) := by decide +kernel
theorem dX4_common_43 : decode cX4_common 43 = .ok (.iload_n 1, 1) := by decide +kernel
theorem dX4_common_44 : decode cX4_common 44 = .ok (.iaload, 1) := by decide +kernel
theorem dX4_common_45 : decode cX4_common 45 = .ok (.invokestatic 63, 3) := by decide +kernel
theorem dX4_common_48 : decode cX4_common 48 = .ok (.if_icmp .ge 75, 3) := by decide +kernel
theorem dX4_common_51 : decode cX4_common 51 = .ok (.aload_n 0, 1) := by decide +kernel
theorem dX4_common_52 : decode cX4_common 52 = .ok (.iload_n 2, 1) := by decide +kernel
theorem dX4_common_53 : decode cX4_common 53 = .ok (.aload_n 0, 1) := by decide +kernel
theorem dX4_common_54 : decode cX4_common 54 = .ok (.getfield 25, 3) := by decide +kernel
theorem dX4_common_57 : decode cX4_common 57 = .ok (.iload 4, 2) := by decide +kernel
theorem dX4_common_59 : decode cX4_common 59 = .ok (.iaload, 1) := by decide +kernel
theorem dX4_common_60 : decode cX4_common 60 = .ok (.invokevirtual 69, 3) := by decide +kernel
theorem dX4_common_63 : decode cX4_common 63 = .ok (.istore 5, 2) := by decide +kernel
theorem dX4_common_65 : decode cX4_common 65 = .ok (.iload_n 3, 1) := by decide +kernel
theorem dX4_common_66 : decode cX4_common 66 = .ok (.iload 5, 2) := by decide +kernel
theorem dX4_common_68 : decode cX4_common 68 = .ok (.iconst (-1), 1) := by decide +kernel
theorem dX4_common_69 : decode cX4_common 69 = .ok (.if_icmp .eq 45, 3) := by decide +kernel
theorem dX4_common_72 : decode cX4_common 72 = .ok (.aload_n 0, 1) := by decide +kernel
theorem dX4_common_73 : decode cX4_common 73 = .ok (.iload 4, 2) := by decide +kernel
theorem dX4_common_75 : decode cX4_common 75 = .ok (.iload_n 2, 1) := by decide +kernel
theorem dX4_common_76 : decode cX4_common 76 = .ok (.invokevirtual 74, 3) := by decide +kernel
theorem dX4_common_79 : decode cX4_common 79 = .ok (.aload_n 0, 1) := by decide +kernel
theorem dX4_common_80 : decode cX4_common 80 = .ok (.getfield 25, 3) := by decide +kernel
theorem dX4_common_83 : decode cX4_common 83 = .ok (.iload 4, 2) := by decide +kernel
theorem dX4_common_85 : decode cX4_common 85 = .ok (.iaload, 1) := by decide +kernel
theorem dX4_common_86 : decode cX4_common 86 = .ok (.if_icmp .ne 28, 3) := by decide +kernel
theorem dX4_common_89 : decode cX4_common 89 = .ok (.aload_n 0, 1) := by decide +kernel
theorem dX4_common_90 : decode cX4_common 90 = .ok (.iload_n 2, 1) := by decide +kernel
theorem dX4_common_91 : decode cX4_common 91 = .ok (.iload 5, 2) := by decide +kernel
theorem dX4_common_93 : decode cX4_common 93 = .ok (.invokestatic 63, 3) := by decide +kernel
theorem dX4_common_96 : decode cX4_common 96 = .ok (.iload_n 1, 1) := by decide +kernel
theorem dX4_common_97 : decode cX4_common 97 = .ok (.invokevirtual 74, 3) := by decide +kernel
theorem dX4_common_100 : decode cX4_common 100 = .ok (.aload_n 0, 1) := by decide +kernel
theorem dX4_common_101 : decode cX4_common 101 = .ok (.getfield 25, 3) := by decide +kernel
theorem dX4_common_104 : decode cX4_common 104 = .ok (.iload 4, 2) := by decide +kernel
theorem dX4_common_106 : decode cX4_common 106 = .ok (.iaload, 1) := by decide +kernel
theorem dX4_common_107 : decode cX4_common 107 = .ok (.if_icmp .ne 7, 3) := by decide +kernel
theorem dX4_common_110 : decode cX4_common 110 = .ok (.iconst 1, 1) := by decide +kernel
theorem dX4_common_111 : decode cX4_common 111 = .ok (.goto 4, 3) := by decide +kernel
theorem dX4_common_114 : decode cX4_common 114 = .ok (.iconst 0, 1) := by decide +kernel
theorem dX4_common_115 : decode cX4_common 115 = .ok (.iadd, 1) := by decide +kernel
theorem dX4_common_116 : decode cX4_common 116 = .ok (.istore_n 3, 1) := by decide +kernel
theorem dX4_common_117 : decode cX4_common 117 = .ok (.iinc 4 1, 3) := by decide +kernel
theorem dX4_common_120 : decode cX4_common 120 = .ok (.goto (-84), 3) := by decide +kernel
theorem dX4_common_123 : decode cX4_common 123 = .ok (.iload_n 3, 1) := by decide +kernel
theorem dX4_common_124 : decode cX4_common 124 = .ok (.ireturn, 1) := by decide +kernel
theorem dX4_bestThumbOf_0 : decode cX4_bestThumbOf 0 = .ok (.iload_n 1, 1) := by decide +kernel
theorem dX4_bestThumbOf_1 : decode cX4_bestThumbOf 1 = .ok (.iload_n 2, 1) := by decide +kernel
theorem dX4_bestThumbOf_2 : decode cX4_bestThumbOf 2 = .ok (.invokestatic 63, 3) := by decide +kernel
theorem dX4_bestThumbOf_5 : decode cX4_bestThumbOf 5 = .ok (.istore_n 3, 1) := by decide +kernel
theorem dX4_bestThumbOf_6 : decode cX4_bestThumbOf 6 = .ok (.aload_n 0, 1) := by decide +kernel
theorem dX4_bestThumbOf_7 : decode cX4_bestThumbOf 7 = .ok (.getfield 9, 3) := by decide +kernel
theorem dX4_bestThumbOf_10 : decode cX4_bestThumbOf 10 = .ok (.iload_n 1, 1) := by decide +kernel
theorem dX4_bestThumbOf_11 : decode cX4_bestThumbOf 11 = .ok (.iaload, 1) := by decide +kernel
theorem dX4_bestThumbOf_12 : decode cX4_bestThumbOf 12 = .ok (.iconst 1, 1) := by decide +kernel
theorem dX4_bestThumbOf_13 : decode cX4_bestThumbOf 13 = .ok (.if_icmp .ne 10, 3) := by decide +kernel
theorem dX4_bestThumbOf_16 : decode cX4_bestThumbOf 16 = .ok (.aload_n 0, 1) := by decide +kernel
theorem dX4_bestThumbOf_17 : decode cX4_bestThumbOf 17 = .ok (.getfield 16, 3) := by decide +kernel
theorem dX4_bestThumbOf_20 : decode cX4_bestThumbOf 20 = .ok (.iload_n 3, 1) := by decide +kernel
theorem dX4_bestThumbOf_21 : decode cX4_bestThumbOf 21 = .ok (.iaload, 1) := by decide +kernel
theorem dX4_bestThumbOf_22 : decode cX4_bestThumbOf 22 = .ok (.ireturn, 1) := by decide +kernel
theorem dX4_bestThumbOf_23 : decode cX4_bestThumbOf 23 = .ok (.iconst (-1), 1) := by decide +kernel
theorem dX4_bestThumbOf_24 : decode cX4_bestThumbOf 24 = .ok (.istore 4, 2) := by decide +kernel
theorem dX4_bestThumbOf_26 : decode cX4_bestThumbOf 26 = .ok (.iconst (-1), 1) := by decide +kernel
theorem dX4_bestThumbOf_27 : decode cX4_bestThumbOf 27 = .ok (.istore 5, 2) := by decide +kernel
theorem dX4_bestThumbOf_29 : decode cX4_bestThumbOf 29 = .ok (.iconst 0, 1) := by decide +kernel
theorem dX4_bestThumbOf_30 : decode cX4_bestThumbOf 30 = .ok (.istore 6, 2) := by decide +kernel
theorem dX4_bestThumbOf_32 : decode cX4_bestThumbOf 32 = .ok (.iload 6, 2) := by decide +kernel
theorem dX4_bestThumbOf_34 : decode cX4_bestThumbOf 34 = .ok (.iconst 4, 1) := by decide +kernel
theorem dX4_bestThumbOf_35 : decode cX4_bestThumbOf 35 = .ok (.if_icmp .ge 98, 3) := by decide +kernel
theorem dX4_bestThumbOf_38 : decode cX4_bestThumbOf 38 = .ok (.bipush 99, 2) := by decide +kernel
theorem dX4_bestThumbOf_40 : decode cX4_bestThumbOf 40 = .ok (.istore 7, 2) := by decide +kernel
theorem dX4_bestThumbOf_42 : decode cX4_bestThumbOf 42 = .ok (.iload_n 1, 1) := by decide +kernel
theorem dX4_bestThumbOf_43 : decode cX4_bestThumbOf 43 = .ok (.iconst 0, 1) := by decide +kernel
theorem dX4_bestThumbOf_44 : decode cX4_bestThumbOf 44 = .ok (.invokestatic 63, 3) := by decide +kernel
theorem dX4_bestThumbOf_47 : decode cX4_bestThumbOf 47 = .ok (.istore 8, 2) := by decide +kernel
theorem dX4_bestThumbOf_49 : decode cX4_bestThumbOf 49 = .ok (.iload 8, 2) := by decide +kernel
theorem dX4_bestThumbOf_51 : decode cX4_bestThumbOf 51 = .ok (.iload_n 1, 1) := by decide +kernel
theorem dX4_bestThumbOf_52 : decode cX4_bestThumbOf 52 = .ok (.aload_n 0, 1) := by decide +kernel
theorem dX4_bestThumbOf_53 : decode cX4_bestThumbOf 53 = .ok (.getfield 9, 3) := by decide +kernel
theorem dX4_bestThumbOf_56 : decode cX4_bestThumbOf 56 = .ok (.iload_n 1, 1) := by decide +kernel
theorem dX4_bestThumbOf_57 : decode cX4_bestThumbOf 57 = .ok (.iaload, 1) := by decide +kernel
theorem dX4_bestThumbOf_58 : decode cX4_bestThumbOf 58 = .ok (.invokestatic 63, 3) := by decide +kernel
theorem dX4_bestThumbOf_61 : decode cX4_bestThumbOf 61 = .ok (.if_icmp .ge 48, 3) := by decide +kernel
theorem dX4_bestThumbOf_64 : decode cX4_bestThumbOf 64 = .ok (.iload 8, 2) := by decide +kernel
theorem dX4_bestThumbOf_66 : decode cX4_bestThumbOf 66 = .ok (.iload_n 3, 1) := by decide +kernel
theorem dX4_bestThumbOf_67 : decode cX4_bestThumbOf 67 = .ok (.if_icmp .eq 36, 3) := by decide +kernel
theorem dX4_bestThumbOf_70 : decode cX4_bestThumbOf 70 = .ok (.iload 7, 2) := by decide +kernel
theorem dX4_bestThumbOf_72 : decode cX4_bestThumbOf 72 = .ok (.aload_n 0, 1) := by decide +kernel
theorem dX4_bestThumbOf_73 : decode cX4_bestThumbOf 73 = .ok (.aload_n 0, 1) := by decide +kernel
theorem dX4_bestThumbOf_74 : decode cX4_bestThumbOf 74 = .ok (.getfield 13, 3) := by decide +kernel
theorem dX4_bestThumbOf_77 : decode cX4_bestThumbOf 77 = .ok (.iload_n 3, 1) := by decide +kernel
theorem dX4_bestThumbOf_78 : decode cX4_bestThumbOf 78 = .ok (.iaload, 1) := by decide +kernel
theorem dX4_bestThumbOf_79 : decode cX4_bestThumbOf 79 = .ok (.iload 6, 2) := by decide +kernel
theorem dX4_bestThumbOf_81 : decode cX4_bestThumbOf 81 = .ok (.aload_n 0, 1) := by decide +kernel
theorem dX4_bestThumbOf_82 : decode cX4_bestThumbOf 82 = .ok (.getfield 19, 3) := by decide +kernel
theorem dX4_bestThumbOf_85 : decode cX4_bestThumbOf 85 = .ok (.iload_n 3, 1) := by decide +kernel
theorem dX4_bestThumbOf_86 : decode cX4_bestThumbOf 86 = .ok (.iaload, 1) := by decide +kernel
theorem dX4_bestThumbOf_87 : decode cX4_bestThumbOf 87 = .ok (.aload_n 0, 1) := by decide +kernel
theorem dX4_bestThumbOf_88 : decode cX4_bestThumbOf 88 = .ok (.getfield 22, 3) := by decide +kernel
theorem dX4_bestThumbOf_91 : decode cX4_bestThumbOf 91 = .ok (.iload_n 3, 1) := by decide +kernel
theorem dX4_bestThumbOf_92 : decode cX4_bestThumbOf 92 = .ok (.iaload, 1) := by decide +kernel
theorem dX4_bestThumbOf_93 : decode cX4_bestThumbOf 93 = .ok (.iload 8, 2) := by decide +kernel
theorem dX4_bestThumbOf_95 : decode cX4_bestThumbOf 95 = .ok (.invokevirtual 59, 3) := by decide +kernel
theorem dX4_bestThumbOf_98 : decode cX4_bestThumbOf 98 = .ok (.invokestatic 95, 3) := by decide +kernel
theorem dX4_bestThumbOf_101 : decode cX4_bestThumbOf 101 = .ok (.istore 7, 2) := by decide +kernel
theorem dX4_bestThumbOf_103 : decode cX4_bestThumbOf 103 = .ok (.iinc 8 1, 3) := by decide +kernel
theorem dX4_bestThumbOf_106 : decode cX4_bestThumbOf 106 = .ok (.goto (-57), 3) := by decide +kernel
theorem dX4_bestThumbOf_109 : decode cX4_bestThumbOf 109 = .ok (.iload 7, 2) := by decide +kernel
theorem dX4_bestThumbOf_111 : decode cX4_bestThumbOf 111 = .ok (.iload 5, 2) := by decide +kernel
theorem dX4_bestThumbOf_113 : decode cX4_bestThumbOf 113 = .ok (.if_icmp .gt 6, 3) := by decide +kernel
theorem dX4_bestThumbOf_116 : decode cX4_bestThumbOf 116 = .ok (.goto 11, 3) := by decide +kernel
theorem dX4_bestThumbOf_119 : decode cX4_bestThumbOf 119 = .ok (.iload 6, 2) := by decide +kernel
theorem dX4_bestThumbOf_121 : decode cX4_bestThumbOf 121 = .ok (.istore 4, 2) := by decide +kernel
theorem dX4_bestThumbOf_123 : decode cX4_bestThumbOf 123 = .ok (.iload 7, 2) := by decide +kernel
theorem dX4_bestThumbOf_125 : decode cX4_bestThumbOf 125 = .ok (.istore 5, 2) := by decide +kernel
theorem dX4_bestThumbOf_127 : decode cX4_bestThumbOf 127 = .ok (.iinc 6 1, 3) := by decide +kernel
theorem dX4_bestThumbOf_130 : decode cX4_bestThumbOf 130 = .ok (.goto (-98), 3) := by decide +kernel
theorem dX4_bestThumbOf_133 : decode cX4_bestThumbOf 133 = .ok (.iload 4, 2) := by decide +kernel
theorem dX4_bestThumbOf_135 : decode cX4_bestThumbOf 135 = .ok (.ireturn, 1) := by decide +kernel
theorem dX4_bestThumb_0 : decode cX4_bestThumb 0 = .ok (.aload_n 0, 1) := by decide +kernel
theorem dX4_bestThumb_1 : decode cX4_bestThumb 1 = .ok (.iconst 0, 1) := by decide +kernel
theorem dX4_bestThumb_2 : decode cX4_bestThumb 2 = .ok (.putfield 31, 3) := by decide +kernel
theorem dX4_bestThumb_5 : decode cX4_bestThumb 5 = .ok (.aload_n 0, 1) := by decide +kernel
theorem dX4_bestThumb_6 : decode cX4_bestThumb 6 = .ok (.iload_n 1, 1) := by decide +kernel
theorem dX4_bestThumb_7 : decode cX4_bestThumb 7 = .ok (.iload_n 2, 1) := by decide +kernel
theorem dX4_bestThumb_8 : decode cX4_bestThumb 8 = .ok (.invokevirtual 87, 3) := by decide +kernel
theorem dX4_bestThumb_11 : decode cX4_bestThumb 11 = .ok (.ifCond .eq 12, 3) := by decide +kernel
theorem dX4_bestThumb_14 : decode cX4_bestThumb 14 = .ok (.aload_n 0, 1) := by decide +kernel
theorem dX4_bestThumb_15 : decode cX4_bestThumb 15 = .ok (.iload_n 1, 1) := by decide +kernel
theorem dX4_bestThumb_16 : decode cX4_bestThumb 16 = .ok (.iload_n 2, 1) := by decide +kernel
theorem dX4_bestThumb_17 : decode cX4_bestThumb 17 = .ok (.invokevirtual 135, 3) := by decide +kernel
theorem dX4_bestThumb_20 : decode cX4_bestThumb 20 = .ok (.goto 8, 3) := by decide +kernel
theorem dX4_bestThumb_23 : decode cX4_bestThumb 23 = .ok (.aload_n 0, 1) := by decide +kernel
theorem dX4_bestThumb_24 : decode cX4_bestThumb 24 = .ok (.iconst 1, 1) := by decide +kernel
theorem dX4_bestThumb_25 : decode cX4_bestThumb 25 = .ok (.invokevirtual 76, 3) := by decide +kernel
theorem dX4_bestThumb_28 : decode cX4_bestThumb 28 = .ok (.ireturn, 1) := by decide +kernel
theorem dX4_toBorrow_0 : decode cX4_toBorrow 0 = .ok (.iload_n 1, 1) := by decide +kernel
theorem dX4_toBorrow_1 : decode cX4_toBorrow 1 = .ok (.iload_n 2, 1) := by decide +kernel
theorem dX4_toBorrow_2 : decode cX4_toBorrow 2 = .ok (.if_icmp .ne 5, 3) := by decide +kernel
theorem dX4_toBorrow_5 : decode cX4_toBorrow 5 = .ok (.iconst (-1), 1) := by decide +kernel
theorem dX4_toBorrow_6 : decode cX4_toBorrow 6 = .ok (.ireturn, 1) := by decide +kernel
theorem dX4_toBorrow_7 : decode cX4_toBorrow 7 = .ok (.iconst (-1), 1) := by decide +kernel
theorem dX4_toBorrow_8 : decode cX4_toBorrow 8 = .ok (.istore_n 3, 1) := by decide +kernel
theorem dX4_toBorrow_9 : decode cX4_toBorrow 9 = .ok (.iconst (-1), 1) := by decide +kernel
theorem dX4_toBorrow_10 : decode cX4_toBorrow 10 = .ok (.istore 4, 2) := by decide +kernel
theorem dX4_toBorrow_12 : decode cX4_toBorrow 12 = .ok (.iconst 0, 1) := by decide +kernel
theorem dX4_toBorrow_13 : decode cX4_toBorrow 13 = .ok (.istore 5, 2) := by decide +kernel
theorem dX4_toBorrow_15 : decode cX4_toBorrow 15 = .ok (.iload 5, 2) := by decide +kernel
theorem dX4_toBorrow_17 : decode cX4_toBorrow 17 = .ok (.aload_n 0, 1) := by decide +kernel
theorem dX4_toBorrow_18 : decode cX4_toBorrow 18 = .ok (.getfield 9, 3) := by decide +kernel
theorem dX4_toBorrow_21 : decode cX4_toBorrow 21 = .ok (.iload_n 1, 1) := by decide +kernel
theorem dX4_toBorrow_22 : decode cX4_toBorrow 22 = .ok (.iaload, 1) := by decide +kernel
theorem dX4_toBorrow_23 : decode cX4_toBorrow 23 = .ok (.if_icmp .ge 106, 3) := by decide +kernel
theorem dX4_toBorrow_26 : decode cX4_toBorrow 26 = .ok (.iload_n 1, 1) := by decide +kernel
theorem dX4_toBorrow_27 : decode cX4_toBorrow 27 = .ok (.iload 5, 2) := by decide +kernel
theorem dX4_toBorrow_29 : decode cX4_toBorrow 29 = .ok (.invokestatic 63, 3) := by decide +kernel
theorem dX4_toBorrow_32 : decode cX4_toBorrow 32 = .ok (.istore 6, 2) := by decide +kernel
theorem dX4_toBorrow_34 : decode cX4_toBorrow 34 = .ok (.aload_n 0, 1) := by decide +kernel
theorem dX4_toBorrow_35 : decode cX4_toBorrow 35 = .ok (.iload 6, 2) := by decide +kernel
theorem dX4_toBorrow_37 : decode cX4_toBorrow 37 = .ok (.iload_n 2, 1) := by decide +kernel
theorem dX4_toBorrow_38 : decode cX4_toBorrow 38 = .ok (.invokevirtual 109, 3) := by decide +kernel
theorem dX4_toBorrow_41 : decode cX4_toBorrow 41 = .ok (.istore 7, 2) := by decide +kernel
theorem dX4_toBorrow_43 : decode cX4_toBorrow 43 = .ok (.iload 7, 2) := by decide +kernel
theorem dX4_toBorrow_45 : decode cX4_toBorrow 45 = .ok (.iconst (-1), 1) := by decide +kernel
theorem dX4_toBorrow_46 : decode cX4_toBorrow 46 = .ok (.if_icmp .ne 6, 3) := by decide +kernel
theorem dX4_toBorrow_49 : decode cX4_toBorrow 49 = .ok (.goto 74, 3) := by decide +kernel
theorem dX4_toBorrow_52 : decode cX4_toBorrow 52 = .ok (.aload_n 0, 1) := by decide +kernel
theorem dX4_toBorrow_53 : decode cX4_toBorrow 53 = .ok (.iload_n 2, 1) := by decide +kernel
theorem dX4_toBorrow_54 : decode cX4_toBorrow 54 = .ok (.aload_n 0, 1) := by decide +kernel
theorem dX4_toBorrow_55 : decode cX4_toBorrow 55 = .ok (.getfield 13, 3) := by decide +kernel
theorem dX4_toBorrow_58 : decode cX4_toBorrow 58 = .ok (.iload 6, 2) := by decide +kernel
theorem dX4_toBorrow_60 : decode cX4_toBorrow 60 = .ok (.iaload, 1) := by decide +kernel
theorem dX4_toBorrow_61 : decode cX4_toBorrow 61 = .ok (.iload 7, 2) := by decide +kernel
theorem dX4_toBorrow_63 : decode cX4_toBorrow 63 = .ok (.aload_n 0, 1) := by decide +kernel
theorem dX4_toBorrow_64 : decode cX4_toBorrow 64 = .ok (.getfield 19, 3) := by decide +kernel
theorem dX4_toBorrow_67 : decode cX4_toBorrow 67 = .ok (.iload 6, 2) := by decide +kernel
theorem dX4_toBorrow_69 : decode cX4_toBorrow 69 = .ok (.iaload, 1) := by decide +kernel
theorem dX4_toBorrow_70 : decode cX4_toBorrow 70 = .ok (.aload_n 0, 1) := by decide +kernel
theorem dX4_toBorrow_71 : decode cX4_toBorrow 71 = .ok (.getfield 22, 3) := by decide +kernel
theorem dX4_toBorrow_74 : decode cX4_toBorrow 74 = .ok (.iload 6, 2) := by decide +kernel
theorem dX4_toBorrow_76 : decode cX4_toBorrow 76 = .ok (.iaload, 1) := by decide +kernel
theorem dX4_toBorrow_77 : decode cX4_toBorrow 77 = .ok (.aload_n 0, 1) := by decide +kernel
theorem dX4_toBorrow_78 : decode cX4_toBorrow 78 = .ok (.getfield 25, 3) := by decide +kernel
theorem dX4_toBorrow_81 : decode cX4_toBorrow 81 = .ok (.iload 6, 2) := by decide +kernel
theorem dX4_toBorrow_83 : decode cX4_toBorrow 83 = .ok (.iaload, 1) := by decide +kernel
theorem dX4_toBorrow_84 : decode cX4_toBorrow 84 = .ok (.invokevirtual 83, 3) := by decide +kernel
theorem dX4_toBorrow_87 : decode cX4_toBorrow 87 = .ok (.aload_n 0, 1) := by decide +kernel
theorem dX4_toBorrow_88 : decode cX4_toBorrow 88 = .ok (.iload_n 1, 1) := by decide +kernel
theorem dX4_toBorrow_89 : decode cX4_toBorrow 89 = .ok (.iload_n 2, 1) := by decide +kernel
theorem dX4_toBorrow_90 : decode cX4_toBorrow 90 = .ok (.iconst 1, 1) := by decide +kernel
theorem dX4_toBorrow_91 : decode cX4_toBorrow 91 = .ok (.invokevirtual 131, 3) := by decide +kernel
theorem dX4_toBorrow_94 : decode cX4_toBorrow 94 = .ok (.istore 8, 2) := by decide +kernel
theorem dX4_toBorrow_96 : decode cX4_toBorrow 96 = .ok (.aload_n 0, 1) := by decide +kernel
theorem dX4_toBorrow_97 : decode cX4_toBorrow 97 = .ok (.getfield 9, 3) := by decide +kernel
theorem dX4_toBorrow_100 : decode cX4_toBorrow 100 = .ok (.iload_n 2, 1) := by decide +kernel
theorem dX4_toBorrow_101 : decode cX4_toBorrow 101 = .ok (.dup2, 1) := by decide +kernel
theorem dX4_toBorrow_102 : decode cX4_toBorrow 102 = .ok (.iaload, 1) := by decide +kernel
theorem dX4_toBorrow_103 : decode cX4_toBorrow 103 = .ok (.iconst 1, 1) := by decide +kernel
theorem dX4_toBorrow_104 : decode cX4_toBorrow 104 = .ok (.isub, 1) := by decide +kernel
theorem dX4_toBorrow_105 : decode cX4_toBorrow 105 = .ok (.iastore, 1) := by decide +kernel
theorem dX4_toBorrow_106 : decode cX4_toBorrow 106 = .ok (.iload 8, 2) := by decide +kernel
theorem dX4_toBorrow_108 : decode cX4_toBorrow 108 = .ok (.iload 4, 2) := by decide +kernel
theorem dX4_toBorrow_110 : decode cX4_toBorrow 110 = .ok (.if_icmp .gt 6, 3) := by decide +kernel
theorem dX4_toBorrow_113 : decode cX4_toBorrow 113 = .ok (.goto 10, 3) := by decide +kernel
theorem dX4_toBorrow_116 : decode cX4_toBorrow 116 = .ok (.iload 5, 2) := by decide +kernel
theorem dX4_toBorrow_118 : decode cX4_toBorrow 118 = .ok (.istore_n 3, 1) := by decide +kernel
theorem dX4_toBorrow_119 : decode cX4_toBorrow 119 = .ok (.iload 8, 2) := by decide +kernel
theorem dX4_toBorrow_121 : decode cX4_toBorrow 121 = .ok (.istore 4, 2) := by decide +kernel
theorem dX4_toBorrow_123 : decode cX4_toBorrow 123 = .ok (.iinc 5 1, 3) := by decide +kernel
theorem dX4_toBorrow_126 : decode cX4_toBorrow 126 = .ok (.goto (-111), 3) := by decide +kernel
theorem dX4_toBorrow_129 : decode cX4_toBorrow 129 = .ok (.iload_n 3, 1) := by decide +kernel
theorem dX4_toBorrow_130 : decode cX4_toBorrow 130 = .ok (.ireturn, 1) := by decide +kernel
theorem dX4_bestToBorrow_0 : decode cX4_bestToBorrow 0 = .ok (.aload_n 0, 1) := by decide +kernel
theorem dX4_bestToBorrow_1 : decode cX4_bestToBorrow 1 = .ok (.iconst 0, 1) := by decide +kernel
theorem dX4_bestToBorrow_2 : decode cX4_bestToBorrow 2 = .ok (.putfield 31, 3) := by decide +kernel
theorem dX4_bestToBorrow_5 : decode cX4_bestToBorrow 5 = .ok (.aload_n 0, 1) := by decide +kernel
theorem dX4_bestToBorrow_6 : decode cX4_bestToBorrow 6 = .ok (.iload_n 1, 1) := by decide +kernel
theorem dX4_bestToBorrow_7 : decode cX4_bestToBorrow 7 = .ok (.invokevirtual 42, 3) := by decide +kernel
theorem dX4_bestToBorrow_10 : decode cX4_bestToBorrow 10 = .ok (.ifCond .eq 20, 3) := by decide +kernel
theorem dX4_bestToBorrow_13 : decode cX4_bestToBorrow 13 = .ok (.aload_n 0, 1) := by decide +kernel
theorem dX4_bestToBorrow_14 : decode cX4_bestToBorrow 14 = .ok (.iload_n 2, 1) := by decide +kernel
theorem dX4_bestToBorrow_15 : decode cX4_bestToBorrow 15 = .ok (.invokevirtual 42, 3) := by decide +kernel
theorem dX4_bestToBorrow_18 : decode cX4_bestToBorrow 18 = .ok (.ifCond .eq 12, 3) := by decide +kernel
theorem dX4_bestToBorrow_21 : decode cX4_bestToBorrow 21 = .ok (.aload_n 0, 1) := by decide +kernel
theorem dX4_bestToBorrow_22 : decode cX4_bestToBorrow 22 = .ok (.iload_n 1, 1) := by decide +kernel
theorem dX4_bestToBorrow_23 : decode cX4_bestToBorrow 23 = .ok (.iload_n 2, 1) := by decide +kernel
theorem dX4_bestToBorrow_24 : decode cX4_bestToBorrow 24 = .ok (.invokevirtual 138, 3) := by decide +kernel
theorem dX4_bestToBorrow_27 : decode cX4_bestToBorrow 27 = .ok (.goto 8, 3) := by decide +kernel
theorem dX4_bestToBorrow_30 : decode cX4_bestToBorrow 30 = .ok (.aload_n 0, 1) := by decide +kernel
theorem dX4_bestToBorrow_31 : decode cX4_bestToBorrow 31 = .ok (.iconst 1, 1) := by decide +kernel
theorem dX4_bestToBorrow_32 : decode cX4_bestToBorrow 32 = .ok (.invokevirtual 76, 3) := by decide +kernel
theorem dX4_bestToBorrow_35 : decode cX4_bestToBorrow 35 = .ok (.ireturn, 1) := by decide +kernel
theorem dX4_alikeIfJoined_0 : decode cX4_alikeIfJoined 0 = .ok (.aload_n 0, 1) := by decide +kernel
theorem dX4_alikeIfJoined_1 : decode cX4_alikeIfJoined 1 = .ok (.iconst 0, 1) := by decide +kernel
theorem dX4_alikeIfJoined_2 : decode cX4_alikeIfJoined 2 = .ok (.putfield 31, 3) := by decide +kernel
theorem dX4_alikeIfJoined_5 : decode cX4_alikeIfJoined 5 = .ok (.iload_n 1, 1) := by decide +kernel
theorem dX4_alikeIfJoined_6 : decode cX4_alikeIfJoined 6 = .ok (.invokestatic 46, 3) := by decide +kernel
theorem dX4_alikeIfJoined_9 : decode cX4_alikeIfJoined 9 = .ok (.ifCond .eq 10, 3) := by decide +kernel
theorem dX4_alikeIfJoined_12 : decode cX4_alikeIfJoined 12 = .ok (.iload_n 2, 1) := by decide +kernel
theorem dX4_alikeIfJoined_13 : decode cX4_alikeIfJoined 13 = .ok (.invokestatic 46, 3) := by decide +kernel
theorem dX4_alikeIfJoined_16 : decode cX4_alikeIfJoined 16 = .ok (.ifCond .ne 9, 3) := by decide +kernel
theorem dX4_alikeIfJoined_19 : decode cX4_alikeIfJoined 19 = .ok (.aload_n 0, 1) := by decide +kernel
theorem dX4_alikeIfJoined_20 : decode cX4_alikeIfJoined 20 = .ok (.iconst 1, 1) := by decide +kernel
theorem dX4_alikeIfJoined_21 : decode cX4_alikeIfJoined 21 = .ok (.invokevirtual 76, 3) := by decide +kernel
theorem dX4_alikeIfJoined_24 : decode cX4_alikeIfJoined 24 = .ok (.ireturn, 1) := by decide +kernel
theorem dX4_alikeIfJoined_25 : decode cX4_alikeIfJoined 25 = .ok (.bipush 9, 2) := by decide +kernel
theorem dX4_alikeIfJoined_27 : decode cX4_alikeIfJoined 27 = .ok (.newarray .int, 2) := by decide +kernel
theorem dX4_alikeIfJoined_29 : decode cX4_alikeIfJoined 29 = .ok (.astore_n 3, 1) := by decide +kernel
theorem dX4_alikeIfJoined_30 : decode cX4_alikeIfJoined 30 = .ok (.aload_n 0, 1) := by decide +kernel
theorem dX4_alikeIfJoined_31 : decode cX4_alikeIfJoined 31 = .ok (.getfield 28, 3) := by decide +kernel
theorem dX4_alikeIfJoined_34 : decode cX4_alikeIfJoined 34 = .ok (.iconst 0, 1) := by decide +kernel
theorem dX4_alikeIfJoined_35 : decode cX4_alikeIfJoined 35 = .ok (.aload_n 3, 1) := by decide +kernel
theorem dX4_alikeIfJoined_36 : decode cX4_alikeIfJoined 36 = .ok (.iconst 0, 1) := by decide +kernel
theorem dX4_alikeIfJoined_37 : decode cX4_alikeIfJoined 37 = .ok (.bipush 9, 2) := by decide +kernel
theorem dX4_alikeIfJoined_39 : decode cX4_alikeIfJoined 39 = .ok (.invokestatic 141, 3) := by decide +kernel
theorem dX4_alikeIfJoined_42 : decode cX4_alikeIfJoined 42 = .ok (.aload_n 0, 1) := by decide +kernel
theorem dX4_alikeIfJoined_43 : decode cX4_alikeIfJoined 43 = .ok (.iload_n 1, 1) := by decide +kernel
theorem dX4_alikeIfJoined_44 : decode cX4_alikeIfJoined 44 = .ok (.iload_n 2, 1) := by decide +kernel
theorem dX4_alikeIfJoined_45 : decode cX4_alikeIfJoined 45 = .ok (.invokevirtual 101, 3) := by decide +kernel
theorem dX4_alikeIfJoined_48 : decode cX4_alikeIfJoined 48 = .ok (.iconst 0, 1) := by decide +kernel
theorem dX4_alikeIfJoined_49 : decode cX4_alikeIfJoined 49 = .ok (.istore 4, 2) := by decide +kernel
theorem dX4_alikeIfJoined_51 : decode cX4_alikeIfJoined 51 = .ok (.iconst 0, 1) := by decide +kernel
theorem dX4_alikeIfJoined_52 : decode cX4_alikeIfJoined 52 = .ok (.istore 5, 2) := by decide +kernel
theorem dX4_alikeIfJoined_54 : decode cX4_alikeIfJoined 54 = .ok (.iload 5, 2) := by decide +kernel
theorem dX4_alikeIfJoined_56 : decode cX4_alikeIfJoined 56 = .ok (.aload_n 0, 1) := by decide +kernel
theorem dX4_alikeIfJoined_57 : decode cX4_alikeIfJoined 57 = .ok (.getfield 35, 3) := by decide +kernel
theorem dX4_alikeIfJoined_60 : decode cX4_alikeIfJoined 60 = .ok (.if_icmp .ge 20, 3) := by decide +kernel
theorem dX4_alikeIfJoined_63 : decode cX4_alikeIfJoined 63 = .ok (.iload 4, 2) := by decide +kernel
theorem dX4_alikeIfJoined_65 : decode cX4_alikeIfJoined 65 = .ok (.aload_n 0, 1) := by decide +kernel
theorem dX4_alikeIfJoined_66 : decode cX4_alikeIfJoined 66 = .ok (.iload 5, 2) := by decide +kernel
theorem dX4_alikeIfJoined_68 : decode cX4_alikeIfJoined 68 = .ok (.invokevirtual 119, 3) := by decide +kernel
theorem dX4_alikeIfJoined_71 : decode cX4_alikeIfJoined 71 = .ok (.iadd, 1) := by decide +kernel
theorem dX4_alikeIfJoined_72 : decode cX4_alikeIfJoined 72 = .ok (.istore 4, 2) := by decide +kernel
theorem dX4_alikeIfJoined_74 : decode cX4_alikeIfJoined 74 = .ok (.iinc 5 1, 3) := by decide +kernel
theorem dX4_alikeIfJoined_77 : decode cX4_alikeIfJoined 77 = .ok (.goto (-23), 3) := by decide +kernel
theorem dX4_alikeIfJoined_80 : decode cX4_alikeIfJoined 80 = .ok (.aload_n 3, 1) := by decide +kernel
theorem dX4_alikeIfJoined_81 : decode cX4_alikeIfJoined 81 = .ok (.iconst 0, 1) := by decide +kernel
theorem dX4_alikeIfJoined_82 : decode cX4_alikeIfJoined 82 = .ok (.aload_n 0, 1) := by decide +kernel
theorem dX4_alikeIfJoined_83 : decode cX4_alikeIfJoined 83 = .ok (.getfield 28, 3) := by decide +kernel
theorem dX4_alikeIfJoined_86 : decode cX4_alikeIfJoined 86 = .ok (.iconst 0, 1) := by decide +kernel
theorem dX4_alikeIfJoined_87 : decode cX4_alikeIfJoined 87 = .ok (.bipush 9, 2) := by decide +kernel
theorem dX4_alikeIfJoined_89 : decode cX4_alikeIfJoined 89 = .ok (.invokestatic 141, 3) := by decide +kernel
theorem dX4_alikeIfJoined_92 : decode cX4_alikeIfJoined 92 = .ok (.iload 4, 2) := by decide +kernel
theorem dX4_alikeIfJoined_94 : decode cX4_alikeIfJoined 94 = .ok (.ireturn, 1) := by decide +kernel
theorem dX4_meanSigns_0 : decode cX4_meanSigns 0 = .ok (.aload_n 0, 1) := by decide +kernel
theorem dX4_meanSigns_1 : decode cX4_meanSigns 1 = .ok (.iconst 0, 1) := by decide +kernel
theorem dX4_meanSigns_2 : decode cX4_meanSigns 2 = .ok (.putfield 31, 3) := by decide +kernel
theorem dX4_meanSigns_5 : decode cX4_meanSigns 5 = .ok (.iconst 0, 1) := by decide +kernel
theorem dX4_meanSigns_6 : decode cX4_meanSigns 6 = .ok (.istore_n 1, 1) := by decide +kernel
theorem dX4_meanSigns_7 : decode cX4_meanSigns 7 = .ok (.iconst 0, 1) := by decide +kernel
theorem dX4_meanSigns_8 : decode cX4_meanSigns 8 = .ok (.istore_n 2, 1) := by decide +kernel
theorem dX4_meanSigns_9 : decode cX4_meanSigns 9 = .ok (.iload_n 2, 1) := by decide +kernel
theorem dX4_meanSigns_10 : decode cX4_meanSigns 10 = .ok (.aload_n 0, 1) := by decide +kernel
theorem dX4_meanSigns_11 : decode cX4_meanSigns 11 = .ok (.getfield 35, 3) := by decide +kernel
theorem dX4_meanSigns_14 : decode cX4_meanSigns 14 = .ok (.if_icmp .ge 18, 3) := by decide +kernel
theorem dX4_meanSigns_17 : decode cX4_meanSigns 17 = .ok (.iload_n 1, 1) := by decide +kernel
theorem dX4_meanSigns_18 : decode cX4_meanSigns 18 = .ok (.aload_n 0, 1) := by decide +kernel
theorem dX4_meanSigns_19 : decode cX4_meanSigns 19 = .ok (.getfield 9, 3) := by decide +kernel
theorem dX4_meanSigns_22 : decode cX4_meanSigns 22 = .ok (.iload_n 2, 1) := by decide +kernel
theorem dX4_meanSigns_23 : decode cX4_meanSigns 23 = .ok (.iaload, 1) := by decide +kernel
theorem dX4_meanSigns_24 : decode cX4_meanSigns 24 = .ok (.iadd, 1) := by decide +kernel
theorem dX4_meanSigns_25 : decode cX4_meanSigns 25 = .ok (.istore_n 1, 1) := by decide +kernel
theorem dX4_meanSigns_26 : decode cX4_meanSigns 26 = .ok (.iinc 2 1, 3) := by decide +kernel
theorem dX4_meanSigns_29 : decode cX4_meanSigns 29 = .ok (.goto (-20), 3) := by decide +kernel
theorem dX4_meanSigns_32 : decode cX4_meanSigns 32 = .ok (.aload_n 0, 1) := by decide +kernel
theorem dX4_meanSigns_33 : decode cX4_meanSigns 33 = .ok (.getfield 35, 3) := by decide +kernel
theorem dX4_meanSigns_36 : decode cX4_meanSigns 36 = .ok (.ifCond .ne 7, 3) := by decide +kernel
theorem dX4_meanSigns_39 : decode cX4_meanSigns 39 = .ok (.dconst 0, 1) := by decide +kernel
theorem dX4_meanSigns_40 : decode cX4_meanSigns 40 = .ok (.goto 11, 3) := by decide +kernel
theorem dX4_meanSigns_43 : decode cX4_meanSigns 43 = .ok (.iload_n 1, 1) := by decide +kernel
theorem dX4_meanSigns_44 : decode cX4_meanSigns 44 = .ok (.i2d, 1) := by decide +kernel
theorem dX4_meanSigns_45 : decode cX4_meanSigns 45 = .ok (.aload_n 0, 1) := by decide +kernel
theorem dX4_meanSigns_46 : decode cX4_meanSigns 46 = .ok (.getfield 35, 3) := by decide +kernel
theorem dX4_meanSigns_49 : decode cX4_meanSigns 49 = .ok (.i2d, 1) := by decide +kernel
theorem dX4_meanSigns_50 : decode cX4_meanSigns 50 = .ok (.ddiv, 1) := by decide +kernel
theorem dX4_meanSigns_51 : decode cX4_meanSigns 51 = .ok (.dreturn, 1) := by decide +kernel
theorem dX4_digest_0 : decode cX4_digest 0 = .ok (.aload_n 0, 1) := by decide +kernel
theorem dX4_digest_1 : decode cX4_digest 1 = .ok (.iconst 0, 1) := by decide +kernel
theorem dX4_digest_2 : decode cX4_digest 2 = .ok (.putfield 31, 3) := by decide +kernel
theorem dX4_digest_5 : decode cX4_digest 5 = .ok (.ldc2_w 147, 3) := by decide +kernel
theorem dX4_digest_8 : decode cX4_digest 8 = .ok (.lstore_n 1, 1) := by decide +kernel
theorem dX4_digest_9 : decode cX4_digest 9 = .ok (.lload_n 1, 1) := by decide +kernel
theorem dX4_digest_10 : decode cX4_digest 10 = .ok (.ldc2_w 149, 3) := by decide +kernel
theorem dX4_digest_13 : decode cX4_digest 13 = .ok (.lmul, 1) := by decide +kernel
theorem dX4_digest_14 : decode cX4_digest 14 = .ok (.aload_n 0, 1) := by decide +kernel
theorem dX4_digest_15 : decode cX4_digest 15 = .ok (.getfield 35, 3) := by decide +kernel
theorem dX4_digest_18 : decode cX4_digest 18 = .ok (.i2l, 1) := by decide +kernel
theorem dX4_digest_19 : decode cX4_digest 19 = .ok (.ladd, 1) := by decide +kernel
theorem dX4_digest_20 : decode cX4_digest 20 = .ok (.lstore_n 1, 1) := by decide +kernel
theorem dX4_digest_21 : decode cX4_digest 21 = .ok (.lload_n 1, 1) := by decide +kernel
theorem dX4_digest_22 : decode cX4_digest 22 = .ok (.ldc2_w 149, 3) := by decide +kernel
theorem dX4_digest_25 : decode cX4_digest 25 = .ok (.lmul, 1) := by decide +kernel
theorem dX4_digest_26 : decode cX4_digest 26 = .ok (.aload_n 0, 1) := by decide +kernel
theorem dX4_digest_27 : decode cX4_digest 27 = .ok (.invokevirtual 105, 3) := by decide +kernel
theorem dX4_digest_30 : decode cX4_digest 30 = .ok (.i2l, 1) := by decide +kernel
theorem dX4_digest_31 : decode cX4_digest 31 = .ok (.ladd, 1) := by decide +kernel
theorem dX4_digest_32 : decode cX4_digest 32 = .ok (.lstore_n 1, 1) := by decide +kernel
theorem dX4_digest_33 : decode cX4_digest 33 = .ok (.iconst 0, 1) := by decide +kernel
theorem dX4_digest_34 : decode cX4_digest 34 = .ok (.istore_n 3, 1) := by decide +kernel
theorem dX4_digest_35 : decode cX4_digest 35 = .ok (.iload_n 3, 1) := by decide +kernel
theorem dX4_digest_36 : decode cX4_digest 36 = .ok (.aload_n 0, 1) := by decide +kernel
theorem dX4_digest_37 : decode cX4_digest 37 = .ok (.getfield 35, 3) := by decide +kernel
theorem dX4_digest_40 : decode cX4_digest 40 = .ok (.if_icmp .ge 287, 3) := by decide +kernel
theorem dX4_digest_43 : decode cX4_digest 43 = .ok (.iconst 5, 1) := by decide +kernel
theorem dX4_digest_44 : decode cX4_digest 44 = .ok (.newarray .int, 2) := by decide +kernel
theorem dX4_digest_46 : decode cX4_digest 46 = .ok (.dup, 1) := by decide +kernel
theorem dX4_digest_47 : decode cX4_digest 47 = .ok (.iconst 0, 1) := by decide +kernel
theorem dX4_digest_48 : decode cX4_digest 48 = .ok (.aload_n 0, 1) := by decide +kernel
theorem dX4_digest_49 : decode cX4_digest 49 = .ok (.getfield 9, 3) := by decide +kernel
theorem dX4_digest_52 : decode cX4_digest 52 = .ok (.iload_n 3, 1) := by decide +kernel
theorem dX4_digest_53 : decode cX4_digest 53 = .ok (.iaload, 1) := by decide +kernel
theorem dX4_digest_54 : decode cX4_digest 54 = .ok (.iastore, 1) := by decide +kernel
theorem dX4_digest_55 : decode cX4_digest 55 = .ok (.dup, 1) := by decide +kernel
theorem dX4_digest_56 : decode cX4_digest 56 = .ok (.iconst 1, 1) := by decide +kernel
theorem dX4_digest_57 : decode cX4_digest 57 = .ok (.aload_n 0, 1) := by decide +kernel
theorem dX4_digest_58 : decode cX4_digest 58 = .ok (.iload_n 3, 1) := by decide +kernel
theorem dX4_digest_59 : decode cX4_digest 59 = .ok (.invokevirtual 119, 3) := by decide +kernel
theorem dX4_digest_62 : decode cX4_digest 62 = .ok (.iastore, 1) := by decide +kernel
theorem dX4_digest_63 : decode cX4_digest 63 = .ok (.dup, 1) := by decide +kernel
theorem dX4_digest_64 : decode cX4_digest 64 = .ok (.iconst 2, 1) := by decide +kernel
theorem dX4_digest_65 : decode cX4_digest 65 = .ok (.aload_n 0, 1) := by decide +kernel
theorem dX4_digest_66 : decode cX4_digest 66 = .ok (.iload_n 3, 1) := by decide +kernel
theorem dX4_digest_67 : decode cX4_digest 67 = .ok (.invokevirtual 122, 3) := by decide +kernel
theorem dX4_digest_70 : decode cX4_digest 70 = .ok (.iastore, 1) := by decide +kernel
theorem dX4_digest_71 : decode cX4_digest 71 = .ok (.dup, 1) := by decide +kernel
theorem dX4_digest_72 : decode cX4_digest 72 = .ok (.iconst 3, 1) := by decide +kernel
theorem dX4_digest_73 : decode cX4_digest 73 = .ok (.aload_n 0, 1) := by decide +kernel
theorem dX4_digest_74 : decode cX4_digest 74 = .ok (.iload_n 3, 1) := by decide +kernel
theorem dX4_digest_75 : decode cX4_digest 75 = .ok (.invokevirtual 125, 3) := by decide +kernel
theorem dX4_digest_78 : decode cX4_digest 78 = .ok (.iastore, 1) := by decide +kernel
theorem dX4_digest_79 : decode cX4_digest 79 = .ok (.dup, 1) := by decide +kernel
theorem dX4_digest_80 : decode cX4_digest 80 = .ok (.iconst 4, 1) := by decide +kernel
theorem dX4_digest_81 : decode cX4_digest 81 = .ok (.aload_n 0, 1) := by decide +kernel
theorem dX4_digest_82 : decode cX4_digest 82 = .ok (.iload_n 3, 1) := by decide +kernel
theorem dX4_digest_83 : decode cX4_digest 83 = .ok (.invokevirtual 128, 3) := by decide +kernel
theorem dX4_digest_86 : decode cX4_digest 86 = .ok (.iastore, 1) := by decide +kernel
theorem dX4_digest_87 : decode cX4_digest 87 = .ok (.astore 4, 2) := by decide +kernel
theorem dX4_digest_89 : decode cX4_digest 89 = .ok (.aload 4, 2) := by decide +kernel
theorem dX4_digest_91 : decode cX4_digest 91 = .ok (.astore 5, 2) := by decide +kernel
theorem dX4_digest_93 : decode cX4_digest 93 = .ok (.aload 5, 2) := by decide +kernel
theorem dX4_digest_95 : decode cX4_digest 95 = .ok (.arraylength, 1) := by decide +kernel
theorem dX4_digest_96 : decode cX4_digest 96 = .ok (.istore 6, 2) := by decide +kernel
theorem dX4_digest_98 : decode cX4_digest 98 = .ok (.iconst 0, 1) := by decide +kernel
theorem dX4_digest_99 : decode cX4_digest 99 = .ok (.istore 7, 2) := by decide +kernel
theorem dX4_digest_101 : decode cX4_digest 101 = .ok (.iload 7, 2) := by decide +kernel
theorem dX4_digest_103 : decode cX4_digest 103 = .ok (.iload 6, 2) := by decide +kernel
theorem dX4_digest_105 : decode cX4_digest 105 = .ok (.if_icmp .ge 26, 3) := by decide +kernel
theorem dX4_digest_108 : decode cX4_digest 108 = .ok (.aload 5, 2) := by decide +kernel
theorem dX4_digest_110 : decode cX4_digest 110 = .ok (.iload 7, 2) := by decide +kernel
theorem dX4_digest_112 : decode cX4_digest 112 = .ok (.iaload, 1) := by decide +kernel
theorem dX4_digest_113 : decode cX4_digest 113 = .ok (.istore 8, 2) := by decide +kernel
theorem dX4_digest_115 : decode cX4_digest 115 = .ok (.lload_n 1, 1) := by decide +kernel
theorem dX4_digest_116 : decode cX4_digest 116 = .ok (.ldc2_w 149, 3) := by decide +kernel
theorem dX4_digest_119 : decode cX4_digest 119 = .ok (.lmul, 1) := by decide +kernel
theorem dX4_digest_120 : decode cX4_digest 120 = .ok (.iload 8, 2) := by decide +kernel
theorem dX4_digest_122 : decode cX4_digest 122 = .ok (.i2l, 1) := by decide +kernel
theorem dX4_digest_123 : decode cX4_digest 123 = .ok (.ladd, 1) := by decide +kernel
theorem dX4_digest_124 : decode cX4_digest 124 = .ok (.lstore_n 1, 1) := by decide +kernel
theorem dX4_digest_125 : decode cX4_digest 125 = .ok (.iinc 7 1, 3) := by decide +kernel
theorem dX4_digest_128 : decode cX4_digest 128 = .ok (.goto (-27), 3) := by decide +kernel
theorem dX4_digest_131 : decode cX4_digest 131 = .ok (.iconst 0, 1) := by decide +kernel
theorem dX4_digest_132 : decode cX4_digest 132 = .ok (.istore 5, 2) := by decide +kernel
theorem dX4_digest_134 : decode cX4_digest 134 = .ok (.iload 5, 2) := by decide +kernel
theorem dX4_digest_136 : decode cX4_digest 136 = .ok (.aload_n 0, 1) := by decide +kernel
theorem dX4_digest_137 : decode cX4_digest 137 = .ok (.getfield 35, 3) := by decide +kernel
theorem dX4_digest_140 : decode cX4_digest 140 = .ok (.if_icmp .ge 56, 3) := by decide +kernel
theorem dX4_digest_143 : decode cX4_digest 143 = .ok (.lload_n 1, 1) := by decide +kernel
theorem dX4_digest_144 : decode cX4_digest 144 = .ok (.ldc2_w 149, 3) := by decide +kernel
theorem dX4_digest_147 : decode cX4_digest 147 = .ok (.lmul, 1) := by decide +kernel
theorem dX4_digest_148 : decode cX4_digest 148 = .ok (.aload_n 0, 1) := by decide +kernel
theorem dX4_digest_149 : decode cX4_digest 149 = .ok (.iload_n 3, 1) := by decide +kernel
theorem dX4_digest_150 : decode cX4_digest 150 = .ok (.iload 5, 2) := by decide +kernel
theorem dX4_digest_152 : decode cX4_digest 152 = .ok (.iconst 1, 1) := by decide +kernel
theorem dX4_digest_153 : decode cX4_digest 153 = .ok (.invokevirtual 131, 3) := by decide +kernel
theorem dX4_digest_156 : decode cX4_digest 156 = .ok (.i2l, 1) := by decide +kernel
theorem dX4_digest_157 : decode cX4_digest 157 = .ok (.ladd, 1) := by decide +kernel
theorem dX4_digest_158 : decode cX4_digest 158 = .ok (.lstore_n 1, 1) := by decide +kernel
theorem dX4_digest_159 : decode cX4_digest 159 = .ok (.lload_n 1, 1) := by decide +kernel
theorem dX4_digest_160 : decode cX4_digest 160 = .ok (.ldc2_w 149, 3) := by decide +kernel
theorem dX4_digest_163 : decode cX4_digest 163 = .ok (.lmul, 1) := by decide +kernel
theorem dX4_digest_164 : decode cX4_digest 164 = .ok (.aload_n 0, 1) := by decide +kernel
theorem dX4_digest_165 : decode cX4_digest 165 = .ok (.iload_n 3, 1) := by decide +kernel
theorem dX4_digest_166 : decode cX4_digest 166 = .ok (.iload 5, 2) := by decide +kernel
theorem dX4_digest_168 : decode cX4_digest 168 = .ok (.iconst 0, 1) := by decide +kernel
theorem dX4_digest_169 : decode cX4_digest 169 = .ok (.invokevirtual 131, 3) := by decide +kernel
theorem dX4_digest_172 : decode cX4_digest 172 = .ok (.i2l, 1) := by decide +kernel
theorem dX4_digest_173 : decode cX4_digest 173 = .ok (.ladd, 1) := by decide +kernel
theorem dX4_digest_174 : decode cX4_digest 174 = .ok (.lstore_n 1, 1) := by decide +kernel
theorem dX4_digest_175 : decode cX4_digest 175 = .ok (.lload_n 1, 1) := by decide +kernel
theorem dX4_digest_176 : decode cX4_digest 176 = .ok (.ldc2_w 149, 3) := by decide +kernel
theorem dX4_digest_179 : decode cX4_digest 179 = .ok (.lmul, 1) := by decide +kernel
theorem dX4_digest_180 : decode cX4_digest 180 = .ok (.aload_n 0, 1) := by decide +kernel
theorem dX4_digest_181 : decode cX4_digest 181 = .ok (.iload_n 3, 1) := by decide +kernel
theorem dX4_digest_182 : decode cX4_digest 182 = .ok (.iload 5, 2) := by decide +kernel
theorem dX4_digest_184 : decode cX4_digest 184 = .ok (.invokevirtual 138, 3) := by decide +kernel
theorem dX4_digest_187 : decode cX4_digest 187 = .ok (.i2l, 1) := by decide +kernel
theorem dX4_digest_188 : decode cX4_digest 188 = .ok (.ladd, 1) := by decide +kernel
theorem dX4_digest_189 : decode cX4_digest 189 = .ok (.lstore_n 1, 1) := by decide +kernel
theorem dX4_digest_190 : decode cX4_digest 190 = .ok (.iinc 5 1, 3) := by decide +kernel
theorem dX4_digest_193 : decode cX4_digest 193 = .ok (.goto (-59), 3) := by decide +kernel
theorem dX4_digest_196 : decode cX4_digest 196 = .ok (.iconst 0, 1) := by decide +kernel
theorem dX4_digest_197 : decode cX4_digest 197 = .ok (.istore 5, 2) := by decide +kernel
theorem dX4_digest_199 : decode cX4_digest 199 = .ok (.iload 5, 2) := by decide +kernel
theorem dX4_digest_201 : decode cX4_digest 201 = .ok (.aload_n 0, 1) := by decide +kernel
theorem dX4_digest_202 : decode cX4_digest 202 = .ok (.getfield 9, 3) := by decide +kernel
theorem dX4_digest_205 : decode cX4_digest 205 = .ok (.iload_n 3, 1) := by decide +kernel
theorem dX4_digest_206 : decode cX4_digest 206 = .ok (.iaload, 1) := by decide +kernel
theorem dX4_digest_207 : decode cX4_digest 207 = .ok (.if_icmp .ge 114, 3) := by decide +kernel
theorem dX4_digest_210 : decode cX4_digest 210 = .ok (.iload_n 3, 1) := by decide +kernel
theorem dX4_digest_211 : decode cX4_digest 211 = .ok (.iload 5, 2) := by decide +kernel
theorem dX4_digest_213 : decode cX4_digest 213 = .ok (.invokestatic 63, 3) := by decide +kernel
theorem dX4_digest_216 : decode cX4_digest 216 = .ok (.istore 6, 2) := by decide +kernel
theorem dX4_digest_218 : decode cX4_digest 218 = .ok (.iconst 5, 1) := by decide +kernel
theorem dX4_digest_219 : decode cX4_digest 219 = .ok (.newarray .int, 2) := by decide +kernel
theorem dX4_digest_221 : decode cX4_digest 221 = .ok (.dup, 1) := by decide +kernel
theorem dX4_digest_222 : decode cX4_digest 222 = .ok (.iconst 0, 1) := by decide +kernel
theorem dX4_digest_223 : decode cX4_digest 223 = .ok (.aload_n 0, 1) := by decide +kernel
theorem dX4_digest_224 : decode cX4_digest 224 = .ok (.getfield 13, 3) := by decide +kernel
theorem dX4_digest_227 : decode cX4_digest 227 = .ok (.iload 6, 2) := by decide +kernel
theorem dX4_digest_229 : decode cX4_digest 229 = .ok (.iaload, 1) := by decide +kernel
theorem dX4_digest_230 : decode cX4_digest 230 = .ok (.iastore, 1) := by decide +kernel
theorem dX4_digest_231 : decode cX4_digest 231 = .ok (.dup, 1) := by decide +kernel
theorem dX4_digest_232 : decode cX4_digest 232 = .ok (.iconst 1, 1) := by decide +kernel
theorem dX4_digest_233 : decode cX4_digest 233 = .ok (.aload_n 0, 1) := by decide +kernel
theorem dX4_digest_234 : decode cX4_digest 234 = .ok (.getfield 16, 3) := by decide +kernel
theorem dX4_digest_237 : decode cX4_digest 237 = .ok (.iload 6, 2) := by decide +kernel
theorem dX4_digest_239 : decode cX4_digest 239 = .ok (.iaload, 1) := by decide +kernel
theorem dX4_digest_240 : decode cX4_digest 240 = .ok (.iastore, 1) := by decide +kernel
theorem dX4_digest_241 : decode cX4_digest 241 = .ok (.dup, 1) := by decide +kernel
theorem dX4_digest_242 : decode cX4_digest 242 = .ok (.iconst 2, 1) := by decide +kernel
theorem dX4_digest_243 : decode cX4_digest 243 = .ok (.aload_n 0, 1) := by decide +kernel
theorem dX4_digest_244 : decode cX4_digest 244 = .ok (.getfield 19, 3) := by decide +kernel
theorem dX4_digest_247 : decode cX4_digest 247 = .ok (.iload 6, 2) := by decide +kernel
theorem dX4_digest_249 : decode cX4_digest 249 = .ok (.iaload, 1) := by decide +kernel
theorem dX4_digest_250 : decode cX4_digest 250 = .ok (.iastore, 1) := by decide +kernel
theorem dX4_digest_251 : decode cX4_digest 251 = .ok (.dup, 1) := by decide +kernel
theorem dX4_digest_252 : decode cX4_digest 252 = .ok (.iconst 3, 1) := by decide +kernel
theorem dX4_digest_253 : decode cX4_digest 253 = .ok (.aload_n 0, 1) := by decide +kernel
theorem dX4_digest_254 : decode cX4_digest 254 = .ok (.getfield 25, 3) := by decide +kernel
theorem dX4_digest_257 : decode cX4_digest 257 = .ok (.iload 6, 2) := by decide +kernel
theorem dX4_digest_259 : decode cX4_digest 259 = .ok (.iaload, 1) := by decide +kernel
theorem dX4_digest_260 : decode cX4_digest 260 = .ok (.iastore, 1) := by decide +kernel
theorem dX4_digest_261 : decode cX4_digest 261 = .ok (.dup, 1) := by decide +kernel
theorem dX4_digest_262 : decode cX4_digest 262 = .ok (.iconst 4, 1) := by decide +kernel
theorem dX4_digest_263 : decode cX4_digest 263 = .ok (.aload_n 0, 1) := by decide +kernel
theorem dX4_digest_264 : decode cX4_digest 264 = .ok (.iload_n 3, 1) := by decide +kernel
theorem dX4_digest_265 : decode cX4_digest 265 = .ok (.iload 5, 2) := by decide +kernel
theorem dX4_digest_267 : decode cX4_digest 267 = .ok (.invokevirtual 135, 3) := by decide +kernel
theorem dX4_digest_270 : decode cX4_digest 270 = .ok (.iastore, 1) := by decide +kernel
theorem dX4_digest_271 : decode cX4_digest 271 = .ok (.astore 7, 2) := by decide +kernel
theorem dX4_digest_273 : decode cX4_digest 273 = .ok (.aload 7, 2) := by decide +kernel
theorem dX4_digest_275 : decode cX4_digest 275 = .ok (.astore 8, 2) := by decide +kernel
theorem dX4_digest_277 : decode cX4_digest 277 = .ok (.aload 8, 2) := by decide +kernel
theorem dX4_digest_279 : decode cX4_digest 279 = .ok (.arraylength, 1) := by decide +kernel
theorem dX4_digest_280 : decode cX4_digest 280 = .ok (.istore 9, 2) := by decide +kernel
theorem dX4_digest_282 : decode cX4_digest 282 = .ok (.iconst 0, 1) := by decide +kernel
theorem dX4_digest_283 : decode cX4_digest 283 = .ok (.istore 10, 2) := by decide +kernel
theorem dX4_digest_285 : decode cX4_digest 285 = .ok (.iload 10, 2) := by decide +kernel
theorem dX4_digest_287 : decode cX4_digest 287 = .ok (.iload 9, 2) := by decide +kernel
theorem dX4_digest_289 : decode cX4_digest 289 = .ok (.if_icmp .ge 26, 3) := by decide +kernel
theorem dX4_digest_292 : decode cX4_digest 292 = .ok (.aload 8, 2) := by decide +kernel
theorem dX4_digest_294 : decode cX4_digest 294 = .ok (.iload 10, 2) := by decide +kernel
theorem dX4_digest_296 : decode cX4_digest 296 = .ok (.iaload, 1) := by decide +kernel
theorem dX4_digest_297 : decode cX4_digest 297 = .ok (.istore 11, 2) := by decide +kernel
theorem dX4_digest_299 : decode cX4_digest 299 = .ok (.lload_n 1, 1) := by decide +kernel
theorem dX4_digest_300 : decode cX4_digest 300 = .ok (.ldc2_w 149, 3) := by decide +kernel
theorem dX4_digest_303 : decode cX4_digest 303 = .ok (.lmul, 1) := by decide +kernel
theorem dX4_digest_304 : decode cX4_digest 304 = .ok (.iload 11, 2) := by decide +kernel
theorem dX4_digest_306 : decode cX4_digest 306 = .ok (.i2l, 1) := by decide +kernel
theorem dX4_digest_307 : decode cX4_digest 307 = .ok (.ladd, 1) := by decide +kernel
theorem dX4_digest_308 : decode cX4_digest 308 = .ok (.lstore_n 1, 1) := by decide +kernel
theorem dX4_digest_309 : decode cX4_digest 309 = .ok (.iinc 10 1, 3) := by decide +kernel
theorem dX4_digest_312 : decode cX4_digest 312 = .ok (.goto (-27), 3) := by decide +kernel
theorem dX4_digest_315 : decode cX4_digest 315 = .ok (.iinc 5 1, 3) := by decide +kernel
theorem dX4_digest_318 : decode cX4_digest 318 = .ok (.goto (-119), 3) := by decide +kernel
theorem dX4_digest_321 : decode cX4_digest 321 = .ok (.iinc 3 1, 3) := by decide +kernel
theorem dX4_digest_324 : decode cX4_digest 324 = .ok (.goto (-289), 3) := by decide +kernel
theorem dX4_digest_327 : decode cX4_digest 327 = .ok (.lload_n 1, 1) := by decide +kernel
theorem dX4_digest_328 : decode cX4_digest 328 = .ok (.lreturn, 1) := by decide +kernel
