theorem dX4_init_0 : decode cX4_init 0 = .ok (.aload_n 0, 1) := by decide +kernel
theorem dX4_init_1 : decode cX4_init 1 = .ok (.invokespecial 1, 3) := by decide +kernel
theorem dX4_init_4 : decode cX4_init 4 = .ok (.aload_n 0, 1) := by decide +kernel
theorem dX4_init_5 : decode cX4_init 5 = .ok (.iconst 0, 1) := by decide +kernel
theorem dX4_init_6 : decode cX4_init 6 = .ok (.anewarray 7, 3) := by decide +kernel
theorem dX4_init_9 : decode cX4_init 9 = .ok (.putfield 9, 3) := by decide +kernel
theorem dX4_init_12 : decode cX4_init 12 = .ok (.aload_n 0, 1) := by decide +kernel
theorem dX4_init_13 : decode cX4_init 13 = .ok (.bipush 9, 2) := by decide +kernel
theorem dX4_init_15 : decode cX4_init 15 = .ok (.bipush 9, 2) := by decide +kernel
theorem dX4_init_17 : decode cX4_init 17 = .ok (.multianewarray 15 2, 4) := by decide +kernel
theorem dX4_init_21 : decode cX4_init 21 = .ok (.putfield 17, 3) := by decide +kernel
theorem dX4_init_24 : decode cX4_init 24 = .ok (.iconst 0, 1) := by decide +kernel
theorem dX4_init_25 : decode cX4_init 25 = .ok (.istore_n 1, 1) := by decide +kernel
theorem dX4_init_26 : decode cX4_init 26 = .ok (.iload_n 1, 1) := by decide +kernel
theorem dX4_init_27 : decode cX4_init 27 = .ok (.bipush 9, 2) := by decide +kernel
theorem dX4_init_29 : decode cX4_init 29 = .ok (.if_icmp .ge 18, 3) := by decide +kernel
theorem dX4_init_32 : decode cX4_init 32 = .ok (.aload_n 0, 1) := by decide +kernel
theorem dX4_init_33 : decode cX4_init 33 = .ok (.getfield 17, 3) := by decide +kernel
theorem dX4_init_36 : decode cX4_init 36 = .ok (.iload_n 1, 1) := by decide +kernel
theorem dX4_init_37 : decode cX4_init 37 = .ok (.aaload, 1) := by decide +kernel
theorem dX4_init_38 : decode cX4_init 38 = .ok (.iload_n 1, 1) := by decide +kernel
theorem dX4_init_39 : decode cX4_init 39 = .ok (.iconst 1, 1) := by decide +kernel
theorem dX4_init_40 : decode cX4_init 40 = .ok (.bastore, 1) := by decide +kernel
theorem dX4_init_41 : decode cX4_init 41 = .ok (.iinc 1 1, 3) := by decide +kernel
theorem dX4_init_44 : decode cX4_init 44 = .ok (.goto (-18), 3) := by decide +kernel
theorem dX4_init_47 : decode cX4_init 47 = .ok (.return_, 1) := by decide +kernel
theorem dX4_addLodge_0 : decode cX4_addLodge 0 = .ok (.aload_n 0, 1) := by decide +kernel
theorem dX4_addLodge_1 : decode cX4_addLodge 1 = .ok (.getfield 9, 3) := by decide +kernel
theorem dX4_addLodge_4 : decode cX4_addLodge 4 = .ok (.arraylength, 1) := by decide +kernel
theorem dX4_addLodge_5 : decode cX4_addLodge 5 = .ok (.iconst 1, 1) := by decide +kernel
theorem dX4_addLodge_6 : decode cX4_addLodge 6 = .ok (.iadd, 1) := by decide +kernel
theorem dX4_addLodge_7 : decode cX4_addLodge 7 = .ok (.anewarray 7, 3) := by decide +kernel
theorem dX4_addLodge_10 : decode cX4_addLodge 10 = .ok (.astore_n 1, 1) := by decide +kernel
theorem dX4_addLodge_11 : decode cX4_addLodge 11 = .ok (.iconst 0, 1) := by decide +kernel
theorem dX4_addLodge_12 : decode cX4_addLodge 12 = .ok (.istore_n 2, 1) := by decide +kernel
theorem dX4_addLodge_13 : decode cX4_addLodge 13 = .ok (.iload_n 2, 1) := by decide +kernel
theorem dX4_addLodge_14 : decode cX4_addLodge 14 = .ok (.aload_n 0, 1) := by decide +kernel
theorem dX4_addLodge_15 : decode cX4_addLodge 15 = .ok (.getfield 9, 3) := by decide +kernel
theorem dX4_addLodge_18 : decode cX4_addLodge 18 = .ok (.arraylength, 1) := by decide +kernel
theorem dX4_addLodge_19 : decode cX4_addLodge 19 = .ok (.if_icmp .ge 18, 3) := by decide +kernel
theorem dX4_addLodge_22 : decode cX4_addLodge 22 = .ok (.aload_n 1, 1) := by decide +kernel
theorem dX4_addLodge_23 : decode cX4_addLodge 23 = .ok (.iload_n 2, 1) := by decide +kernel
theorem dX4_addLodge_24 : decode cX4_addLodge 24 = .ok (.aload_n 0, 1) := by decide +kernel
theorem dX4_addLodge_25 : decode cX4_addLodge 25 = .ok (.getfield 9, 3) := by decide +kernel
theorem dX4_addLodge_28 : decode cX4_addLodge 28 = .ok (.iload_n 2, 1) := by decide +kernel
theorem dX4_addLodge_29 : decode cX4_addLodge 29 = .ok (.aaload, 1) := by decide +kernel
theorem dX4_addLodge_30 : decode cX4_addLodge 30 = .ok (.aastore, 1) := by decide +kernel
theorem dX4_addLodge_31 : decode cX4_addLodge 31 = .ok (.iinc 2 1, 3) := by decide +kernel
theorem dX4_addLodge_34 : decode cX4_addLodge 34 = .ok (.goto (-21), 3) := by decide +kernel
theorem dX4_addLodge_37 : decode cX4_addLodge 37 = .ok (.aload_n 1, 1) := by decide +kernel
theorem dX4_addLodge_38 : decode cX4_addLodge 38 = .ok (.aload_n 0, 1) := by decide +kernel
theorem dX4_addLodge_39 : decode cX4_addLodge 39 = .ok (.getfield 9, 3) := by decide +kernel
theorem dX4_addLodge_42 : decode cX4_addLodge 42 = .ok (.arraylength, 1) := by decide +kernel
theorem dX4_addLodge_43 : decode cX4_addLodge 43 = .ok (.iconst 0, 1) := by decide +kernel
theorem dX4_addLodge_44 : decode cX4_addLodge 44 = .ok (.anewarray 20, 3) := by decide +kernel
theorem dX4_addLodge_47 : decode cX4_addLodge 47 = .ok (.aastore, 1) := by decide +kernel
theorem dX4_addLodge_48 : decode cX4_addLodge 48 = .ok (.aload_n 0, 1) := by decide +kernel
theorem dX4_addLodge_49 : decode cX4_addLodge 49 = .ok (.aload_n 1, 1) := by decide +kernel
theorem dX4_addLodge_50 : decode cX4_addLodge 50 = .ok (.putfield 9, 3) := by decide +kernel
theorem dX4_addLodge_53 : decode cX4_addLodge 53 = .ok (.return_, 1) := by decide +kernel
theorem dX4_add_0 : decode cX4_add 0 = .ok (.aload_n 0, 1) := by decide +kernel
theorem dX4_add_1 : decode cX4_add 1 = .ok (.getfield 9, 3) := by decide +kernel
theorem dX4_add_4 : decode cX4_add 4 = .ok (.iload_n 1, 1) := by decide +kernel
theorem dX4_add_5 : decode cX4_add 5 = .ok (.aaload, 1) := by decide +kernel
theorem dX4_add_6 : decode cX4_add 6 = .ok (.arraylength, 1) := by decide +kernel
theorem dX4_add_7 : decode cX4_add 7 = .ok (.iconst 1, 1) := by decide +kernel
theorem dX4_add_8 : decode cX4_add 8 = .ok (.iadd, 1) := by decide +kernel
theorem dX4_add_9 : decode cX4_add 9 = .ok (.anewarray 20, 3) := by decide +kernel
theorem dX4_add_12 : decode cX4_add 12 = .ok (.astore_n 3, 1) := by decide +kernel
theorem dX4_add_13 : decode cX4_add 13 = .ok (.iconst 0, 1) := by decide +kernel
theorem dX4_add_14 : decode cX4_add 14 = .ok (.istore 4, 2) := by decide +kernel
theorem dX4_add_16 : decode cX4_add 16 = .ok (.iload 4, 2) := by decide +kernel
theorem dX4_add_18 : decode cX4_add 18 = .ok (.aload_n 0, 1) := by decide +kernel
theorem dX4_add_19 : decode cX4_add 19 = .ok (.getfield 9, 3) := by decide +kernel
theorem dX4_add_22 : decode cX4_add 22 = .ok (.iload_n 1, 1) := by decide +kernel
theorem dX4_add_23 : decode cX4_add 23 = .ok (.aaload, 1) := by decide +kernel
theorem dX4_add_24 : decode cX4_add 24 = .ok (.arraylength, 1) := by decide +kernel
theorem dX4_add_25 : decode cX4_add 25 = .ok (.if_icmp .ge 22, 3) := by decide +kernel
theorem dX4_add_28 : decode cX4_add 28 = .ok (.aload_n 3, 1) := by decide +kernel
theorem dX4_add_29 : decode cX4_add 29 = .ok (.iload 4, 2) := by decide +kernel
theorem dX4_add_31 : decode cX4_add 31 = .ok (.aload_n 0, 1) := by decide +kernel
theorem dX4_add_32 : decode cX4_add 32 = .ok (.getfield 9, 3) := by decide +kernel
theorem dX4_add_35 : decode cX4_add 35 = .ok (.iload_n 1, 1) := by decide +kernel
theorem dX4_add_36 : decode cX4_add 36 = .ok (.aaload, 1) := by decide +kernel
theorem dX4_add_37 : decode cX4_add 37 = .ok (.iload 4, 2) := by decide +kernel
theorem dX4_add_39 : decode cX4_add 39 = .ok (.aaload, 1) := by decide +kernel
theorem dX4_add_40 : decode cX4_add 40 = .ok (.aastore, 1) := by decide +kernel
theorem dX4_add_41 : decode cX4_add 41 = .ok (.iinc 4 1, 3) := by decide +kernel
theorem dX4_add_44 : decode cX4_add 44 = .ok (.goto (-28), 3) := by decide +kernel
theorem dX4_add_47 : decode cX4_add 47 = .ok (.aload_n 3, 1) := by decide +kernel
theorem dX4_add_48 : decode cX4_add 48 = .ok (.aload_n 0, 1) := by decide +kernel
theorem dX4_add_49 : decode cX4_add 49 = .ok (.getfield 9, 3) := by decide +kernel
theorem dX4_add_52 : decode cX4_add 52 = .ok (.iload_n 1, 1) := by decide +kernel
theorem dX4_add_53 : decode cX4_add 53 = .ok (.aaload, 1) := by decide +kernel
theorem dX4_add_54 : decode cX4_add 54 = .ok (.arraylength, 1) := by decide +kernel
theorem dX4_add_55 : decode cX4_add 55 = .ok (.aload_n 2, 1) := by decide +kernel
theorem dX4_add_56 : decode cX4_add 56 = .ok (.aastore, 1) := by decide +kernel
theorem dX4_add_57 : decode cX4_add 57 = .ok (.aload_n 0, 1) := by decide +kernel
theorem dX4_add_58 : decode cX4_add 58 = .ok (.getfield 9, 3) := by decide +kernel
theorem dX4_add_61 : decode cX4_add 61 = .ok (.iload_n 1, 1) := by decide +kernel
theorem dX4_add_62 : decode cX4_add 62 = .ok (.aload_n 3, 1) := by decide +kernel
theorem dX4_add_63 : decode cX4_add 63 = .ok (.aastore, 1) := by decide +kernel
theorem dX4_add_64 : decode cX4_add 64 = .ok (.return_, 1) := by decide +kernel
theorem dX4_remove_0 : decode cX4_remove 0 = .ok (.aload_n 0, 1) := by decide +kernel
theorem dX4_remove_1 : decode cX4_remove 1 = .ok (.getfield 9, 3) := by decide +kernel
theorem dX4_remove_4 : decode cX4_remove 4 = .ok (.iload_n 1, 1) := by decide +kernel
theorem dX4_remove_5 : decode cX4_remove 5 = .ok (.aaload, 1) := by decide +kernel
theorem dX4_remove_6 : decode cX4_remove 6 = .ok (.arraylength, 1) := by decide +kernel
theorem dX4_remove_7 : decode cX4_remove 7 = .ok (.iconst 1, 1) := by decide +kernel
theorem dX4_remove_8 : decode cX4_remove 8 = .ok (.isub, 1) := by decide +kernel
theorem dX4_remove_9 : decode cX4_remove 9 = .ok (.anewarray 20, 3) := by decide +kernel
theorem dX4_remove_12 : decode cX4_remove 12 = .ok (.astore_n 3, 1) := by decide +kernel
theorem dX4_remove_13 : decode cX4_remove 13 = .ok (.iconst 0, 1) := by decide +kernel
theorem dX4_remove_14 : decode cX4_remove 14 = .ok (.istore 4, 2) := by decide +kernel
theorem dX4_remove_16 : decode cX4_remove 16 = .ok (.iload 4, 2) := by decide +kernel
theorem dX4_remove_18 : decode cX4_remove 18 = .ok (.aload_n 3, 1) := by decide +kernel
theorem dX4_remove_19 : decode cX4_remove 19 = .ok (.arraylength, 1) := by decide +kernel
theorem dX4_remove_20 : decode cX4_remove 20 = .ok (.if_icmp .ge 35, 3) := by decide +kernel
theorem dX4_remove_23 : decode cX4_remove 23 = .ok (.aload_n 3, 1) := by decide +kernel
theorem dX4_remove_24 : decode cX4_remove 24 = .ok (.iload 4, 2) := by decide +kernel
theorem dX4_remove_26 : decode cX4_remove 26 = .ok (.aload_n 0, 1) := by decide +kernel
theorem dX4_remove_27 : decode cX4_remove 27 = .ok (.getfield 9, 3) := by decide +kernel
theorem dX4_remove_30 : decode cX4_remove 30 = .ok (.iload_n 1, 1) := by decide +kernel
theorem dX4_remove_31 : decode cX4_remove 31 = .ok (.aaload, 1) := by decide +kernel
theorem dX4_remove_32 : decode cX4_remove 32 = .ok (.iload 4, 2) := by decide +kernel
theorem dX4_remove_34 : decode cX4_remove 34 = .ok (.iload_n 2, 1) := by decide +kernel
theorem dX4_remove_35 : decode cX4_remove 35 = .ok (.if_icmp .ge 8, 3) := by decide +kernel
theorem dX4_remove_38 : decode cX4_remove 38 = .ok (.iload 4, 2) := by decide +kernel
theorem dX4_remove_40 : decode cX4_remove 40 = .ok (.goto 7, 3) := by decide +kernel
theorem dX4_remove_43 : decode cX4_remove 43 = .ok (.iload 4, 2) := by decide +kernel
theorem dX4_remove_45 : decode cX4_remove 45 = .ok (.iconst 1, 1) := by decide +kernel
theorem dX4_remove_46 : decode cX4_remove 46 = .ok (.iadd, 1) := by decide +kernel
theorem dX4_remove_47 : decode cX4_remove 47 = .ok (.aaload, 1) := by decide +kernel
theorem dX4_remove_48 : decode cX4_remove 48 = .ok (.aastore, 1) := by decide +kernel
theorem dX4_remove_49 : decode cX4_remove 49 = .ok (.iinc 4 1, 3) := by decide +kernel
theorem dX4_remove_52 : decode cX4_remove 52 = .ok (.goto (-36), 3) := by decide +kernel
theorem dX4_remove_55 : decode cX4_remove 55 = .ok (.aload_n 0, 1) := by decide +kernel
theorem dX4_remove_56 : decode cX4_remove 56 = .ok (.getfield 9, 3) := by decide +kernel
theorem dX4_remove_59 : decode cX4_remove 59 = .ok (.iload_n 1, 1) := by decide +kernel
theorem dX4_remove_60 : decode cX4_remove 60 = .ok (.aload_n 3, 1) := by decide +kernel
theorem dX4_remove_61 : decode cX4_remove 61 = .ok (.aastore, 1) := by decide +kernel
theorem dX4_remove_62 : decode cX4_remove 62 = .ok (.return_, 1) := by decide +kernel
theorem dX4_join_0 : decode cX4_join 0 = .ok (.bipush 9, 2) := by decide +kernel
theorem dX4_join_2 : decode cX4_join 2 = .ok (.bipush 9, 2) := by decide +kernel
theorem dX4_join_4 : decode cX4_join 4 = .ok (.multianewarray 15 2, 4) := by decide +kernel
theorem dX4_join_8 : decode cX4_join 8 = .ok (.astore_n 3, 1) := by decide +kernel
theorem dX4_join_9 : decode cX4_join 9 = .ok (.iconst 0, 1) := by decide +kernel
theorem dX4_join_10 : decode cX4_join 10 = .ok (.istore 4, 2) := by decide +kernel
theorem dX4_join_12 : decode cX4_join 12 = .ok (.iload 4, 2) := by decide +kernel
theorem dX4_join_14 : decode cX4_join 14 = .ok (.bipush 9, 2) := by decide +kernel
theorem dX4_join_16 : decode cX4_join 16 = .ok (.if_icmp .ge 98, 3) := by decide +kernel
theorem dX4_join_19 : decode cX4_join 19 = .ok (.iconst 0, 1) := by decide +kernel
theorem dX4_join_20 : decode cX4_join 20 = .ok (.istore 5, 2) := by decide +kernel
theorem dX4_join_22 : decode cX4_join 22 = .ok (.iload 5, 2) := by decide +kernel
theorem dX4_join_24 : decode cX4_join 24 = .ok (.bipush 9, 2) := by decide +kernel
theorem dX4_join_26 : decode cX4_join 26 = .ok (.if_icmp .ge 82, 3) := by decide +kernel
theorem dX4_join_29 : decode cX4_join 29 = .ok (.aload_n 3, 1) := by decide +kernel
theorem dX4_join_30 : decode cX4_join 30 = .ok (.iload 4, 2) := by decide +kernel
theorem dX4_join_32 : decode cX4_join 32 = .ok (.aaload, 1) := by decide +kernel
theorem dX4_join_33 : decode cX4_join 33 = .ok (.iload 5, 2) := by decide +kernel
theorem dX4_join_35 : decode cX4_join 35 = .ok (.aload_n 0, 1) := by decide +kernel
theorem dX4_join_36 : decode cX4_join 36 = .ok (.getfield 17, 3) := by decide +kernel
theorem dX4_join_39 : decode cX4_join 39 = .ok (.iload 4, 2) := by decide +kernel
theorem dX4_join_41 : decode cX4_join 41 = .ok (.aaload, 1) := by decide +kernel
theorem dX4_join_42 : decode cX4_join 42 = .ok (.iload 5, 2) := by decide +kernel
theorem dX4_join_44 : decode cX4_join 44 = .ok (.baload, 1) := by decide +kernel
theorem dX4_join_45 : decode cX4_join 45 = .ok (.ifCond .ne 51, 3) := by decide +kernel
theorem dX4_join_48 : decode cX4_join 48 = .ok (.aload_n 0, 1) := by decide +kernel
theorem dX4_join_49 : decode cX4_join 49 = .ok (.getfield 17, 3) := by decide +kernel
theorem dX4_join_52 : decode cX4_join 52 = .ok (.iload 4, 2) := by decide +kernel
theorem dX4_join_54 : decode cX4_join 54 = .ok (.aaload, 1) := by decide +kernel
theorem dX4_join_55 : decode cX4_join 55 = .ok (.iload_n 1, 1) := by decide +kernel
theorem dX4_join_56 : decode cX4_join 56 = .ok (.baload, 1) := by decide +kernel
theorem dX4_join_57 : decode cX4_join 57 = .ok (.ifCond .eq 15, 3) := by decide +kernel
theorem dX4_join_60 : decode cX4_join 60 = .ok (.aload_n 0, 1) := by decide +kernel
theorem dX4_join_61 : decode cX4_join 61 = .ok (.getfield 17, 3) := by decide +kernel
theorem dX4_join_64 : decode cX4_join 64 = .ok (.iload_n 2, 1) := by decide +kernel
theorem dX4_join_65 : decode cX4_join 65 = .ok (.aaload, 1) := by decide +kernel
theorem dX4_join_66 : decode cX4_join 66 = .ok (.iload 5, 2) := by decide +kernel
theorem dX4_join_68 : decode cX4_join 68 = .ok (.baload, 1) := by decide +kernel
theorem dX4_join_69 : decode cX4_join 69 = .ok (.ifCond .ne 27, 3) := by decide +kernel
theorem dX4_join_72 : decode cX4_join 72 = .ok (.aload_n 0, 1) := by decide +kernel
theorem dX4_join_73 : decode cX4_join 73 = .ok (.getfield 17, 3) := by decide +kernel
theorem dX4_join_76 : decode cX4_join 76 = .ok (.iload 4, 2) := by decide +kernel
theorem dX4_join_78 : decode cX4_join 78 = .ok (.aaload, 1) := by decide +kernel
theorem dX4_join_79 : decode cX4_join 79 = .ok (.iload_n 2, 1) := by decide +kernel
theorem dX4_join_80 : decode cX4_join 80 = .ok (.baload, 1) := by decide +kernel
theorem dX4_join_81 : decode cX4_join 81 = .ok (.ifCond .eq 19, 3) := by decide +kernel
theorem dX4_join_84 : decode cX4_join 84 = .ok (.aload_n 0, 1) := by decide +kernel
theorem dX4_join_85 : decode cX4_join 85 = .ok (.getfield 17, 3) := by decide +kernel
theorem dX4_join_88 : decode cX4_join 88 = .ok (.iload_n 1, 1) := by decide +kernel
theorem dX4_join_89 : decode cX4_join 89 = .ok (.aaload, 1) := by decide +kernel
theorem dX4_join_90 : decode cX4_join 90 = .ok (.iload 5, 2) := by decide +kernel
theorem dX4_join_92 : decode cX4_join 92 = .ok (.baload, 1) := by decide +kernel
theorem dX4_join_93 : decode cX4_join 93 = .ok (.ifCond .eq 7, 3) := by decide +kernel
theorem dX4_join_96 : decode cX4_join 96 = .ok (.iconst 1, 1) := by decide +kernel
theorem dX4_join_97 : decode cX4_join 97 = .ok (.goto 4, 3) := by decide +kernel
theorem dX4_join_100 : decode cX4_join 100 = .ok (.iconst 0, 1) := by decide +kernel
theorem dX4_join_101 : decode cX4_join 101 = .ok (.bastore, 1) := by decide +kernel
theorem dX4_join_102 : decode cX4_join 102 = .ok (.iinc 5 1, 3) := by decide +kernel
theorem dX4_join_105 : decode cX4_join 105 = .ok (.goto (-83), 3) := by decide +kernel
theorem dX4_join_108 : decode cX4_join 108 = .ok (.iinc 4 1, 3) := by decide +kernel
theorem dX4_join_111 : decode cX4_join 111 = .ok (.goto (-99), 3) := by decide +kernel
theorem dX4_join_114 : decode cX4_join 114 = .ok (.aload_n 0, 1) := by decide +kernel
theorem dX4_join_115 : decode cX4_join 115 = .ok (.aload_n 3, 1) := by decide +kernel
theorem dX4_join_116 : decode cX4_join 116 = .ok (.putfield 17, 3) := by decide +kernel
theorem dX4_join_119 : decode cX4_join 119 = .ok (.return_, 1) := by decide +kernel
theorem dX4_groups_0 : decode cX4_groups 0 = .ok (.iconst 0, 1) := by decide +kernel
theorem dX4_groups_1 : decode cX4_groups 1 = .ok (.istore_n 1, 1) := by decide +kernel
theorem dX4_groups_2 : decode cX4_groups 2 = .ok (.iconst 0, 1) := by decide +kernel
theorem dX4_groups_3 : decode cX4_groups 3 = .ok (.istore_n 2, 1) := by decide +kernel
theorem dX4_groups_4 : decode cX4_groups 4 = .ok (.iload_n 2, 1) := by decide +kernel
theorem dX4_groups_5 : decode cX4_groups 5 = .ok (.bipush 9, 2) := by decide +kernel
theorem dX4_groups_7 : decode cX4_groups 7 = .ok (.if_icmp .ge 60, 3) := by decide +kernel
theorem dX4_groups_10 : decode cX4_groups 10 = .ok (.iconst 1, 1) := by decide +kernel
theorem dX4_groups_11 : decode cX4_groups 11 = .ok (.istore_n 3, 1) := by decide +kernel
theorem dX4_groups_12 : decode cX4_groups 12 = .ok (.iconst 0, 1) := by decide +kernel
theorem dX4_groups_13 : decode cX4_groups 13 = .ok (.istore 4, 2) := by decide +kernel
theorem dX4_groups_15 : decode cX4_groups 15 = .ok (.iload 4, 2) := by decide +kernel
theorem dX4_groups_17 : decode cX4_groups 17 = .ok (.iload_n 2, 1) := by decide +kernel
theorem dX4_groups_18 : decode cX4_groups 18 = .ok (.if_icmp .ge 31, 3) := by decide +kernel
theorem dX4_groups_21 : decode cX4_groups 21 = .ok (.iload_n 3, 1) := by decide +kernel
theorem dX4_groups_22 : decode cX4_groups 22 = .ok (.ifCond .eq 19, 3) := by decide +kernel
theorem dX4_groups_25 : decode cX4_groups 25 = .ok (.aload_n 0, 1) := by decide +kernel
theorem dX4_groups_26 : decode cX4_groups 26 = .ok (.getfield 17, 3) := by decide +kernel
theorem dX4_groups_29 : decode cX4_groups 29 = .ok (.iload_n 2, 1) := by decide +kernel
theorem dX4_groups_30 : decode cX4_groups 30 = .ok (.aaload, 1) := by decide +kernel
theorem dX4_groups_31 : decode cX4_groups 31 = .ok (.iload 4, 2) := by decide +kernel
theorem dX4_groups_33 : decode cX4_groups 33 = .ok (.baload, 1) := by decide +kernel
theorem dX4_groups_34 : decode cX4_groups 34 = .ok (.ifCond .ne 7, 3) := by decide +kernel
theorem dX4_groups_37 : decode cX4_groups 37 = .ok (.iconst 1, 1) := by decide +kernel
theorem dX4_groups_38 : decode cX4_groups 38 = .ok (.goto 4, 3) := by decide +kernel
theorem dX4_groups_41 : decode cX4_groups 41 = .ok (.iconst 0, 1) := by decide +kernel
theorem dX4_groups_42 : decode cX4_groups 42 = .ok (.istore_n 3, 1) := by decide +kernel
theorem dX4_groups_43 : decode cX4_groups 43 = .ok (.iinc 4 1, 3) := by decide +kernel
theorem dX4_groups_46 : decode cX4_groups 46 = .ok (.goto (-31), 3) := by decide +kernel
theorem dX4_groups_49 : decode cX4_groups 49 = .ok (.iload_n 1, 1) := by decide +kernel
theorem dX4_groups_50 : decode cX4_groups 50 = .ok (.iload_n 3, 1) := by decide +kernel
theorem dX4_groups_51 : decode cX4_groups 51 = .ok (.ifCond .eq 7, 3) := by decide +kernel
theorem dX4_groups_54 : decode cX4_groups 54 = .ok (.iconst 1, 1) := by decide +kernel
theorem dX4_groups_55 : decode cX4_groups 55 = .ok (.goto 4, 3) := by decide +kernel
theorem dX4_groups_58 : decode cX4_groups 58 = .ok (.iconst 0, 1) := by decide +kernel
theorem dX4_groups_59 : decode cX4_groups 59 = .ok (.iadd, 1) := by decide +kernel
theorem dX4_groups_60 : decode cX4_groups 60 = .ok (.istore_n 1, 1) := by decide +kernel
theorem dX4_groups_61 : decode cX4_groups 61 = .ok (.iinc 2 1, 3) := by decide +kernel
theorem dX4_groups_64 : decode cX4_groups 64 = .ok (.goto (-60), 3) := by decide +kernel
theorem dX4_groups_67 : decode cX4_groups 67 = .ok (.iload_n 1, 1) := by decide +kernel
theorem dX4_groups_68 : decode cX4_groups 68 = .ok (.ireturn, 1) := by decide +kernel
theorem dX4_steps_0 : decode cX4_steps 0 = .ok (.aload_n 0, 1) := by decide +kernel
theorem dX4_steps_1 : decode cX4_steps 1 = .ok (.getfield 17, 3) := by decide +kernel
theorem dX4_steps_4 : decode cX4_steps 4 = .ok (.iload_n 1, 1) := by decide +kernel
theorem dX4_steps_5 : decode cX4_steps 5 = .ok (.aaload, 1) := by decide +kernel
theorem dX4_steps_6 : decode cX4_steps 6 = .ok (.iload_n 2, 1) := by decide +kernel
theorem dX4_steps_7 : decode cX4_steps 7 = .ok (.baload, 1) := by decide +kernel
theorem dX4_steps_8 : decode cX4_steps 8 = .ok (.ifCond .eq 7, 3) := by decide +kernel
theorem dX4_steps_11 : decode cX4_steps 11 = .ok (.iconst 0, 1) := by decide +kernel
theorem dX4_steps_12 : decode cX4_steps 12 = .ok (.goto 24, 3) := by decide +kernel
theorem dX4_steps_15 : decode cX4_steps 15 = .ok (.iload_n 1, 1) := by decide +kernel
theorem dX4_steps_16 : decode cX4_steps 16 = .ok (.iconst 3, 1) := by decide +kernel
theorem dX4_steps_17 : decode cX4_steps 17 = .ok (.idiv, 1) := by decide +kernel
theorem dX4_steps_18 : decode cX4_steps 18 = .ok (.iload_n 2, 1) := by decide +kernel
theorem dX4_steps_19 : decode cX4_steps 19 = .ok (.iconst 3, 1) := by decide +kernel
theorem dX4_steps_20 : decode cX4_steps 20 = .ok (.idiv, 1) := by decide +kernel
theorem dX4_steps_21 : decode cX4_steps 21 = .ok (.isub, 1) := by decide +kernel
theorem dX4_steps_22 : decode cX4_steps 22 = .ok (.invokestatic 22, 3) := by decide +kernel
theorem dX4_steps_25 : decode cX4_steps 25 = .ok (.iload_n 1, 1) := by decide +kernel
theorem dX4_steps_26 : decode cX4_steps 26 = .ok (.iconst 3, 1) := by decide +kernel
theorem dX4_steps_27 : decode cX4_steps 27 = .ok (.irem, 1) := by decide +kernel
theorem dX4_steps_28 : decode cX4_steps 28 = .ok (.iload_n 2, 1) := by decide +kernel
theorem dX4_steps_29 : decode cX4_steps 29 = .ok (.iconst 3, 1) := by decide +kernel
theorem dX4_steps_30 : decode cX4_steps 30 = .ok (.irem, 1) := by decide +kernel
theorem dX4_steps_31 : decode cX4_steps 31 = .ok (.isub, 1) := by decide +kernel
theorem dX4_steps_32 : decode cX4_steps 32 = .ok (.invokestatic 22, 3) := by decide +kernel
theorem dX4_steps_35 : decode cX4_steps 35 = .ok (.iadd, 1) := by decide +kernel
theorem dX4_steps_36 : decode cX4_steps 36 = .ok (.ireturn, 1) := by decide +kernel
theorem dX4_far_0 : decode cX4_far 0 = .ok (.aload_n 0, 1) := by decide +kernel
theorem dX4_far_1 : decode cX4_far 1 = .ok (.aload_n 1, 1) := by decide +kernel
theorem dX4_far_2 : decode cX4_far 2 = .ok (.iconst 2, 1) := by decide +kernel
theorem dX4_far_3 : decode cX4_far 3 = .ok (.iaload, 1) := by decide +kernel
theorem dX4_far_4 : decode cX4_far 4 = .ok (.aload_n 2, 1) := by decide +kernel
theorem dX4_far_5 : decode cX4_far 5 = .ok (.iconst 2, 1) := by decide +kernel
theorem dX4_far_6 : decode cX4_far 6 = .ok (.iaload, 1) := by decide +kernel
theorem dX4_far_7 : decode cX4_far 7 = .ok (.invokevirtual 28, 3) := by decide +kernel
theorem dX4_far_10 : decode cX4_far 10 = .ok (.istore_n 3, 1) := by decide +kernel
theorem dX4_far_11 : decode cX4_far 11 = .ok (.iconst 1, 1) := by decide +kernel
theorem dX4_far_12 : decode cX4_far 12 = .ok (.istore 4, 2) := by decide +kernel
theorem dX4_far_14 : decode cX4_far 14 = .ok (.iload 4, 2) := by decide +kernel
theorem dX4_far_16 : decode cX4_far 16 = .ok (.bipush 16, 2) := by decide +kernel
theorem dX4_far_18 : decode cX4_far 18 = .ok (.if_icmp .ge 35, 3) := by decide +kernel
theorem dX4_far_21 : decode cX4_far 21 = .ok (.aload_n 1, 1) := by decide +kernel
theorem dX4_far_22 : decode cX4_far 22 = .ok (.iconst 0, 1) := by decide +kernel
theorem dX4_far_23 : decode cX4_far 23 = .ok (.iaload, 1) := by decide +kernel
theorem dX4_far_24 : decode cX4_far 24 = .ok (.iload 4, 2) := by decide +kernel
theorem dX4_far_26 : decode cX4_far 26 = .ok (.idiv, 1) := by decide +kernel
theorem dX4_far_27 : decode cX4_far 27 = .ok (.iconst 2, 1) := by decide +kernel
theorem dX4_far_28 : decode cX4_far 28 = .ok (.irem, 1) := by decide +kernel
theorem dX4_far_29 : decode cX4_far 29 = .ok (.aload_n 2, 1) := by decide +kernel
theorem dX4_far_30 : decode cX4_far 30 = .ok (.iconst 0, 1) := by decide +kernel
theorem dX4_far_31 : decode cX4_far 31 = .ok (.iaload, 1) := by decide +kernel
theorem dX4_far_32 : decode cX4_far 32 = .ok (.iload 4, 2) := by decide +kernel
theorem dX4_far_34 : decode cX4_far 34 = .ok (.idiv, 1) := by decide +kernel
theorem dX4_far_35 : decode cX4_far 35 = .ok (.iconst 2, 1) := by decide +kernel
theorem dX4_far_36 : decode cX4_far 36 = .ok (.irem, 1) := by decide +kernel
theorem dX4_far_37 : decode cX4_far 37 = .ok (.if_icmp .eq 6, 3) := by decide +kernel
theorem dX4_far_40 : decode cX4_far 40 = .ok (.iinc 3 1, 3) := by decide +kernel
theorem dX4_far_43 : decode cX4_far 43 = .ok (.iload 4, 2) := by decide +kernel
theorem dX4_far_45 : decode cX4_far 45 = .ok (.iload 4, 2) := by decide +kernel
theorem dX4_far_47 : decode cX4_far 47 = .ok (.iadd, 1) := by decide +kernel
theorem dX4_far_48 : decode cX4_far 48 = .ok (.istore 4, 2) := by decide +kernel
theorem dX4_far_50 : decode cX4_far 50 = .ok (.goto (-36), 3) := by decide +kernel
theorem dX4_far_53 : decode cX4_far 53 = .ok (.aload_n 1, 1) := by decide +kernel
theorem dX4_far_54 : decode cX4_far 54 = .ok (.iconst 1, 1) := by decide +kernel
theorem dX4_far_55 : decode cX4_far 55 = .ok (.iaload, 1) := by decide +kernel
theorem dX4_far_56 : decode cX4_far 56 = .ok (.aload_n 2, 1) := by decide +kernel
theorem dX4_far_57 : decode cX4_far 57 = .ok (.iconst 1, 1) := by decide +kernel
theorem dX4_far_58 : decode cX4_far 58 = .ok (.iaload, 1) := by decide +kernel
theorem dX4_far_59 : decode cX4_far 59 = .ok (.if_icmp .eq 6, 3) := by decide +kernel
theorem dX4_far_62 : decode cX4_far 62 = .ok (.iinc 3 1, 3) := by decide +kernel
theorem dX4_far_65 : decode cX4_far 65 = .ok (.aload_n 1, 1) := by decide +kernel
theorem dX4_far_66 : decode cX4_far 66 = .ok (.iconst 3, 1) := by decide +kernel
theorem dX4_far_67 : decode cX4_far 67 = .ok (.iaload, 1) := by decide +kernel
theorem dX4_far_68 : decode cX4_far 68 = .ok (.aload_n 2, 1) := by decide +kernel
theorem dX4_far_69 : decode cX4_far 69 = .ok (.iconst 3, 1) := by decide +kernel
theorem dX4_far_70 : decode cX4_far 70 = .ok (.iaload, 1) := by decide +kernel
theorem dX4_far_71 : decode cX4_far 71 = .ok (.if_icmp .eq 6, 3) := by decide +kernel
theorem dX4_far_74 : decode cX4_far 74 = .ok (.iinc 3 2, 3) := by decide +kernel
theorem dX4_far_77 : decode cX4_far 77 = .ok (.iload_n 3, 1) := by decide +kernel
theorem dX4_far_78 : decode cX4_far 78 = .ok (.ireturn, 1) := by decide +kernel
theorem dX4_read_0 : decode cX4_read 0 = .ok (.bipush 99, 2) := by decide +kernel
theorem dX4_read_2 : decode cX4_read 2 = .ok (.istore_n 3, 1) := by decide +kernel
theorem dX4_read_3 : decode cX4_read 3 = .ok (.iconst 0, 1) := by decide +kernel
theorem dX4_read_4 : decode cX4_read 4 = .ok (.istore 4, 2) := by decide +kernel
theorem dX4_read_6 : decode cX4_read 6 = .ok (.iconst (-1), 1) := by decide +kernel
theorem dX4_read_7 : decode cX4_read 7 = .ok (.istore 5, 2) := by decide +kernel
theorem dX4_read_9 : decode cX4_read 9 = .ok (.aload_n 0, 1) := by decide +kernel
theorem dX4_read_10 : decode cX4_read 10 = .ok (.getfield 9, 3) := by decide +kernel
theorem dX4_read_13 : decode cX4_read 13 = .ok (.iload_n 2, 1) := by decide +kernel
theorem dX4_read_14 : decode cX4_read 14 = .ok (.aaload, 1) := by decide +kernel
theorem dX4_read_15 : decode cX4_read 15 = .ok (.astore 6, 2) := by decide +kernel
theorem dX4_read_17 : decode cX4_read 17 = .ok (.aload 6, 2) := by decide +kernel
theorem dX4_read_19 : decode cX4_read 19 = .ok (.arraylength, 1) := by decide +kernel
theorem dX4_read_20 : decode cX4_read 20 = .ok (.istore 7, 2) := by decide +kernel
theorem dX4_read_22 : decode cX4_read 22 = .ok (.iconst 0, 1) := by decide +kernel
theorem dX4_read_23 : decode cX4_read 23 = .ok (.istore 8, 2) := by decide +kernel
theorem dX4_read_25 : decode cX4_read 25 = .ok (.iload 8, 2) := by decide +kernel
theorem dX4_read_27 : decode cX4_read 27 = .ok (.iload 7, 2) := by decide +kernel
theorem dX4_read_29 : decode cX4_read 29 = .ok (.if_icmp .ge 55, 3) := by decide +kernel
theorem dX4_read_32 : decode cX4_read 32 = .ok (.aload 6, 2) := by decide +kernel
theorem dX4_read_34 : decode cX4_read 34 = .ok (.iload 8, 2) := by decide +kernel
theorem dX4_read_36 : decode cX4_read 36 = .ok (.aaload, 1) := by decide +kernel
theorem dX4_read_37 : decode cX4_read 37 = .ok (.astore 9, 2) := by decide +kernel
theorem dX4_read_39 : decode cX4_read 39 = .ok (.aload_n 0, 1) := by decide +kernel
theorem dX4_read_40 : decode cX4_read 40 = .ok (.aload_n 1, 1) := by decide +kernel
theorem dX4_read_41 : decode cX4_read 41 = .ok (.aload 9, 2) := by decide +kernel
theorem dX4_read_43 : decode cX4_read 43 = .ok (.invokevirtual 32, 3) := by decide +kernel
theorem dX4_read_46 : decode cX4_read 46 = .ok (.istore 10, 2) := by decide +kernel
theorem dX4_read_48 : decode cX4_read 48 = .ok (.iload 10, 2) := by decide +kernel
theorem dX4_read_50 : decode cX4_read 50 = .ok (.iload_n 3, 1) := by decide +kernel
theorem dX4_read_51 : decode cX4_read 51 = .ok (.if_icmp .ge 9, 3) := by decide +kernel
theorem dX4_read_54 : decode cX4_read 54 = .ok (.iload 10, 2) := by decide +kernel
theorem dX4_read_56 : decode cX4_read 56 = .ok (.istore_n 3, 1) := by decide +kernel
theorem dX4_read_57 : decode cX4_read 57 = .ok (.iconst 0, 1) := by decide +kernel
theorem dX4_read_58 : decode cX4_read 58 = .ok (.istore 4, 2) := by decide +kernel
theorem dX4_read_60 : decode cX4_read 60 = .ok (.iload 10, 2) := by decide +kernel
theorem dX4_read_62 : decode cX4_read 62 = .ok (.iload_n 3, 1) := by decide +kernel
theorem dX4_read_63 : decode cX4_read 63 = .ok (.if_icmp .le 6, 3) := by decide +kernel
theorem dX4_read_66 : decode cX4_read 66 = .ok (.goto 12, 3) := by decide +kernel
theorem dX4_read_69 : decode cX4_read 69 = .ok (.iinc 4 1, 3) := by decide +kernel
theorem dX4_read_72 : decode cX4_read 72 = .ok (.aload 9, 2) := by decide +kernel
theorem dX4_read_74 : decode cX4_read 74 = .ok (.iconst 4, 1) := by decide +kernel
theorem dX4_read_75 : decode cX4_read 75 = .ok (.iaload, 1) := by decide +kernel
theorem dX4_read_76 : decode cX4_read 76 = .ok (.istore 5, 2) := by decide +kernel
theorem dX4_read_78 : decode cX4_read 78 = .ok (.iinc 8 1, 3) := by decide +kernel
theorem dX4_read_81 : decode cX4_read 81 = .ok (.goto (-56), 3) := by decide +kernel
theorem dX4_read_84 : decode cX4_read 84 = .ok (.iload 4, 2) := by decide +kernel
theorem dX4_read_86 : decode cX4_read 86 = .ok (.iconst 1, 1) := by decide +kernel
theorem dX4_read_87 : decode cX4_read 87 = .ok (.if_icmp .ne 13, 3) := by decide +kernel
theorem dX4_read_90 : decode cX4_read 90 = .ok (.iload_n 3, 1) := by decide +kernel
theorem dX4_read_91 : decode cX4_read 91 = .ok (.iconst 4, 1) := by decide +kernel
theorem dX4_read_92 : decode cX4_read 92 = .ok (.if_icmp .ge 8, 3) := by decide +kernel
theorem dX4_read_95 : decode cX4_read 95 = .ok (.iload 5, 2) := by decide +kernel
theorem dX4_read_97 : decode cX4_read 97 = .ok (.goto 4, 3) := by decide +kernel
theorem dX4_read_100 : decode cX4_read 100 = .ok (.iconst (-1), 1) := by decide +kernel
theorem dX4_read_101 : decode cX4_read 101 = .ok (.ireturn, 1) := by decide +kernel
theorem dX4_signFor_0 : decode cX4_signFor 0 = .ok (.iconst 0, 1) := by decide +kernel
theorem dX4_signFor_1 : decode cX4_signFor 1 = .ok (.istore_n 3, 1) := by decide +kernel
theorem dX4_signFor_2 : decode cX4_signFor 2 = .ok (.iload_n 3, 1) := by decide +kernel
theorem dX4_signFor_3 : decode cX4_signFor 3 = .ok (.aload_n 0, 1) := by decide +kernel
theorem dX4_signFor_4 : decode cX4_signFor 4 = .ok (.getfield 9, 3) := by decide +kernel
theorem dX4_signFor_7 : decode cX4_signFor 7 = .ok (.iload_n 1, 1) := by decide +kernel
theorem dX4_signFor_8 : decode cX4_signFor 8 = .ok (.aaload, 1) := by decide +kernel
theorem dX4_signFor_9 : decode cX4_signFor 9 = .ok (.arraylength, 1) := by decide +kernel
theorem dX4_signFor_10 : decode cX4_signFor 10 = .ok (.if_icmp .ge 25, 3) := by decide +kernel
theorem dX4_signFor_13 : decode cX4_signFor 13 = .ok (.aload_n 0, 1) := by decide +kernel
theorem dX4_signFor_14 : decode cX4_signFor 14 = .ok (.getfield 9, 3) := by decide +kernel
theorem dX4_signFor_17 : decode cX4_signFor 17 = .ok (.iload_n 1, 1) := by decide +kernel
theorem dX4_signFor_18 : decode cX4_signFor 18 = .ok (.aaload, 1) := by decide +kernel
theorem dX4_signFor_19 : decode cX4_signFor 19 = .ok (.iload_n 3, 1) := by decide +kernel
theorem dX4_signFor_20 : decode cX4_signFor 20 = .ok (.aaload, 1) := by decide +kernel
theorem dX4_signFor_21 : decode cX4_signFor 21 = .ok (.iconst 4, 1) := by decide +kernel
theorem dX4_signFor_22 : decode cX4_signFor 22 = .ok (.iaload, 1) := by decide +kernel
theorem dX4_signFor_23 : decode cX4_signFor 23 = .ok (.iload_n 2, 1) := by decide +kernel
theorem dX4_signFor_24 : decode cX4_signFor 24 = .ok (.if_icmp .ne 5, 3) := by decide +kernel
theorem dX4_signFor_27 : decode cX4_signFor 27 = .ok (.iload_n 3, 1) := by decide +kernel
theorem dX4_signFor_28 : decode cX4_signFor 28 = .ok (.ireturn, 1) := by decide +kernel
theorem dX4_signFor_29 : decode cX4_signFor 29 = .ok (.iinc 3 1, 3) := by decide +kernel
theorem dX4_signFor_32 : decode cX4_signFor 32 = .ok (.goto (-30), 3) := by decide +kernel
theorem dX4_signFor_35 : decode cX4_signFor 35 = .ok (.iconst (-1), 1) := by decide +kernel
theorem dX4_signFor_36 : decode cX4_signFor 36 = .ok (.ireturn, 1) := by decide +kernel
theorem dX4_borrowed_0 : decode cX4_borrowed 0 = .ok (.aload_n 0, 1) := by decide +kernel
theorem dX4_borrowed_1 : decode cX4_borrowed 1 = .ok (.getfield 9, 3) := by decide +kernel
theorem dX4_borrowed_4 : decode cX4_borrowed 4 = .ok (.iload_n 2, 1) := by decide +kernel
theorem dX4_borrowed_5 : decode cX4_borrowed 5 = .ok (.aaload, 1) := by decide +kernel
theorem dX4_borrowed_6 : decode cX4_borrowed 6 = .ok (.arraylength, 1) := by decide +kernel
theorem dX4_borrowed_7 : decode cX4_borrowed 7 = .ok (.bipush 16, 2) := by decide +kernel
theorem dX4_borrowed_9 : decode cX4_borrowed 9 = .ok (.if_icmp .eq 14, 3) := by decide +kernel
theorem dX4_borrowed_12 : decode cX4_borrowed 12 = .ok (.aload_n 0, 1) := by decide +kernel
theorem dX4_borrowed_13 : decode cX4_borrowed 13 = .ok (.iload_n 2, 1) := by decide +kernel
theorem dX4_borrowed_14 : decode cX4_borrowed 14 = .ok (.aload_n 1, 1) := by decide +kernel
theorem dX4_borrowed_15 : decode cX4_borrowed 15 = .ok (.iconst 4, 1) := by decide +kernel
theorem dX4_borrowed_16 : decode cX4_borrowed 16 = .ok (.iaload, 1) := by decide +kernel
theorem dX4_borrowed_17 : decode cX4_borrowed 17 = .ok (.invokevirtual 36, 3) := by decide +kernel
theorem dX4_borrowed_20 : decode cX4_borrowed 20 = .ok (.ifCond .lt 5, 3) := by decide +kernel
theorem dX4_borrowed_23 : decode cX4_borrowed 23 = .ok (.aconst_null, 1) := by decide +kernel
theorem dX4_borrowed_24 : decode cX4_borrowed 24 = .ok (.areturn, 1) := by decide +kernel
theorem dX4_borrowed_25 : decode cX4_borrowed 25 = .ok (.iconst 0, 1) := by decide +kernel
theorem dX4_borrowed_26 : decode cX4_borrowed 26 = .ok (.istore_n 3, 1) := by decide +kernel
theorem dX4_borrowed_27 : decode cX4_borrowed 27 = .ok (.iload_n 3, 1) := by decide +kernel
theorem dX4_borrowed_28 : decode cX4_borrowed 28 = .ok (.iconst 4, 1) := by decide +kernel
theorem dX4_borrowed_29 : decode cX4_borrowed 29 = .ok (.if_icmp .ge 118, 3) := by decide +kernel
theorem dX4_borrowed_32 : decode cX4_borrowed 32 = .ok (.iconst 5, 1) := by decide +kernel
theorem dX4_borrowed_33 : decode cX4_borrowed 33 = .ok (.newarray .int, 2) := by decide +kernel
theorem dX4_borrowed_35 : decode cX4_borrowed 35 = .ok (.dup, 1) := by decide +kernel
theorem dX4_borrowed_36 : decode cX4_borrowed 36 = .ok (.iconst 0, 1) := by decide +kernel
theorem dX4_borrowed_37 : decode cX4_borrowed 37 = .ok (.aload_n 1, 1) := by decide +kernel
theorem dX4_borrowed_38 : decode cX4_borrowed 38 = .ok (.iconst 0, 1) := by decide +kernel
theorem dX4_borrowed_39 : decode cX4_borrowed 39 = .ok (.iaload, 1) := by decide +kernel
theorem dX4_borrowed_40 : decode cX4_borrowed 40 = .ok (.iastore, 1) := by decide +kernel
theorem dX4_borrowed_41 : decode cX4_borrowed 41 = .ok (.dup, 1) := by decide +kernel
theorem dX4_borrowed_42 : decode cX4_borrowed 42 = .ok (.iconst 1, 1) := by decide +kernel
theorem dX4_borrowed_43 : decode cX4_borrowed 43 = .ok (.aload_n 1, 1) := by decide +kernel
theorem dX4_borrowed_44 : decode cX4_borrowed 44 = .ok (.iconst 1, 1) := by decide +kernel
theorem dX4_borrowed_45 : decode cX4_borrowed 45 = .ok (.iaload, 1) := by decide +kernel
theorem dX4_borrowed_46 : decode cX4_borrowed 46 = .ok (.iload_n 3, 1) := by decide +kernel
theorem dX4_borrowed_47 : decode cX4_borrowed 47 = .ok (.iadd, 1) := by decide +kernel
theorem dX4_borrowed_48 : decode cX4_borrowed 48 = .ok (.iconst 4, 1) := by decide +kernel
theorem dX4_borrowed_49 : decode cX4_borrowed 49 = .ok (.irem, 1) := by decide +kernel
theorem dX4_borrowed_50 : decode cX4_borrowed 50 = .ok (.iastore, 1) := by decide +kernel
theorem dX4_borrowed_51 : decode cX4_borrowed 51 = .ok (.dup, 1) := by decide +kernel
theorem dX4_borrowed_52 : decode cX4_borrowed 52 = .ok (.iconst 2, 1) := by decide +kernel
theorem dX4_borrowed_53 : decode cX4_borrowed 53 = .ok (.aload_n 1, 1) := by decide +kernel
theorem dX4_borrowed_54 : decode cX4_borrowed 54 = .ok (.iconst 2, 1) := by decide +kernel
theorem dX4_borrowed_55 : decode cX4_borrowed 55 = .ok (.iaload, 1) := by decide +kernel
theorem dX4_borrowed_56 : decode cX4_borrowed 56 = .ok (.iastore, 1) := by decide +kernel
theorem dX4_borrowed_57 : decode cX4_borrowed 57 = .ok (.dup, 1) := by decide +kernel
theorem dX4_borrowed_58 : decode cX4_borrowed 58 = .ok (.iconst 3, 1) := by decide +kernel
theorem dX4_borrowed_59 : decode cX4_borrowed 59 = .ok (.aload_n 1, 1) := by decide +kernel
theorem dX4_borrowed_60 : decode cX4_borrowed 60 = .ok (.iconst 3, 1) := by decide +kernel
theorem dX4_borrowed_61 : decode cX4_borrowed 61 = .ok (.iaload, 1) := by decide +kernel
theorem dX4_borrowed_62 : decode cX4_borrowed 62 = .ok (.iastore, 1) := by decide +kernel
theorem dX4_borrowed_63 : decode cX4_borrowed 63 = .ok (.dup, 1) := by decide +kernel
theorem dX4_borrowed_64 : decode cX4_borrowed 64 = .ok (.iconst 4, 1) := by decide +kernel
theorem dX4_borrowed_65 : decode cX4_borrowed 65 = .ok (.aload_n 1, 1) := by decide +kernel
theorem dX4_borrowed_66 : decode cX4_borrowed 66 = .ok (.iconst 4, 1) := by decide +kernel
theorem dX4_borrowed_67 : decode cX4_borrowed 67 = .ok (.iaload, 1) := by decide +kernel
theorem dX4_borrowed_68 : decode cX4_borrowed 68 = .ok (.iastore, 1) := by decide +kernel
theorem dX4_borrowed_69 : decode cX4_borrowed 69 = .ok (.astore 4, 2) := by decide +kernel
theorem dX4_borrowed_71 : decode cX4_borrowed 71 = .ok (.iconst 1, 1) := by decide +kernel
theorem dX4_borrowed_72 : decode cX4_borrowed 72 = .ok (.istore 5, 2) := by decide +kernel
theorem dX4_borrowed_74 : decode cX4_borrowed 74 = .ok (.aload_n 0, 1) := by decide +kernel
theorem dX4_borrowed_75 : decode cX4_borrowed 75 = .ok (.getfield 9, 3) := by decide +kernel
theorem dX4_borrowed_78 : decode cX4_borrowed 78 = .ok (.iload_n 2, 1) := by decide +kernel
theorem dX4_borrowed_79 : decode cX4_borrowed 79 = .ok (.aaload, 1) := by decide +kernel
theorem dX4_borrowed_80 : decode cX4_borrowed 80 = .ok (.astore 6, 2) := by decide +kernel
theorem dX4_borrowed_82 : decode cX4_borrowed 82 = .ok (.aload 6, 2) := by decide +kernel
theorem dX4_borrowed_84 : decode cX4_borrowed 84 = .ok (.arraylength, 1) := by decide +kernel
theorem dX4_borrowed_85 : decode cX4_borrowed 85 = .ok (.istore 7, 2) := by decide +kernel
theorem dX4_borrowed_87 : decode cX4_borrowed 87 = .ok (.iconst 0, 1) := by decide +kernel
theorem dX4_borrowed_88 : decode cX4_borrowed 88 = .ok (.istore 8, 2) := by decide +kernel
theorem dX4_borrowed_90 : decode cX4_borrowed 90 = .ok (.iload 8, 2) := by decide +kernel
theorem dX4_borrowed_92 : decode cX4_borrowed 92 = .ok (.iload 7, 2) := by decide +kernel
theorem dX4_borrowed_94 : decode cX4_borrowed 94 = .ok (.if_icmp .ge 39, 3) := by decide +kernel
theorem dX4_borrowed_97 : decode cX4_borrowed 97 = .ok (.aload 6, 2) := by decide +kernel
theorem dX4_borrowed_99 : decode cX4_borrowed 99 = .ok (.iload 8, 2) := by decide +kernel
theorem dX4_borrowed_101 : decode cX4_borrowed 101 = .ok (.aaload, 1) := by decide +kernel
theorem dX4_borrowed_102 : decode cX4_borrowed 102 = .ok (.astore 9, 2) := by decide +kernel
theorem dX4_borrowed_104 : decode cX4_borrowed 104 = .ok (.iload 5, 2) := by decide +kernel
theorem dX4_borrowed_106 : decode cX4_borrowed 106 = .ok (.ifCond .eq 18, 3) := by decide +kernel
theorem dX4_borrowed_109 : decode cX4_borrowed 109 = .ok (.aload_n 0, 1) := by decide +kernel
theorem dX4_borrowed_110 : decode cX4_borrowed 110 = .ok (.aload 4, 2) := by decide +kernel
theorem dX4_borrowed_112 : decode cX4_borrowed 112 = .ok (.aload 9, 2) := by decide +kernel
theorem dX4_borrowed_114 : decode cX4_borrowed 114 = .ok (.invokevirtual 32, 3) := by decide +kernel
theorem dX4_borrowed_117 : decode cX4_borrowed 117 = .ok (.ifCond .le 7, 3) := by decide +kernel
theorem dX4_borrowed_120 : decode cX4_borrowed 120 = .ok (.iconst 1, 1) := by decide +kernel
theorem dX4_borrowed_121 : decode cX4_borrowed 121 = .ok (.goto 4, 3) := by decide +kernel
theorem dX4_borrowed_124 : decode cX4_borrowed 124 = .ok (.iconst 0, 1) := by decide +kernel
theorem dX4_borrowed_125 : decode cX4_borrowed 125 = .ok (.istore 5, 2) := by decide +kernel
theorem dX4_borrowed_127 : decode cX4_borrowed 127 = .ok (.iinc 8 1, 3) := by decide +kernel
theorem dX4_borrowed_130 : decode cX4_borrowed 130 = .ok (.goto (-40), 3) := by decide +kernel
theorem dX4_borrowed_133 : decode cX4_borrowed 133 = .ok (.iload 5, 2) := by decide +kernel
theorem dX4_borrowed_135 : decode cX4_borrowed 135 = .ok (.ifCond .eq 6, 3) := by decide +kernel
theorem dX4_borrowed_138 : decode cX4_borrowed 138 = .ok (.aload 4, 2) := by decide +kernel
theorem dX4_borrowed_140 : decode cX4_borrowed 140 = .ok (.areturn, 1) := by decide +kernel
theorem dX4_borrowed_141 : decode cX4_borrowed 141 = .ok (.iinc 3 1, 3) := by decide +kernel
theorem dX4_borrowed_144 : decode cX4_borrowed 144 = .ok (.goto (-117), 3) := by decide +kernel
theorem dX4_borrowed_147 : decode cX4_borrowed 147 = .ok (.aconst_null, 1) := by decide +kernel
theorem dX4_borrowed_148 : decode cX4_borrowed 148 = .ok (.areturn, 1) := by decide +kernel
theorem dX4_alike_0 : decode cX4_alike 0 = .ok (.iconst 0, 1) := by decide +kernel
theorem dX4_alike_1 : decode cX4_alike 1 = .ok (.istore_n 2, 1) := by decide +kernel
theorem dX4_alike_2 : decode cX4_alike 2 = .ok (.iconst 0, 1) := by decide +kernel
theorem dX4_alike_3 : decode cX4_alike 3 = .ok (.istore_n 3, 1) := by decide +kernel
theorem dX4_alike_4 : decode cX4_alike 4 = .ok (.iload_n 3, 1) := by decide +kernel
theorem dX4_alike_5 : decode cX4_alike 5 = .ok (.aload_n 0, 1) := by decide +kernel
theorem dX4_alike_6 : decode cX4_alike 6 = .ok (.getfield 9, 3) := by decide +kernel
theorem dX4_alike_9 : decode cX4_alike 9 = .ok (.iload_n 1, 1) := by decide +kernel
theorem dX4_alike_10 : decode cX4_alike 10 = .ok (.aaload, 1) := by decide +kernel
theorem dX4_alike_11 : decode cX4_alike 11 = .ok (.arraylength, 1) := by decide +kernel
theorem dX4_alike_12 : decode cX4_alike 12 = .ok (.if_icmp .ge 56, 3) := by decide +kernel
theorem dX4_alike_15 : decode cX4_alike 15 = .ok (.iconst 0, 1) := by decide +kernel
theorem dX4_alike_16 : decode cX4_alike 16 = .ok (.istore 4, 2) := by decide +kernel
theorem dX4_alike_18 : decode cX4_alike 18 = .ok (.iload 4, 2) := by decide +kernel
theorem dX4_alike_20 : decode cX4_alike 20 = .ok (.iload_n 3, 1) := by decide +kernel
theorem dX4_alike_21 : decode cX4_alike 21 = .ok (.if_icmp .ge 41, 3) := by decide +kernel
theorem dX4_alike_24 : decode cX4_alike 24 = .ok (.iload_n 2, 1) := by decide +kernel
theorem dX4_alike_25 : decode cX4_alike 25 = .ok (.aload_n 0, 1) := by decide +kernel
theorem dX4_alike_26 : decode cX4_alike 26 = .ok (.aload_n 0, 1) := by decide +kernel
theorem dX4_alike_27 : decode cX4_alike 27 = .ok (.getfield 9, 3) := by decide +kernel
theorem dX4_alike_30 : decode cX4_alike 30 = .ok (.iload_n 1, 1) := by decide +kernel
theorem dX4_alike_31 : decode cX4_alike 31 = .ok (.aaload, 1) := by decide +kernel
theorem dX4_alike_32 : decode cX4_alike 32 = .ok (.iload_n 3, 1) := by decide +kernel
theorem dX4_alike_33 : decode cX4_alike 33 = .ok (.aaload, 1) := by decide +kernel
theorem dX4_alike_34 : decode cX4_alike 34 = .ok (.aload_n 0, 1) := by decide +kernel
theorem dX4_alike_35 : decode cX4_alike 35 = .ok (.getfield 9, 3) := by decide +kernel
theorem dX4_alike_38 : decode cX4_alike 38 = .ok (.iload_n 1, 1) := by decide +kernel
theorem dX4_alike_39 : decode cX4_alike 39 = .ok (.aaload, 1) := by decide +kernel
theorem dX4_alike_40 : decode cX4_alike 40 = .ok (.iload 4, 2) := by decide +kernel
theorem dX4_alike_42 : decode cX4_alike 42 = .ok (.aaload, 1) := by decide +kernel
theorem dX4_alike_43 : decode cX4_alike 43 = .ok (.invokevirtual 32, 3) := by decide +kernel
theorem dX4_alike_46 : decode cX4_alike 46 = .ok (.ifCond .ne 7, 3) := by decide +kernel
theorem dX4_alike_49 : decode cX4_alike 49 = .ok (.iconst 1, 1) := by decide +kernel
theorem dX4_alike_50 : decode cX4_alike 50 = .ok (.goto 4, 3) := by decide +kernel
theorem dX4_alike_53 : decode cX4_alike 53 = .ok (.iconst 0, 1) := by decide +kernel
theorem dX4_alike_54 : decode cX4_alike 54 = .ok (.iadd, 1) := by decide +kernel
theorem dX4_alike_55 : decode cX4_alike 55 = .ok (.istore_n 2, 1) := by decide +kernel
theorem dX4_alike_56 : decode cX4_alike 56 = .ok (.iinc 4 1, 3) := by decide +kernel
theorem dX4_alike_59 : decode cX4_alike 59 = .ok (.goto (-41), 3) := by decide +kernel
theorem dX4_alike_62 : decode cX4_alike 62 = .ok (.iinc 3 1, 3) := by decide +kernel
theorem dX4_alike_65 : decode cX4_alike 65 = .ok (.goto (-61), 3) := by decide +kernel
theorem dX4_alike_68 : decode cX4_alike 68 = .ok (.iload_n 2, 1) := by decide +kernel
theorem dX4_alike_69 : decode cX4_alike 69 = .ok (.ireturn, 1) := by decide +kernel
theorem dX4_understood_0 : decode cX4_understood 0 = .ok (.iconst 0, 1) := by decide +kernel
theorem dX4_understood_1 : decode cX4_understood 1 = .ok (.istore_n 3, 1) := by decide +kernel
theorem dX4_understood_2 : decode cX4_understood 2 = .ok (.aload_n 0, 1) := by decide +kernel
theorem dX4_understood_3 : decode cX4_understood 3 = .ok (.getfield 9, 3) := by decide +kernel
theorem dX4_understood_6 : decode cX4_understood 6 = .ok (.iload_n 1, 1) := by decide +kernel
theorem dX4_understood_7 : decode cX4_understood 7 = .ok (.aaload, 1) := by decide +kernel
theorem dX4_understood_8 : decode cX4_understood 8 = .ok (.astore 4, 2) := by decide +kernel
theorem dX4_understood_10 : decode cX4_understood 10 = .ok (.aload 4, 2) := by decide +kernel
theorem dX4_understood_12 : decode cX4_understood 12 = .ok (.arraylength, 1) := by decide +kernel
theorem dX4_understood_13 : decode cX4_understood 13 = .ok (.istore 5, 2) := by decide +kernel
theorem dX4_understood_15 : decode cX4_understood 15 = .ok (.iconst 0, 1) := by decide +kernel
theorem dX4_understood_16 : decode cX4_understood 16 = .ok (.istore 6, 2) := by decide +kernel
theorem dX4_understood_18 : decode cX4_understood 18 = .ok (.iload 6, 2) := by decide +kernel
theorem dX4_understood_20 : decode cX4_understood 20 = .ok (.iload 5, 2) := by decide +kernel
theorem dX4_understood_22 : decode cX4_understood 22 = .ok (.if_icmp .ge 38, 3) := by decide +kernel
theorem dX4_understood_25 : decode cX4_understood 25 = .ok (.aload 4, 2) := by decide +kernel
theorem dX4_understood_27 : decode cX4_understood 27 = .ok (.iload 6, 2) := by decide +kernel
theorem dX4_understood_29 : decode cX4_understood 29 = .ok (.aaload, 1) := by decide +kernel
theorem dX4_understood_30 : decode cX4_understood 30 = .ok (.astore 7, 2) := by decide +kernel
theorem dX4_understood_32 : decode cX4_understood 32 = .ok (.iload_n 3, 1) := by decide +kernel
theorem dX4_understood_33 : decode cX4_understood 33 = .ok (.aload_n 0, 1) := by decide +kernel
theorem dX4_understood_34 : decode cX4_understood 34 = .ok (.aload 7, 2) := by decide +kernel
theorem dX4_understood_36 : decode cX4_understood 36 = .ok (.iload_n 2, 1) := by decide +kernel
theorem dX4_understood_37 : decode cX4_understood 37 = .ok (.invokevirtual 39, 3) := by decide +kernel
theorem dX4_understood_40 : decode cX4_understood 40 = .ok (.aload 7, 2) := by decide +kernel
theorem dX4_understood_42 : decode cX4_understood 42 = .ok (.iconst 4, 1) := by decide +kernel
theorem dX4_understood_43 : decode cX4_understood 43 = .ok (.iaload, 1) := by decide +kernel
theorem dX4_understood_44 : decode cX4_understood 44 = .ok (.if_icmp .ne 7, 3) := by decide +kernel
theorem dX4_understood_47 : decode cX4_understood 47 = .ok (.iconst 1, 1) := by decide +kernel
theorem dX4_understood_48 : decode cX4_understood 48 = .ok (.goto 4, 3) := by decide +kernel
theorem dX4_understood_51 : decode cX4_understood 51 = .ok (.iconst 0, 1) := by decide +kernel
theorem dX4_understood_52 : decode cX4_understood 52 = .ok (.iadd, 1) := by decide +kernel
theorem dX4_understood_53 : decode cX4_understood 53 = .ok (.istore_n 3, 1) := by decide +kernel
theorem dX4_understood_54 : decode cX4_understood 54 = .ok (.iinc 6 1, 3) := by decide +kernel
theorem dX4_understood_57 : decode cX4_understood 57 = .ok (.goto (-39), 3) := by decide +kernel
theorem dX4_understood_60 : decode cX4_understood 60 = .ok (.iload_n 3, 1) := by decide +kernel
theorem dX4_understood_61 : decode cX4_understood 61 = .ok (.ireturn, 1) := by decide +kernel
theorem dX4_isSame_0 : decode cX4_isSame 0 = .ok (.aload_n 0, 1) := by decide +kernel
theorem dX4_isSame_1 : decode cX4_isSame 1 = .ok (.getfield 9, 3) := by decide +kernel
theorem dX4_isSame_4 : decode cX4_isSame 4 = .ok (.arraylength, 1) := by decide +kernel
theorem dX4_isSame_5 : decode cX4_isSame 5 = .ok (.istore_n 2, 1) := by decide +kernel
theorem dX4_isSame_6 : decode cX4_isSame 6 = .ok (.aload_n 1, 1) := by decide +kernel
theorem dX4_isSame_7 : decode cX4_isSame 7 = .ok (.invokevirtual 43, 3) := by decide +kernel
theorem dX4_isSame_10 : decode cX4_isSame 10 = .ok (.iload_n 2, 1) := by decide +kernel
theorem dX4_isSame_11 : decode cX4_isSame 11 = .ok (.if_icmp .ne 14, 3) := by decide +kernel
theorem dX4_isSame_14 : decode cX4_isSame 14 = .ok (.aload_n 1, 1) := by decide +kernel
theorem dX4_isSame_15 : decode cX4_isSame 15 = .ok (.invokevirtual 49, 3) := by decide +kernel
theorem dX4_isSame_18 : decode cX4_isSame 18 = .ok (.aload_n 0, 1) := by decide +kernel
theorem dX4_isSame_19 : decode cX4_isSame 19 = .ok (.invokevirtual 52, 3) := by decide +kernel
theorem dX4_isSame_22 : decode cX4_isSame 22 = .ok (.if_icmp .eq 5, 3) := by decide +kernel
theorem dX4_isSame_25 : decode cX4_isSame 25 = .ok (.iconst 0, 1) := by decide +kernel
theorem dX4_isSame_26 : decode cX4_isSame 26 = .ok (.ireturn, 1) := by decide +kernel
theorem dX4_isSame_27 : decode cX4_isSame 27 = .ok (.iconst 0, 1) := by decide +kernel
theorem dX4_isSame_28 : decode cX4_isSame 28 = .ok (.istore_n 3, 1) := by decide +kernel
theorem dX4_isSame_29 : decode cX4_isSame 29 = .ok (.iconst 0, 1) := by decide +kernel
theorem dX4_isSame_30 : decode cX4_isSame 30 = .ok (.istore 4, 2) := by decide +kernel
theorem dX4_isSame_32 : decode cX4_isSame 32 = .ok (.iload 4, 2) := by decide +kernel
theorem dX4_isSame_34 : decode cX4_isSame 34 = .ok (.iload_n 2, 1) := by decide +kernel
theorem dX4_isSame_35 : decode cX4_isSame 35 = .ok (.if_icmp .ge 572, 3) := by decide +kernel
theorem dX4_isSame_38 : decode cX4_isSame 38 = .ok (.aload_n 0, 1) := by decide +kernel
theorem dX4_isSame_39 : decode cX4_isSame 39 = .ok (.getfield 9, 3) := by decide +kernel
theorem dX4_isSame_42 : decode cX4_isSame 42 = .ok (.iload 4, 2) := by decide +kernel
theorem dX4_isSame_44 : decode cX4_isSame 44 = .ok (.aaload, 1) := by decide +kernel
theorem dX4_isSame_45 : decode cX4_isSame 45 = .ok (.astore 5, 2) := by decide +kernel
theorem dX4_isSame_47 : decode cX4_isSame 47 = .ok (.iload_n 3, 1) := by decide +kernel
theorem dX4_isSame_48 : decode cX4_isSame 48 = .ok (.aload 5, 2) := by decide +kernel
theorem dX4_isSame_50 : decode cX4_isSame 50 = .ok (.arraylength, 1) := by decide +kernel
theorem dX4_isSame_51 : decode cX4_isSame 51 = .ok (.iadd, 1) := by decide +kernel
theorem dX4_isSame_52 : decode cX4_isSame 52 = .ok (.istore_n 3, 1) := by decide +kernel
theorem dX4_isSame_53 : decode cX4_isSame 53 = .ok (.iconst 0, 1) := by decide +kernel
theorem dX4_isSame_54 : decode cX4_isSame 54 = .ok (.istore 6, 2) := by decide +kernel
theorem dX4_isSame_56 : decode cX4_isSame 56 = .ok (.bipush 99, 2) := by decide +kernel
theorem dX4_isSame_58 : decode cX4_isSame 58 = .ok (.istore 7, 2) := by decide +kernel
theorem dX4_isSame_60 : decode cX4_isSame 60 = .ok (.iconst (-1), 1) := by decide +kernel
theorem dX4_isSame_61 : decode cX4_isSame 61 = .ok (.istore 8, 2) := by decide +kernel
theorem dX4_isSame_63 : decode cX4_isSame 63 = .ok (.iconst (-1), 1) := by decide +kernel
theorem dX4_isSame_64 : decode cX4_isSame 64 = .ok (.istore 9, 2) := by decide +kernel
theorem dX4_isSame_66 : decode cX4_isSame 66 = .ok (.iconst 0, 1) := by decide +kernel
theorem dX4_isSame_67 : decode cX4_isSame 67 = .ok (.istore 10, 2) := by decide +kernel
theorem dX4_isSame_69 : decode cX4_isSame 69 = .ok (.iload 10, 2) := by decide +kernel
theorem dX4_isSame_71 : decode cX4_isSame 71 = .ok (.aload 5, 2) := by decide +kernel
theorem dX4_isSame_73 : decode cX4_isSame 73 = .ok (.arraylength, 1) := by decide +kernel
theorem dX4_isSame_74 : decode cX4_isSame 74 = .ok (.if_icmp .ge 244, 3) := by decide +kernel
theorem dX4_isSame_77 : decode cX4_isSame 77 = .ok (.iconst 0, 1) := by decide +kernel
theorem dX4_isSame_78 : decode cX4_isSame 78 = .ok (.istore 11, 2) := by decide +kernel
theorem dX4_isSame_80 : decode cX4_isSame 80 = .ok (.iconst 0, 1) := by decide +kernel
theorem dX4_isSame_81 : decode cX4_isSame 81 = .ok (.istore 12, 2) := by decide +kernel
theorem dX4_isSame_83 : decode cX4_isSame 83 = .ok (.iload 12, 2) := by decide +kernel
theorem dX4_isSame_85 : decode cX4_isSame 85 = .ok (.aload 5, 2) := by decide +kernel
theorem dX4_isSame_87 : decode cX4_isSame 87 = .ok (.arraylength, 1) := by decide +kernel
theorem dX4_isSame_88 : decode cX4_isSame 88 = .ok (.if_icmp .ge 117, 3) := by decide +kernel
theorem dX4_isSame_91 : decode cX4_isSame 91 = .ok (.aload_n 0, 1) := by decide +kernel
theorem dX4_isSame_92 : decode cX4_isSame 92 = .ok (.aload 5, 2) := by decide +kernel
theorem dX4_isSame_94 : decode cX4_isSame 94 = .ok (.iload 10, 2) := by decide +kernel
theorem dX4_isSame_96 : decode cX4_isSame 96 = .ok (.aaload, 1) := by decide +kernel
theorem dX4_isSame_97 : decode cX4_isSame 97 = .ok (.aload 5, 2) := by decide +kernel
theorem dX4_isSame_99 : decode cX4_isSame 99 = .ok (.iload 12, 2) := by decide +kernel
theorem dX4_isSame_101 : decode cX4_isSame 101 = .ok (.aaload, 1) := by decide +kernel
theorem dX4_isSame_102 : decode cX4_isSame 102 = .ok (.invokevirtual 32, 3) := by decide +kernel
theorem dX4_isSame_105 : decode cX4_isSame 105 = .ok (.istore 13, 2) := by decide +kernel
theorem dX4_isSame_107 : decode cX4_isSame 107 = .ok (.aload_n 1, 1) := by decide +kernel
theorem dX4_isSame_108 : decode cX4_isSame 108 = .ok (.iload 4, 2) := by decide +kernel
theorem dX4_isSame_110 : decode cX4_isSame 110 = .ok (.iload 10, 2) := by decide +kernel
theorem dX4_isSame_112 : decode cX4_isSame 112 = .ok (.iload 12, 2) := by decide +kernel
theorem dX4_isSame_114 : decode cX4_isSame 114 = .ok (.invokevirtual 53, 3) := by decide +kernel
theorem dX4_isSame_117 : decode cX4_isSame 117 = .ok (.iload 13, 2) := by decide +kernel
theorem dX4_isSame_119 : decode cX4_isSame 119 = .ok (.if_icmp .eq 5, 3) := by decide +kernel
theorem dX4_isSame_122 : decode cX4_isSame 122 = .ok (.iconst 0, 1) := by decide +kernel
theorem dX4_isSame_123 : decode cX4_isSame 123 = .ok (.ireturn, 1) := by decide +kernel
theorem dX4_isSame_124 : decode cX4_isSame 124 = .ok (.iload 12, 2) := by decide +kernel
theorem dX4_isSame_126 : decode cX4_isSame 126 = .ok (.iload 10, 2) := by decide +kernel
theorem dX4_isSame_128 : decode cX4_isSame 128 = .ok (.if_icmp .ne 6, 3) := by decide +kernel
theorem dX4_isSame_131 : decode cX4_isSame 131 = .ok (.goto 68, 3) := by decide +kernel
theorem dX4_isSame_134 : decode cX4_isSame 134 = .ok (.iload 11, 2) := by decide +kernel
theorem dX4_isSame_136 : decode cX4_isSame 136 = .ok (.iload 13, 2) := by decide +kernel
theorem dX4_isSame_138 : decode cX4_isSame 138 = .ok (.iconst 4, 1) := by decide +kernel
theorem dX4_isSame_139 : decode cX4_isSame 139 = .ok (.if_icmp .ge 7, 3) := by decide +kernel
theorem dX4_isSame_142 : decode cX4_isSame 142 = .ok (.iconst 1, 1) := by decide +kernel
theorem dX4_isSame_143 : decode cX4_isSame 143 = .ok (.goto 4, 3) := by decide +kernel
theorem dX4_isSame_146 : decode cX4_isSame 146 = .ok (.iconst 0, 1) := by decide +kernel
theorem dX4_isSame_147 : decode cX4_isSame 147 = .ok (.iadd, 1) := by decide +kernel
theorem dX4_isSame_148 : decode cX4_isSame 148 = .ok (.istore 11, 2) := by decide +kernel
theorem dX4_isSame_150 : decode cX4_isSame 150 = .ok (.iload 7, 2) := by decide +kernel
theorem dX4_isSame_152 : decode cX4_isSame 152 = .ok (.iload 13, 2) := by decide +kernel
theorem dX4_isSame_154 : decode cX4_isSame 154 = .ok (.invokestatic 57, 3) := by decide +kernel
theorem dX4_isSame_157 : decode cX4_isSame 157 = .ok (.istore 7, 2) := by decide +kernel
theorem dX4_isSame_159 : decode cX4_isSame 159 = .ok (.iload 6, 2) := by decide +kernel
theorem dX4_isSame_161 : decode cX4_isSame 161 = .ok (.iload 12, 2) := by decide +kernel
theorem dX4_isSame_163 : decode cX4_isSame 163 = .ok (.iload 10, 2) := by decide +kernel
theorem dX4_isSame_165 : decode cX4_isSame 165 = .ok (.if_icmp .ge 30, 3) := by decide +kernel
theorem dX4_isSame_168 : decode cX4_isSame 168 = .ok (.iload 13, 2) := by decide +kernel
theorem dX4_isSame_170 : decode cX4_isSame 170 = .ok (.iconst 1, 1) := by decide +kernel
theorem dX4_isSame_171 : decode cX4_isSame 171 = .ok (.if_icmp .ne 24, 3) := by decide +kernel
theorem dX4_isSame_174 : decode cX4_isSame 174 = .ok (.aload 5, 2) := by decide +kernel
theorem dX4_isSame_176 : decode cX4_isSame 176 = .ok (.iload 10, 2) := by decide +kernel
theorem dX4_isSame_178 : decode cX4_isSame 178 = .ok (.aaload, 1) := by decide +kernel
theorem dX4_isSame_179 : decode cX4_isSame 179 = .ok (.iconst 1, 1) := by decide +kernel
theorem dX4_isSame_180 : decode cX4_isSame 180 = .ok (.iaload, 1) := by decide +kernel
theorem dX4_isSame_181 : decode cX4_isSame 181 = .ok (.aload 5, 2) := by decide +kernel
theorem dX4_isSame_183 : decode cX4_isSame 183 = .ok (.iload 12, 2) := by decide +kernel
theorem dX4_isSame_185 : decode cX4_isSame 185 = .ok (.aaload, 1) := by decide +kernel
theorem dX4_isSame_186 : decode cX4_isSame 186 = .ok (.iconst 1, 1) := by decide +kernel
theorem dX4_isSame_187 : decode cX4_isSame 187 = .ok (.iaload, 1) := by decide +kernel
theorem dX4_isSame_188 : decode cX4_isSame 188 = .ok (.if_icmp .eq 7, 3) := by decide +kernel
theorem dX4_isSame_191 : decode cX4_isSame 191 = .ok (.iconst 1, 1) := by decide +kernel
theorem dX4_isSame_192 : decode cX4_isSame 192 = .ok (.goto 4, 3) := by decide +kernel
theorem dX4_isSame_195 : decode cX4_isSame 195 = .ok (.iconst 0, 1) := by decide +kernel
theorem dX4_isSame_196 : decode cX4_isSame 196 = .ok (.iadd, 1) := by decide +kernel
theorem dX4_isSame_197 : decode cX4_isSame 197 = .ok (.istore 6, 2) := by decide +kernel
theorem dX4_isSame_199 : decode cX4_isSame 199 = .ok (.iinc 12 1, 3) := by decide +kernel
theorem dX4_isSame_202 : decode cX4_isSame 202 = .ok (.goto (-119), 3) := by decide +kernel
theorem dX4_isSame_205 : decode cX4_isSame 205 = .ok (.iload 11, 2) := by decide +kernel
theorem dX4_isSame_207 : decode cX4_isSame 207 = .ok (.iload 9, 2) := by decide +kernel
theorem dX4_isSame_209 : decode cX4_isSame 209 = .ok (.if_icmp .le 11, 3) := by decide +kernel
theorem dX4_isSame_212 : decode cX4_isSame 212 = .ok (.iload 11, 2) := by decide +kernel
theorem dX4_isSame_214 : decode cX4_isSame 214 = .ok (.istore 9, 2) := by decide +kernel
theorem dX4_isSame_216 : decode cX4_isSame 216 = .ok (.iload 10, 2) := by decide +kernel
theorem dX4_isSame_218 : decode cX4_isSame 218 = .ok (.istore 8, 2) := by decide +kernel
theorem dX4_isSame_220 : decode cX4_isSame 220 = .ok (.aload_n 1, 1) := by decide +kernel
theorem dX4_isSame_221 : decode cX4_isSame 221 = .ok (.iload 4, 2) := by decide +kernel
theorem dX4_isSame_223 : decode cX4_isSame 223 = .ok (.iload 10, 2) := by decide +kernel
theorem dX4_isSame_225 : decode cX4_isSame 225 = .ok (.invokevirtual 60, 3) := by decide +kernel
theorem dX4_isSame_228 : decode cX4_isSame 228 = .ok (.aload 5, 2) := by decide +kernel
theorem dX4_isSame_230 : decode cX4_isSame 230 = .ok (.iload 10, 2) := by decide +kernel
theorem dX4_isSame_232 : decode cX4_isSame 232 = .ok (.aaload, 1) := by decide +kernel
theorem dX4_isSame_233 : decode cX4_isSame 233 = .ok (.iconst 0, 1) := by decide +kernel
theorem dX4_isSame_234 : decode cX4_isSame 234 = .ok (.iaload, 1) := by decide +kernel
theorem dX4_isSame_235 : decode cX4_isSame 235 = .ok (.if_icmp .ne 75, 3) := by decide +kernel
theorem dX4_isSame_238 : decode cX4_isSame 238 = .ok (.aload_n 1, 1) := by decide +kernel
theorem dX4_isSame_239 : decode cX4_isSame 239 = .ok (.iload 4, 2) := by decide +kernel
theorem dX4_isSame_241 : decode cX4_isSame 241 = .ok (.iload 10, 2) := by decide +kernel
theorem dX4_isSame_243 : decode cX4_isSame 243 = .ok (.invokevirtual 63, 3) := by decide +kernel
theorem dX4_isSame_246 : decode cX4_isSame 246 = .ok (.aload 5, 2) := by decide +kernel
theorem dX4_isSame_248 : decode cX4_isSame 248 = .ok (.iload 10, 2) := by decide +kernel
theorem dX4_isSame_250 : decode cX4_isSame 250 = .ok (.aaload, 1) := by decide +kernel
theorem dX4_isSame_251 : decode cX4_isSame 251 = .ok (.iconst 1, 1) := by decide +kernel
theorem dX4_isSame_252 : decode cX4_isSame 252 = .ok (.iaload, 1) := by decide +kernel
theorem dX4_isSame_253 : decode cX4_isSame 253 = .ok (.if_icmp .ne 57, 3) := by decide +kernel
theorem dX4_isSame_256 : decode cX4_isSame 256 = .ok (.aload_n 1, 1) := by decide +kernel
theorem dX4_isSame_257 : decode cX4_isSame 257 = .ok (.iload 4, 2) := by decide +kernel
theorem dX4_isSame_259 : decode cX4_isSame 259 = .ok (.iload 10, 2) := by decide +kernel
theorem dX4_isSame_261 : decode cX4_isSame 261 = .ok (.invokevirtual 66, 3) := by decide +kernel
theorem dX4_isSame_264 : decode cX4_isSame 264 = .ok (.aload 5, 2) := by decide +kernel
theorem dX4_isSame_266 : decode cX4_isSame 266 = .ok (.iload 10, 2) := by decide +kernel
theorem dX4_isSame_268 : decode cX4_isSame 268 = .ok (.aaload, 1) := by decide +kernel
theorem dX4_isSame_269 : decode cX4_isSame 269 = .ok (.iconst 2, 1) := by decide +kernel
theorem dX4_isSame_270 : decode cX4_isSame 270 = .ok (.iaload, 1) := by decide +kernel
theorem dX4_isSame_271 : decode cX4_isSame 271 = .ok (.if_icmp .ne 39, 3) := by decide +kernel
theorem dX4_isSame_274 : decode cX4_isSame 274 = .ok (.aload_n 1, 1) := by decide +kernel
theorem dX4_isSame_275 : decode cX4_isSame 275 = .ok (.iload 4, 2) := by decide +kernel
theorem dX4_isSame_277 : decode cX4_isSame 277 = .ok (.iload 10, 2) := by decide +kernel
theorem dX4_isSame_279 : decode cX4_isSame 279 = .ok (.invokevirtual 69, 3) := by decide +kernel
theorem dX4_isSame_282 : decode cX4_isSame 282 = .ok (.aload 5, 2) := by decide +kernel
theorem dX4_isSame_284 : decode cX4_isSame 284 = .ok (.iload 10, 2) := by decide +kernel
theorem dX4_isSame_286 : decode cX4_isSame 286 = .ok (.aaload, 1) := by decide +kernel
theorem dX4_isSame_287 : decode cX4_isSame 287 = .ok (.iconst 4, 1) := by decide +kernel
theorem dX4_isSame_288 : decode cX4_isSame 288 = .ok (.iaload, 1) := by decide +kernel
theorem dX4_isSame_289 : decode cX4_isSame 289 = .ok (.if_icmp .ne 21, 3) := by decide +kernel
theorem dX4_isSame_292 : decode cX4_isSame 292 = .ok (.aload_n 1, 1) := by decide +kernel
theorem dX4_isSame_293 : decode cX4_isSame 293 = .ok (.iload 4, 2) := by decide +kernel
theorem dX4_isSame_295 : decode cX4_isSame 295 = .ok (.aload 5, 2) := by decide +kernel
theorem dX4_isSame_297 : decode cX4_isSame 297 = .ok (.iload 10, 2) := by decide +kernel
theorem dX4_isSame_299 : decode cX4_isSame 299 = .ok (.aaload, 1) := by decide +kernel
theorem dX4_isSame_300 : decode cX4_isSame 300 = .ok (.iconst 4, 1) := by decide +kernel
theorem dX4_isSame_301 : decode cX4_isSame 301 = .ok (.iaload, 1) := by decide +kernel
theorem dX4_isSame_302 : decode cX4_isSame 302 = .ok (.invokevirtual 72, 3) := by decide +kernel
theorem dX4_isSame_305 : decode cX4_isSame 305 = .ok (.iload 10, 2) := by decide +kernel
theorem dX4_isSame_307 : decode cX4_isSame 307 = .ok (.if_icmp .eq 5, 3) := by decide +kernel
theorem dX4_isSame_310 : decode cX4_isSame 310 = .ok (.iconst 0, 1) := by decide +kernel
theorem dX4_isSame_311 : decode cX4_isSame 311 = .ok (.ireturn, 1) := by decide +kernel
theorem dX4_isSame_312 : decode cX4_isSame 312 = .ok (.iinc 10 1, 3) := by decide +kernel
theorem dX4_isSame_315 : decode cX4_isSame 315 = .ok (.goto (-246), 3) := by decide +kernel
theorem dX4_isSame_318 : decode cX4_isSame 318 = .ok (.aload_n 1, 1) := by decide +kernel
theorem dX4_isSame_319 : decode cX4_isSame 319 = .ok (.iload 4, 2) := by decide +kernel
theorem dX4_isSame_321 : decode cX4_isSame 321 = .ok (.invokevirtual 73, 3) := by decide +kernel
theorem dX4_isSame_324 : decode cX4_isSame 324 = .ok (.aload 5, 2) := by decide +kernel
theorem dX4_isSame_326 : decode cX4_isSame 326 = .ok (.arraylength, 1) := by decide +kernel
theorem dX4_isSame_327 : decode cX4_isSame 327 = .ok (.if_icmp .ne 62, 3) := by decide +kernel
theorem dX4_isSame_330 : decode cX4_isSame 330 = .ok (.aload_n 1, 1) := by decide +kernel
theorem dX4_isSame_331 : decode cX4_isSame 331 = .ok (.iload 4, 2) := by decide +kernel
theorem dX4_isSame_333 : decode cX4_isSame 333 = .ok (.invokevirtual 76, 3) := by decide +kernel
theorem dX4_isSame_336 : decode cX4_isSame 336 = .ok (.aload_n 0, 1) := by decide +kernel
theorem dX4_isSame_337 : decode cX4_isSame 337 = .ok (.iload 4, 2) := by decide +kernel
theorem dX4_isSame_339 : decode cX4_isSame 339 = .ok (.invokevirtual 79, 3) := by decide +kernel
theorem dX4_isSame_342 : decode cX4_isSame 342 = .ok (.if_icmp .ne 47, 3) := by decide +kernel
theorem dX4_isSame_345 : decode cX4_isSame 345 = .ok (.aload_n 1, 1) := by decide +kernel
theorem dX4_isSame_346 : decode cX4_isSame 346 = .ok (.iload 4, 2) := by decide +kernel
theorem dX4_isSame_348 : decode cX4_isSame 348 = .ok (.invokevirtual 82, 3) := by decide +kernel
theorem dX4_isSame_351 : decode cX4_isSame 351 = .ok (.iload 6, 2) := by decide +kernel
theorem dX4_isSame_353 : decode cX4_isSame 353 = .ok (.if_icmp .ne 36, 3) := by decide +kernel
theorem dX4_isSame_356 : decode cX4_isSame 356 = .ok (.aload_n 1, 1) := by decide +kernel
theorem dX4_isSame_357 : decode cX4_isSame 357 = .ok (.iload 4, 2) := by decide +kernel
theorem dX4_isSame_359 : decode cX4_isSame 359 = .ok (.invokevirtual 85, 3) := by decide +kernel
theorem dX4_isSame_362 : decode cX4_isSame 362 = .ok (.iload 7, 2) := by decide +kernel
theorem dX4_isSame_364 : decode cX4_isSame 364 = .ok (.bipush 99, 2) := by decide +kernel
theorem dX4_isSame_366 : decode cX4_isSame 366 = .ok (.if_icmp .ne 7, 3) := by decide +kernel
theorem dX4_isSame_369 : decode cX4_isSame 369 = .ok (.iconst 0, 1) := by decide +kernel
theorem dX4_isSame_370 : decode cX4_isSame 370 = .ok (.goto 5, 3) := by decide +kernel
theorem dX4_isSame_373 : decode cX4_isSame 373 = .ok (.iload 7, 2) := by decide +kernel
theorem dX4_isSame_375 : decode cX4_isSame 375 = .ok (.if_icmp .ne 14, 3) := by decide +kernel
theorem dX4_isSame_378 : decode cX4_isSame 378 = .ok (.aload_n 1, 1) := by decide +kernel
theorem dX4_isSame_379 : decode cX4_isSame 379 = .ok (.iload 4, 2) := by decide +kernel
theorem dX4_isSame_381 : decode cX4_isSame 381 = .ok (.invokevirtual 88, 3) := by decide +kernel
theorem dX4_isSame_384 : decode cX4_isSame 384 = .ok (.iload 8, 2) := by decide +kernel
theorem dX4_isSame_386 : decode cX4_isSame 386 = .ok (.if_icmp .eq 5, 3) := by decide +kernel
theorem dX4_isSame_389 : decode cX4_isSame 389 = .ok (.iconst 0, 1) := by decide +kernel
theorem dX4_isSame_390 : decode cX4_isSame 390 = .ok (.ireturn, 1) := by decide +kernel
theorem dX4_isSame_391 : decode cX4_isSame 391 = .ok (.iconst 0, 1) := by decide +kernel
theorem dX4_isSame_392 : decode cX4_isSame 392 = .ok (.istore 10, 2) := by decide +kernel
theorem dX4_isSame_394 : decode cX4_isSame 394 = .ok (.iload 10, 2) := by decide +kernel
theorem dX4_isSame_396 : decode cX4_isSame 396 = .ok (.iload_n 2, 1) := by decide +kernel
theorem dX4_isSame_397 : decode cX4_isSame 397 = .ok (.if_icmp .ge 204, 3) := by decide +kernel
theorem dX4_isSame_400 : decode cX4_isSame 400 = .ok (.iconst 0, 1) := by decide +kernel
theorem dX4_isSame_401 : decode cX4_isSame 401 = .ok (.istore 11, 2) := by decide +kernel
theorem dX4_isSame_403 : decode cX4_isSame 403 = .ok (.iconst 0, 1) := by decide +kernel
theorem dX4_isSame_404 : decode cX4_isSame 404 = .ok (.istore 12, 2) := by decide +kernel
theorem dX4_isSame_406 : decode cX4_isSame 406 = .ok (.iconst 0, 1) := by decide +kernel
theorem dX4_isSame_407 : decode cX4_isSame 407 = .ok (.istore 13, 2) := by decide +kernel
theorem dX4_isSame_409 : decode cX4_isSame 409 = .ok (.iload 13, 2) := by decide +kernel
theorem dX4_isSame_411 : decode cX4_isSame 411 = .ok (.aload 5, 2) := by decide +kernel
theorem dX4_isSame_413 : decode cX4_isSame 413 = .ok (.arraylength, 1) := by decide +kernel
theorem dX4_isSame_414 : decode cX4_isSame 414 = .ok (.if_icmp .ge 134, 3) := by decide +kernel
theorem dX4_isSame_417 : decode cX4_isSame 417 = .ok (.aload_n 0, 1) := by decide +kernel
theorem dX4_isSame_418 : decode cX4_isSame 418 = .ok (.aload 5, 2) := by decide +kernel
theorem dX4_isSame_420 : decode cX4_isSame 420 = .ok (.iload 13, 2) := by decide +kernel
theorem dX4_isSame_422 : decode cX4_isSame 422 = .ok (.aaload, 1) := by decide +kernel
theorem dX4_isSame_423 : decode cX4_isSame 423 = .ok (.iload 10, 2) := by decide +kernel
theorem dX4_isSame_425 : decode cX4_isSame 425 = .ok (.invokevirtual 39, 3) := by decide +kernel
theorem dX4_isSame_428 : decode cX4_isSame 428 = .ok (.istore 14, 2) := by decide +kernel
theorem dX4_isSame_430 : decode cX4_isSame 430 = .ok (.aload_n 0, 1) := by decide +kernel
theorem dX4_isSame_431 : decode cX4_isSame 431 = .ok (.iload 10, 2) := by decide +kernel
theorem dX4_isSame_433 : decode cX4_isSame 433 = .ok (.aload 5, 2) := by decide +kernel
theorem dX4_isSame_435 : decode cX4_isSame 435 = .ok (.iload 13, 2) := by decide +kernel
theorem dX4_isSame_437 : decode cX4_isSame 437 = .ok (.aaload, 1) := by decide +kernel
theorem dX4_isSame_438 : decode cX4_isSame 438 = .ok (.iconst 4, 1) := by decide +kernel
theorem dX4_isSame_439 : decode cX4_isSame 439 = .ok (.iaload, 1) := by decide +kernel
theorem dX4_isSame_440 : decode cX4_isSame 440 = .ok (.invokevirtual 36, 3) := by decide +kernel
theorem dX4_isSame_443 : decode cX4_isSame 443 = .ok (.istore 15, 2) := by decide +kernel
theorem dX4_isSame_445 : decode cX4_isSame 445 = .ok (.iload 11, 2) := by decide +kernel
theorem dX4_isSame_447 : decode cX4_isSame 447 = .ok (.iload 14, 2) := by decide +kernel
theorem dX4_isSame_449 : decode cX4_isSame 449 = .ok (.ifCond .lt 19, 3) := by decide +kernel
theorem dX4_isSame_452 : decode cX4_isSame 452 = .ok (.iload 14, 2) := by decide +kernel
theorem dX4_isSame_454 : decode cX4_isSame 454 = .ok (.aload 5, 2) := by decide +kernel
theorem dX4_isSame_456 : decode cX4_isSame 456 = .ok (.iload 13, 2) := by decide +kernel
theorem dX4_isSame_458 : decode cX4_isSame 458 = .ok (.aaload, 1) := by decide +kernel
theorem dX4_isSame_459 : decode cX4_isSame 459 = .ok (.iconst 4, 1) := by decide +kernel
theorem dX4_isSame_460 : decode cX4_isSame 460 = .ok (.iaload, 1) := by decide +kernel
theorem dX4_isSame_461 : decode cX4_isSame 461 = .ok (.if_icmp .eq 7, 3) := by decide +kernel
theorem dX4_isSame_464 : decode cX4_isSame 464 = .ok (.iconst 1, 1) := by decide +kernel
theorem dX4_isSame_465 : decode cX4_isSame 465 = .ok (.goto 4, 3) := by decide +kernel
theorem dX4_isSame_468 : decode cX4_isSame 468 = .ok (.iconst 0, 1) := by decide +kernel
theorem dX4_isSame_469 : decode cX4_isSame 469 = .ok (.iadd, 1) := by decide +kernel
theorem dX4_isSame_470 : decode cX4_isSame 470 = .ok (.istore 11, 2) := by decide +kernel
theorem dX4_isSame_472 : decode cX4_isSame 472 = .ok (.iload 12, 2) := by decide +kernel
theorem dX4_isSame_474 : decode cX4_isSame 474 = .ok (.iload 15, 2) := by decide +kernel
theorem dX4_isSame_476 : decode cX4_isSame 476 = .ok (.ifCond .lt 45, 3) := by decide +kernel
theorem dX4_isSame_479 : decode cX4_isSame 479 = .ok (.iload 14, 2) := by decide +kernel
theorem dX4_isSame_481 : decode cX4_isSame 481 = .ok (.aload 5, 2) := by decide +kernel
theorem dX4_isSame_483 : decode cX4_isSame 483 = .ok (.iload 13, 2) := by decide +kernel
theorem dX4_isSame_485 : decode cX4_isSame 485 = .ok (.aaload, 1) := by decide +kernel
theorem dX4_isSame_486 : decode cX4_isSame 486 = .ok (.iconst 4, 1) := by decide +kernel
theorem dX4_isSame_487 : decode cX4_isSame 487 = .ok (.iaload, 1) := by decide +kernel
theorem dX4_isSame_488 : decode cX4_isSame 488 = .ok (.if_icmp .ne 33, 3) := by decide +kernel
theorem dX4_isSame_491 : decode cX4_isSame 491 = .ok (.aload_n 0, 1) := by decide +kernel
theorem dX4_isSame_492 : decode cX4_isSame 492 = .ok (.aload_n 0, 1) := by decide +kernel
theorem dX4_isSame_493 : decode cX4_isSame 493 = .ok (.getfield 9, 3) := by decide +kernel
theorem dX4_isSame_496 : decode cX4_isSame 496 = .ok (.iload 10, 2) := by decide +kernel
theorem dX4_isSame_498 : decode cX4_isSame 498 = .ok (.aaload, 1) := by decide +kernel
theorem dX4_isSame_499 : decode cX4_isSame 499 = .ok (.iload 15, 2) := by decide +kernel
theorem dX4_isSame_501 : decode cX4_isSame 501 = .ok (.aaload, 1) := by decide +kernel
theorem dX4_isSame_502 : decode cX4_isSame 502 = .ok (.iload 4, 2) := by decide +kernel
theorem dX4_isSame_504 : decode cX4_isSame 504 = .ok (.invokevirtual 39, 3) := by decide +kernel
theorem dX4_isSame_507 : decode cX4_isSame 507 = .ok (.aload 5, 2) := by decide +kernel
theorem dX4_isSame_509 : decode cX4_isSame 509 = .ok (.iload 13, 2) := by decide +kernel
theorem dX4_isSame_511 : decode cX4_isSame 511 = .ok (.aaload, 1) := by decide +kernel
theorem dX4_isSame_512 : decode cX4_isSame 512 = .ok (.iconst 4, 1) := by decide +kernel
theorem dX4_isSame_513 : decode cX4_isSame 513 = .ok (.iaload, 1) := by decide +kernel
theorem dX4_isSame_514 : decode cX4_isSame 514 = .ok (.if_icmp .ne 7, 3) := by decide +kernel
theorem dX4_isSame_517 : decode cX4_isSame 517 = .ok (.iconst 1, 1) := by decide +kernel
theorem dX4_isSame_518 : decode cX4_isSame 518 = .ok (.goto 4, 3) := by decide +kernel
theorem dX4_isSame_521 : decode cX4_isSame 521 = .ok (.iconst 0, 1) := by decide +kernel
theorem dX4_isSame_522 : decode cX4_isSame 522 = .ok (.iadd, 1) := by decide +kernel
theorem dX4_isSame_523 : decode cX4_isSame 523 = .ok (.istore 12, 2) := by decide +kernel
theorem dX4_isSame_525 : decode cX4_isSame 525 = .ok (.aload_n 1, 1) := by decide +kernel
theorem dX4_isSame_526 : decode cX4_isSame 526 = .ok (.iload 4, 2) := by decide +kernel
theorem dX4_isSame_528 : decode cX4_isSame 528 = .ok (.iload 13, 2) := by decide +kernel
theorem dX4_isSame_530 : decode cX4_isSame 530 = .ok (.iload 10, 2) := by decide +kernel
theorem dX4_isSame_532 : decode cX4_isSame 532 = .ok (.invokevirtual 91, 3) := by decide +kernel
theorem dX4_isSame_535 : decode cX4_isSame 535 = .ok (.iload 14, 2) := by decide +kernel
theorem dX4_isSame_537 : decode cX4_isSame 537 = .ok (.if_icmp .eq 5, 3) := by decide +kernel
theorem dX4_isSame_540 : decode cX4_isSame 540 = .ok (.iconst 0, 1) := by decide +kernel
theorem dX4_isSame_541 : decode cX4_isSame 541 = .ok (.ireturn, 1) := by decide +kernel
theorem dX4_isSame_542 : decode cX4_isSame 542 = .ok (.iinc 13 1, 3) := by decide +kernel
theorem dX4_isSame_545 : decode cX4_isSame 545 = .ok (.goto (-136), 3) := by decide +kernel
theorem dX4_isSame_548 : decode cX4_isSame 548 = .ok (.aload_n 1, 1) := by decide +kernel
theorem dX4_isSame_549 : decode cX4_isSame 549 = .ok (.iload 4, 2) := by decide +kernel
theorem dX4_isSame_551 : decode cX4_isSame 551 = .ok (.iload 10, 2) := by decide +kernel
theorem dX4_isSame_553 : decode cX4_isSame 553 = .ok (.invokevirtual 93, 3) := by decide +kernel
theorem dX4_isSame_556 : decode cX4_isSame 556 = .ok (.aload_n 0, 1) := by decide +kernel
theorem dX4_isSame_557 : decode cX4_isSame 557 = .ok (.iload 4, 2) := by decide +kernel
theorem dX4_isSame_559 : decode cX4_isSame 559 = .ok (.iload 10, 2) := by decide +kernel
theorem dX4_isSame_561 : decode cX4_isSame 561 = .ok (.invokevirtual 96, 3) := by decide +kernel
theorem dX4_isSame_564 : decode cX4_isSame 564 = .ok (.if_icmp .ne 29, 3) := by decide +kernel
theorem dX4_isSame_567 : decode cX4_isSame 567 = .ok (.aload_n 1, 1) := by decide +kernel
theorem dX4_isSame_568 : decode cX4_isSame 568 = .ok (.iload 4, 2) := by decide +kernel
theorem dX4_isSame_570 : decode cX4_isSame 570 = .ok (.iload 10, 2) := by decide +kernel
theorem dX4_isSame_572 : decode cX4_isSame 572 = .ok (.invokevirtual 97, 3) := by decide +kernel
theorem dX4_isSame_575 : decode cX4_isSame 575 = .ok (.iload 11, 2) := by decide +kernel
theorem dX4_isSame_577 : decode cX4_isSame 577 = .ok (.if_icmp .ne 16, 3) := by decide +kernel
theorem dX4_isSame_580 : decode cX4_isSame 580 = .ok (.aload_n 1, 1) := by decide +kernel
theorem dX4_isSame_581 : decode cX4_isSame 581 = .ok (.iload 4, 2) := by decide +kernel
theorem dX4_isSame_583 : decode cX4_isSame 583 = .ok (.iload 10, 2) := by decide +kernel
theorem dX4_isSame_585 : decode cX4_isSame 585 = .ok (.invokevirtual 100, 3) := by decide +kernel
theorem dX4_isSame_588 : decode cX4_isSame 588 = .ok (.iload 12, 2) := by decide +kernel
theorem dX4_isSame_590 : decode cX4_isSame 590 = .ok (.if_icmp .eq 5, 3) := by decide +kernel
theorem dX4_isSame_593 : decode cX4_isSame 593 = .ok (.iconst 0, 1) := by decide +kernel
theorem dX4_isSame_594 : decode cX4_isSame 594 = .ok (.ireturn, 1) := by decide +kernel
theorem dX4_isSame_595 : decode cX4_isSame 595 = .ok (.iinc 10 1, 3) := by decide +kernel
theorem dX4_isSame_598 : decode cX4_isSame 598 = .ok (.goto (-204), 3) := by decide +kernel
theorem dX4_isSame_601 : decode cX4_isSame 601 = .ok (.iinc 4 1, 3) := by decide +kernel
theorem dX4_isSame_604 : decode cX4_isSame 604 = .ok (.goto (-572), 3) := by decide +kernel
theorem dX4_isSame_607 : decode cX4_isSame 607 = .ok (.aload_n 1, 1) := by decide +kernel
theorem dX4_isSame_608 : decode cX4_isSame 608 = .ok (.invokevirtual 103, 3) := by decide +kernel
theorem dX4_isSame_611 : decode cX4_isSame 611 = .ok (.iload_n 2, 1) := by decide +kernel
theorem dX4_isSame_612 : decode cX4_isSame 612 = .ok (.ifCond .ne 7, 3) := by decide +kernel
theorem dX4_isSame_615 : decode cX4_isSame 615 = .ok (.dconst 0, 1) := by decide +kernel
theorem dX4_isSame_616 : decode cX4_isSame 616 = .ok (.goto 8, 3) := by decide +kernel
theorem dX4_isSame_619 : decode cX4_isSame 619 = .ok (.iload_n 3, 1) := by decide +kernel
theorem dX4_isSame_620 : decode cX4_isSame 620 = .ok (.i2d, 1) := by decide +kernel
theorem dX4_isSame_621 : decode cX4_isSame 621 = .ok (.iload_n 2, 1) := by decide +kernel
theorem dX4_isSame_622 : decode cX4_isSame 622 = .ok (.i2d, 1) := by decide +kernel
theorem dX4_isSame_623 : decode cX4_isSame 623 = .ok (.ddiv, 1) := by decide +kernel
theorem dX4_isSame_624 : decode cX4_isSame 624 = .ok (.dcmp .l, 1) := by decide +kernel
theorem dX4_isSame_625 : decode cX4_isSame 625 = .ok (.ifCond .ne 7, 3) := by decide +kernel
theorem dX4_isSame_628 : decode cX4_isSame 628 = .ok (.iconst 1, 1) := by decide +kernel
theorem dX4_isSame_629 : decode cX4_isSame 629 = .ok (.goto 4, 3) := by decide +kernel
theorem dX4_isSame_632 : decode cX4_isSame 632 = .ok (.iconst 0, 1) := by decide +kernel
theorem dX4_isSame_633 : decode cX4_isSame 633 = .ok (.ireturn, 1) := by decide +kernel
