theorem dX0_init_0 : decode cX0_init 0 = .ok (.aload_n 0, 1) := by decide +kernel
theorem dX0_init_1 : decode cX0_init 1 = .ok (.invokespecial 3, 3) := by decide +kernel
theorem dX0_init_4 : decode cX0_init 4 = .ok (.aload_n 0, 1) := by decide +kernel
theorem dX0_init_5 : decode cX0_init 5 = .ok (.aload_n 1, 1) := by decide +kernel
theorem dX0_init_6 : decode cX0_init 6 = .ok (.putfield 9, 3) := by decide +kernel
theorem dX0_init_9 : decode cX0_init 9 = .ok (.aload_n 0, 1) := by decide +kernel
theorem dX0_init_10 : decode cX0_init 10 = .ok (.bipush 16, 2) := by decide +kernel
theorem dX0_init_12 : decode cX0_init 12 = .ok (.newarray .int, 2) := by decide +kernel
theorem dX0_init_14 : decode cX0_init 14 = .ok (.putfield 15, 3) := by decide +kernel
theorem dX0_init_17 : decode cX0_init 17 = .ok (.aload_n 0, 1) := by decide +kernel
theorem dX0_init_18 : decode cX0_init 18 = .ok (.bipush 16, 2) := by decide +kernel
theorem dX0_init_20 : decode cX0_init 20 = .ok (.newarray .int, 2) := by decide +kernel
theorem dX0_init_22 : decode cX0_init 22 = .ok (.putfield 19, 3) := by decide +kernel
theorem dX0_init_25 : decode cX0_init 25 = .ok (.aload_n 0, 1) := by decide +kernel
theorem dX0_init_26 : decode cX0_init 26 = .ok (.iconst 0, 1) := by decide +kernel
theorem dX0_init_27 : decode cX0_init 27 = .ok (.putfield 22, 3) := by decide +kernel
theorem dX0_init_30 : decode cX0_init 30 = .ok (.return_, 1) := by decide +kernel
theorem dX0_hasRoomFor_0 : decode cX0_hasRoomFor 0 = .ok (.aload_n 0, 1) := by decide +kernel
theorem dX0_hasRoomFor_1 : decode cX0_hasRoomFor 1 = .ok (.getfield 22, 3) := by decide +kernel
theorem dX0_hasRoomFor_4 : decode cX0_hasRoomFor 4 = .ok (.bipush 16, 2) := by decide +kernel
theorem dX0_hasRoomFor_6 : decode cX0_hasRoomFor 6 = .ok (.if_icmp .ge 16, 3) := by decide +kernel
theorem dX0_hasRoomFor_9 : decode cX0_hasRoomFor 9 = .ok (.aload_n 0, 1) := by decide +kernel
theorem dX0_hasRoomFor_10 : decode cX0_hasRoomFor 10 = .ok (.iload_n 1, 1) := by decide +kernel
theorem dX0_hasRoomFor_11 : decode cX0_hasRoomFor 11 = .ok (.invokevirtual 32, 3) := by decide +kernel
theorem dX0_hasRoomFor_14 : decode cX0_hasRoomFor 14 = .ok (.iconst (-1), 1) := by decide +kernel
theorem dX0_hasRoomFor_15 : decode cX0_hasRoomFor 15 = .ok (.if_icmp .ne 7, 3) := by decide +kernel
theorem dX0_hasRoomFor_18 : decode cX0_hasRoomFor 18 = .ok (.iconst 1, 1) := by decide +kernel
theorem dX0_hasRoomFor_19 : decode cX0_hasRoomFor 19 = .ok (.goto 4, 3) := by decide +kernel
theorem dX0_hasRoomFor_22 : decode cX0_hasRoomFor 22 = .ok (.iconst 0, 1) := by decide +kernel
theorem dX0_hasRoomFor_23 : decode cX0_hasRoomFor 23 = .ok (.ireturn, 1) := by decide +kernel
theorem dX0_append_0 : decode cX0_append 0 = .ok (.aload_n 0, 1) := by decide +kernel
theorem dX0_append_1 : decode cX0_append 1 = .ok (.getfield 22, 3) := by decide +kernel
theorem dX0_append_4 : decode cX0_append 4 = .ok (.istore_n 3, 1) := by decide +kernel
theorem dX0_append_5 : decode cX0_append 5 = .ok (.iload_n 3, 1) := by decide +kernel
theorem dX0_append_6 : decode cX0_append 6 = .ok (.bipush 16, 2) := by decide +kernel
theorem dX0_append_8 : decode cX0_append 8 = .ok (.if_icmp .lt 5, 3) := by decide +kernel
theorem dX0_append_11 : decode cX0_append 11 = .ok (.iconst (-1), 1) := by decide +kernel
theorem dX0_append_12 : decode cX0_append 12 = .ok (.ireturn, 1) := by decide +kernel
theorem dX0_append_13 : decode cX0_append 13 = .ok (.aload_n 0, 1) := by decide +kernel
theorem dX0_append_14 : decode cX0_append 14 = .ok (.getfield 15, 3) := by decide +kernel
theorem dX0_append_17 : decode cX0_append 17 = .ok (.iload_n 3, 1) := by decide +kernel
theorem dX0_append_18 : decode cX0_append 18 = .ok (.iload_n 1, 1) := by decide +kernel
theorem dX0_append_19 : decode cX0_append 19 = .ok (.iastore, 1) := by decide +kernel
theorem dX0_append_20 : decode cX0_append 20 = .ok (.aload_n 0, 1) := by decide +kernel
theorem dX0_append_21 : decode cX0_append 21 = .ok (.getfield 19, 3) := by decide +kernel
theorem dX0_append_24 : decode cX0_append 24 = .ok (.iload_n 3, 1) := by decide +kernel
theorem dX0_append_25 : decode cX0_append 25 = .ok (.iload_n 2, 1) := by decide +kernel
theorem dX0_append_26 : decode cX0_append 26 = .ok (.iastore, 1) := by decide +kernel
theorem dX0_append_27 : decode cX0_append 27 = .ok (.aload_n 0, 1) := by decide +kernel
theorem dX0_append_28 : decode cX0_append 28 = .ok (.dup, 1) := by decide +kernel
theorem dX0_append_29 : decode cX0_append 29 = .ok (.getfield 22, 3) := by decide +kernel
theorem dX0_append_32 : decode cX0_append 32 = .ok (.iconst 1, 1) := by decide +kernel
theorem dX0_append_33 : decode cX0_append 33 = .ok (.iadd, 1) := by decide +kernel
theorem dX0_append_34 : decode cX0_append 34 = .ok (.putfield 22, 3) := by decide +kernel
theorem dX0_append_37 : decode cX0_append 37 = .ok (.iload_n 3, 1) := by decide +kernel
theorem dX0_append_38 : decode cX0_append 38 = .ok (.ireturn, 1) := by decide +kernel
theorem dX0_remove_0 : decode cX0_remove 0 = .ok (.aload_n 0, 1) := by decide +kernel
theorem dX0_remove_1 : decode cX0_remove 1 = .ok (.getfield 19, 3) := by decide +kernel
theorem dX0_remove_4 : decode cX0_remove 4 = .ok (.iload_n 1, 1) := by decide +kernel
theorem dX0_remove_5 : decode cX0_remove 5 = .ok (.iaload, 1) := by decide +kernel
theorem dX0_remove_6 : decode cX0_remove 6 = .ok (.istore_n 2, 1) := by decide +kernel
theorem dX0_remove_7 : decode cX0_remove 7 = .ok (.iload_n 1, 1) := by decide +kernel
theorem dX0_remove_8 : decode cX0_remove 8 = .ok (.iconst 1, 1) := by decide +kernel
theorem dX0_remove_9 : decode cX0_remove 9 = .ok (.iadd, 1) := by decide +kernel
theorem dX0_remove_10 : decode cX0_remove 10 = .ok (.istore_n 3, 1) := by decide +kernel
theorem dX0_remove_11 : decode cX0_remove 11 = .ok (.iload_n 3, 1) := by decide +kernel
theorem dX0_remove_12 : decode cX0_remove 12 = .ok (.aload_n 0, 1) := by decide +kernel
theorem dX0_remove_13 : decode cX0_remove 13 = .ok (.getfield 22, 3) := by decide +kernel
theorem dX0_remove_16 : decode cX0_remove 16 = .ok (.if_icmp .ge 37, 3) := by decide +kernel
theorem dX0_remove_19 : decode cX0_remove 19 = .ok (.aload_n 0, 1) := by decide +kernel
theorem dX0_remove_20 : decode cX0_remove 20 = .ok (.getfield 15, 3) := by decide +kernel
theorem dX0_remove_23 : decode cX0_remove 23 = .ok (.iload_n 3, 1) := by decide +kernel
theorem dX0_remove_24 : decode cX0_remove 24 = .ok (.iconst 1, 1) := by decide +kernel
theorem dX0_remove_25 : decode cX0_remove 25 = .ok (.isub, 1) := by decide +kernel
theorem dX0_remove_26 : decode cX0_remove 26 = .ok (.aload_n 0, 1) := by decide +kernel
theorem dX0_remove_27 : decode cX0_remove 27 = .ok (.getfield 15, 3) := by decide +kernel
theorem dX0_remove_30 : decode cX0_remove 30 = .ok (.iload_n 3, 1) := by decide +kernel
theorem dX0_remove_31 : decode cX0_remove 31 = .ok (.iaload, 1) := by decide +kernel
theorem dX0_remove_32 : decode cX0_remove 32 = .ok (.iastore, 1) := by decide +kernel
theorem dX0_remove_33 : decode cX0_remove 33 = .ok (.aload_n 0, 1) := by decide +kernel
theorem dX0_remove_34 : decode cX0_remove 34 = .ok (.getfield 19, 3) := by decide +kernel
theorem dX0_remove_37 : decode cX0_remove 37 = .ok (.iload_n 3, 1) := by decide +kernel
theorem dX0_remove_38 : decode cX0_remove 38 = .ok (.iconst 1, 1) := by decide +kernel
theorem dX0_remove_39 : decode cX0_remove 39 = .ok (.isub, 1) := by decide +kernel
theorem dX0_remove_40 : decode cX0_remove 40 = .ok (.aload_n 0, 1) := by decide +kernel
theorem dX0_remove_41 : decode cX0_remove 41 = .ok (.getfield 19, 3) := by decide +kernel
theorem dX0_remove_44 : decode cX0_remove 44 = .ok (.iload_n 3, 1) := by decide +kernel
theorem dX0_remove_45 : decode cX0_remove 45 = .ok (.iaload, 1) := by decide +kernel
theorem dX0_remove_46 : decode cX0_remove 46 = .ok (.iastore, 1) := by decide +kernel
theorem dX0_remove_47 : decode cX0_remove 47 = .ok (.iinc 3 1, 3) := by decide +kernel
theorem dX0_remove_50 : decode cX0_remove 50 = .ok (.goto (-39), 3) := by decide +kernel
theorem dX0_remove_53 : decode cX0_remove 53 = .ok (.aload_n 0, 1) := by decide +kernel
theorem dX0_remove_54 : decode cX0_remove 54 = .ok (.dup, 1) := by decide +kernel
theorem dX0_remove_55 : decode cX0_remove 55 = .ok (.getfield 22, 3) := by decide +kernel
theorem dX0_remove_58 : decode cX0_remove 58 = .ok (.iconst 1, 1) := by decide +kernel
theorem dX0_remove_59 : decode cX0_remove 59 = .ok (.isub, 1) := by decide +kernel
theorem dX0_remove_60 : decode cX0_remove 60 = .ok (.putfield 22, 3) := by decide +kernel
theorem dX0_remove_63 : decode cX0_remove 63 = .ok (.iload_n 2, 1) := by decide +kernel
theorem dX0_remove_64 : decode cX0_remove 64 = .ok (.ireturn, 1) := by decide +kernel
theorem dX0_find_0 : decode cX0_find 0 = .ok (.iconst 0, 1) := by decide +kernel
theorem dX0_find_1 : decode cX0_find 1 = .ok (.istore_n 2, 1) := by decide +kernel
theorem dX0_find_2 : decode cX0_find 2 = .ok (.iload_n 2, 1) := by decide +kernel
theorem dX0_find_3 : decode cX0_find 3 = .ok (.aload_n 0, 1) := by decide +kernel
theorem dX0_find_4 : decode cX0_find 4 = .ok (.getfield 22, 3) := by decide +kernel
theorem dX0_find_7 : decode cX0_find 7 = .ok (.if_icmp .ge 21, 3) := by decide +kernel
theorem dX0_find_10 : decode cX0_find 10 = .ok (.aload_n 0, 1) := by decide +kernel
theorem dX0_find_11 : decode cX0_find 11 = .ok (.getfield 19, 3) := by decide +kernel
theorem dX0_find_14 : decode cX0_find 14 = .ok (.iload_n 2, 1) := by decide +kernel
theorem dX0_find_15 : decode cX0_find 15 = .ok (.iaload, 1) := by decide +kernel
theorem dX0_find_16 : decode cX0_find 16 = .ok (.iload_n 1, 1) := by decide +kernel
theorem dX0_find_17 : decode cX0_find 17 = .ok (.if_icmp .ne 5, 3) := by decide +kernel
theorem dX0_find_20 : decode cX0_find 20 = .ok (.iload_n 2, 1) := by decide +kernel
theorem dX0_find_21 : decode cX0_find 21 = .ok (.ireturn, 1) := by decide +kernel
theorem dX0_find_22 : decode cX0_find 22 = .ok (.iinc 2 1, 3) := by decide +kernel
theorem dX0_find_25 : decode cX0_find 25 = .ok (.goto (-23), 3) := by decide +kernel
theorem dX0_find_28 : decode cX0_find 28 = .ok (.iconst (-1), 1) := by decide +kernel
theorem dX0_find_29 : decode cX0_find 29 = .ok (.ireturn, 1) := by decide +kernel
theorem dX0_hasAlike_0 : decode cX0_hasAlike 0 = .ok (.iconst 0, 1) := by decide +kernel
theorem dX0_hasAlike_1 : decode cX0_hasAlike 1 = .ok (.istore_n 2, 1) := by decide +kernel
theorem dX0_hasAlike_2 : decode cX0_hasAlike 2 = .ok (.iload_n 2, 1) := by decide +kernel
theorem dX0_hasAlike_3 : decode cX0_hasAlike 3 = .ok (.aload_n 0, 1) := by decide +kernel
theorem dX0_hasAlike_4 : decode cX0_hasAlike 4 = .ok (.getfield 22, 3) := by decide +kernel
theorem dX0_hasAlike_7 : decode cX0_hasAlike 7 = .ok (.if_icmp .ge 28, 3) := by decide +kernel
theorem dX0_hasAlike_10 : decode cX0_hasAlike 10 = .ok (.aload_n 0, 1) := by decide +kernel
theorem dX0_hasAlike_11 : decode cX0_hasAlike 11 = .ok (.getfield 9, 3) := by decide +kernel
theorem dX0_hasAlike_14 : decode cX0_hasAlike 14 = .ok (.iload_n 1, 1) := by decide +kernel
theorem dX0_hasAlike_15 : decode cX0_hasAlike 15 = .ok (.aload_n 0, 1) := by decide +kernel
theorem dX0_hasAlike_16 : decode cX0_hasAlike 16 = .ok (.getfield 15, 3) := by decide +kernel
theorem dX0_hasAlike_19 : decode cX0_hasAlike 19 = .ok (.iload_n 2, 1) := by decide +kernel
theorem dX0_hasAlike_20 : decode cX0_hasAlike 20 = .ok (.iaload, 1) := by decide +kernel
theorem dX0_hasAlike_21 : decode cX0_hasAlike 21 = .ok (.invokevirtual 36, 3) := by decide +kernel
theorem dX0_hasAlike_24 : decode cX0_hasAlike 24 = .ok (.ifCond .eq 5, 3) := by decide +kernel
theorem dX0_hasAlike_27 : decode cX0_hasAlike 27 = .ok (.iconst 1, 1) := by decide +kernel
theorem dX0_hasAlike_28 : decode cX0_hasAlike 28 = .ok (.ireturn, 1) := by decide +kernel
theorem dX0_hasAlike_29 : decode cX0_hasAlike 29 = .ok (.iinc 2 1, 3) := by decide +kernel
theorem dX0_hasAlike_32 : decode cX0_hasAlike 32 = .ok (.goto (-30), 3) := by decide +kernel
theorem dX0_hasAlike_35 : decode cX0_hasAlike 35 = .ok (.iconst 0, 1) := by decide +kernel
theorem dX0_hasAlike_36 : decode cX0_hasAlike 36 = .ok (.ireturn, 1) := by decide +kernel
theorem dX0_firstUnlike_0 : decode cX0_firstUnlike 0 = .ok (.iload_n 1, 1) := by decide +kernel
theorem dX0_firstUnlike_1 : decode cX0_firstUnlike 1 = .ok (.invokestatic 42, 3) := by decide +kernel
theorem dX0_firstUnlike_4 : decode cX0_firstUnlike 4 = .ok (.istore_n 2, 1) := by decide +kernel
theorem dX0_firstUnlike_5 : decode cX0_firstUnlike 5 = .ok (.iconst 0, 1) := by decide +kernel
theorem dX0_firstUnlike_6 : decode cX0_firstUnlike 6 = .ok (.istore_n 3, 1) := by decide +kernel
theorem dX0_firstUnlike_7 : decode cX0_firstUnlike 7 = .ok (.iload_n 3, 1) := by decide +kernel
theorem dX0_firstUnlike_8 : decode cX0_firstUnlike 8 = .ok (.iconst 4, 1) := by decide +kernel
theorem dX0_firstUnlike_9 : decode cX0_firstUnlike 9 = .ok (.if_icmp .ge 32, 3) := by decide +kernel
theorem dX0_firstUnlike_12 : decode cX0_firstUnlike 12 = .ok (.iload_n 1, 1) := by decide +kernel
theorem dX0_firstUnlike_13 : decode cX0_firstUnlike 13 = .ok (.iload_n 2, 1) := by decide +kernel
theorem dX0_firstUnlike_14 : decode cX0_firstUnlike 14 = .ok (.iload_n 3, 1) := by decide +kernel
theorem dX0_firstUnlike_15 : decode cX0_firstUnlike 15 = .ok (.iadd, 1) := by decide +kernel
theorem dX0_firstUnlike_16 : decode cX0_firstUnlike 16 = .ok (.iconst 4, 1) := by decide +kernel
theorem dX0_firstUnlike_17 : decode cX0_firstUnlike 17 = .ok (.irem, 1) := by decide +kernel
theorem dX0_firstUnlike_18 : decode cX0_firstUnlike 18 = .ok (.invokestatic 47, 3) := by decide +kernel
theorem dX0_firstUnlike_21 : decode cX0_firstUnlike 21 = .ok (.istore 4, 2) := by decide +kernel
theorem dX0_firstUnlike_23 : decode cX0_firstUnlike 23 = .ok (.aload_n 0, 1) := by decide +kernel
theorem dX0_firstUnlike_24 : decode cX0_firstUnlike 24 = .ok (.iload 4, 2) := by decide +kernel
theorem dX0_firstUnlike_26 : decode cX0_firstUnlike 26 = .ok (.invokevirtual 51, 3) := by decide +kernel
theorem dX0_firstUnlike_29 : decode cX0_firstUnlike 29 = .ok (.ifCond .ne 6, 3) := by decide +kernel
theorem dX0_firstUnlike_32 : decode cX0_firstUnlike 32 = .ok (.iload 4, 2) := by decide +kernel
theorem dX0_firstUnlike_34 : decode cX0_firstUnlike 34 = .ok (.ireturn, 1) := by decide +kernel
theorem dX0_firstUnlike_35 : decode cX0_firstUnlike 35 = .ok (.iinc 3 1, 3) := by decide +kernel
theorem dX0_firstUnlike_38 : decode cX0_firstUnlike 38 = .ok (.goto (-31), 3) := by decide +kernel
theorem dX0_firstUnlike_41 : decode cX0_firstUnlike 41 = .ok (.iconst (-1), 1) := by decide +kernel
theorem dX0_firstUnlike_42 : decode cX0_firstUnlike 42 = .ok (.ireturn, 1) := by decide +kernel
theorem dX0_countAlike_0 : decode cX0_countAlike 0 = .ok (.iconst 0, 1) := by decide +kernel
theorem dX0_countAlike_1 : decode cX0_countAlike 1 = .ok (.istore_n 1, 1) := by decide +kernel
theorem dX0_countAlike_2 : decode cX0_countAlike 2 = .ok (.iconst 0, 1) := by decide +kernel
theorem dX0_countAlike_3 : decode cX0_countAlike 3 = .ok (.istore_n 2, 1) := by decide +kernel
theorem dX0_countAlike_4 : decode cX0_countAlike 4 = .ok (.iload_n 2, 1) := by decide +kernel
theorem dX0_countAlike_5 : decode cX0_countAlike 5 = .ok (.aload_n 0, 1) := by decide +kernel
theorem dX0_countAlike_6 : decode cX0_countAlike 6 = .ok (.getfield 22, 3) := by decide +kernel
theorem dX0_countAlike_9 : decode cX0_countAlike 9 = .ok (.if_icmp .ge 52, 3) := by decide +kernel
theorem dX0_countAlike_12 : decode cX0_countAlike 12 = .ok (.iload_n 2, 1) := by decide +kernel
theorem dX0_countAlike_13 : decode cX0_countAlike 13 = .ok (.iconst 1, 1) := by decide +kernel
theorem dX0_countAlike_14 : decode cX0_countAlike 14 = .ok (.iadd, 1) := by decide +kernel
theorem dX0_countAlike_15 : decode cX0_countAlike 15 = .ok (.istore_n 3, 1) := by decide +kernel
theorem dX0_countAlike_16 : decode cX0_countAlike 16 = .ok (.iload_n 3, 1) := by decide +kernel
theorem dX0_countAlike_17 : decode cX0_countAlike 17 = .ok (.aload_n 0, 1) := by decide +kernel
theorem dX0_countAlike_18 : decode cX0_countAlike 18 = .ok (.getfield 22, 3) := by decide +kernel
theorem dX0_countAlike_21 : decode cX0_countAlike 21 = .ok (.if_icmp .ge 34, 3) := by decide +kernel
theorem dX0_countAlike_24 : decode cX0_countAlike 24 = .ok (.aload_n 0, 1) := by decide +kernel
theorem dX0_countAlike_25 : decode cX0_countAlike 25 = .ok (.getfield 9, 3) := by decide +kernel
theorem dX0_countAlike_28 : decode cX0_countAlike 28 = .ok (.aload_n 0, 1) := by decide +kernel
theorem dX0_countAlike_29 : decode cX0_countAlike 29 = .ok (.getfield 15, 3) := by decide +kernel
theorem dX0_countAlike_32 : decode cX0_countAlike 32 = .ok (.iload_n 2, 1) := by decide +kernel
theorem dX0_countAlike_33 : decode cX0_countAlike 33 = .ok (.iaload, 1) := by decide +kernel
theorem dX0_countAlike_34 : decode cX0_countAlike 34 = .ok (.aload_n 0, 1) := by decide +kernel
theorem dX0_countAlike_35 : decode cX0_countAlike 35 = .ok (.getfield 15, 3) := by decide +kernel
theorem dX0_countAlike_38 : decode cX0_countAlike 38 = .ok (.iload_n 3, 1) := by decide +kernel
theorem dX0_countAlike_39 : decode cX0_countAlike 39 = .ok (.iaload, 1) := by decide +kernel
theorem dX0_countAlike_40 : decode cX0_countAlike 40 = .ok (.invokevirtual 36, 3) := by decide +kernel
theorem dX0_countAlike_43 : decode cX0_countAlike 43 = .ok (.ifCond .eq 6, 3) := by decide +kernel
theorem dX0_countAlike_46 : decode cX0_countAlike 46 = .ok (.iinc 1 1, 3) := by decide +kernel
theorem dX0_countAlike_49 : decode cX0_countAlike 49 = .ok (.iinc 3 1, 3) := by decide +kernel
theorem dX0_countAlike_52 : decode cX0_countAlike 52 = .ok (.goto (-36), 3) := by decide +kernel
theorem dX0_countAlike_55 : decode cX0_countAlike 55 = .ok (.iinc 2 1, 3) := by decide +kernel
theorem dX0_countAlike_58 : decode cX0_countAlike 58 = .ok (.goto (-54), 3) := by decide +kernel
theorem dX0_countAlike_61 : decode cX0_countAlike 61 = .ok (.iload_n 1, 1) := by decide +kernel
theorem dX0_countAlike_62 : decode cX0_countAlike 62 = .ok (.ireturn, 1) := by decide +kernel
theorem dX0_countThumbApart_0 : decode cX0_countThumbApart 0 = .ok (.iconst 0, 1) := by decide +kernel
theorem dX0_countThumbApart_1 : decode cX0_countThumbApart 1 = .ok (.istore_n 1, 1) := by decide +kernel
theorem dX0_countThumbApart_2 : decode cX0_countThumbApart 2 = .ok (.iconst 0, 1) := by decide +kernel
theorem dX0_countThumbApart_3 : decode cX0_countThumbApart 3 = .ok (.istore_n 2, 1) := by decide +kernel
theorem dX0_countThumbApart_4 : decode cX0_countThumbApart 4 = .ok (.iload_n 2, 1) := by decide +kernel
theorem dX0_countThumbApart_5 : decode cX0_countThumbApart 5 = .ok (.aload_n 0, 1) := by decide +kernel
theorem dX0_countThumbApart_6 : decode cX0_countThumbApart 6 = .ok (.getfield 22, 3) := by decide +kernel
theorem dX0_countThumbApart_9 : decode cX0_countThumbApart 9 = .ok (.if_icmp .ge 74, 3) := by decide +kernel
theorem dX0_countThumbApart_12 : decode cX0_countThumbApart 12 = .ok (.iload_n 2, 1) := by decide +kernel
theorem dX0_countThumbApart_13 : decode cX0_countThumbApart 13 = .ok (.iconst 1, 1) := by decide +kernel
theorem dX0_countThumbApart_14 : decode cX0_countThumbApart 14 = .ok (.iadd, 1) := by decide +kernel
theorem dX0_countThumbApart_15 : decode cX0_countThumbApart 15 = .ok (.istore_n 3, 1) := by decide +kernel
theorem dX0_countThumbApart_16 : decode cX0_countThumbApart 16 = .ok (.iload_n 3, 1) := by decide +kernel
theorem dX0_countThumbApart_17 : decode cX0_countThumbApart 17 = .ok (.aload_n 0, 1) := by decide +kernel
theorem dX0_countThumbApart_18 : decode cX0_countThumbApart 18 = .ok (.getfield 22, 3) := by decide +kernel
theorem dX0_countThumbApart_21 : decode cX0_countThumbApart 21 = .ok (.if_icmp .ge 56, 3) := by decide +kernel
theorem dX0_countThumbApart_24 : decode cX0_countThumbApart 24 = .ok (.aload_n 0, 1) := by decide +kernel
theorem dX0_countThumbApart_25 : decode cX0_countThumbApart 25 = .ok (.getfield 15, 3) := by decide +kernel
theorem dX0_countThumbApart_28 : decode cX0_countThumbApart 28 = .ok (.iload_n 2, 1) := by decide +kernel
theorem dX0_countThumbApart_29 : decode cX0_countThumbApart 29 = .ok (.iaload, 1) := by decide +kernel
theorem dX0_countThumbApart_30 : decode cX0_countThumbApart 30 = .ok (.invokestatic 42, 3) := by decide +kernel
theorem dX0_countThumbApart_33 : decode cX0_countThumbApart 33 = .ok (.aload_n 0, 1) := by decide +kernel
theorem dX0_countThumbApart_34 : decode cX0_countThumbApart 34 = .ok (.getfield 15, 3) := by decide +kernel
theorem dX0_countThumbApart_37 : decode cX0_countThumbApart 37 = .ok (.iload_n 3, 1) := by decide +kernel
theorem dX0_countThumbApart_38 : decode cX0_countThumbApart 38 = .ok (.iaload, 1) := by decide +kernel
theorem dX0_countThumbApart_39 : decode cX0_countThumbApart 39 = .ok (.invokestatic 42, 3) := by decide +kernel
theorem dX0_countThumbApart_42 : decode cX0_countThumbApart 42 = .ok (.if_icmp .eq 29, 3) := by decide +kernel
theorem dX0_countThumbApart_45 : decode cX0_countThumbApart 45 = .ok (.aload_n 0, 1) := by decide +kernel
theorem dX0_countThumbApart_46 : decode cX0_countThumbApart 46 = .ok (.getfield 9, 3) := by decide +kernel
theorem dX0_countThumbApart_49 : decode cX0_countThumbApart 49 = .ok (.aload_n 0, 1) := by decide +kernel
theorem dX0_countThumbApart_50 : decode cX0_countThumbApart 50 = .ok (.getfield 15, 3) := by decide +kernel
theorem dX0_countThumbApart_53 : decode cX0_countThumbApart 53 = .ok (.iload_n 2, 1) := by decide +kernel
theorem dX0_countThumbApart_54 : decode cX0_countThumbApart 54 = .ok (.iaload, 1) := by decide +kernel
theorem dX0_countThumbApart_55 : decode cX0_countThumbApart 55 = .ok (.aload_n 0, 1) := by decide +kernel
theorem dX0_countThumbApart_56 : decode cX0_countThumbApart 56 = .ok (.getfield 15, 3) := by decide +kernel
theorem dX0_countThumbApart_59 : decode cX0_countThumbApart 59 = .ok (.iload_n 3, 1) := by decide +kernel
theorem dX0_countThumbApart_60 : decode cX0_countThumbApart 60 = .ok (.iaload, 1) := by decide +kernel
theorem dX0_countThumbApart_61 : decode cX0_countThumbApart 61 = .ok (.invokevirtual 59, 3) := by decide +kernel
theorem dX0_countThumbApart_64 : decode cX0_countThumbApart 64 = .ok (.iconst 1, 1) := by decide +kernel
theorem dX0_countThumbApart_65 : decode cX0_countThumbApart 65 = .ok (.if_icmp .ne 6, 3) := by decide +kernel
theorem dX0_countThumbApart_68 : decode cX0_countThumbApart 68 = .ok (.iinc 1 1, 3) := by decide +kernel
theorem dX0_countThumbApart_71 : decode cX0_countThumbApart 71 = .ok (.iinc 3 1, 3) := by decide +kernel
theorem dX0_countThumbApart_74 : decode cX0_countThumbApart 74 = .ok (.goto (-58), 3) := by decide +kernel
theorem dX0_countThumbApart_77 : decode cX0_countThumbApart 77 = .ok (.iinc 2 1, 3) := by decide +kernel
theorem dX0_countThumbApart_80 : decode cX0_countThumbApart 80 = .ok (.goto (-76), 3) := by decide +kernel
theorem dX0_countThumbApart_83 : decode cX0_countThumbApart 83 = .ok (.iload_n 1, 1) := by decide +kernel
theorem dX0_countThumbApart_84 : decode cX0_countThumbApart 84 = .ok (.ireturn, 1) := by decide +kernel
theorem dX0_nearestBut_0 : decode cX0_nearestBut 0 = .ok (.bipush 100, 2) := by decide +kernel
theorem dX0_nearestBut_2 : decode cX0_nearestBut 2 = .ok (.istore_n 3, 1) := by decide +kernel
theorem dX0_nearestBut_3 : decode cX0_nearestBut 3 = .ok (.iconst 0, 1) := by decide +kernel
theorem dX0_nearestBut_4 : decode cX0_nearestBut 4 = .ok (.istore 4, 2) := by decide +kernel
theorem dX0_nearestBut_6 : decode cX0_nearestBut 6 = .ok (.iload 4, 2) := by decide +kernel
theorem dX0_nearestBut_8 : decode cX0_nearestBut 8 = .ok (.aload_n 0, 1) := by decide +kernel
theorem dX0_nearestBut_9 : decode cX0_nearestBut 9 = .ok (.getfield 22, 3) := by decide +kernel
theorem dX0_nearestBut_12 : decode cX0_nearestBut 12 = .ok (.if_icmp .ge 35, 3) := by decide +kernel
theorem dX0_nearestBut_15 : decode cX0_nearestBut 15 = .ok (.iload 4, 2) := by decide +kernel
theorem dX0_nearestBut_17 : decode cX0_nearestBut 17 = .ok (.iload_n 1, 1) := by decide +kernel
theorem dX0_nearestBut_18 : decode cX0_nearestBut 18 = .ok (.if_icmp .eq 23, 3) := by decide +kernel
theorem dX0_nearestBut_21 : decode cX0_nearestBut 21 = .ok (.iload_n 3, 1) := by decide +kernel
theorem dX0_nearestBut_22 : decode cX0_nearestBut 22 = .ok (.aload_n 0, 1) := by decide +kernel
theorem dX0_nearestBut_23 : decode cX0_nearestBut 23 = .ok (.getfield 9, 3) := by decide +kernel
theorem dX0_nearestBut_26 : decode cX0_nearestBut 26 = .ok (.iload_n 2, 1) := by decide +kernel
theorem dX0_nearestBut_27 : decode cX0_nearestBut 27 = .ok (.aload_n 0, 1) := by decide +kernel
theorem dX0_nearestBut_28 : decode cX0_nearestBut 28 = .ok (.getfield 15, 3) := by decide +kernel
theorem dX0_nearestBut_31 : decode cX0_nearestBut 31 = .ok (.iload 4, 2) := by decide +kernel
theorem dX0_nearestBut_33 : decode cX0_nearestBut 33 = .ok (.iaload, 1) := by decide +kernel
theorem dX0_nearestBut_34 : decode cX0_nearestBut 34 = .ok (.invokevirtual 59, 3) := by decide +kernel
theorem dX0_nearestBut_37 : decode cX0_nearestBut 37 = .ok (.invokestatic 62, 3) := by decide +kernel
theorem dX0_nearestBut_40 : decode cX0_nearestBut 40 = .ok (.istore_n 3, 1) := by decide +kernel
theorem dX0_nearestBut_41 : decode cX0_nearestBut 41 = .ok (.iinc 4 1, 3) := by decide +kernel
theorem dX0_nearestBut_44 : decode cX0_nearestBut 44 = .ok (.goto (-38), 3) := by decide +kernel
theorem dX0_nearestBut_47 : decode cX0_nearestBut 47 = .ok (.iload_n 3, 1) := by decide +kernel
theorem dX0_nearestBut_48 : decode cX0_nearestBut 48 = .ok (.ireturn, 1) := by decide +kernel
theorem dX0_fewestApart_0 : decode cX0_fewestApart 0 = .ok (.aload_n 0, 1) := by decide +kernel
theorem dX0_fewestApart_1 : decode cX0_fewestApart 1 = .ok (.getfield 22, 3) := by decide +kernel
theorem dX0_fewestApart_4 : decode cX0_fewestApart 4 = .ok (.iconst 2, 1) := by decide +kernel
theorem dX0_fewestApart_5 : decode cX0_fewestApart 5 = .ok (.if_icmp .ge 5, 3) := by decide +kernel
theorem dX0_fewestApart_8 : decode cX0_fewestApart 8 = .ok (.iconst 0, 1) := by decide +kernel
theorem dX0_fewestApart_9 : decode cX0_fewestApart 9 = .ok (.ireturn, 1) := by decide +kernel
theorem dX0_fewestApart_10 : decode cX0_fewestApart 10 = .ok (.bipush 100, 2) := by decide +kernel
theorem dX0_fewestApart_12 : decode cX0_fewestApart 12 = .ok (.istore_n 1, 1) := by decide +kernel
theorem dX0_fewestApart_13 : decode cX0_fewestApart 13 = .ok (.iconst 0, 1) := by decide +kernel
theorem dX0_fewestApart_14 : decode cX0_fewestApart 14 = .ok (.istore_n 2, 1) := by decide +kernel
theorem dX0_fewestApart_15 : decode cX0_fewestApart 15 = .ok (.iload_n 2, 1) := by decide +kernel
theorem dX0_fewestApart_16 : decode cX0_fewestApart 16 = .ok (.aload_n 0, 1) := by decide +kernel
theorem dX0_fewestApart_17 : decode cX0_fewestApart 17 = .ok (.getfield 22, 3) := by decide +kernel
theorem dX0_fewestApart_20 : decode cX0_fewestApart 20 = .ok (.if_icmp .ge 25, 3) := by decide +kernel
theorem dX0_fewestApart_23 : decode cX0_fewestApart 23 = .ok (.iload_n 1, 1) := by decide +kernel
theorem dX0_fewestApart_24 : decode cX0_fewestApart 24 = .ok (.aload_n 0, 1) := by decide +kernel
theorem dX0_fewestApart_25 : decode cX0_fewestApart 25 = .ok (.iload_n 2, 1) := by decide +kernel
theorem dX0_fewestApart_26 : decode cX0_fewestApart 26 = .ok (.aload_n 0, 1) := by decide +kernel
theorem dX0_fewestApart_27 : decode cX0_fewestApart 27 = .ok (.getfield 15, 3) := by decide +kernel
theorem dX0_fewestApart_30 : decode cX0_fewestApart 30 = .ok (.iload_n 2, 1) := by decide +kernel
theorem dX0_fewestApart_31 : decode cX0_fewestApart 31 = .ok (.iaload, 1) := by decide +kernel
theorem dX0_fewestApart_32 : decode cX0_fewestApart 32 = .ok (.invokevirtual 67, 3) := by decide +kernel
theorem dX0_fewestApart_35 : decode cX0_fewestApart 35 = .ok (.invokestatic 62, 3) := by decide +kernel
theorem dX0_fewestApart_38 : decode cX0_fewestApart 38 = .ok (.istore_n 1, 1) := by decide +kernel
theorem dX0_fewestApart_39 : decode cX0_fewestApart 39 = .ok (.iinc 2 1, 3) := by decide +kernel
theorem dX0_fewestApart_42 : decode cX0_fewestApart 42 = .ok (.goto (-27), 3) := by decide +kernel
theorem dX0_fewestApart_45 : decode cX0_fewestApart 45 = .ok (.iload_n 1, 1) := by decide +kernel
theorem dX0_fewestApart_46 : decode cX0_fewestApart 46 = .ok (.ireturn, 1) := by decide +kernel
theorem dX0_countNear_0 : decode cX0_countNear 0 = .ok (.iconst 0, 1) := by decide +kernel
theorem dX0_countNear_1 : decode cX0_countNear 1 = .ok (.istore_n 2, 1) := by decide +kernel
theorem dX0_countNear_2 : decode cX0_countNear 2 = .ok (.iconst 0, 1) := by decide +kernel
theorem dX0_countNear_3 : decode cX0_countNear 3 = .ok (.istore_n 3, 1) := by decide +kernel
theorem dX0_countNear_4 : decode cX0_countNear 4 = .ok (.iload_n 3, 1) := by decide +kernel
theorem dX0_countNear_5 : decode cX0_countNear 5 = .ok (.aload_n 0, 1) := by decide +kernel
theorem dX0_countNear_6 : decode cX0_countNear 6 = .ok (.getfield 22, 3) := by decide +kernel
theorem dX0_countNear_9 : decode cX0_countNear 9 = .ok (.if_icmp .ge 40, 3) := by decide +kernel
theorem dX0_countNear_12 : decode cX0_countNear 12 = .ok (.iload_n 3, 1) := by decide +kernel
theorem dX0_countNear_13 : decode cX0_countNear 13 = .ok (.iload_n 1, 1) := by decide +kernel
theorem dX0_countNear_14 : decode cX0_countNear 14 = .ok (.if_icmp .eq 29, 3) := by decide +kernel
theorem dX0_countNear_17 : decode cX0_countNear 17 = .ok (.aload_n 0, 1) := by decide +kernel
theorem dX0_countNear_18 : decode cX0_countNear 18 = .ok (.getfield 9, 3) := by decide +kernel
theorem dX0_countNear_21 : decode cX0_countNear 21 = .ok (.aload_n 0, 1) := by decide +kernel
theorem dX0_countNear_22 : decode cX0_countNear 22 = .ok (.getfield 15, 3) := by decide +kernel
theorem dX0_countNear_25 : decode cX0_countNear 25 = .ok (.iload_n 1, 1) := by decide +kernel
theorem dX0_countNear_26 : decode cX0_countNear 26 = .ok (.iaload, 1) := by decide +kernel
theorem dX0_countNear_27 : decode cX0_countNear 27 = .ok (.aload_n 0, 1) := by decide +kernel
theorem dX0_countNear_28 : decode cX0_countNear 28 = .ok (.getfield 15, 3) := by decide +kernel
theorem dX0_countNear_31 : decode cX0_countNear 31 = .ok (.iload_n 3, 1) := by decide +kernel
theorem dX0_countNear_32 : decode cX0_countNear 32 = .ok (.iaload, 1) := by decide +kernel
theorem dX0_countNear_33 : decode cX0_countNear 33 = .ok (.invokevirtual 59, 3) := by decide +kernel
theorem dX0_countNear_36 : decode cX0_countNear 36 = .ok (.iconst 3, 1) := by decide +kernel
theorem dX0_countNear_37 : decode cX0_countNear 37 = .ok (.if_icmp .gt 6, 3) := by decide +kernel
theorem dX0_countNear_40 : decode cX0_countNear 40 = .ok (.iinc 2 1, 3) := by decide +kernel
theorem dX0_countNear_43 : decode cX0_countNear 43 = .ok (.iinc 3 1, 3) := by decide +kernel
theorem dX0_countNear_46 : decode cX0_countNear 46 = .ok (.goto (-42), 3) := by decide +kernel
theorem dX0_countNear_49 : decode cX0_countNear 49 = .ok (.iload_n 2, 1) := by decide +kernel
theorem dX0_countNear_50 : decode cX0_countNear 50 = .ok (.ireturn, 1) := by decide +kernel
theorem dX0_signNearMost_0 : decode cX0_signNearMost 0 = .ok (.iconst (-1), 1) := by decide +kernel
theorem dX0_signNearMost_1 : decode cX0_signNearMost 1 = .ok (.istore_n 1, 1) := by decide +kernel
theorem dX0_signNearMost_2 : decode cX0_signNearMost 2 = .ok (.iconst (-1), 1) := by decide +kernel
theorem dX0_signNearMost_3 : decode cX0_signNearMost 3 = .ok (.istore_n 2, 1) := by decide +kernel
theorem dX0_signNearMost_4 : decode cX0_signNearMost 4 = .ok (.iconst 0, 1) := by decide +kernel
theorem dX0_signNearMost_5 : decode cX0_signNearMost 5 = .ok (.istore_n 3, 1) := by decide +kernel
theorem dX0_signNearMost_6 : decode cX0_signNearMost 6 = .ok (.iload_n 3, 1) := by decide +kernel
theorem dX0_signNearMost_7 : decode cX0_signNearMost 7 = .ok (.aload_n 0, 1) := by decide +kernel
theorem dX0_signNearMost_8 : decode cX0_signNearMost 8 = .ok (.getfield 22, 3) := by decide +kernel
theorem dX0_signNearMost_11 : decode cX0_signNearMost 11 = .ok (.if_icmp .ge 27, 3) := by decide +kernel
theorem dX0_signNearMost_14 : decode cX0_signNearMost 14 = .ok (.aload_n 0, 1) := by decide +kernel
theorem dX0_signNearMost_15 : decode cX0_signNearMost 15 = .ok (.iload_n 3, 1) := by decide +kernel
theorem dX0_signNearMost_16 : decode cX0_signNearMost 16 = .ok (.invokevirtual 70, 3) := by decide +kernel
theorem dX0_signNearMost_19 : decode cX0_signNearMost 19 = .ok (.istore 4, 2) := by decide +kernel
theorem dX0_signNearMost_21 : decode cX0_signNearMost 21 = .ok (.iload 4, 2) := by decide +kernel
theorem dX0_signNearMost_23 : decode cX0_signNearMost 23 = .ok (.iload_n 2, 1) := by decide +kernel
theorem dX0_signNearMost_24 : decode cX0_signNearMost 24 = .ok (.if_icmp .le 8, 3) := by decide +kernel
theorem dX0_signNearMost_27 : decode cX0_signNearMost 27 = .ok (.iload 4, 2) := by decide +kernel
theorem dX0_signNearMost_29 : decode cX0_signNearMost 29 = .ok (.istore_n 2, 1) := by decide +kernel
theorem dX0_signNearMost_30 : decode cX0_signNearMost 30 = .ok (.iload_n 3, 1) := by decide +kernel
theorem dX0_signNearMost_31 : decode cX0_signNearMost 31 = .ok (.istore_n 1, 1) := by decide +kernel
theorem dX0_signNearMost_32 : decode cX0_signNearMost 32 = .ok (.iinc 3 1, 3) := by decide +kernel
theorem dX0_signNearMost_35 : decode cX0_signNearMost 35 = .ok (.goto (-29), 3) := by decide +kernel
theorem dX0_signNearMost_38 : decode cX0_signNearMost 38 = .ok (.iload_n 1, 1) := by decide +kernel
theorem dX0_signNearMost_39 : decode cX0_signNearMost 39 = .ok (.ireturn, 1) := by decide +kernel
theorem dX0_meaningRead_0 : decode cX0_meaningRead 0 = .ok (.iconst 4, 1) := by decide +kernel
theorem dX0_meaningRead_1 : decode cX0_meaningRead 1 = .ok (.istore_n 2, 1) := by decide +kernel
theorem dX0_meaningRead_2 : decode cX0_meaningRead 2 = .ok (.iconst (-1), 1) := by decide +kernel
theorem dX0_meaningRead_3 : decode cX0_meaningRead 3 = .ok (.istore_n 3, 1) := by decide +kernel
theorem dX0_meaningRead_4 : decode cX0_meaningRead 4 = .ok (.iconst 0, 1) := by decide +kernel
theorem dX0_meaningRead_5 : decode cX0_meaningRead 5 = .ok (.istore 4, 2) := by decide +kernel
theorem dX0_meaningRead_7 : decode cX0_meaningRead 7 = .ok (.iload 4, 2) := by decide +kernel
theorem dX0_meaningRead_9 : decode cX0_meaningRead 9 = .ok (.aload_n 0, 1) := by decide +kernel
theorem dX0_meaningRead_10 : decode cX0_meaningRead 10 = .ok (.getfield 22, 3) := by decide +kernel
theorem dX0_meaningRead_13 : decode cX0_meaningRead 13 = .ok (.if_icmp .ge 54, 3) := by decide +kernel
theorem dX0_meaningRead_16 : decode cX0_meaningRead 16 = .ok (.aload_n 0, 1) := by decide +kernel
theorem dX0_meaningRead_17 : decode cX0_meaningRead 17 = .ok (.getfield 9, 3) := by decide +kernel
theorem dX0_meaningRead_20 : decode cX0_meaningRead 20 = .ok (.iload_n 1, 1) := by decide +kernel
theorem dX0_meaningRead_21 : decode cX0_meaningRead 21 = .ok (.aload_n 0, 1) := by decide +kernel
theorem dX0_meaningRead_22 : decode cX0_meaningRead 22 = .ok (.getfield 15, 3) := by decide +kernel
theorem dX0_meaningRead_25 : decode cX0_meaningRead 25 = .ok (.iload 4, 2) := by decide +kernel
theorem dX0_meaningRead_27 : decode cX0_meaningRead 27 = .ok (.iaload, 1) := by decide +kernel
theorem dX0_meaningRead_28 : decode cX0_meaningRead 28 = .ok (.invokevirtual 59, 3) := by decide +kernel
theorem dX0_meaningRead_31 : decode cX0_meaningRead 31 = .ok (.istore 5, 2) := by decide +kernel
theorem dX0_meaningRead_33 : decode cX0_meaningRead 33 = .ok (.iload 5, 2) := by decide +kernel
theorem dX0_meaningRead_35 : decode cX0_meaningRead 35 = .ok (.iload_n 2, 1) := by decide +kernel
theorem dX0_meaningRead_36 : decode cX0_meaningRead 36 = .ok (.if_icmp .ge 17, 3) := by decide +kernel
theorem dX0_meaningRead_39 : decode cX0_meaningRead 39 = .ok (.iload 5, 2) := by decide +kernel
theorem dX0_meaningRead_41 : decode cX0_meaningRead 41 = .ok (.istore_n 2, 1) := by decide +kernel
theorem dX0_meaningRead_42 : decode cX0_meaningRead 42 = .ok (.aload_n 0, 1) := by decide +kernel
theorem dX0_meaningRead_43 : decode cX0_meaningRead 43 = .ok (.getfield 19, 3) := by decide +kernel
theorem dX0_meaningRead_46 : decode cX0_meaningRead 46 = .ok (.iload 4, 2) := by decide +kernel
theorem dX0_meaningRead_48 : decode cX0_meaningRead 48 = .ok (.iaload, 1) := by decide +kernel
theorem dX0_meaningRead_49 : decode cX0_meaningRead 49 = .ok (.istore_n 3, 1) := by decide +kernel
theorem dX0_meaningRead_50 : decode cX0_meaningRead 50 = .ok (.goto 11, 3) := by decide +kernel
theorem dX0_meaningRead_53 : decode cX0_meaningRead 53 = .ok (.iload 5, 2) := by decide +kernel
theorem dX0_meaningRead_55 : decode cX0_meaningRead 55 = .ok (.iload_n 2, 1) := by decide +kernel
theorem dX0_meaningRead_56 : decode cX0_meaningRead 56 = .ok (.if_icmp .ne 5, 3) := by decide +kernel
theorem dX0_meaningRead_59 : decode cX0_meaningRead 59 = .ok (.iconst (-1), 1) := by decide +kernel
theorem dX0_meaningRead_60 : decode cX0_meaningRead 60 = .ok (.istore_n 3, 1) := by decide +kernel
theorem dX0_meaningRead_61 : decode cX0_meaningRead 61 = .ok (.iinc 4 1, 3) := by decide +kernel
theorem dX0_meaningRead_64 : decode cX0_meaningRead 64 = .ok (.goto (-57), 3) := by decide +kernel
theorem dX0_meaningRead_67 : decode cX0_meaningRead 67 = .ok (.iload_n 3, 1) := by decide +kernel
theorem dX0_meaningRead_68 : decode cX0_meaningRead 68 = .ok (.ireturn, 1) := by decide +kernel
theorem dX0_countUnderstood_0 : decode cX0_countUnderstood 0 = .ok (.iconst 0, 1) := by decide +kernel
theorem dX0_countUnderstood_1 : decode cX0_countUnderstood 1 = .ok (.istore_n 2, 1) := by decide +kernel
theorem dX0_countUnderstood_2 : decode cX0_countUnderstood 2 = .ok (.iconst 0, 1) := by decide +kernel
theorem dX0_countUnderstood_3 : decode cX0_countUnderstood 3 = .ok (.istore_n 3, 1) := by decide +kernel
theorem dX0_countUnderstood_4 : decode cX0_countUnderstood 4 = .ok (.iload_n 3, 1) := by decide +kernel
theorem dX0_countUnderstood_5 : decode cX0_countUnderstood 5 = .ok (.aload_n 1, 1) := by decide +kernel
theorem dX0_countUnderstood_6 : decode cX0_countUnderstood 6 = .ok (.getfield 22, 3) := by decide +kernel
theorem dX0_countUnderstood_9 : decode cX0_countUnderstood 9 = .ok (.if_icmp .ge 31, 3) := by decide +kernel
theorem dX0_countUnderstood_12 : decode cX0_countUnderstood 12 = .ok (.aload_n 0, 1) := by decide +kernel
theorem dX0_countUnderstood_13 : decode cX0_countUnderstood 13 = .ok (.aload_n 1, 1) := by decide +kernel
theorem dX0_countUnderstood_14 : decode cX0_countUnderstood 14 = .ok (.getfield 15, 3) := by decide +kernel
theorem dX0_countUnderstood_17 : decode cX0_countUnderstood 17 = .ok (.iload_n 3, 1) := by decide +kernel
theorem dX0_countUnderstood_18 : decode cX0_countUnderstood 18 = .ok (.iaload, 1) := by decide +kernel
theorem dX0_countUnderstood_19 : decode cX0_countUnderstood 19 = .ok (.invokevirtual 73, 3) := by decide +kernel
theorem dX0_countUnderstood_22 : decode cX0_countUnderstood 22 = .ok (.aload_n 1, 1) := by decide +kernel
theorem dX0_countUnderstood_23 : decode cX0_countUnderstood 23 = .ok (.getfield 19, 3) := by decide +kernel
theorem dX0_countUnderstood_26 : decode cX0_countUnderstood 26 = .ok (.iload_n 3, 1) := by decide +kernel
theorem dX0_countUnderstood_27 : decode cX0_countUnderstood 27 = .ok (.iaload, 1) := by decide +kernel
theorem dX0_countUnderstood_28 : decode cX0_countUnderstood 28 = .ok (.if_icmp .ne 6, 3) := by decide +kernel
theorem dX0_countUnderstood_31 : decode cX0_countUnderstood 31 = .ok (.iinc 2 1, 3) := by decide +kernel
theorem dX0_countUnderstood_34 : decode cX0_countUnderstood 34 = .ok (.iinc 3 1, 3) := by decide +kernel
theorem dX0_countUnderstood_37 : decode cX0_countUnderstood 37 = .ok (.goto (-33), 3) := by decide +kernel
theorem dX0_countUnderstood_40 : decode cX0_countUnderstood 40 = .ok (.iload_n 2, 1) := by decide +kernel
theorem dX0_countUnderstood_41 : decode cX0_countUnderstood 41 = .ok (.ireturn, 1) := by decide +kernel
theorem dX0_countMisread_0 : decode cX0_countMisread 0 = .ok (.iconst 0, 1) := by decide +kernel
theorem dX0_countMisread_1 : decode cX0_countMisread 1 = .ok (.istore_n 2, 1) := by decide +kernel
theorem dX0_countMisread_2 : decode cX0_countMisread 2 = .ok (.iconst 0, 1) := by decide +kernel
theorem dX0_countMisread_3 : decode cX0_countMisread 3 = .ok (.istore_n 3, 1) := by decide +kernel
theorem dX0_countMisread_4 : decode cX0_countMisread 4 = .ok (.iload_n 3, 1) := by decide +kernel
theorem dX0_countMisread_5 : decode cX0_countMisread 5 = .ok (.aload_n 1, 1) := by decide +kernel
theorem dX0_countMisread_6 : decode cX0_countMisread 6 = .ok (.getfield 22, 3) := by decide +kernel
theorem dX0_countMisread_9 : decode cX0_countMisread 9 = .ok (.if_icmp .ge 41, 3) := by decide +kernel
theorem dX0_countMisread_12 : decode cX0_countMisread 12 = .ok (.aload_n 0, 1) := by decide +kernel
theorem dX0_countMisread_13 : decode cX0_countMisread 13 = .ok (.aload_n 1, 1) := by decide +kernel
theorem dX0_countMisread_14 : decode cX0_countMisread 14 = .ok (.getfield 15, 3) := by decide +kernel
theorem dX0_countMisread_17 : decode cX0_countMisread 17 = .ok (.iload_n 3, 1) := by decide +kernel
theorem dX0_countMisread_18 : decode cX0_countMisread 18 = .ok (.iaload, 1) := by decide +kernel
theorem dX0_countMisread_19 : decode cX0_countMisread 19 = .ok (.invokevirtual 73, 3) := by decide +kernel
theorem dX0_countMisread_22 : decode cX0_countMisread 22 = .ok (.istore 4, 2) := by decide +kernel
theorem dX0_countMisread_24 : decode cX0_countMisread 24 = .ok (.iload 4, 2) := by decide +kernel
theorem dX0_countMisread_26 : decode cX0_countMisread 26 = .ok (.iconst (-1), 1) := by decide +kernel
theorem dX0_countMisread_27 : decode cX0_countMisread 27 = .ok (.if_icmp .eq 17, 3) := by decide +kernel
theorem dX0_countMisread_30 : decode cX0_countMisread 30 = .ok (.iload 4, 2) := by decide +kernel
theorem dX0_countMisread_32 : decode cX0_countMisread 32 = .ok (.aload_n 1, 1) := by decide +kernel
theorem dX0_countMisread_33 : decode cX0_countMisread 33 = .ok (.getfield 19, 3) := by decide +kernel
theorem dX0_countMisread_36 : decode cX0_countMisread 36 = .ok (.iload_n 3, 1) := by decide +kernel
theorem dX0_countMisread_37 : decode cX0_countMisread 37 = .ok (.iaload, 1) := by decide +kernel
theorem dX0_countMisread_38 : decode cX0_countMisread 38 = .ok (.if_icmp .eq 6, 3) := by decide +kernel
theorem dX0_countMisread_41 : decode cX0_countMisread 41 = .ok (.iinc 2 1, 3) := by decide +kernel
theorem dX0_countMisread_44 : decode cX0_countMisread 44 = .ok (.iinc 3 1, 3) := by decide +kernel
theorem dX0_countMisread_47 : decode cX0_countMisread 47 = .ok (.goto (-43), 3) := by decide +kernel
theorem dX0_countMisread_50 : decode cX0_countMisread 50 = .ok (.iload_n 2, 1) := by decide +kernel
theorem dX0_countMisread_51 : decode cX0_countMisread 51 = .ok (.ireturn, 1) := by decide +kernel
theorem dX0_countCommon_0 : decode cX0_countCommon 0 = .ok (.iconst 0, 1) := by decide +kernel
theorem dX0_countCommon_1 : decode cX0_countCommon 1 = .ok (.istore_n 2, 1) := by decide +kernel
theorem dX0_countCommon_2 : decode cX0_countCommon 2 = .ok (.iconst 0, 1) := by decide +kernel
theorem dX0_countCommon_3 : decode cX0_countCommon 3 = .ok (.istore_n 3, 1) := by decide +kernel
theorem dX0_countCommon_4 : decode cX0_countCommon 4 = .ok (.iload_n 3, 1) := by decide +kernel
theorem dX0_countCommon_5 : decode cX0_countCommon 5 = .ok (.aload_n 0, 1) := by decide +kernel
theorem dX0_countCommon_6 : decode cX0_countCommon 6 = .ok (.getfield 22, 3) := by decide +kernel
theorem dX0_countCommon_9 : decode cX0_countCommon 9 = .ok (.if_icmp .ge 65, 3) := by decide +kernel
theorem dX0_countCommon_12 : decode cX0_countCommon 12 = .ok (.aload_n 0, 1) := by decide +kernel
theorem dX0_countCommon_13 : decode cX0_countCommon 13 = .ok (.getfield 19, 3) := by decide +kernel
theorem dX0_countCommon_16 : decode cX0_countCommon 16 = .ok (.iload_n 3, 1) := by decide +kernel
theorem dX0_countCommon_17 : decode cX0_countCommon 17 = .ok (.iaload, 1) := by decide +kernel
theorem dX0_countCommon_18 : decode cX0_countCommon 18 = .ok (.istore 4, 2) := by decide +kernel
theorem dX0_countCommon_20 : decode cX0_countCommon 20 = .ok (.aload_n 1, 1) := by decide +kernel
theorem dX0_countCommon_21 : decode cX0_countCommon 21 = .ok (.iload 4, 2) := by decide +kernel
theorem dX0_countCommon_23 : decode cX0_countCommon 23 = .ok (.invokevirtual 32, 3) := by decide +kernel
theorem dX0_countCommon_26 : decode cX0_countCommon 26 = .ok (.istore 5, 2) := by decide +kernel
theorem dX0_countCommon_28 : decode cX0_countCommon 28 = .ok (.iload 5, 2) := by decide +kernel
theorem dX0_countCommon_30 : decode cX0_countCommon 30 = .ok (.iconst (-1), 1) := by decide +kernel
theorem dX0_countCommon_31 : decode cX0_countCommon 31 = .ok (.if_icmp .eq 37, 3) := by decide +kernel
theorem dX0_countCommon_34 : decode cX0_countCommon 34 = .ok (.aload_n 1, 1) := by decide +kernel
theorem dX0_countCommon_35 : decode cX0_countCommon 35 = .ok (.aload_n 0, 1) := by decide +kernel
theorem dX0_countCommon_36 : decode cX0_countCommon 36 = .ok (.getfield 15, 3) := by decide +kernel
theorem dX0_countCommon_39 : decode cX0_countCommon 39 = .ok (.iload_n 3, 1) := by decide +kernel
theorem dX0_countCommon_40 : decode cX0_countCommon 40 = .ok (.iaload, 1) := by decide +kernel
theorem dX0_countCommon_41 : decode cX0_countCommon 41 = .ok (.invokevirtual 73, 3) := by decide +kernel
theorem dX0_countCommon_44 : decode cX0_countCommon 44 = .ok (.iload 4, 2) := by decide +kernel
theorem dX0_countCommon_46 : decode cX0_countCommon 46 = .ok (.if_icmp .ne 22, 3) := by decide +kernel
theorem dX0_countCommon_49 : decode cX0_countCommon 49 = .ok (.aload_n 0, 1) := by decide +kernel
theorem dX0_countCommon_50 : decode cX0_countCommon 50 = .ok (.aload_n 1, 1) := by decide +kernel
theorem dX0_countCommon_51 : decode cX0_countCommon 51 = .ok (.getfield 15, 3) := by decide +kernel
theorem dX0_countCommon_54 : decode cX0_countCommon 54 = .ok (.iload 5, 2) := by decide +kernel
theorem dX0_countCommon_56 : decode cX0_countCommon 56 = .ok (.iaload, 1) := by decide +kernel
theorem dX0_countCommon_57 : decode cX0_countCommon 57 = .ok (.invokevirtual 73, 3) := by decide +kernel
theorem dX0_countCommon_60 : decode cX0_countCommon 60 = .ok (.iload 4, 2) := by decide +kernel
theorem dX0_countCommon_62 : decode cX0_countCommon 62 = .ok (.if_icmp .ne 6, 3) := by decide +kernel
theorem dX0_countCommon_65 : decode cX0_countCommon 65 = .ok (.iinc 2 1, 3) := by decide +kernel
theorem dX0_countCommon_68 : decode cX0_countCommon 68 = .ok (.iinc 3 1, 3) := by decide +kernel
theorem dX0_countCommon_71 : decode cX0_countCommon 71 = .ok (.goto (-67), 3) := by decide +kernel
theorem dX0_countCommon_74 : decode cX0_countCommon 74 = .ok (.iload_n 2, 1) := by decide +kernel
theorem dX0_countCommon_75 : decode cX0_countCommon 75 = .ok (.ireturn, 1) := by decide +kernel
theorem dX1_of_0 : decode cX1_of 0 = .ok (.iload_n 0, 1) := by decide +kernel
theorem dX1_of_1 : decode cX1_of 1 = .ok (.iload_n 1, 1) := by decide +kernel
theorem dX1_of_2 : decode cX1_of 2 = .ok (.iconst 4, 1) := by decide +kernel
theorem dX1_of_3 : decode cX1_of 3 = .ok (.ishl, 1) := by decide +kernel
theorem dX1_of_4 : decode cX1_of 4 = .ok (.ior, 1) := by decide +kernel
theorem dX1_of_5 : decode cX1_of 5 = .ok (.iload_n 3, 1) := by decide +kernel
theorem dX1_of_6 : decode cX1_of 6 = .ok (.bipush 6, 2) := by decide +kernel
theorem dX1_of_8 : decode cX1_of 8 = .ok (.ishl, 1) := by decide +kernel
theorem dX1_of_9 : decode cX1_of 9 = .ok (.ior, 1) := by decide +kernel
theorem dX1_of_10 : decode cX1_of 10 = .ok (.iload_n 2, 1) := by decide +kernel
theorem dX1_of_11 : decode cX1_of 11 = .ok (.bipush 8, 2) := by decide +kernel
theorem dX1_of_13 : decode cX1_of 13 = .ok (.ishl, 1) := by decide +kernel
theorem dX1_of_14 : decode cX1_of 14 = .ok (.ior, 1) := by decide +kernel
theorem dX1_of_15 : decode cX1_of 15 = .ok (.ireturn, 1) := by decide +kernel
theorem dX1_shape_0 : decode cX1_shape 0 = .ok (.iload_n 0, 1) := by decide +kernel
theorem dX1_shape_1 : decode cX1_shape 1 = .ok (.bipush 15, 2) := by decide +kernel
theorem dX1_shape_3 : decode cX1_shape 3 = .ok (.iand, 1) := by decide +kernel
theorem dX1_shape_4 : decode cX1_shape 4 = .ok (.ireturn, 1) := by decide +kernel
theorem dX1_thumb_0 : decode cX1_thumb 0 = .ok (.iload_n 0, 1) := by decide +kernel
theorem dX1_thumb_1 : decode cX1_thumb 1 = .ok (.iconst 4, 1) := by decide +kernel
theorem dX1_thumb_2 : decode cX1_thumb 2 = .ok (.ishr, 1) := by decide +kernel
theorem dX1_thumb_3 : decode cX1_thumb 3 = .ok (.iconst 3, 1) := by decide +kernel
theorem dX1_thumb_4 : decode cX1_thumb 4 = .ok (.iand, 1) := by decide +kernel
theorem dX1_thumb_5 : decode cX1_thumb 5 = .ok (.ireturn, 1) := by decide +kernel
theorem dX1_movement_0 : decode cX1_movement 0 = .ok (.iload_n 0, 1) := by decide +kernel
theorem dX1_movement_1 : decode cX1_movement 1 = .ok (.bipush 6, 2) := by decide +kernel
theorem dX1_movement_3 : decode cX1_movement 3 = .ok (.ishr, 1) := by decide +kernel
theorem dX1_movement_4 : decode cX1_movement 4 = .ok (.iconst 3, 1) := by decide +kernel
theorem dX1_movement_5 : decode cX1_movement 5 = .ok (.iand, 1) := by decide +kernel
theorem dX1_movement_6 : decode cX1_movement 6 = .ok (.ireturn, 1) := by decide +kernel
theorem dX1_place_0 : decode cX1_place 0 = .ok (.iload_n 0, 1) := by decide +kernel
theorem dX1_place_1 : decode cX1_place 1 = .ok (.bipush 8, 2) := by decide +kernel
theorem dX1_place_3 : decode cX1_place 3 = .ok (.ishr, 1) := by decide +kernel
theorem dX1_place_4 : decode cX1_place 4 = .ok (.bipush 15, 2) := by decide +kernel
theorem dX1_place_6 : decode cX1_place 6 = .ok (.iand, 1) := by decide +kernel
theorem dX1_place_7 : decode cX1_place 7 = .ok (.ireturn, 1) := by decide +kernel
theorem dX1_withThumb_0 : decode cX1_withThumb 0 = .ok (.iload_n 0, 1) := by decide +kernel
theorem dX1_withThumb_1 : decode cX1_withThumb 1 = .ok (.bipush (-49), 2) := by decide +kernel
theorem dX1_withThumb_3 : decode cX1_withThumb 3 = .ok (.iand, 1) := by decide +kernel
theorem dX1_withThumb_4 : decode cX1_withThumb 4 = .ok (.iload_n 1, 1) := by decide +kernel
theorem dX1_withThumb_5 : decode cX1_withThumb 5 = .ok (.iconst 4, 1) := by decide +kernel
theorem dX1_withThumb_6 : decode cX1_withThumb 6 = .ok (.ishl, 1) := by decide +kernel
theorem dX1_withThumb_7 : decode cX1_withThumb 7 = .ok (.ior, 1) := by decide +kernel
theorem dX1_withThumb_8 : decode cX1_withThumb 8 = .ok (.ireturn, 1) := by decide +kernel
theorem dX1_sameButForPlace_0 : decode cX1_sameButForPlace 0 = .ok (.iload_n 0, 1) := by decide +kernel
theorem dX1_sameButForPlace_1 : decode cX1_sameButForPlace 1 = .ok (.iload_n 1, 1) := by decide +kernel
theorem dX1_sameButForPlace_2 : decode cX1_sameButForPlace 2 = .ok (.ixor, 1) := by decide +kernel
theorem dX1_sameButForPlace_3 : decode cX1_sameButForPlace 3 = .ok (.sipush (-3841), 3) := by decide +kernel
theorem dX1_sameButForPlace_6 : decode cX1_sameButForPlace 6 = .ok (.iand, 1) := by decide +kernel
theorem dX1_sameButForPlace_7 : decode cX1_sameButForPlace 7 = .ok (.ifCond .ne 7, 3) := by decide +kernel
theorem dX1_sameButForPlace_10 : decode cX1_sameButForPlace 10 = .ok (.iconst 1, 1) := by decide +kernel
theorem dX1_sameButForPlace_11 : decode cX1_sameButForPlace 11 = .ok (.goto 4, 3) := by decide +kernel
theorem dX1_sameButForPlace_14 : decode cX1_sameButForPlace 14 = .ok (.iconst 0, 1) := by decide +kernel
theorem dX1_sameButForPlace_15 : decode cX1_sameButForPlace 15 = .ok (.ireturn, 1) := by decide +kernel
theorem dX2_init_0 : decode cX2_init 0 = .ok (.aload_n 0, 1) := by decide +kernel
theorem dX2_init_1 : decode cX2_init 1 = .ok (.invokespecial 3, 3) := by decide +kernel
theorem dX2_init_4 : decode cX2_init 4 = .ok (.aload_n 0, 1) := by decide +kernel
theorem dX2_init_5 : decode cX2_init 5 = .ok (.bipush 9, 2) := by decide +kernel
theorem dX2_init_7 : decode cX2_init 7 = .ok (.newarray .int, 2) := by decide +kernel
theorem dX2_init_9 : decode cX2_init 9 = .ok (.putfield 9, 3) := by decide +kernel
theorem dX2_init_12 : decode cX2_init 12 = .ok (.iconst 0, 1) := by decide +kernel
theorem dX2_init_13 : decode cX2_init 13 = .ok (.istore_n 1, 1) := by decide +kernel
theorem dX2_init_14 : decode cX2_init 14 = .ok (.iload_n 1, 1) := by decide +kernel
theorem dX2_init_15 : decode cX2_init 15 = .ok (.bipush 9, 2) := by decide +kernel
theorem dX2_init_17 : decode cX2_init 17 = .ok (.if_icmp .ge 16, 3) := by decide +kernel
theorem dX2_init_20 : decode cX2_init 20 = .ok (.aload_n 0, 1) := by decide +kernel
theorem dX2_init_21 : decode cX2_init 21 = .ok (.getfield 9, 3) := by decide +kernel
theorem dX2_init_24 : decode cX2_init 24 = .ok (.iload_n 1, 1) := by decide +kernel
theorem dX2_init_25 : decode cX2_init 25 = .ok (.iload_n 1, 1) := by decide +kernel
theorem dX2_init_26 : decode cX2_init 26 = .ok (.iastore, 1) := by decide +kernel
theorem dX2_init_27 : decode cX2_init 27 = .ok (.iinc 1 1, 3) := by decide +kernel
theorem dX2_init_30 : decode cX2_init 30 = .ok (.goto (-16), 3) := by decide +kernel
theorem dX2_init_33 : decode cX2_init 33 = .ok (.aload_n 0, 1) := by decide +kernel
theorem dX2_init_34 : decode cX2_init 34 = .ok (.bipush 9, 2) := by decide +kernel
theorem dX2_init_36 : decode cX2_init 36 = .ok (.putfield 15, 3) := by decide +kernel
theorem dX2_init_39 : decode cX2_init 39 = .ok (.return_, 1) := by decide +kernel
theorem dX2_unite_0 : decode cX2_unite 0 = .ok (.aload_n 0, 1) := by decide +kernel
theorem dX2_unite_1 : decode cX2_unite 1 = .ok (.getfield 9, 3) := by decide +kernel
theorem dX2_unite_4 : decode cX2_unite 4 = .ok (.iload_n 1, 1) := by decide +kernel
theorem dX2_unite_5 : decode cX2_unite 5 = .ok (.iaload, 1) := by decide +kernel
theorem dX2_unite_6 : decode cX2_unite 6 = .ok (.istore_n 3, 1) := by decide +kernel
theorem dX2_unite_7 : decode cX2_unite 7 = .ok (.aload_n 0, 1) := by decide +kernel
theorem dX2_unite_8 : decode cX2_unite 8 = .ok (.getfield 9, 3) := by decide +kernel
theorem dX2_unite_11 : decode cX2_unite 11 = .ok (.iload_n 2, 1) := by decide +kernel
theorem dX2_unite_12 : decode cX2_unite 12 = .ok (.iaload, 1) := by decide +kernel
theorem dX2_unite_13 : decode cX2_unite 13 = .ok (.istore 4, 2) := by decide +kernel
theorem dX2_unite_15 : decode cX2_unite 15 = .ok (.iload_n 3, 1) := by decide +kernel
theorem dX2_unite_16 : decode cX2_unite 16 = .ok (.iload 4, 2) := by decide +kernel
theorem dX2_unite_18 : decode cX2_unite 18 = .ok (.if_icmp .ne 4, 3) := by decide +kernel
theorem dX2_unite_21 : decode cX2_unite 21 = .ok (.return_, 1) := by decide +kernel
theorem dX2_unite_22 : decode cX2_unite 22 = .ok (.iconst 0, 1) := by decide +kernel
theorem dX2_unite_23 : decode cX2_unite 23 = .ok (.istore 5, 2) := by decide +kernel
theorem dX2_unite_25 : decode cX2_unite 25 = .ok (.iload 5, 2) := by decide +kernel
theorem dX2_unite_27 : decode cX2_unite 27 = .ok (.bipush 9, 2) := by decide +kernel
theorem dX2_unite_29 : decode cX2_unite 29 = .ok (.if_icmp .ge 29, 3) := by decide +kernel
theorem dX2_unite_32 : decode cX2_unite 32 = .ok (.aload_n 0, 1) := by decide +kernel
theorem dX2_unite_33 : decode cX2_unite 33 = .ok (.getfield 9, 3) := by decide +kernel
theorem dX2_unite_36 : decode cX2_unite 36 = .ok (.iload 5, 2) := by decide +kernel
theorem dX2_unite_38 : decode cX2_unite 38 = .ok (.iaload, 1) := by decide +kernel
theorem dX2_unite_39 : decode cX2_unite 39 = .ok (.iload 4, 2) := by decide +kernel
theorem dX2_unite_41 : decode cX2_unite 41 = .ok (.if_icmp .ne 11, 3) := by decide +kernel
theorem dX2_unite_44 : decode cX2_unite 44 = .ok (.aload_n 0, 1) := by decide +kernel
theorem dX2_unite_45 : decode cX2_unite 45 = .ok (.getfield 9, 3) := by decide +kernel
theorem dX2_unite_48 : decode cX2_unite 48 = .ok (.iload 5, 2) := by decide +kernel
theorem dX2_unite_50 : decode cX2_unite 50 = .ok (.iload_n 3, 1) := by decide +kernel
theorem dX2_unite_51 : decode cX2_unite 51 = .ok (.iastore, 1) := by decide +kernel
theorem dX2_unite_52 : decode cX2_unite 52 = .ok (.iinc 5 1, 3) := by decide +kernel
theorem dX2_unite_55 : decode cX2_unite 55 = .ok (.goto (-30), 3) := by decide +kernel
theorem dX2_unite_58 : decode cX2_unite 58 = .ok (.aload_n 0, 1) := by decide +kernel
theorem dX2_unite_59 : decode cX2_unite 59 = .ok (.dup, 1) := by decide +kernel
theorem dX2_unite_60 : decode cX2_unite 60 = .ok (.getfield 15, 3) := by decide +kernel
theorem dX2_unite_63 : decode cX2_unite 63 = .ok (.iconst 1, 1) := by decide +kernel
theorem dX2_unite_64 : decode cX2_unite 64 = .ok (.isub, 1) := by decide +kernel
theorem dX2_unite_65 : decode cX2_unite 65 = .ok (.putfield 15, 3) := by decide +kernel
theorem dX2_unite_68 : decode cX2_unite 68 = .ok (.return_, 1) := by decide +kernel
theorem dX2_sameGroup_0 : decode cX2_sameGroup 0 = .ok (.aload_n 0, 1) := by decide +kernel
theorem dX2_sameGroup_1 : decode cX2_sameGroup 1 = .ok (.getfield 9, 3) := by decide +kernel
theorem dX2_sameGroup_4 : decode cX2_sameGroup 4 = .ok (.iload_n 1, 1) := by decide +kernel
theorem dX2_sameGroup_5 : decode cX2_sameGroup 5 = .ok (.iaload, 1) := by decide +kernel
theorem dX2_sameGroup_6 : decode cX2_sameGroup 6 = .ok (.aload_n 0, 1) := by decide +kernel
theorem dX2_sameGroup_7 : decode cX2_sameGroup 7 = .ok (.getfield 9, 3) := by decide +kernel
theorem dX2_sameGroup_10 : decode cX2_sameGroup 10 = .ok (.iload_n 2, 1) := by decide +kernel
theorem dX2_sameGroup_11 : decode cX2_sameGroup 11 = .ok (.iaload, 1) := by decide +kernel
theorem dX2_sameGroup_12 : decode cX2_sameGroup 12 = .ok (.if_icmp .ne 7, 3) := by decide +kernel
theorem dX2_sameGroup_15 : decode cX2_sameGroup 15 = .ok (.iconst 1, 1) := by decide +kernel
theorem dX2_sameGroup_16 : decode cX2_sameGroup 16 = .ok (.goto 4, 3) := by decide +kernel
theorem dX2_sameGroup_19 : decode cX2_sameGroup 19 = .ok (.iconst 0, 1) := by decide +kernel
theorem dX2_sameGroup_20 : decode cX2_sameGroup 20 = .ok (.ireturn, 1) := by decide +kernel
theorem dX2_stepsBetween_0 : decode cX2_stepsBetween 0 = .ok (.aload_n 0, 1) := by decide +kernel
theorem dX2_stepsBetween_1 : decode cX2_stepsBetween 1 = .ok (.iload_n 1, 1) := by decide +kernel
theorem dX2_stepsBetween_2 : decode cX2_stepsBetween 2 = .ok (.iload_n 2, 1) := by decide +kernel
theorem dX2_stepsBetween_3 : decode cX2_stepsBetween 3 = .ok (.invokevirtual 19, 3) := by decide +kernel
theorem dX2_stepsBetween_6 : decode cX2_stepsBetween 6 = .ok (.ifCond .eq 5, 3) := by decide +kernel
theorem dX2_stepsBetween_9 : decode cX2_stepsBetween 9 = .ok (.iconst 0, 1) := by decide +kernel
theorem dX2_stepsBetween_10 : decode cX2_stepsBetween 10 = .ok (.ireturn, 1) := by decide +kernel
theorem dX2_stepsBetween_11 : decode cX2_stepsBetween 11 = .ok (.iload_n 1, 1) := by decide +kernel
theorem dX2_stepsBetween_12 : decode cX2_stepsBetween 12 = .ok (.iconst 3, 1) := by decide +kernel
theorem dX2_stepsBetween_13 : decode cX2_stepsBetween 13 = .ok (.idiv, 1) := by decide +kernel
theorem dX2_stepsBetween_14 : decode cX2_stepsBetween 14 = .ok (.iload_n 2, 1) := by decide +kernel
theorem dX2_stepsBetween_15 : decode cX2_stepsBetween 15 = .ok (.iconst 3, 1) := by decide +kernel
theorem dX2_stepsBetween_16 : decode cX2_stepsBetween 16 = .ok (.idiv, 1) := by decide +kernel
theorem dX2_stepsBetween_17 : decode cX2_stepsBetween 17 = .ok (.isub, 1) := by decide +kernel
theorem dX2_stepsBetween_18 : decode cX2_stepsBetween 18 = .ok (.invokestatic 23, 3) := by decide +kernel
theorem dX2_stepsBetween_21 : decode cX2_stepsBetween 21 = .ok (.istore_n 3, 1) := by decide +kernel
theorem dX2_stepsBetween_22 : decode cX2_stepsBetween 22 = .ok (.iload_n 1, 1) := by decide +kernel
theorem dX2_stepsBetween_23 : decode cX2_stepsBetween 23 = .ok (.iconst 3, 1) := by decide +kernel
theorem dX2_stepsBetween_24 : decode cX2_stepsBetween 24 = .ok (.irem, 1) := by decide +kernel
theorem dX2_stepsBetween_25 : decode cX2_stepsBetween 25 = .ok (.iload_n 2, 1) := by decide +kernel
theorem dX2_stepsBetween_26 : decode cX2_stepsBetween 26 = .ok (.iconst 3, 1) := by decide +kernel
theorem dX2_stepsBetween_27 : decode cX2_stepsBetween 27 = .ok (.irem, 1) := by decide +kernel
theorem dX2_stepsBetween_28 : decode cX2_stepsBetween 28 = .ok (.isub, 1) := by decide +kernel
theorem dX2_stepsBetween_29 : decode cX2_stepsBetween 29 = .ok (.invokestatic 23, 3) := by decide +kernel
theorem dX2_stepsBetween_32 : decode cX2_stepsBetween 32 = .ok (.istore 4, 2) := by decide +kernel
theorem dX2_stepsBetween_34 : decode cX2_stepsBetween 34 = .ok (.iload_n 3, 1) := by decide +kernel
theorem dX2_stepsBetween_35 : decode cX2_stepsBetween 35 = .ok (.iload 4, 2) := by decide +kernel
theorem dX2_stepsBetween_37 : decode cX2_stepsBetween 37 = .ok (.iadd, 1) := by decide +kernel
theorem dX2_stepsBetween_38 : decode cX2_stepsBetween 38 = .ok (.ireturn, 1) := by decide +kernel
theorem dX2_alike_0 : decode cX2_alike 0 = .ok (.iload_n 1, 1) := by decide +kernel
theorem dX2_alike_1 : decode cX2_alike 1 = .ok (.iload_n 2, 1) := by decide +kernel
theorem dX2_alike_2 : decode cX2_alike 2 = .ok (.invokestatic 29, 3) := by decide +kernel
theorem dX2_alike_5 : decode cX2_alike 5 = .ok (.ifCond .eq 22, 3) := by decide +kernel
theorem dX2_alike_8 : decode cX2_alike 8 = .ok (.aload_n 0, 1) := by decide +kernel
theorem dX2_alike_9 : decode cX2_alike 9 = .ok (.iload_n 1, 1) := by decide +kernel
theorem dX2_alike_10 : decode cX2_alike 10 = .ok (.invokestatic 34, 3) := by decide +kernel
theorem dX2_alike_13 : decode cX2_alike 13 = .ok (.iload_n 2, 1) := by decide +kernel
theorem dX2_alike_14 : decode cX2_alike 14 = .ok (.invokestatic 34, 3) := by decide +kernel
theorem dX2_alike_17 : decode cX2_alike 17 = .ok (.invokevirtual 19, 3) := by decide +kernel
theorem dX2_alike_20 : decode cX2_alike 20 = .ok (.ifCond .eq 7, 3) := by decide +kernel
theorem dX2_alike_23 : decode cX2_alike 23 = .ok (.iconst 1, 1) := by decide +kernel
theorem dX2_alike_24 : decode cX2_alike 24 = .ok (.goto 4, 3) := by decide +kernel
theorem dX2_alike_27 : decode cX2_alike 27 = .ok (.iconst 0, 1) := by decide +kernel
theorem dX2_alike_28 : decode cX2_alike 28 = .ok (.ireturn, 1) := by decide +kernel
theorem dX2_distance_0 : decode cX2_distance 0 = .ok (.iload_n 1, 1) := by decide +kernel
theorem dX2_distance_1 : decode cX2_distance 1 = .ok (.invokestatic 41, 3) := by decide +kernel
theorem dX2_distance_4 : decode cX2_distance 4 = .ok (.iload_n 2, 1) := by decide +kernel
theorem dX2_distance_5 : decode cX2_distance 5 = .ok (.invokestatic 41, 3) := by decide +kernel
theorem dX2_distance_8 : decode cX2_distance 8 = .ok (.ixor, 1) := by decide +kernel
theorem dX2_distance_9 : decode cX2_distance 9 = .ok (.invokestatic 44, 3) := by decide +kernel
theorem dX2_distance_12 : decode cX2_distance 12 = .ok (.istore_n 3, 1) := by decide +kernel
theorem dX2_distance_13 : decode cX2_distance 13 = .ok (.iload_n 1, 1) := by decide +kernel
theorem dX2_distance_14 : decode cX2_distance 14 = .ok (.invokestatic 49, 3) := by decide +kernel
theorem dX2_distance_17 : decode cX2_distance 17 = .ok (.iload_n 2, 1) := by decide +kernel
theorem dX2_distance_18 : decode cX2_distance 18 = .ok (.invokestatic 49, 3) := by decide +kernel
theorem dX2_distance_21 : decode cX2_distance 21 = .ok (.if_icmp .ne 7, 3) := by decide +kernel
theorem dX2_distance_24 : decode cX2_distance 24 = .ok (.iconst 0, 1) := by decide +kernel
theorem dX2_distance_25 : decode cX2_distance 25 = .ok (.goto 4, 3) := by decide +kernel
theorem dX2_distance_28 : decode cX2_distance 28 = .ok (.iconst 1, 1) := by decide +kernel
theorem dX2_distance_29 : decode cX2_distance 29 = .ok (.istore 4, 2) := by decide +kernel
theorem dX2_distance_31 : decode cX2_distance 31 = .ok (.iload_n 1, 1) := by decide +kernel
theorem dX2_distance_32 : decode cX2_distance 32 = .ok (.invokestatic 52, 3) := by decide +kernel
theorem dX2_distance_35 : decode cX2_distance 35 = .ok (.iload_n 2, 1) := by decide +kernel
theorem dX2_distance_36 : decode cX2_distance 36 = .ok (.invokestatic 52, 3) := by decide +kernel
theorem dX2_distance_39 : decode cX2_distance 39 = .ok (.if_icmp .ne 7, 3) := by decide +kernel
theorem dX2_distance_42 : decode cX2_distance 42 = .ok (.iconst 0, 1) := by decide +kernel
theorem dX2_distance_43 : decode cX2_distance 43 = .ok (.goto 4, 3) := by decide +kernel
theorem dX2_distance_46 : decode cX2_distance 46 = .ok (.iconst 2, 1) := by decide +kernel
theorem dX2_distance_47 : decode cX2_distance 47 = .ok (.istore 5, 2) := by decide +kernel
theorem dX2_distance_49 : decode cX2_distance 49 = .ok (.iload_n 3, 1) := by decide +kernel
theorem dX2_distance_50 : decode cX2_distance 50 = .ok (.iload 4, 2) := by decide +kernel
theorem dX2_distance_52 : decode cX2_distance 52 = .ok (.iadd, 1) := by decide +kernel
theorem dX2_distance_53 : decode cX2_distance 53 = .ok (.iload 5, 2) := by decide +kernel
theorem dX2_distance_55 : decode cX2_distance 55 = .ok (.iadd, 1) := by decide +kernel
theorem dX2_distance_56 : decode cX2_distance 56 = .ok (.aload_n 0, 1) := by decide +kernel
theorem dX2_distance_57 : decode cX2_distance 57 = .ok (.iload_n 1, 1) := by decide +kernel
theorem dX2_distance_58 : decode cX2_distance 58 = .ok (.invokestatic 34, 3) := by decide +kernel
theorem dX2_distance_61 : decode cX2_distance 61 = .ok (.iload_n 2, 1) := by decide +kernel
theorem dX2_distance_62 : decode cX2_distance 62 = .ok (.invokestatic 34, 3) := by decide +kernel
theorem dX2_distance_65 : decode cX2_distance 65 = .ok (.invokevirtual 55, 3) := by decide +kernel
theorem dX2_distance_68 : decode cX2_distance 68 = .ok (.iadd, 1) := by decide +kernel
theorem dX2_distance_69 : decode cX2_distance 69 = .ok (.ireturn, 1) := by decide +kernel
theorem dX3_init_0 : decode cX3_init 0 = .ok (.aload_n 0, 1) := by decide +kernel
theorem dX3_init_1 : decode cX3_init 1 = .ok (.invokespecial 1, 3) := by decide +kernel
theorem dX3_init_4 : decode cX3_init 4 = .ok (.aload_n 0, 1) := by decide +kernel
theorem dX3_init_5 : decode cX3_init 5 = .ok (.new 7, 3) := by decide +kernel
theorem dX3_init_8 : decode cX3_init 8 = .ok (.dup, 1) := by decide +kernel
theorem dX3_init_9 : decode cX3_init 9 = .ok (.invokespecial 9, 3) := by decide +kernel
theorem dX3_init_12 : decode cX3_init 12 = .ok (.putfield 10, 3) := by decide +kernel
theorem dX3_init_15 : decode cX3_init 15 = .ok (.aload_n 0, 1) := by decide +kernel
theorem dX3_init_16 : decode cX3_init 16 = .ok (.iconst 4, 1) := by decide +kernel
theorem dX3_init_17 : decode cX3_init 17 = .ok (.anewarray 16, 3) := by decide +kernel
theorem dX3_init_20 : decode cX3_init 20 = .ok (.putfield 18, 3) := by decide +kernel
theorem dX3_init_23 : decode cX3_init 23 = .ok (.iconst 0, 1) := by decide +kernel
theorem dX3_init_24 : decode cX3_init 24 = .ok (.istore_n 1, 1) := by decide +kernel
theorem dX3_init_25 : decode cX3_init 25 = .ok (.iload_n 1, 1) := by decide +kernel
theorem dX3_init_26 : decode cX3_init 26 = .ok (.iconst 4, 1) := by decide +kernel
theorem dX3_init_27 : decode cX3_init 27 = .ok (.if_icmp .ge 26, 3) := by decide +kernel
theorem dX3_init_30 : decode cX3_init 30 = .ok (.aload_n 0, 1) := by decide +kernel
theorem dX3_init_31 : decode cX3_init 31 = .ok (.getfield 18, 3) := by decide +kernel
theorem dX3_init_34 : decode cX3_init 34 = .ok (.iload_n 1, 1) := by decide +kernel
theorem dX3_init_35 : decode cX3_init 35 = .ok (.new 16, 3) := by decide +kernel
theorem dX3_init_38 : decode cX3_init 38 = .ok (.dup, 1) := by decide +kernel
theorem dX3_init_39 : decode cX3_init 39 = .ok (.aload_n 0, 1) := by decide +kernel
theorem dX3_init_40 : decode cX3_init 40 = .ok (.getfield 10, 3) := by decide +kernel
theorem dX3_init_43 : decode cX3_init 43 = .ok (.invokespecial 22, 3) := by decide +kernel
theorem dX3_init_46 : decode cX3_init 46 = .ok (.aastore, 1) := by decide +kernel
theorem dX3_init_47 : decode cX3_init 47 = .ok (.iinc 1 1, 3) := by decide +kernel
theorem dX3_init_50 : decode cX3_init 50 = .ok (.goto (-25), 3) := by decide +kernel
theorem dX3_init_53 : decode cX3_init 53 = .ok (.aload_n 0, 1) := by decide +kernel
theorem dX3_init_54 : decode cX3_init 54 = .ok (.new 16, 3) := by decide +kernel
theorem dX3_init_57 : decode cX3_init 57 = .ok (.dup, 1) := by decide +kernel
theorem dX3_init_58 : decode cX3_init 58 = .ok (.aload_n 0, 1) := by decide +kernel
theorem dX3_init_59 : decode cX3_init 59 = .ok (.getfield 10, 3) := by decide +kernel
theorem dX3_init_62 : decode cX3_init 62 = .ok (.invokespecial 22, 3) := by decide +kernel
theorem dX3_init_65 : decode cX3_init 65 = .ok (.putfield 25, 3) := by decide +kernel
theorem dX3_init_68 : decode cX3_init 68 = .ok (.aload_n 0, 1) := by decide +kernel
theorem dX3_init_69 : decode cX3_init 69 = .ok (.iconst 0, 1) := by decide +kernel
theorem dX3_init_70 : decode cX3_init 70 = .ok (.putfield 29, 3) := by decide +kernel
theorem dX3_init_73 : decode cX3_init 73 = .ok (.return_, 1) := by decide +kernel
theorem dX3_addLodge_0 : decode cX3_addLodge 0 = .ok (.aload_n 0, 1) := by decide +kernel
theorem dX3_addLodge_1 : decode cX3_addLodge 1 = .ok (.getfield 29, 3) := by decide +kernel
theorem dX3_addLodge_4 : decode cX3_addLodge 4 = .ok (.iconst 4, 1) := by decide +kernel
theorem dX3_addLodge_5 : decode cX3_addLodge 5 = .ok (.if_icmp .lt 13, 3) := by decide +kernel
theorem dX3_addLodge_8 : decode cX3_addLodge 8 = .ok (.new 33, 3) := by decide +kernel
theorem dX3_addLodge_11 : decode cX3_addLodge 11 = .ok (.dup, 1) := by decide +kernel
theorem dX3_addLodge_12 : decode cX3_addLodge 12 = .ok (.ldc 35, 2) := by decide +kernel
theorem dX3_addLodge_14 : decode cX3_addLodge 14 = .ok (.invokespecial 37, 3) := by decide +kernel
theorem dX3_addLodge_17 : decode cX3_addLodge 17 = .ok (.athrow, 1) := by decide +kernel
theorem dX3_addLodge_18 : decode cX3_addLodge 18 = .ok (.aload_n 0, 1) := by decide +kernel
theorem dX3_addLodge_19 : decode cX3_addLodge 19 = .ok (.dup, 1) := by decide +kernel
theorem dX3_addLodge_20 : decode cX3_addLodge 20 = .ok (.getfield 29, 3) := by decide +kernel
theorem dX3_addLodge_23 : decode cX3_addLodge 23 = .ok (.iconst 1, 1) := by decide +kernel
theorem dX3_addLodge_24 : decode cX3_addLodge 24 = .ok (.iadd, 1) := by decide +kernel
theorem dX3_addLodge_25 : decode cX3_addLodge 25 = .ok (.putfield 29, 3) := by decide +kernel
theorem dX3_addLodge_28 : decode cX3_addLodge 28 = .ok (.aload_n 0, 1) := by decide +kernel
theorem dX3_addLodge_29 : decode cX3_addLodge 29 = .ok (.getfield 29, 3) := by decide +kernel
theorem dX3_addLodge_32 : decode cX3_addLodge 32 = .ok (.iconst 1, 1) := by decide +kernel
theorem dX3_addLodge_33 : decode cX3_addLodge 33 = .ok (.isub, 1) := by decide +kernel
theorem dX3_addLodge_34 : decode cX3_addLodge 34 = .ok (.ireturn, 1) := by decide +kernel
theorem dX3_addSign_0 : decode cX3_addSign 0 = .ok (.aload_n 0, 1) := by decide +kernel
theorem dX3_addSign_1 : decode cX3_addSign 1 = .ok (.iload_n 1, 1) := by decide +kernel
theorem dX3_addSign_2 : decode cX3_addSign 2 = .ok (.invokevirtual 40, 3) := by decide +kernel
theorem dX3_addSign_5 : decode cX3_addSign 5 = .ok (.astore 7, 2) := by decide +kernel
theorem dX3_addSign_7 : decode cX3_addSign 7 = .ok (.iload_n 2, 1) := by decide +kernel
theorem dX3_addSign_8 : decode cX3_addSign 8 = .ok (.iload_n 3, 1) := by decide +kernel
theorem dX3_addSign_9 : decode cX3_addSign 9 = .ok (.iload 4, 2) := by decide +kernel
theorem dX3_addSign_11 : decode cX3_addSign 11 = .ok (.iload 5, 2) := by decide +kernel
theorem dX3_addSign_13 : decode cX3_addSign 13 = .ok (.invokestatic 44, 3) := by decide +kernel
theorem dX3_addSign_16 : decode cX3_addSign 16 = .ok (.iload 6, 2) := by decide +kernel
theorem dX3_addSign_18 : decode cX3_addSign 18 = .ok (.bipush 30, 2) := by decide +kernel
theorem dX3_addSign_20 : decode cX3_addSign 20 = .ok (.invokestatic 48, 3) := by decide +kernel
theorem dX3_addSign_23 : decode cX3_addSign 23 = .ok (.ifCond .ne 13, 3) := by decide +kernel
theorem dX3_addSign_26 : decode cX3_addSign 26 = .ok (.new 52, 3) := by decide +kernel
theorem dX3_addSign_29 : decode cX3_addSign 29 = .ok (.dup, 1) := by decide +kernel
theorem dX3_addSign_30 : decode cX3_addSign 30 = .ok (.ldc 54, 2) := by decide +kernel
theorem dX3_addSign_32 : decode cX3_addSign 32 = .ok (.invokespecial 56, 3) := by decide +kernel
theorem dX3_addSign_35 : decode cX3_addSign 35 = .ok (.athrow, 1) := by decide +kernel
theorem dX3_addSign_36 : decode cX3_addSign 36 = .ok (.aload 7, 2) := by decide +kernel
theorem dX3_addSign_38 : decode cX3_addSign 38 = .ok (.iload 6, 2) := by decide +kernel
theorem dX3_addSign_40 : decode cX3_addSign 40 = .ok (.invokevirtual 57, 3) := by decide +kernel
theorem dX3_addSign_43 : decode cX3_addSign 43 = .ok (.ifCond .ne 13, 3) := by decide +kernel
theorem dX3_addSign_46 : decode cX3_addSign 46 = .ok (.new 33, 3) := by decide +kernel
theorem dX3_addSign_49 : decode cX3_addSign 49 = .ok (.dup, 1) := by decide +kernel
theorem dX3_addSign_50 : decode cX3_addSign 50 = .ok (.ldc 61, 2) := by decide +kernel
theorem dX3_addSign_52 : decode cX3_addSign 52 = .ok (.invokespecial 37, 3) := by decide +kernel
theorem dX3_addSign_55 : decode cX3_addSign 55 = .ok (.athrow, 1) := by decide +kernel
theorem dX3_addSign_56 : decode cX3_addSign 56 = .ok (.aload 7, 2) := by decide +kernel
theorem dX3_addSign_58 : decode cX3_addSign 58 = .ok (.iload_n 2, 1) := by decide +kernel
theorem dX3_addSign_59 : decode cX3_addSign 59 = .ok (.iload_n 3, 1) := by decide +kernel
theorem dX3_addSign_60 : decode cX3_addSign 60 = .ok (.iload 4, 2) := by decide +kernel
theorem dX3_addSign_62 : decode cX3_addSign 62 = .ok (.iload 5, 2) := by decide +kernel
theorem dX3_addSign_64 : decode cX3_addSign 64 = .ok (.invokestatic 63, 3) := by decide +kernel
theorem dX3_addSign_67 : decode cX3_addSign 67 = .ok (.iload 6, 2) := by decide +kernel
theorem dX3_addSign_69 : decode cX3_addSign 69 = .ok (.invokevirtual 69, 3) := by decide +kernel
theorem dX3_addSign_72 : decode cX3_addSign 72 = .ok (.ireturn, 1) := by decide +kernel
theorem dX3_forget_0 : decode cX3_forget 0 = .ok (.aload_n 0, 1) := by decide +kernel
theorem dX3_forget_1 : decode cX3_forget 1 = .ok (.iload_n 1, 1) := by decide +kernel
theorem dX3_forget_2 : decode cX3_forget 2 = .ok (.invokevirtual 40, 3) := by decide +kernel
theorem dX3_forget_5 : decode cX3_forget 5 = .ok (.astore_n 3, 1) := by decide +kernel
theorem dX3_forget_6 : decode cX3_forget 6 = .ok (.aload_n 3, 1) := by decide +kernel
theorem dX3_forget_7 : decode cX3_forget 7 = .ok (.iload_n 2, 1) := by decide +kernel
theorem dX3_forget_8 : decode cX3_forget 8 = .ok (.invokestatic 73, 3) := by decide +kernel
theorem dX3_forget_11 : decode cX3_forget 11 = .ok (.aload_n 3, 1) := by decide +kernel
theorem dX3_forget_12 : decode cX3_forget 12 = .ok (.iload_n 2, 1) := by decide +kernel
theorem dX3_forget_13 : decode cX3_forget 13 = .ok (.invokevirtual 77, 3) := by decide +kernel
theorem dX3_forget_16 : decode cX3_forget 16 = .ok (.ireturn, 1) := by decide +kernel
theorem dX3_setThumb_0 : decode cX3_setThumb 0 = .ok (.aload_n 0, 1) := by decide +kernel
theorem dX3_setThumb_1 : decode cX3_setThumb 1 = .ok (.iload_n 1, 1) := by decide +kernel
theorem dX3_setThumb_2 : decode cX3_setThumb 2 = .ok (.invokevirtual 40, 3) := by decide +kernel
theorem dX3_setThumb_5 : decode cX3_setThumb 5 = .ok (.astore 4, 2) := by decide +kernel
theorem dX3_setThumb_7 : decode cX3_setThumb 7 = .ok (.aload 4, 2) := by decide +kernel
theorem dX3_setThumb_9 : decode cX3_setThumb 9 = .ok (.iload_n 2, 1) := by decide +kernel
theorem dX3_setThumb_10 : decode cX3_setThumb 10 = .ok (.invokestatic 73, 3) := by decide +kernel
theorem dX3_setThumb_13 : decode cX3_setThumb 13 = .ok (.iload_n 3, 1) := by decide +kernel
theorem dX3_setThumb_14 : decode cX3_setThumb 14 = .ok (.iconst 4, 1) := by decide +kernel
theorem dX3_setThumb_15 : decode cX3_setThumb 15 = .ok (.invokestatic 48, 3) := by decide +kernel
theorem dX3_setThumb_18 : decode cX3_setThumb 18 = .ok (.ifCond .ne 13, 3) := by decide +kernel
theorem dX3_setThumb_21 : decode cX3_setThumb 21 = .ok (.new 52, 3) := by decide +kernel
theorem dX3_setThumb_24 : decode cX3_setThumb 24 = .ok (.dup, 1) := by decide +kernel
theorem dX3_setThumb_25 : decode cX3_setThumb 25 = .ok (.ldc 81, 2) := by decide +kernel
theorem dX3_setThumb_27 : decode cX3_setThumb 27 = .ok (.invokespecial 56, 3) := by decide +kernel
theorem dX3_setThumb_30 : decode cX3_setThumb 30 = .ok (.athrow, 1) := by decide +kernel
theorem dX3_setThumb_31 : decode cX3_setThumb 31 = .ok (.aload 4, 2) := by decide +kernel
theorem dX3_setThumb_33 : decode cX3_setThumb 33 = .ok (.getfield 83, 3) := by decide +kernel
theorem dX3_setThumb_36 : decode cX3_setThumb 36 = .ok (.iload_n 2, 1) := by decide +kernel
theorem dX3_setThumb_37 : decode cX3_setThumb 37 = .ok (.iaload, 1) := by decide +kernel
theorem dX3_setThumb_38 : decode cX3_setThumb 38 = .ok (.invokestatic 87, 3) := by decide +kernel
theorem dX3_setThumb_41 : decode cX3_setThumb 41 = .ok (.istore 5, 2) := by decide +kernel
theorem dX3_setThumb_43 : decode cX3_setThumb 43 = .ok (.aload 4, 2) := by decide +kernel
theorem dX3_setThumb_45 : decode cX3_setThumb 45 = .ok (.getfield 83, 3) := by decide +kernel
theorem dX3_setThumb_48 : decode cX3_setThumb 48 = .ok (.iload_n 2, 1) := by decide +kernel
theorem dX3_setThumb_49 : decode cX3_setThumb 49 = .ok (.aload 4, 2) := by decide +kernel
theorem dX3_setThumb_51 : decode cX3_setThumb 51 = .ok (.getfield 83, 3) := by decide +kernel
theorem dX3_setThumb_54 : decode cX3_setThumb 54 = .ok (.iload_n 2, 1) := by decide +kernel
theorem dX3_setThumb_55 : decode cX3_setThumb 55 = .ok (.iaload, 1) := by decide +kernel
theorem dX3_setThumb_56 : decode cX3_setThumb 56 = .ok (.iload_n 3, 1) := by decide +kernel
theorem dX3_setThumb_57 : decode cX3_setThumb 57 = .ok (.invokestatic 90, 3) := by decide +kernel
theorem dX3_setThumb_60 : decode cX3_setThumb 60 = .ok (.iastore, 1) := by decide +kernel
theorem dX3_setThumb_61 : decode cX3_setThumb 61 = .ok (.iload 5, 2) := by decide +kernel
theorem dX3_setThumb_63 : decode cX3_setThumb 63 = .ok (.ireturn, 1) := by decide +kernel
theorem dX3_join_0 : decode cX3_join 0 = .ok (.iload_n 1, 1) := by decide +kernel
theorem dX3_join_1 : decode cX3_join 1 = .ok (.invokestatic 93, 3) := by decide +kernel
theorem dX3_join_4 : decode cX3_join 4 = .ok (.iload_n 2, 1) := by decide +kernel
theorem dX3_join_5 : decode cX3_join 5 = .ok (.invokestatic 93, 3) := by decide +kernel
theorem dX3_join_8 : decode cX3_join 8 = .ok (.aload_n 0, 1) := by decide +kernel
theorem dX3_join_9 : decode cX3_join 9 = .ok (.getfield 10, 3) := by decide +kernel
theorem dX3_join_12 : decode cX3_join 12 = .ok (.iload_n 1, 1) := by decide +kernel
theorem dX3_join_13 : decode cX3_join 13 = .ok (.iload_n 2, 1) := by decide +kernel
theorem dX3_join_14 : decode cX3_join 14 = .ok (.invokevirtual 97, 3) := by decide +kernel
theorem dX3_join_17 : decode cX3_join 17 = .ok (.aload_n 0, 1) := by decide +kernel
theorem dX3_join_18 : decode cX3_join 18 = .ok (.getfield 10, 3) := by decide +kernel
theorem dX3_join_21 : decode cX3_join 21 = .ok (.getfield 101, 3) := by decide +kernel
theorem dX3_join_24 : decode cX3_join 24 = .ok (.ireturn, 1) := by decide +kernel
theorem dX3_borrow_0 : decode cX3_borrow 0 = .ok (.aload_n 0, 1) := by decide +kernel
theorem dX3_borrow_1 : decode cX3_borrow 1 = .ok (.iload_n 1, 1) := by decide +kernel
theorem dX3_borrow_2 : decode cX3_borrow 2 = .ok (.invokevirtual 40, 3) := by decide +kernel
theorem dX3_borrow_5 : decode cX3_borrow 5 = .ok (.astore 4, 2) := by decide +kernel
theorem dX3_borrow_7 : decode cX3_borrow 7 = .ok (.aload_n 0, 1) := by decide +kernel
theorem dX3_borrow_8 : decode cX3_borrow 8 = .ok (.iload_n 3, 1) := by decide +kernel
theorem dX3_borrow_9 : decode cX3_borrow 9 = .ok (.invokevirtual 40, 3) := by decide +kernel
theorem dX3_borrow_12 : decode cX3_borrow 12 = .ok (.astore 5, 2) := by decide +kernel
theorem dX3_borrow_14 : decode cX3_borrow 14 = .ok (.aload 4, 2) := by decide +kernel
theorem dX3_borrow_16 : decode cX3_borrow 16 = .ok (.iload_n 2, 1) := by decide +kernel
theorem dX3_borrow_17 : decode cX3_borrow 17 = .ok (.invokestatic 73, 3) := by decide +kernel
theorem dX3_borrow_20 : decode cX3_borrow 20 = .ok (.iload_n 1, 1) := by decide +kernel
theorem dX3_borrow_21 : decode cX3_borrow 21 = .ok (.iload_n 3, 1) := by decide +kernel
theorem dX3_borrow_22 : decode cX3_borrow 22 = .ok (.if_icmp .ne 13, 3) := by decide +kernel
theorem dX3_borrow_25 : decode cX3_borrow 25 = .ok (.new 52, 3) := by decide +kernel
theorem dX3_borrow_28 : decode cX3_borrow 28 = .ok (.dup, 1) := by decide +kernel
theorem dX3_borrow_29 : decode cX3_borrow 29 = .ok (.ldc 104, 2) := by decide +kernel
theorem dX3_borrow_31 : decode cX3_borrow 31 = .ok (.invokespecial 56, 3) := by decide +kernel
theorem dX3_borrow_34 : decode cX3_borrow 34 = .ok (.athrow, 1) := by decide +kernel
theorem dX3_borrow_35 : decode cX3_borrow 35 = .ok (.aload 4, 2) := by decide +kernel
theorem dX3_borrow_37 : decode cX3_borrow 37 = .ok (.getfield 106, 3) := by decide +kernel
theorem dX3_borrow_40 : decode cX3_borrow 40 = .ok (.iload_n 2, 1) := by decide +kernel
theorem dX3_borrow_41 : decode cX3_borrow 41 = .ok (.iaload, 1) := by decide +kernel
theorem dX3_borrow_42 : decode cX3_borrow 42 = .ok (.istore 6, 2) := by decide +kernel
theorem dX3_borrow_44 : decode cX3_borrow 44 = .ok (.aload 5, 2) := by decide +kernel
theorem dX3_borrow_46 : decode cX3_borrow 46 = .ok (.iload 6, 2) := by decide +kernel
theorem dX3_borrow_48 : decode cX3_borrow 48 = .ok (.invokevirtual 57, 3) := by decide +kernel
theorem dX3_borrow_51 : decode cX3_borrow 51 = .ok (.ifCond .ne 13, 3) := by decide +kernel
theorem dX3_borrow_54 : decode cX3_borrow 54 = .ok (.new 33, 3) := by decide +kernel
theorem dX3_borrow_57 : decode cX3_borrow 57 = .ok (.dup, 1) := by decide +kernel
theorem dX3_borrow_58 : decode cX3_borrow 58 = .ok (.ldc 61, 2) := by decide +kernel
theorem dX3_borrow_60 : decode cX3_borrow 60 = .ok (.invokespecial 37, 3) := by decide +kernel
theorem dX3_borrow_63 : decode cX3_borrow 63 = .ok (.athrow, 1) := by decide +kernel
theorem dX3_borrow_64 : decode cX3_borrow 64 = .ok (.aload 5, 2) := by decide +kernel
theorem dX3_borrow_66 : decode cX3_borrow 66 = .ok (.aload 4, 2) := by decide +kernel
theorem dX3_borrow_68 : decode cX3_borrow 68 = .ok (.getfield 83, 3) := by decide +kernel
theorem dX3_borrow_71 : decode cX3_borrow 71 = .ok (.iload_n 2, 1) := by decide +kernel
theorem dX3_borrow_72 : decode cX3_borrow 72 = .ok (.iaload, 1) := by decide +kernel
theorem dX3_borrow_73 : decode cX3_borrow 73 = .ok (.invokevirtual 109, 3) := by decide +kernel
theorem dX3_borrow_76 : decode cX3_borrow 76 = .ok (.istore 7, 2) := by decide +kernel
theorem dX3_borrow_78 : decode cX3_borrow 78 = .ok (.iload 7, 2) := by decide +kernel
theorem dX3_borrow_80 : decode cX3_borrow 80 = .ok (.iconst (-1), 1) := by decide +kernel
theorem dX3_borrow_81 : decode cX3_borrow 81 = .ok (.if_icmp .ne 13, 3) := by decide +kernel
theorem dX3_borrow_84 : decode cX3_borrow 84 = .ok (.new 33, 3) := by decide +kernel
theorem dX3_borrow_87 : decode cX3_borrow 87 = .ok (.dup, 1) := by decide +kernel
theorem dX3_borrow_88 : decode cX3_borrow 88 = .ok (.ldc 112, 2) := by decide +kernel
theorem dX3_borrow_90 : decode cX3_borrow 90 = .ok (.invokespecial 37, 3) := by decide +kernel
theorem dX3_borrow_93 : decode cX3_borrow 93 = .ok (.athrow, 1) := by decide +kernel
theorem dX3_borrow_94 : decode cX3_borrow 94 = .ok (.aload 5, 2) := by decide +kernel
theorem dX3_borrow_96 : decode cX3_borrow 96 = .ok (.iload 7, 2) := by decide +kernel
theorem dX3_borrow_98 : decode cX3_borrow 98 = .ok (.iload 6, 2) := by decide +kernel
theorem dX3_borrow_100 : decode cX3_borrow 100 = .ok (.invokevirtual 69, 3) := by decide +kernel
theorem dX3_borrow_103 : decode cX3_borrow 103 = .ok (.ireturn, 1) := by decide +kernel
theorem dX3_groups_0 : decode cX3_groups 0 = .ok (.aload_n 0, 1) := by decide +kernel
theorem dX3_groups_1 : decode cX3_groups 1 = .ok (.getfield 10, 3) := by decide +kernel
theorem dX3_groups_4 : decode cX3_groups 4 = .ok (.getfield 101, 3) := by decide +kernel
theorem dX3_groups_7 : decode cX3_groups 7 = .ok (.ireturn, 1) := by decide +kernel
theorem dX3_areJoined_0 : decode cX3_areJoined 0 = .ok (.iload_n 1, 1) := by decide +kernel
theorem dX3_areJoined_1 : decode cX3_areJoined 1 = .ok (.invokestatic 93, 3) := by decide +kernel
theorem dX3_areJoined_4 : decode cX3_areJoined 4 = .ok (.iload_n 2, 1) := by decide +kernel
theorem dX3_areJoined_5 : decode cX3_areJoined 5 = .ok (.invokestatic 93, 3) := by decide +kernel
theorem dX3_areJoined_8 : decode cX3_areJoined 8 = .ok (.aload_n 0, 1) := by decide +kernel
theorem dX3_areJoined_9 : decode cX3_areJoined 9 = .ok (.getfield 10, 3) := by decide +kernel
theorem dX3_areJoined_12 : decode cX3_areJoined 12 = .ok (.iload_n 1, 1) := by decide +kernel
theorem dX3_areJoined_13 : decode cX3_areJoined 13 = .ok (.iload_n 2, 1) := by decide +kernel
theorem dX3_areJoined_14 : decode cX3_areJoined 14 = .ok (.invokevirtual 114, 3) := by decide +kernel
theorem dX3_areJoined_17 : decode cX3_areJoined 17 = .ok (.ireturn, 1) := by decide +kernel
theorem dX3_steps_0 : decode cX3_steps 0 = .ok (.iload_n 1, 1) := by decide +kernel
theorem dX3_steps_1 : decode cX3_steps 1 = .ok (.invokestatic 93, 3) := by decide +kernel
theorem dX3_steps_4 : decode cX3_steps 4 = .ok (.iload_n 2, 1) := by decide +kernel
theorem dX3_steps_5 : decode cX3_steps 5 = .ok (.invokestatic 93, 3) := by decide +kernel
theorem dX3_steps_8 : decode cX3_steps 8 = .ok (.aload_n 0, 1) := by decide +kernel
theorem dX3_steps_9 : decode cX3_steps 9 = .ok (.getfield 10, 3) := by decide +kernel
theorem dX3_steps_12 : decode cX3_steps 12 = .ok (.iload_n 1, 1) := by decide +kernel
theorem dX3_steps_13 : decode cX3_steps 13 = .ok (.iload_n 2, 1) := by decide +kernel
theorem dX3_steps_14 : decode cX3_steps 14 = .ok (.invokevirtual 117, 3) := by decide +kernel
theorem dX3_steps_17 : decode cX3_steps 17 = .ok (.ireturn, 1) := by decide +kernel
theorem dX3_lodges_0 : decode cX3_lodges 0 = .ok (.aload_n 0, 1) := by decide +kernel
theorem dX3_lodges_1 : decode cX3_lodges 1 = .ok (.getfield 29, 3) := by decide +kernel
theorem dX3_lodges_4 : decode cX3_lodges 4 = .ok (.ireturn, 1) := by decide +kernel
theorem dX3_signsOf_0 : decode cX3_signsOf 0 = .ok (.aload_n 0, 1) := by decide +kernel
theorem dX3_signsOf_1 : decode cX3_signsOf 1 = .ok (.iload_n 1, 1) := by decide +kernel
theorem dX3_signsOf_2 : decode cX3_signsOf 2 = .ok (.invokevirtual 40, 3) := by decide +kernel
theorem dX3_signsOf_5 : decode cX3_signsOf 5 = .ok (.getfield 120, 3) := by decide +kernel
theorem dX3_signsOf_8 : decode cX3_signsOf 8 = .ok (.ireturn, 1) := by decide +kernel
theorem dX3_shapeOf_0 : decode cX3_shapeOf 0 = .ok (.aload_n 0, 1) := by decide +kernel
theorem dX3_shapeOf_1 : decode cX3_shapeOf 1 = .ok (.iload_n 1, 1) := by decide +kernel
theorem dX3_shapeOf_2 : decode cX3_shapeOf 2 = .ok (.iload_n 2, 1) := by decide +kernel
theorem dX3_shapeOf_3 : decode cX3_shapeOf 3 = .ok (.invokevirtual 123, 3) := by decide +kernel
theorem dX3_shapeOf_6 : decode cX3_shapeOf 6 = .ok (.invokestatic 126, 3) := by decide +kernel
theorem dX3_shapeOf_9 : decode cX3_shapeOf 9 = .ok (.ireturn, 1) := by decide +kernel
theorem dX3_thumbOf_0 : decode cX3_thumbOf 0 = .ok (.aload_n 0, 1) := by decide +kernel
theorem dX3_thumbOf_1 : decode cX3_thumbOf 1 = .ok (.iload_n 1, 1) := by decide +kernel
theorem dX3_thumbOf_2 : decode cX3_thumbOf 2 = .ok (.iload_n 2, 1) := by decide +kernel
theorem dX3_thumbOf_3 : decode cX3_thumbOf 3 = .ok (.invokevirtual 123, 3) := by decide +kernel
theorem dX3_thumbOf_6 : decode cX3_thumbOf 6 = .ok (.invokestatic 87, 3) := by decide +kernel
theorem dX3_thumbOf_9 : decode cX3_thumbOf 9 = .ok (.ireturn, 1) := by decide +kernel
theorem dX3_placeOf_0 : decode cX3_placeOf 0 = .ok (.aload_n 0, 1) := by decide +kernel
theorem dX3_placeOf_1 : decode cX3_placeOf 1 = .ok (.iload_n 1, 1) := by decide +kernel
theorem dX3_placeOf_2 : decode cX3_placeOf 2 = .ok (.iload_n 2, 1) := by decide +kernel
theorem dX3_placeOf_3 : decode cX3_placeOf 3 = .ok (.invokevirtual 123, 3) := by decide +kernel
theorem dX3_placeOf_6 : decode cX3_placeOf 6 = .ok (.invokestatic 129, 3) := by decide +kernel
theorem dX3_placeOf_9 : decode cX3_placeOf 9 = .ok (.ireturn, 1) := by decide +kernel
theorem dX3_meaningOf_0 : decode cX3_meaningOf 0 = .ok (.aload_n 0, 1) := by decide +kernel
theorem dX3_meaningOf_1 : decode cX3_meaningOf 1 = .ok (.iload_n 1, 1) := by decide +kernel
theorem dX3_meaningOf_2 : decode cX3_meaningOf 2 = .ok (.invokevirtual 40, 3) := by decide +kernel
theorem dX3_meaningOf_5 : decode cX3_meaningOf 5 = .ok (.astore_n 3, 1) := by decide +kernel
theorem dX3_meaningOf_6 : decode cX3_meaningOf 6 = .ok (.aload_n 3, 1) := by decide +kernel
theorem dX3_meaningOf_7 : decode cX3_meaningOf 7 = .ok (.iload_n 2, 1) := by decide +kernel
theorem dX3_meaningOf_8 : decode cX3_meaningOf 8 = .ok (.invokestatic 73, 3) := by decide +kernel
theorem dX3_meaningOf_11 : decode cX3_meaningOf 11 = .ok (.aload_n 3, 1) := by decide +kernel
theorem dX3_meaningOf_12 : decode cX3_meaningOf 12 = .ok (.getfield 106, 3) := by decide +kernel
theorem dX3_meaningOf_15 : decode cX3_meaningOf 15 = .ok (.iload_n 2, 1) := by decide +kernel
theorem dX3_meaningOf_16 : decode cX3_meaningOf 16 = .ok (.iaload, 1) := by decide +kernel
theorem dX3_meaningOf_17 : decode cX3_meaningOf 17 = .ok (.ireturn, 1) := by decide +kernel
theorem dX3_signFor_0 : decode cX3_signFor 0 = .ok (.aload_n 0, 1) := by decide +kernel
theorem dX3_signFor_1 : decode cX3_signFor 1 = .ok (.iload_n 1, 1) := by decide +kernel
theorem dX3_signFor_2 : decode cX3_signFor 2 = .ok (.invokevirtual 40, 3) := by decide +kernel
theorem dX3_signFor_5 : decode cX3_signFor 5 = .ok (.astore_n 3, 1) := by decide +kernel
theorem dX3_signFor_6 : decode cX3_signFor 6 = .ok (.iload_n 2, 1) := by decide +kernel
theorem dX3_signFor_7 : decode cX3_signFor 7 = .ok (.bipush 30, 2) := by decide +kernel
theorem dX3_signFor_9 : decode cX3_signFor 9 = .ok (.invokestatic 48, 3) := by decide +kernel
theorem dX3_signFor_12 : decode cX3_signFor 12 = .ok (.ifCond .ne 13, 3) := by decide +kernel
theorem dX3_signFor_15 : decode cX3_signFor 15 = .ok (.new 132, 3) := by decide +kernel
theorem dX3_signFor_18 : decode cX3_signFor 18 = .ok (.dup, 1) := by decide +kernel
theorem dX3_signFor_19 : decode cX3_signFor 19 = .ok (.ldc 54, 2) := by decide +kernel
theorem dX3_signFor_21 : decode cX3_signFor 21 = .ok (.invokespecial 134, 3) := by decide +kernel
theorem dX3_signFor_24 : decode cX3_signFor 24 = .ok (.athrow, 1) := by decide +kernel
theorem dX3_signFor_25 : decode cX3_signFor 25 = .ok (.aload_n 3, 1) := by decide +kernel
theorem dX3_signFor_26 : decode cX3_signFor 26 = .ok (.iload_n 2, 1) := by decide +kernel
theorem dX3_signFor_27 : decode cX3_signFor 27 = .ok (.invokevirtual 135, 3) := by decide +kernel
theorem dX3_signFor_30 : decode cX3_signFor 30 = .ok (.ireturn, 1) := by decide +kernel
theorem dX3_apart_0 : decode cX3_apart 0 = .ok (.aload_n 0, 1) := by decide +kernel
theorem dX3_apart_1 : decode cX3_apart 1 = .ok (.iload_n 1, 1) := by decide +kernel
theorem dX3_apart_2 : decode cX3_apart 2 = .ok (.invokevirtual 40, 3) := by decide +kernel
theorem dX3_apart_5 : decode cX3_apart 5 = .ok (.astore 4, 2) := by decide +kernel
theorem dX3_apart_7 : decode cX3_apart 7 = .ok (.aload 4, 2) := by decide +kernel
theorem dX3_apart_9 : decode cX3_apart 9 = .ok (.iload_n 2, 1) := by decide +kernel
theorem dX3_apart_10 : decode cX3_apart 10 = .ok (.invokestatic 73, 3) := by decide +kernel
theorem dX3_apart_13 : decode cX3_apart 13 = .ok (.aload 4, 2) := by decide +kernel
theorem dX3_apart_15 : decode cX3_apart 15 = .ok (.iload_n 3, 1) := by decide +kernel
theorem dX3_apart_16 : decode cX3_apart 16 = .ok (.invokestatic 73, 3) := by decide +kernel
theorem dX3_apart_19 : decode cX3_apart 19 = .ok (.aload_n 0, 1) := by decide +kernel
theorem dX3_apart_20 : decode cX3_apart 20 = .ok (.getfield 10, 3) := by decide +kernel
theorem dX3_apart_23 : decode cX3_apart 23 = .ok (.aload 4, 2) := by decide +kernel
theorem dX3_apart_25 : decode cX3_apart 25 = .ok (.getfield 83, 3) := by decide +kernel
theorem dX3_apart_28 : decode cX3_apart 28 = .ok (.iload_n 2, 1) := by decide +kernel
theorem dX3_apart_29 : decode cX3_apart 29 = .ok (.iaload, 1) := by decide +kernel
theorem dX3_apart_30 : decode cX3_apart 30 = .ok (.aload 4, 2) := by decide +kernel
theorem dX3_apart_32 : decode cX3_apart 32 = .ok (.getfield 83, 3) := by decide +kernel
theorem dX3_apart_35 : decode cX3_apart 35 = .ok (.iload_n 3, 1) := by decide +kernel
theorem dX3_apart_36 : decode cX3_apart 36 = .ok (.iaload, 1) := by decide +kernel
theorem dX3_apart_37 : decode cX3_apart 37 = .ok (.invokevirtual 138, 3) := by decide +kernel
theorem dX3_apart_40 : decode cX3_apart 40 = .ok (.ireturn, 1) := by decide +kernel
theorem dX3_alikePairs_0 : decode cX3_alikePairs 0 = .ok (.aload_n 0, 1) := by decide +kernel
theorem dX3_alikePairs_1 : decode cX3_alikePairs 1 = .ok (.iload_n 1, 1) := by decide +kernel
theorem dX3_alikePairs_2 : decode cX3_alikePairs 2 = .ok (.invokevirtual 40, 3) := by decide +kernel
theorem dX3_alikePairs_5 : decode cX3_alikePairs 5 = .ok (.invokevirtual 141, 3) := by decide +kernel
theorem dX3_alikePairs_8 : decode cX3_alikePairs 8 = .ok (.ireturn, 1) := by decide +kernel
theorem dX3_thumbPairs_0 : decode cX3_thumbPairs 0 = .ok (.aload_n 0, 1) := by decide +kernel
theorem dX3_thumbPairs_1 : decode cX3_thumbPairs 1 = .ok (.iload_n 1, 1) := by decide +kernel
theorem dX3_thumbPairs_2 : decode cX3_thumbPairs 2 = .ok (.invokevirtual 40, 3) := by decide +kernel
theorem dX3_thumbPairs_5 : decode cX3_thumbPairs 5 = .ok (.invokevirtual 145, 3) := by decide +kernel
theorem dX3_thumbPairs_8 : decode cX3_thumbPairs 8 = .ok (.ireturn, 1) := by decide +kernel
theorem dX3_closest_0 : decode cX3_closest 0 = .ok (.aload_n 0, 1) := by decide +kernel
theorem dX3_closest_1 : decode cX3_closest 1 = .ok (.iload_n 1, 1) := by decide +kernel
theorem dX3_closest_2 : decode cX3_closest 2 = .ok (.invokevirtual 40, 3) := by decide +kernel
theorem dX3_closest_5 : decode cX3_closest 5 = .ok (.invokevirtual 148, 3) := by decide +kernel
theorem dX3_closest_8 : decode cX3_closest 8 = .ok (.ireturn, 1) := by decide +kernel
theorem dX3_mostMistaken_0 : decode cX3_mostMistaken 0 = .ok (.aload_n 0, 1) := by decide +kernel
theorem dX3_mostMistaken_1 : decode cX3_mostMistaken 1 = .ok (.iload_n 1, 1) := by decide +kernel
theorem dX3_mostMistaken_2 : decode cX3_mostMistaken 2 = .ok (.invokevirtual 40, 3) := by decide +kernel
theorem dX3_mostMistaken_5 : decode cX3_mostMistaken 5 = .ok (.invokevirtual 151, 3) := by decide +kernel
theorem dX3_mostMistaken_8 : decode cX3_mostMistaken 8 = .ok (.ireturn, 1) := by decide +kernel
theorem dX3_read_0 : decode cX3_read 0 = .ok (.aload_n 0, 1) := by decide +kernel
theorem dX3_read_1 : decode cX3_read 1 = .ok (.iload_n 3, 1) := by decide +kernel
theorem dX3_read_2 : decode cX3_read 2 = .ok (.invokevirtual 40, 3) := by decide +kernel
theorem dX3_read_5 : decode cX3_read 5 = .ok (.astore 4, 2) := by decide +kernel
theorem dX3_read_7 : decode cX3_read 7 = .ok (.aload 4, 2) := by decide +kernel
theorem dX3_read_9 : decode cX3_read 9 = .ok (.aload_n 0, 1) := by decide +kernel
theorem dX3_read_10 : decode cX3_read 10 = .ok (.iload_n 1, 1) := by decide +kernel
theorem dX3_read_11 : decode cX3_read 11 = .ok (.iload_n 2, 1) := by decide +kernel
theorem dX3_read_12 : decode cX3_read 12 = .ok (.invokevirtual 123, 3) := by decide +kernel
theorem dX3_read_15 : decode cX3_read 15 = .ok (.invokevirtual 154, 3) := by decide +kernel
theorem dX3_read_18 : decode cX3_read 18 = .ok (.ireturn, 1) := by decide +kernel
theorem dX3_understood_0 : decode cX3_understood 0 = .ok (.aload_n 0, 1) := by decide +kernel
theorem dX3_understood_1 : decode cX3_understood 1 = .ok (.iload_n 1, 1) := by decide +kernel
theorem dX3_understood_2 : decode cX3_understood 2 = .ok (.invokevirtual 40, 3) := by decide +kernel
theorem dX3_understood_5 : decode cX3_understood 5 = .ok (.astore_n 3, 1) := by decide +kernel
theorem dX3_understood_6 : decode cX3_understood 6 = .ok (.aload_n 0, 1) := by decide +kernel
theorem dX3_understood_7 : decode cX3_understood 7 = .ok (.iload_n 2, 1) := by decide +kernel
theorem dX3_understood_8 : decode cX3_understood 8 = .ok (.invokevirtual 40, 3) := by decide +kernel
theorem dX3_understood_11 : decode cX3_understood 11 = .ok (.aload_n 3, 1) := by decide +kernel
theorem dX3_understood_12 : decode cX3_understood 12 = .ok (.invokevirtual 157, 3) := by decide +kernel
theorem dX3_understood_15 : decode cX3_understood 15 = .ok (.ireturn, 1) := by decide +kernel
theorem dX3_misread_0 : decode cX3_misread 0 = .ok (.aload_n 0, 1) := by decide +kernel
theorem dX3_misread_1 : decode cX3_misread 1 = .ok (.iload_n 1, 1) := by decide +kernel
theorem dX3_misread_2 : decode cX3_misread 2 = .ok (.invokevirtual 40, 3) := by decide +kernel
theorem dX3_misread_5 : decode cX3_misread 5 = .ok (.astore_n 3, 1) := by decide +kernel
theorem dX3_misread_6 : decode cX3_misread 6 = .ok (.aload_n 0, 1) := by decide +kernel
theorem dX3_misread_7 : decode cX3_misread 7 = .ok (.iload_n 2, 1) := by decide +kernel
theorem dX3_misread_8 : decode cX3_misread 8 = .ok (.invokevirtual 40, 3) := by decide +kernel
theorem dX3_misread_11 : decode cX3_misread 11 = .ok (.aload_n 3, 1) := by decide +kernel
theorem dX3_misread_12 : decode cX3_misread 12 = .ok (.invokevirtual 161, 3) := by decide +kernel
theorem dX3_misread_15 : decode cX3_misread 15 = .ok (.ireturn, 1) := by decide +kernel
theorem dX3_common_0 : decode cX3_common 0 = .ok (.aload_n 0, 1) := by decide +kernel
theorem dX3_common_1 : decode cX3_common 1 = .ok (.iload_n 1, 1) := by decide +kernel
theorem dX3_common_2 : decode cX3_common 2 = .ok (.invokevirtual 40, 3) := by decide +kernel
theorem dX3_common_5 : decode cX3_common 5 = .ok (.astore_n 3, 1) := by decide +kernel
theorem dX3_common_6 : decode cX3_common 6 = .ok (.aload_n 0, 1) := by decide +kernel
theorem dX3_common_7 : decode cX3_common 7 = .ok (.iload_n 2, 1) := by decide +kernel
theorem dX3_common_8 : decode cX3_common 8 = .ok (.invokevirtual 40, 3) := by decide +kernel
theorem dX3_common_11 : decode cX3_common 11 = .ok (.aload_n 3, 1) := by decide +kernel
theorem dX3_common_12 : decode cX3_common 12 = .ok (.invokevirtual 164, 3) := by decide +kernel
theorem dX3_common_15 : decode cX3_common 15 = .ok (.ireturn, 1) := by decide +kernel
theorem dX3_meanSigns_0 : decode cX3_meanSigns 0 = .ok (.aload_n 0, 1) := by decide +kernel
theorem dX3_meanSigns_1 : decode cX3_meanSigns 1 = .ok (.getfield 29, 3) := by decide +kernel
theorem dX3_meanSigns_4 : decode cX3_meanSigns 4 = .ok (.ifCond .ne 5, 3) := by decide +kernel
theorem dX3_meanSigns_7 : decode cX3_meanSigns 7 = .ok (.dconst 0, 1) := by decide +kernel
theorem dX3_meanSigns_8 : decode cX3_meanSigns 8 = .ok (.dreturn, 1) := by decide +kernel
theorem dX3_meanSigns_9 : decode cX3_meanSigns 9 = .ok (.iconst 0, 1) := by decide +kernel
theorem dX3_meanSigns_10 : decode cX3_meanSigns 10 = .ok (.istore_n 1, 1) := by decide +kernel
theorem dX3_meanSigns_11 : decode cX3_meanSigns 11 = .ok (.iconst 0, 1) := by decide +kernel
theorem dX3_meanSigns_12 : decode cX3_meanSigns 12 = .ok (.istore_n 2, 1) := by decide +kernel
theorem dX3_meanSigns_13 : decode cX3_meanSigns 13 = .ok (.iload_n 2, 1) := by decide +kernel
theorem dX3_meanSigns_14 : decode cX3_meanSigns 14 = .ok (.aload_n 0, 1) := by decide +kernel
theorem dX3_meanSigns_15 : decode cX3_meanSigns 15 = .ok (.getfield 29, 3) := by decide +kernel
theorem dX3_meanSigns_18 : decode cX3_meanSigns 18 = .ok (.if_icmp .ge 21, 3) := by decide +kernel
theorem dX3_meanSigns_21 : decode cX3_meanSigns 21 = .ok (.iload_n 1, 1) := by decide +kernel
theorem dX3_meanSigns_22 : decode cX3_meanSigns 22 = .ok (.aload_n 0, 1) := by decide +kernel
theorem dX3_meanSigns_23 : decode cX3_meanSigns 23 = .ok (.getfield 18, 3) := by decide +kernel
theorem dX3_meanSigns_26 : decode cX3_meanSigns 26 = .ok (.iload_n 2, 1) := by decide +kernel
theorem dX3_meanSigns_27 : decode cX3_meanSigns 27 = .ok (.aaload, 1) := by decide +kernel
theorem dX3_meanSigns_28 : decode cX3_meanSigns 28 = .ok (.getfield 120, 3) := by decide +kernel
theorem dX3_meanSigns_31 : decode cX3_meanSigns 31 = .ok (.iadd, 1) := by decide +kernel
theorem dX3_meanSigns_32 : decode cX3_meanSigns 32 = .ok (.istore_n 1, 1) := by decide +kernel
theorem dX3_meanSigns_33 : decode cX3_meanSigns 33 = .ok (.iinc 2 1, 3) := by decide +kernel
theorem dX3_meanSigns_36 : decode cX3_meanSigns 36 = .ok (.goto (-23), 3) := by decide +kernel
theorem dX3_meanSigns_39 : decode cX3_meanSigns 39 = .ok (.iload_n 1, 1) := by decide +kernel
theorem dX3_meanSigns_40 : decode cX3_meanSigns 40 = .ok (.i2d, 1) := by decide +kernel
theorem dX3_meanSigns_41 : decode cX3_meanSigns 41 = .ok (.aload_n 0, 1) := by decide +kernel
theorem dX3_meanSigns_42 : decode cX3_meanSigns 42 = .ok (.getfield 29, 3) := by decide +kernel
theorem dX3_meanSigns_45 : decode cX3_meanSigns 45 = .ok (.i2d, 1) := by decide +kernel
theorem dX3_meanSigns_46 : decode cX3_meanSigns 46 = .ok (.ddiv, 1) := by decide +kernel
theorem dX3_meanSigns_47 : decode cX3_meanSigns 47 = .ok (.dreturn, 1) := by decide +kernel
theorem dX3_isBelow_0 : decode cX3_isBelow 0 = .ok (.iload_n 0, 1) := by decide +kernel
theorem dX3_isBelow_1 : decode cX3_isBelow 1 = .ok (.ifCond .lt 12, 3) := by decide +kernel
theorem dX3_isBelow_4 : decode cX3_isBelow 4 = .ok (.iload_n 0, 1) := by decide +kernel
theorem dX3_isBelow_5 : decode cX3_isBelow 5 = .ok (.iload_n 1, 1) := by decide +kernel
theorem dX3_isBelow_6 : decode cX3_isBelow 6 = .ok (.if_icmp .ge 7, 3) := by decide +kernel
theorem dX3_isBelow_9 : decode cX3_isBelow 9 = .ok (.iconst 1, 1) := by decide +kernel
theorem dX3_isBelow_10 : decode cX3_isBelow 10 = .ok (.goto 4, 3) := by decide +kernel
theorem dX3_isBelow_13 : decode cX3_isBelow 13 = .ok (.iconst 0, 1) := by decide +kernel
theorem dX3_isBelow_14 : decode cX3_isBelow 14 = .ok (.ireturn, 1) := by decide +kernel
theorem dX3_bookOf_0 : decode cX3_bookOf 0 = .ok (.iload_n 1, 1) := by decide +kernel
theorem dX3_bookOf_1 : decode cX3_bookOf 1 = .ok (.aload_n 0, 1) := by decide +kernel
theorem dX3_bookOf_2 : decode cX3_bookOf 2 = .ok (.getfield 29, 3) := by decide +kernel
theorem dX3_bookOf_5 : decode cX3_bookOf 5 = .ok (.invokestatic 48, 3) := by decide +kernel
theorem dX3_bookOf_8 : decode cX3_bookOf 8 = .ok (.ifCond .ne 13, 3) := by decide +kernel
theorem dX3_bookOf_11 : decode cX3_bookOf 11 = .ok (.new 132, 3) := by decide +kernel
theorem dX3_bookOf_14 : decode cX3_bookOf 14 = .ok (.dup, 1) := by decide +kernel
theorem dX3_bookOf_15 : decode cX3_bookOf 15 = .ok (.ldc 199, 2) := by decide +kernel
theorem dX3_bookOf_17 : decode cX3_bookOf 17 = .ok (.invokespecial 134, 3) := by decide +kernel
theorem dX3_bookOf_20 : decode cX3_bookOf 20 = .ok (.athrow, 1) := by decide +kernel
theorem dX3_bookOf_21 : decode cX3_bookOf 21 = .ok (.aload_n 0, 1) := by decide +kernel
theorem dX3_bookOf_22 : decode cX3_bookOf 22 = .ok (.getfield 18, 3) := by decide +kernel
theorem dX3_bookOf_25 : decode cX3_bookOf 25 = .ok (.iload_n 1, 1) := by decide +kernel
theorem dX3_bookOf_26 : decode cX3_bookOf 26 = .ok (.aaload, 1) := by decide +kernel
theorem dX3_bookOf_27 : decode cX3_bookOf 27 = .ok (.areturn, 1) := by decide +kernel
theorem dX3_lookOf_0 : decode cX3_lookOf 0 = .ok (.aload_n 0, 1) := by decide +kernel
theorem dX3_lookOf_1 : decode cX3_lookOf 1 = .ok (.iload_n 1, 1) := by decide +kernel
theorem dX3_lookOf_2 : decode cX3_lookOf 2 = .ok (.invokevirtual 40, 3) := by decide +kernel
theorem dX3_lookOf_5 : decode cX3_lookOf 5 = .ok (.astore_n 3, 1) := by decide +kernel
theorem dX3_lookOf_6 : decode cX3_lookOf 6 = .ok (.aload_n 3, 1) := by decide +kernel
theorem dX3_lookOf_7 : decode cX3_lookOf 7 = .ok (.iload_n 2, 1) := by decide +kernel
theorem dX3_lookOf_8 : decode cX3_lookOf 8 = .ok (.invokestatic 73, 3) := by decide +kernel
theorem dX3_lookOf_11 : decode cX3_lookOf 11 = .ok (.aload_n 3, 1) := by decide +kernel
theorem dX3_lookOf_12 : decode cX3_lookOf 12 = .ok (.getfield 83, 3) := by decide +kernel
theorem dX3_lookOf_15 : decode cX3_lookOf 15 = .ok (.iload_n 2, 1) := by decide +kernel
theorem dX3_lookOf_16 : decode cX3_lookOf 16 = .ok (.iaload, 1) := by decide +kernel
theorem dX3_lookOf_17 : decode cX3_lookOf 17 = .ok (.ireturn, 1) := by decide +kernel
theorem dX3_checkSign_0 : decode cX3_checkSign 0 = .ok (.iload_n 1, 1) := by decide +kernel
theorem dX3_checkSign_1 : decode cX3_checkSign 1 = .ok (.aload_n 0, 1) := by decide +kernel
theorem dX3_checkSign_2 : decode cX3_checkSign 2 = .ok (.getfield 120, 3) := by decide +kernel
theorem dX3_checkSign_5 : decode cX3_checkSign 5 = .ok (.invokestatic 48, 3) := by decide +kernel
theorem dX3_checkSign_8 : decode cX3_checkSign 8 = .ok (.ifCond .ne 13, 3) := by decide +kernel
theorem dX3_checkSign_11 : decode cX3_checkSign 11 = .ok (.new 132, 3) := by decide +kernel
theorem dX3_checkSign_14 : decode cX3_checkSign 14 = .ok (.dup, 1) := by decide +kernel
theorem dX3_checkSign_15 : decode cX3_checkSign 15 = .ok (.ldc 201, 2) := by decide +kernel
theorem dX3_checkSign_17 : decode cX3_checkSign 17 = .ok (.invokespecial 134, 3) := by decide +kernel
theorem dX3_checkSign_20 : decode cX3_checkSign 20 = .ok (.athrow, 1) := by decide +kernel
theorem dX3_checkSign_21 : decode cX3_checkSign 21 = .ok (.return_, 1) := by decide +kernel
theorem dX3_checkPlace_0 : decode cX3_checkPlace 0 = .ok (.iload_n 0, 1) := by decide +kernel
theorem dX3_checkPlace_1 : decode cX3_checkPlace 1 = .ok (.bipush 9, 2) := by decide +kernel
theorem dX3_checkPlace_3 : decode cX3_checkPlace 3 = .ok (.invokestatic 48, 3) := by decide +kernel
theorem dX3_checkPlace_6 : decode cX3_checkPlace 6 = .ok (.ifCond .ne 13, 3) := by decide +kernel
theorem dX3_checkPlace_9 : decode cX3_checkPlace 9 = .ok (.new 132, 3) := by decide +kernel
theorem dX3_checkPlace_12 : decode cX3_checkPlace 12 = .ok (.dup, 1) := by decide +kernel
theorem dX3_checkPlace_13 : decode cX3_checkPlace 13 = .ok (.ldc 203, 2) := by decide +kernel
theorem dX3_checkPlace_15 : decode cX3_checkPlace 15 = .ok (.invokespecial 134, 3) := by decide +kernel
theorem dX3_checkPlace_18 : decode cX3_checkPlace 18 = .ok (.athrow, 1) := by decide +kernel
theorem dX3_checkPlace_19 : decode cX3_checkPlace 19 = .ok (.return_, 1) := by decide +kernel
theorem dX3_checkLook_0 : decode cX3_checkLook 0 = .ok (.iload_n 0, 1) := by decide +kernel
theorem dX3_checkLook_1 : decode cX3_checkLook 1 = .ok (.bipush 16, 2) := by decide +kernel
theorem dX3_checkLook_3 : decode cX3_checkLook 3 = .ok (.invokestatic 48, 3) := by decide +kernel
theorem dX3_checkLook_6 : decode cX3_checkLook 6 = .ok (.ifCond .ne 13, 3) := by decide +kernel
theorem dX3_checkLook_9 : decode cX3_checkLook 9 = .ok (.new 52, 3) := by decide +kernel
theorem dX3_checkLook_12 : decode cX3_checkLook 12 = .ok (.dup, 1) := by decide +kernel
theorem dX3_checkLook_13 : decode cX3_checkLook 13 = .ok (.ldc 205, 2) := by decide +kernel
theorem dX3_checkLook_15 : decode cX3_checkLook 15 = .ok (.invokespecial 56, 3) := by decide +kernel
theorem dX3_checkLook_18 : decode cX3_checkLook 18 = .ok (.athrow, 1) := by decide +kernel
theorem dX3_checkLook_19 : decode cX3_checkLook 19 = .ok (.iload_n 1, 1) := by decide +kernel
theorem dX3_checkLook_20 : decode cX3_checkLook 20 = .ok (.iconst 4, 1) := by decide +kernel
theorem dX3_checkLook_21 : decode cX3_checkLook 21 = .ok (.invokestatic 48, 3) := by decide +kernel
theorem dX3_checkLook_24 : decode cX3_checkLook 24 = .ok (.ifCond .ne 13, 3) := by decide +kernel
theorem dX3_checkLook_27 : decode cX3_checkLook 27 = .ok (.new 52, 3) := by decide +kernel
theorem dX3_checkLook_30 : decode cX3_checkLook 30 = .ok (.dup, 1) := by decide +kernel
theorem dX3_checkLook_31 : decode cX3_checkLook 31 = .ok (.ldc 81, 2) := by decide +kernel
theorem dX3_checkLook_33 : decode cX3_checkLook 33 = .ok (.invokespecial 56, 3) := by decide +kernel
theorem dX3_checkLook_36 : decode cX3_checkLook 36 = .ok (.athrow, 1) := by decide +kernel
theorem dX3_checkLook_37 : decode cX3_checkLook 37 = .ok (.iload_n 2, 1) := by decide +kernel
theorem dX3_checkLook_38 : decode cX3_checkLook 38 = .ok (.bipush 9, 2) := by decide +kernel
theorem dX3_checkLook_40 : decode cX3_checkLook 40 = .ok (.invokestatic 48, 3) := by decide +kernel
theorem dX3_checkLook_43 : decode cX3_checkLook 43 = .ok (.ifCond .ne 13, 3) := by decide +kernel
theorem dX3_checkLook_46 : decode cX3_checkLook 46 = .ok (.new 52, 3) := by decide +kernel
theorem dX3_checkLook_49 : decode cX3_checkLook 49 = .ok (.dup, 1) := by decide +kernel
theorem dX3_checkLook_50 : decode cX3_checkLook 50 = .ok (.ldc 203, 2) := by decide +kernel
theorem dX3_checkLook_52 : decode cX3_checkLook 52 = .ok (.invokespecial 56, 3) := by decide +kernel
theorem dX3_checkLook_55 : decode cX3_checkLook 55 = .ok (.athrow, 1) := by decide +kernel
theorem dX3_checkLook_56 : decode cX3_checkLook 56 = .ok (.iload_n 3, 1) := by decide +kernel
theorem dX3_checkLook_57 : decode cX3_checkLook 57 = .ok (.iconst 4, 1) := by decide +kernel
theorem dX3_checkLook_58 : decode cX3_checkLook 58 = .ok (.invokestatic 48, 3) := by decide +kernel
theorem dX3_checkLook_61 : decode cX3_checkLook 61 = .ok (.ifCond .ne 13, 3) := by decide +kernel
theorem dX3_checkLook_64 : decode cX3_checkLook 64 = .ok (.new 52, 3) := by decide +kernel
theorem dX3_checkLook_67 : decode cX3_checkLook 67 = .ok (.dup, 1) := by decide +kernel
theorem dX3_checkLook_68 : decode cX3_checkLook 68 = .ok (.ldc 207, 2) := by decide +kernel
theorem dX3_checkLook_70 : decode cX3_checkLook 70 = .ok (.invokespecial 56, 3) := by decide +kernel
theorem dX3_checkLook_73 : decode cX3_checkLook 73 = .ok (.athrow, 1) := by decide +kernel
theorem dX3_checkLook_74 : decode cX3_checkLook 74 = .ok (.return_, 1) := by decide +kernel
theorem dJ6_bitCount_0f7a4_0 : decode cJ6_bitCount_0f7a4 0 = .ok (.iload_n 0, 1) := by decide +kernel
theorem dJ6_bitCount_0f7a4_1 : decode cJ6_bitCount_0f7a4 1 = .ok (.iload_n 0, 1) := by decide +kernel
theorem dJ6_bitCount_0f7a4_2 : decode cJ6_bitCount_0f7a4 2 = .ok (.iconst 1, 1) := by decide +kernel
theorem dJ6_bitCount_0f7a4_3 : decode cJ6_bitCount_0f7a4 3 = .ok (.iushr, 1) := by decide +kernel
theorem dJ6_bitCount_0f7a4_4 : decode cJ6_bitCount_0f7a4 4 = .ok (.ldc_w 265, 3) := by decide +kernel
theorem dJ6_bitCount_0f7a4_7 : decode cJ6_bitCount_0f7a4 7 = .ok (.iand, 1) := by decide +kernel
theorem dJ6_bitCount_0f7a4_8 : decode cJ6_bitCount_0f7a4 8 = .ok (.isub, 1) := by decide +kernel
theorem dJ6_bitCount_0f7a4_9 : decode cJ6_bitCount_0f7a4 9 = .ok (.istore_n 0, 1) := by decide +kernel
theorem dJ6_bitCount_0f7a4_10 : decode cJ6_bitCount_0f7a4 10 = .ok (.iload_n 0, 1) := by decide +kernel
theorem dJ6_bitCount_0f7a4_11 : decode cJ6_bitCount_0f7a4 11 = .ok (.ldc_w 266, 3) := by decide +kernel
theorem dJ6_bitCount_0f7a4_14 : decode cJ6_bitCount_0f7a4 14 = .ok (.iand, 1) := by decide +kernel
theorem dJ6_bitCount_0f7a4_15 : decode cJ6_bitCount_0f7a4 15 = .ok (.iload_n 0, 1) := by decide +kernel
theorem dJ6_bitCount_0f7a4_16 : decode cJ6_bitCount_0f7a4 16 = .ok (.iconst 2, 1) := by decide +kernel
theorem dJ6_bitCount_0f7a4_17 : decode cJ6_bitCount_0f7a4 17 = .ok (.iushr, 1) := by decide +kernel
theorem dJ6_bitCount_0f7a4_18 : decode cJ6_bitCount_0f7a4 18 = .ok (.ldc_w 266, 3) := by decide +kernel
theorem dJ6_bitCount_0f7a4_21 : decode cJ6_bitCount_0f7a4 21 = .ok (.iand, 1) := by decide +kernel
theorem dJ6_bitCount_0f7a4_22 : decode cJ6_bitCount_0f7a4 22 = .ok (.iadd, 1) := by decide +kernel
theorem dJ6_bitCount_0f7a4_23 : decode cJ6_bitCount_0f7a4 23 = .ok (.istore_n 0, 1) := by decide +kernel
theorem dJ6_bitCount_0f7a4_24 : decode cJ6_bitCount_0f7a4 24 = .ok (.iload_n 0, 1) := by decide +kernel
theorem dJ6_bitCount_0f7a4_25 : decode cJ6_bitCount_0f7a4 25 = .ok (.iload_n 0, 1) := by decide +kernel
theorem dJ6_bitCount_0f7a4_26 : decode cJ6_bitCount_0f7a4 26 = .ok (.iconst 4, 1) := by decide +kernel
theorem dJ6_bitCount_0f7a4_27 : decode cJ6_bitCount_0f7a4 27 = .ok (.iushr, 1) := by decide +kernel
theorem dJ6_bitCount_0f7a4_28 : decode cJ6_bitCount_0f7a4 28 = .ok (.iadd, 1) := by decide +kernel
theorem dJ6_bitCount_0f7a4_29 : decode cJ6_bitCount_0f7a4 29 = .ok (.ldc_w 267, 3) := by decide +kernel
theorem dJ6_bitCount_0f7a4_32 : decode cJ6_bitCount_0f7a4 32 = .ok (.iand, 1) := by decide +kernel
theorem dJ6_bitCount_0f7a4_33 : decode cJ6_bitCount_0f7a4 33 = .ok (.istore_n 0, 1) := by decide +kernel
theorem dJ6_bitCount_0f7a4_34 : decode cJ6_bitCount_0f7a4 34 = .ok (.iload_n 0, 1) := by decide +kernel
theorem dJ6_bitCount_0f7a4_35 : decode cJ6_bitCount_0f7a4 35 = .ok (.iload_n 0, 1) := by decide +kernel
theorem dJ6_bitCount_0f7a4_36 : decode cJ6_bitCount_0f7a4 36 = .ok (.bipush 8, 2) := by decide +kernel
theorem dJ6_bitCount_0f7a4_38 : decode cJ6_bitCount_0f7a4 38 = .ok (.iushr, 1) := by decide +kernel
theorem dJ6_bitCount_0f7a4_39 : decode cJ6_bitCount_0f7a4 39 = .ok (.iadd, 1) := by decide +kernel
theorem dJ6_bitCount_0f7a4_40 : decode cJ6_bitCount_0f7a4 40 = .ok (.istore_n 0, 1) := by decide +kernel
theorem dJ6_bitCount_0f7a4_41 : decode cJ6_bitCount_0f7a4 41 = .ok (.iload_n 0, 1) := by decide +kernel
theorem dJ6_bitCount_0f7a4_42 : decode cJ6_bitCount_0f7a4 42 = .ok (.iload_n 0, 1) := by decide +kernel
theorem dJ6_bitCount_0f7a4_43 : decode cJ6_bitCount_0f7a4 43 = .ok (.bipush 16, 2) := by decide +kernel
theorem dJ6_bitCount_0f7a4_45 : decode cJ6_bitCount_0f7a4 45 = .ok (.iushr, 1) := by decide +kernel
theorem dJ6_bitCount_0f7a4_46 : decode cJ6_bitCount_0f7a4 46 = .ok (.iadd, 1) := by decide +kernel
theorem dJ6_bitCount_0f7a4_47 : decode cJ6_bitCount_0f7a4 47 = .ok (.istore_n 0, 1) := by decide +kernel
theorem dJ6_bitCount_0f7a4_48 : decode cJ6_bitCount_0f7a4 48 = .ok (.iload_n 0, 1) := by decide +kernel
theorem dJ6_bitCount_0f7a4_49 : decode cJ6_bitCount_0f7a4 49 = .ok (.bipush 63, 2) := by decide +kernel
theorem dJ6_bitCount_0f7a4_51 : decode cJ6_bitCount_0f7a4 51 = .ok (.iand, 1) := by decide +kernel
theorem dJ6_bitCount_0f7a4_52 : decode cJ6_bitCount_0f7a4 52 = .ok (.ireturn, 1) := by decide +kernel
theorem dJ9_abs_0f7a4_0 : decode cJ9_abs_0f7a4 0 = .ok (.iload_n 0, 1) := by decide +kernel
theorem dJ9_abs_0f7a4_1 : decode cJ9_abs_0f7a4 1 = .ok (.ifCond .ge 8, 3) := by decide +kernel
theorem dJ9_abs_0f7a4_4 : decode cJ9_abs_0f7a4 4 = .ok (.iload_n 0, 1) := by decide +kernel
theorem dJ9_abs_0f7a4_5 : decode cJ9_abs_0f7a4 5 = .ok (.ineg, 1) := by decide +kernel
theorem dJ9_abs_0f7a4_6 : decode cJ9_abs_0f7a4 6 = .ok (.goto 4, 3) := by decide +kernel
theorem dJ9_abs_0f7a4_9 : decode cJ9_abs_0f7a4 9 = .ok (.iload_n 0, 1) := by decide +kernel
theorem dJ9_abs_0f7a4_10 : decode cJ9_abs_0f7a4 10 = .ok (.ireturn, 1) := by decide +kernel
theorem dJ9_min_7cf53_0 : decode cJ9_min_7cf53 0 = .ok (.iload_n 0, 1) := by decide +kernel
theorem dJ9_min_7cf53_1 : decode cJ9_min_7cf53 1 = .ok (.iload_n 1, 1) := by decide +kernel
theorem dJ9_min_7cf53_2 : decode cJ9_min_7cf53 2 = .ok (.if_icmp .gt 7, 3) := by decide +kernel
theorem dJ9_min_7cf53_5 : decode cJ9_min_7cf53 5 = .ok (.iload_n 0, 1) := by decide +kernel
theorem dJ9_min_7cf53_6 : decode cJ9_min_7cf53 6 = .ok (.goto 4, 3) := by decide +kernel
theorem dJ9_min_7cf53_9 : decode cJ9_min_7cf53 9 = .ok (.iload_n 1, 1) := by decide +kernel
theorem dJ9_min_7cf53_10 : decode cJ9_min_7cf53 10 = .ok (.ireturn, 1) := by decide +kernel
