theorem dX0_init_0 : decode cX0_init 0 = .ok (.aload_n 0, 1) := by decide +kernel
theorem dX0_init_1 : decode cX0_init 1 = .ok (.iload_n 1, 1) := by decide +kernel
theorem dX0_init_2 : decode cX0_init 2 = .ok (.invokespecial 1, 3) := by decide +kernel
theorem dX0_init_5 : decode cX0_init 5 = .ok (.aload_n 0, 1) := by decide +kernel
theorem dX0_init_6 : decode cX0_init 6 = .ok (.iload_n 2, 1) := by decide +kernel
theorem dX0_init_7 : decode cX0_init 7 = .ok (.anewarray 7, 3) := by decide +kernel
theorem dX0_init_10 : decode cX0_init 10 = .ok (.putfield 9, 3) := by decide +kernel
theorem dX0_init_13 : decode cX0_init 13 = .ok (.return_, 1) := by decide +kernel
theorem dX0_count_0 : decode cX0_count 0 = .ok (.aload_n 0, 1) := by decide +kernel
theorem dX0_count_1 : decode cX0_count 1 = .ok (.getfield 9, 3) := by decide +kernel
theorem dX0_count_4 : decode cX0_count 4 = .ok (.arraylength, 1) := by decide +kernel
theorem dX0_count_5 : decode cX0_count 5 = .ok (.ireturn, 1) := by decide +kernel
theorem dX1_init_0 : decode cX1_init 0 = .ok (.aload_n 0, 1) := by decide +kernel
theorem dX1_init_1 : decode cX1_init 1 = .ok (.invokespecial 1, 3) := by decide +kernel
theorem dX1_init_4 : decode cX1_init 4 = .ok (.return_, 1) := by decide +kernel
theorem dX2_init_0 : decode cX2_init 0 = .ok (.aload_n 0, 1) := by decide +kernel
theorem dX2_init_1 : decode cX2_init 1 = .ok (.iload_n 1, 1) := by decide +kernel
theorem dX2_init_2 : decode cX2_init 2 = .ok (.invokespecial 1, 3) := by decide +kernel
theorem dX2_init_5 : decode cX2_init 5 = .ok (.aload_n 0, 1) := by decide +kernel
theorem dX2_init_6 : decode cX2_init 6 = .ok (.iload_n 2, 1) := by decide +kernel
theorem dX2_init_7 : decode cX2_init 7 = .ok (.newarray .long, 2) := by decide +kernel
theorem dX2_init_9 : decode cX2_init 9 = .ok (.putfield 7, 3) := by decide +kernel
theorem dX2_init_12 : decode cX2_init 12 = .ok (.return_, 1) := by decide +kernel
theorem dX2_count_0 : decode cX2_count 0 = .ok (.aload_n 0, 1) := by decide +kernel
theorem dX2_count_1 : decode cX2_count 1 = .ok (.getfield 7, 3) := by decide +kernel
theorem dX2_count_4 : decode cX2_count 4 = .ok (.arraylength, 1) := by decide +kernel
theorem dX2_count_5 : decode cX2_count 5 = .ok (.ireturn, 1) := by decide +kernel
theorem dX3_init_0 : decode cX3_init 0 = .ok (.aload_n 0, 1) := by decide +kernel
theorem dX3_init_1 : decode cX3_init 1 = .ok (.invokespecial 1, 3) := by decide +kernel
theorem dX3_init_4 : decode cX3_init 4 = .ok (.aload_n 0, 1) := by decide +kernel
theorem dX3_init_5 : decode cX3_init 5 = .ok (.iload_n 1, 1) := by decide +kernel
theorem dX3_init_6 : decode cX3_init 6 = .ok (.putfield 7, 3) := by decide +kernel
theorem dX3_init_9 : decode cX3_init 9 = .ok (.return_, 1) := by decide +kernel
theorem dX4_init_0 : decode cX4_init 0 = .ok (.aload_n 0, 1) := by decide +kernel
theorem dX4_init_1 : decode cX4_init 1 = .ok (.invokespecial 1, 3) := by decide +kernel
theorem dX4_init_4 : decode cX4_init 4 = .ok (.aload_n 0, 1) := by decide +kernel
theorem dX4_init_5 : decode cX4_init 5 = .ok (.iload_n 1, 1) := by decide +kernel
theorem dX4_init_6 : decode cX4_init 6 = .ok (.putfield 7, 3) := by decide +kernel
theorem dX4_init_9 : decode cX4_init 9 = .ok (.aload_n 0, 1) := by decide +kernel
theorem dX4_init_10 : decode cX4_init 10 = .ok (.iload_n 2, 1) := by decide +kernel
theorem dX4_init_11 : decode cX4_init 11 = .ok (.putfield 13, 3) := by decide +kernel
theorem dX4_init_14 : decode cX4_init 14 = .ok (.return_, 1) := by decide +kernel
theorem dX5_init_0 : decode cX5_init 0 = .ok (.aload_n 0, 1) := by decide +kernel
theorem dX5_init_1 : decode cX5_init 1 = .ok (.invokespecial 1, 3) := by decide +kernel
theorem dX5_init_4 : decode cX5_init 4 = .ok (.aload_n 0, 1) := by decide +kernel
theorem dX5_init_5 : decode cX5_init 5 = .ok (.bipush 16, 2) := by decide +kernel
theorem dX5_init_7 : decode cX5_init 7 = .ok (.anewarray 9, 3) := by decide +kernel
theorem dX5_init_10 : decode cX5_init 10 = .ok (.putfield 11, 3) := by decide +kernel
theorem dX5_init_13 : decode cX5_init 13 = .ok (.aload_n 0, 1) := by decide +kernel
theorem dX5_init_14 : decode cX5_init 14 = .ok (.bipush 8, 2) := by decide +kernel
theorem dX5_init_16 : decode cX5_init 16 = .ok (.newarray .int, 2) := by decide +kernel
theorem dX5_init_18 : decode cX5_init 18 = .ok (.putfield 15, 3) := by decide +kernel
theorem dX5_init_21 : decode cX5_init 21 = .ok (.aload_n 0, 1) := by decide +kernel
theorem dX5_init_22 : decode cX5_init 22 = .ok (.invokevirtual 19, 3) := by decide +kernel
theorem dX5_init_25 : decode cX5_init 25 = .ok (.return_, 1) := by decide +kernel
theorem dX5_make_0 : decode cX5_make 0 = .ok (.iload_n 1, 1) := by decide +kernel
theorem dX5_make_1 : decode cX5_make 1 = .ok (.invokestatic 22, 3) := by decide +kernel
theorem dX5_make_4 : decode cX5_make 4 = .ok (.ifCond .eq 19, 3) := by decide +kernel
theorem dX5_make_7 : decode cX5_make 7 = .ok (.iload_n 2, 1) := by decide +kernel
theorem dX5_make_8 : decode cX5_make 8 = .ok (.iconst 0, 1) := by decide +kernel
theorem dX5_make_9 : decode cX5_make 9 = .ok (.bipush 13, 2) := by decide +kernel
theorem dX5_make_11 : decode cX5_make 11 = .ok (.invokestatic 26, 3) := by decide +kernel
theorem dX5_make_14 : decode cX5_make 14 = .ok (.ifCond .eq 9, 3) := by decide +kernel
theorem dX5_make_17 : decode cX5_make 17 = .ok (.iload_n 3, 1) := by decide +kernel
theorem dX5_make_18 : decode cX5_make 18 = .ok (.bipush 30, 2) := by decide +kernel
theorem dX5_make_20 : decode cX5_make 20 = .ok (.if_icmp .le 6, 3) := by decide +kernel
theorem dX5_make_23 : decode cX5_make 23 = .ok (.bipush (-2), 2) := by decide +kernel
theorem dX5_make_25 : decode cX5_make 25 = .ok (.ireturn, 1) := by decide +kernel
theorem dX5_make_26 : decode cX5_make 26 = .ok (.aload_n 0, 1) := by decide +kernel
theorem dX5_make_27 : decode cX5_make 27 = .ok (.invokevirtual 30, 3) := by decide +kernel
theorem dX5_make_30 : decode cX5_make 30 = .ok (.ifCond .eq 6, 3) := by decide +kernel
theorem dX5_make_33 : decode cX5_make 33 = .ok (.bipush (-3), 2) := by decide +kernel
theorem dX5_make_35 : decode cX5_make 35 = .ok (.ireturn, 1) := by decide +kernel
theorem dX5_make_36 : decode cX5_make 36 = .ok (.iload_n 3, 1) := by decide +kernel
theorem dX5_make_37 : decode cX5_make 37 = .ok (.ifCond .ge 8, 3) := by decide +kernel
theorem dX5_make_40 : decode cX5_make 40 = .ok (.iconst 4, 1) := by decide +kernel
theorem dX5_make_41 : decode cX5_make 41 = .ok (.invokestatic 34, 3) := by decide +kernel
theorem dX5_make_44 : decode cX5_make 44 = .ok (.ireturn, 1) := by decide +kernel
theorem dX5_make_45 : decode cX5_make 45 = .ok (.aload_n 0, 1) := by decide +kernel
theorem dX5_make_46 : decode cX5_make 46 = .ok (.getfield 11, 3) := by decide +kernel
theorem dX5_make_49 : decode cX5_make 49 = .ok (.iload_n 1, 1) := by decide +kernel
theorem dX5_make_50 : decode cX5_make 50 = .ok (.aload_n 0, 1) := by decide +kernel
theorem dX5_make_51 : decode cX5_make 51 = .ok (.iload_n 2, 1) := by decide +kernel
theorem dX5_make_52 : decode cX5_make 52 = .ok (.iload_n 3, 1) := by decide +kernel
theorem dX5_make_53 : decode cX5_make 53 = .ok (.invokevirtual 38, 3) := by decide +kernel
theorem dX5_make_56 : decode cX5_make 56 = .ok (.aastore, 1) := by decide +kernel
theorem dX5_make_57 : decode cX5_make 57 = .ok (.iconst 1, 1) := by decide +kernel
theorem dX5_make_58 : decode cX5_make 58 = .ok (.ireturn, 1) := by decide +kernel
theorem dX5_deep_0 : decode cX5_deep 0 = .ok (.iload_n 1, 1) := by decide +kernel
theorem dX5_deep_1 : decode cX5_deep 1 = .ok (.invokestatic 22, 3) := by decide +kernel
theorem dX5_deep_4 : decode cX5_deep 4 = .ok (.ifCond .eq 14, 3) := by decide +kernel
theorem dX5_deep_7 : decode cX5_deep 7 = .ok (.iload_n 2, 1) := by decide +kernel
theorem dX5_deep_8 : decode cX5_deep 8 = .ok (.bipush 10, 2) := by decide +kernel
theorem dX5_deep_10 : decode cX5_deep 10 = .ok (.bipush 13, 2) := by decide +kernel
theorem dX5_deep_12 : decode cX5_deep 12 = .ok (.invokestatic 26, 3) := by decide +kernel
theorem dX5_deep_15 : decode cX5_deep 15 = .ok (.ifCond .ne 6, 3) := by decide +kernel
theorem dX5_deep_18 : decode cX5_deep 18 = .ok (.bipush (-2), 2) := by decide +kernel
theorem dX5_deep_20 : decode cX5_deep 20 = .ok (.ireturn, 1) := by decide +kernel
theorem dX5_deep_21 : decode cX5_deep 21 = .ok (.iload_n 2, 1) := by decide +kernel
theorem dX5_deep_22 : decode cX5_deep 22 = .ok (.bipush 13, 2) := by decide +kernel
theorem dX5_deep_24 : decode cX5_deep 24 = .ok (.if_icmp .ne 8, 3) := by decide +kernel
theorem dX5_deep_27 : decode cX5_deep 27 = .ok (.iload 5, 2) := by decide +kernel
theorem dX5_deep_29 : decode cX5_deep 29 = .ok (.goto 4, 3) := by decide +kernel
theorem dX5_deep_32 : decode cX5_deep 32 = .ok (.iconst 1, 1) := by decide +kernel
theorem dX5_deep_33 : decode cX5_deep 33 = .ok (.istore 6, 2) := by decide +kernel
theorem dX5_deep_35 : decode cX5_deep 35 = .ok (.iload_n 3, 1) := by decide +kernel
theorem dX5_deep_36 : decode cX5_deep 36 = .ok (.iload 4, 2) := by decide +kernel
theorem dX5_deep_38 : decode cX5_deep 38 = .ok (.iload 6, 2) := by decide +kernel
theorem dX5_deep_40 : decode cX5_deep 40 = .ok (.invokestatic 42, 3) := by decide +kernel
theorem dX5_deep_43 : decode cX5_deep 43 = .ok (.ifCond .eq 6, 3) := by decide +kernel
theorem dX5_deep_46 : decode cX5_deep 46 = .ok (.bipush (-2), 2) := by decide +kernel
theorem dX5_deep_48 : decode cX5_deep 48 = .ok (.ireturn, 1) := by decide +kernel
theorem dX5_deep_49 : decode cX5_deep 49 = .ok (.aload_n 0, 1) := by decide +kernel
theorem dX5_deep_50 : decode cX5_deep 50 = .ok (.invokevirtual 30, 3) := by decide +kernel
theorem dX5_deep_53 : decode cX5_deep 53 = .ok (.ifCond .eq 6, 3) := by decide +kernel
theorem dX5_deep_56 : decode cX5_deep 56 = .ok (.bipush (-3), 2) := by decide +kernel
theorem dX5_deep_58 : decode cX5_deep 58 = .ok (.ireturn, 1) := by decide +kernel
theorem dX5_deep_59 : decode cX5_deep 59 = .ok (.iload_n 3, 1) := by decide +kernel
theorem dX5_deep_60 : decode cX5_deep 60 = .ok (.ifCond .lt 13, 3) := by decide +kernel
theorem dX5_deep_63 : decode cX5_deep 63 = .ok (.iload 4, 2) := by decide +kernel
theorem dX5_deep_65 : decode cX5_deep 65 = .ok (.ifCond .lt 8, 3) := by decide +kernel
theorem dX5_deep_68 : decode cX5_deep 68 = .ok (.iload 6, 2) := by decide +kernel
theorem dX5_deep_70 : decode cX5_deep 70 = .ok (.ifCond .ge 8, 3) := by decide +kernel
theorem dX5_deep_73 : decode cX5_deep 73 = .ok (.iconst 4, 1) := by decide +kernel
theorem dX5_deep_74 : decode cX5_deep 74 = .ok (.invokestatic 34, 3) := by decide +kernel
theorem dX5_deep_77 : decode cX5_deep 77 = .ok (.ireturn, 1) := by decide +kernel
theorem dX5_deep_78 : decode cX5_deep 78 = .ok (.aload_n 0, 1) := by decide +kernel
theorem dX5_deep_79 : decode cX5_deep 79 = .ok (.getfield 11, 3) := by decide +kernel
theorem dX5_deep_82 : decode cX5_deep 82 = .ok (.iload_n 1, 1) := by decide +kernel
theorem dX5_deep_83 : decode cX5_deep 83 = .ok (.aload_n 0, 1) := by decide +kernel
theorem dX5_deep_84 : decode cX5_deep 84 = .ok (.iload_n 2, 1) := by decide +kernel
theorem dX5_deep_85 : decode cX5_deep 85 = .ok (.iload_n 3, 1) := by decide +kernel
theorem dX5_deep_86 : decode cX5_deep 86 = .ok (.iload 4, 2) := by decide +kernel
theorem dX5_deep_88 : decode cX5_deep 88 = .ok (.iload 6, 2) := by decide +kernel
theorem dX5_deep_90 : decode cX5_deep 90 = .ok (.invokevirtual 45, 3) := by decide +kernel
theorem dX5_deep_93 : decode cX5_deep 93 = .ok (.aastore, 1) := by decide +kernel
theorem dX5_deep_94 : decode cX5_deep 94 = .ok (.iconst 1, 1) := by decide +kernel
theorem dX5_deep_95 : decode cX5_deep 95 = .ok (.ireturn, 1) := by decide +kernel
theorem dX5_share_0 : decode cX5_share 0 = .ok (.iload_n 1, 1) := by decide +kernel
theorem dX5_share_1 : decode cX5_share 1 = .ok (.invokestatic 22, 3) := by decide +kernel
theorem dX5_share_4 : decode cX5_share 4 = .ok (.ifCond .eq 10, 3) := by decide +kernel
theorem dX5_share_7 : decode cX5_share 7 = .ok (.iload_n 2, 1) := by decide +kernel
theorem dX5_share_8 : decode cX5_share 8 = .ok (.invokestatic 22, 3) := by decide +kernel
theorem dX5_share_11 : decode cX5_share 11 = .ok (.ifCond .ne 6, 3) := by decide +kernel
theorem dX5_share_14 : decode cX5_share 14 = .ok (.bipush (-2), 2) := by decide +kernel
theorem dX5_share_16 : decode cX5_share 16 = .ok (.ireturn, 1) := by decide +kernel
theorem dX5_share_17 : decode cX5_share 17 = .ok (.aload_n 0, 1) := by decide +kernel
theorem dX5_share_18 : decode cX5_share 18 = .ok (.getfield 11, 3) := by decide +kernel
theorem dX5_share_21 : decode cX5_share 21 = .ok (.iload_n 1, 1) := by decide +kernel
theorem dX5_share_22 : decode cX5_share 22 = .ok (.aload_n 0, 1) := by decide +kernel
theorem dX5_share_23 : decode cX5_share 23 = .ok (.getfield 11, 3) := by decide +kernel
theorem dX5_share_26 : decode cX5_share 26 = .ok (.iload_n 2, 1) := by decide +kernel
theorem dX5_share_27 : decode cX5_share 27 = .ok (.aaload, 1) := by decide +kernel
theorem dX5_share_28 : decode cX5_share 28 = .ok (.aastore, 1) := by decide +kernel
theorem dX5_share_29 : decode cX5_share 29 = .ok (.iconst 1, 1) := by decide +kernel
theorem dX5_share_30 : decode cX5_share 30 = .ok (.ireturn, 1) := by decide +kernel
theorem dX5_aside_0 : decode cX5_aside 0 = .ok (.iload_n 1, 1) := by decide +kernel
theorem dX5_aside_1 : decode cX5_aside 1 = .ok (.invokestatic 22, 3) := by decide +kernel
theorem dX5_aside_4 : decode cX5_aside 4 = .ok (.ifCond .eq 10, 3) := by decide +kernel
theorem dX5_aside_7 : decode cX5_aside 7 = .ok (.iload_n 2, 1) := by decide +kernel
theorem dX5_aside_8 : decode cX5_aside 8 = .ok (.invokestatic 22, 3) := by decide +kernel
theorem dX5_aside_11 : decode cX5_aside 11 = .ok (.ifCond .ne 6, 3) := by decide +kernel
theorem dX5_aside_14 : decode cX5_aside 14 = .ok (.bipush (-2), 2) := by decide +kernel
theorem dX5_aside_16 : decode cX5_aside 16 = .ok (.ireturn, 1) := by decide +kernel
theorem dX5_aside_17 : decode cX5_aside 17 = .ok (.aload_n 0, 1) := by decide +kernel
theorem dX5_aside_18 : decode cX5_aside 18 = .ok (.invokevirtual 30, 3) := by decide +kernel
theorem dX5_aside_21 : decode cX5_aside 21 = .ok (.ifCond .eq 6, 3) := by decide +kernel
theorem dX5_aside_24 : decode cX5_aside 24 = .ok (.bipush (-3), 2) := by decide +kernel
theorem dX5_aside_26 : decode cX5_aside 26 = .ok (.ireturn, 1) := by decide +kernel
theorem dX5_aside_27 : decode cX5_aside 27 = .ok (.aload_n 0, 1) := by decide +kernel
theorem dX5_aside_28 : decode cX5_aside 28 = .ok (.dup, 1) := by decide +kernel
theorem dX5_aside_29 : decode cX5_aside 29 = .ok (.getfield 49, 3) := by decide +kernel
theorem dX5_aside_32 : decode cX5_aside 32 = .ok (.iconst 1, 1) := by decide +kernel
theorem dX5_aside_33 : decode cX5_aside 33 = .ok (.iadd, 1) := by decide +kernel
theorem dX5_aside_34 : decode cX5_aside 34 = .ok (.putfield 49, 3) := by decide +kernel
theorem dX5_aside_37 : decode cX5_aside 37 = .ok (.aload_n 0, 1) := by decide +kernel
theorem dX5_aside_38 : decode cX5_aside 38 = .ok (.getfield 11, 3) := by decide +kernel
theorem dX5_aside_41 : decode cX5_aside 41 = .ok (.iload_n 1, 1) := by decide +kernel
theorem dX5_aside_42 : decode cX5_aside 42 = .ok (.aload_n 0, 1) := by decide +kernel
theorem dX5_aside_43 : decode cX5_aside 43 = .ok (.aload_n 0, 1) := by decide +kernel
theorem dX5_aside_44 : decode cX5_aside 44 = .ok (.getfield 11, 3) := by decide +kernel
theorem dX5_aside_47 : decode cX5_aside 47 = .ok (.iload_n 2, 1) := by decide +kernel
theorem dX5_aside_48 : decode cX5_aside 48 = .ok (.aaload, 1) := by decide +kernel
theorem dX5_aside_49 : decode cX5_aside 49 = .ok (.iconst 3, 1) := by decide +kernel
theorem dX5_aside_50 : decode cX5_aside 50 = .ok (.invokevirtual 53, 3) := by decide +kernel
theorem dX5_aside_53 : decode cX5_aside 53 = .ok (.aastore, 1) := by decide +kernel
theorem dX5_aside_54 : decode cX5_aside 54 = .ok (.iconst 1, 1) := by decide +kernel
theorem dX5_aside_55 : decode cX5_aside 55 = .ok (.ireturn, 1) := by decide +kernel
theorem dX5_drop_0 : decode cX5_drop 0 = .ok (.iload_n 1, 1) := by decide +kernel
theorem dX5_drop_1 : decode cX5_drop 1 = .ok (.invokestatic 22, 3) := by decide +kernel
theorem dX5_drop_4 : decode cX5_drop 4 = .ok (.ifCond .ne 6, 3) := by decide +kernel
theorem dX5_drop_7 : decode cX5_drop 7 = .ok (.bipush (-2), 2) := by decide +kernel
theorem dX5_drop_9 : decode cX5_drop 9 = .ok (.ireturn, 1) := by decide +kernel
theorem dX5_drop_10 : decode cX5_drop 10 = .ok (.aload_n 0, 1) := by decide +kernel
theorem dX5_drop_11 : decode cX5_drop 11 = .ok (.getfield 11, 3) := by decide +kernel
theorem dX5_drop_14 : decode cX5_drop 14 = .ok (.iload_n 1, 1) := by decide +kernel
theorem dX5_drop_15 : decode cX5_drop 15 = .ok (.aaload, 1) := by decide +kernel
theorem dX5_drop_16 : decode cX5_drop 16 = .ok (.ifnull 7, 3) := by decide +kernel
theorem dX5_drop_19 : decode cX5_drop 19 = .ok (.iconst 1, 1) := by decide +kernel
theorem dX5_drop_20 : decode cX5_drop 20 = .ok (.goto 4, 3) := by decide +kernel
theorem dX5_drop_23 : decode cX5_drop 23 = .ok (.iconst 0, 1) := by decide +kernel
theorem dX5_drop_24 : decode cX5_drop 24 = .ok (.istore_n 2, 1) := by decide +kernel
theorem dX5_drop_25 : decode cX5_drop 25 = .ok (.aload_n 0, 1) := by decide +kernel
theorem dX5_drop_26 : decode cX5_drop 26 = .ok (.getfield 11, 3) := by decide +kernel
theorem dX5_drop_29 : decode cX5_drop 29 = .ok (.iload_n 1, 1) := by decide +kernel
theorem dX5_drop_30 : decode cX5_drop 30 = .ok (.aconst_null, 1) := by decide +kernel
theorem dX5_drop_31 : decode cX5_drop 31 = .ok (.aastore, 1) := by decide +kernel
theorem dX5_drop_32 : decode cX5_drop 32 = .ok (.iload_n 2, 1) := by decide +kernel
theorem dX5_drop_33 : decode cX5_drop 33 = .ok (.ireturn, 1) := by decide +kernel
theorem dX5_kind_0 : decode cX5_kind 0 = .ok (.iload_n 1, 1) := by decide +kernel
theorem dX5_kind_1 : decode cX5_kind 1 = .ok (.invokestatic 22, 3) := by decide +kernel
theorem dX5_kind_4 : decode cX5_kind 4 = .ok (.ifCond .ne 6, 3) := by decide +kernel
theorem dX5_kind_7 : decode cX5_kind 7 = .ok (.bipush (-2), 2) := by decide +kernel
theorem dX5_kind_9 : decode cX5_kind 9 = .ok (.ireturn, 1) := by decide +kernel
theorem dX5_kind_10 : decode cX5_kind 10 = .ok (.aload_n 0, 1) := by decide +kernel
theorem dX5_kind_11 : decode cX5_kind 11 = .ok (.getfield 11, 3) := by decide +kernel
theorem dX5_kind_14 : decode cX5_kind 14 = .ok (.iload_n 1, 1) := by decide +kernel
theorem dX5_kind_15 : decode cX5_kind 15 = .ok (.aaload, 1) := by decide +kernel
theorem dX5_kind_16 : decode cX5_kind 16 = .ok (.astore_n 2, 1) := by decide +kernel
theorem dX5_kind_17 : decode cX5_kind 17 = .ok (.aload_n 2, 1) := by decide +kernel
theorem dX5_kind_18 : decode cX5_kind 18 = .ok (.ifnull 10, 3) := by decide +kernel
theorem dX5_kind_21 : decode cX5_kind 21 = .ok (.aload_n 2, 1) := by decide +kernel
theorem dX5_kind_22 : decode cX5_kind 22 = .ok (.getfield 57, 3) := by decide +kernel
theorem dX5_kind_25 : decode cX5_kind 25 = .ok (.goto 4, 3) := by decide +kernel
theorem dX5_kind_28 : decode cX5_kind 28 = .ok (.iconst (-1), 1) := by decide +kernel
theorem dX5_kind_29 : decode cX5_kind 29 = .ok (.ireturn, 1) := by decide +kernel
theorem dX5_length_0 : decode cX5_length 0 = .ok (.iload_n 1, 1) := by decide +kernel
theorem dX5_length_1 : decode cX5_length 1 = .ok (.invokestatic 22, 3) := by decide +kernel
theorem dX5_length_4 : decode cX5_length 4 = .ok (.ifCond .eq 13, 3) := by decide +kernel
theorem dX5_length_7 : decode cX5_length 7 = .ok (.iload_n 2, 1) := by decide +kernel
theorem dX5_length_8 : decode cX5_length 8 = .ok (.iconst 0, 1) := by decide +kernel
theorem dX5_length_9 : decode cX5_length 9 = .ok (.bipush 13, 2) := by decide +kernel
theorem dX5_length_11 : decode cX5_length 11 = .ok (.invokestatic 26, 3) := by decide +kernel
theorem dX5_length_14 : decode cX5_length 14 = .ok (.ifCond .ne 6, 3) := by decide +kernel
theorem dX5_length_17 : decode cX5_length 17 = .ok (.bipush (-2), 2) := by decide +kernel
theorem dX5_length_19 : decode cX5_length 19 = .ok (.ireturn, 1) := by decide +kernel
theorem dX5_length_20 : decode cX5_length 20 = .ok (.aload_n 0, 1) := by decide +kernel
theorem dX5_length_21 : decode cX5_length 21 = .ok (.getfield 11, 3) := by decide +kernel
theorem dX5_length_24 : decode cX5_length 24 = .ok (.iload_n 1, 1) := by decide +kernel
theorem dX5_length_25 : decode cX5_length 25 = .ok (.aaload, 1) := by decide +kernel
theorem dX5_length_26 : decode cX5_length 26 = .ok (.astore_n 3, 1) := by decide +kernel
theorem dX5_length_27 : decode cX5_length 27 = .ok (.aload_n 3, 1) := by decide +kernel
theorem dX5_length_28 : decode cX5_length 28 = .ok (.iload_n 2, 1) := by decide +kernel
theorem dX5_length_29 : decode cX5_length 29 = .ok (.invokestatic 60, 3) := by decide +kernel
theorem dX5_length_32 : decode cX5_length 32 = .ok (.ifCond .ne 8, 3) := by decide +kernel
theorem dX5_length_35 : decode cX5_length 35 = .ok (.iconst 2, 1) := by decide +kernel
theorem dX5_length_36 : decode cX5_length 36 = .ok (.invokestatic 34, 3) := by decide +kernel
theorem dX5_length_39 : decode cX5_length 39 = .ok (.ireturn, 1) := by decide +kernel
theorem dX5_length_40 : decode cX5_length 40 = .ok (.aload_n 3, 1) := by decide +kernel
theorem dX5_length_41 : decode cX5_length 41 = .ok (.ifnull 10, 3) := by decide +kernel
theorem dX5_length_44 : decode cX5_length 44 = .ok (.aload_n 3, 1) := by decide +kernel
theorem dX5_length_45 : decode cX5_length 45 = .ok (.invokevirtual 64, 3) := by decide +kernel
theorem dX5_length_48 : decode cX5_length 48 = .ok (.goto 7, 3) := by decide +kernel
theorem dX5_length_51 : decode cX5_length 51 = .ok (.iconst 1, 1) := by decide +kernel
theorem dX5_length_52 : decode cX5_length 52 = .ok (.invokestatic 34, 3) := by decide +kernel
theorem dX5_length_55 : decode cX5_length 55 = .ok (.ireturn, 1) := by decide +kernel
theorem dX5_read_0 : decode cX5_read 0 = .ok (.iload_n 1, 1) := by decide +kernel
theorem dX5_read_1 : decode cX5_read 1 = .ok (.invokestatic 22, 3) := by decide +kernel
theorem dX5_read_4 : decode cX5_read 4 = .ok (.ifCond .eq 13, 3) := by decide +kernel
theorem dX5_read_7 : decode cX5_read 7 = .ok (.iload_n 2, 1) := by decide +kernel
theorem dX5_read_8 : decode cX5_read 8 = .ok (.iconst 0, 1) := by decide +kernel
theorem dX5_read_9 : decode cX5_read 9 = .ok (.bipush 9, 2) := by decide +kernel
theorem dX5_read_11 : decode cX5_read 11 = .ok (.invokestatic 26, 3) := by decide +kernel
theorem dX5_read_14 : decode cX5_read 14 = .ok (.ifCond .ne 10, 3) := by decide +kernel
theorem dX5_read_17 : decode cX5_read 17 = .ok (.aload_n 0, 1) := by decide +kernel
theorem dX5_read_18 : decode cX5_read 18 = .ok (.bipush (-2), 2) := by decide +kernel
theorem dX5_read_20 : decode cX5_read 20 = .ok (.invokevirtual 68, 3) := by decide +kernel
theorem dX5_read_23 : decode cX5_read 23 = .ok (.lreturn, 1) := by decide +kernel
theorem dX5_read_24 : decode cX5_read 24 = .ok (.aload_n 0, 1) := by decide +kernel
theorem dX5_read_25 : decode cX5_read 25 = .ok (.getfield 11, 3) := by decide +kernel
theorem dX5_read_28 : decode cX5_read 28 = .ok (.iload_n 1, 1) := by decide +kernel
theorem dX5_read_29 : decode cX5_read 29 = .ok (.aaload, 1) := by decide +kernel
theorem dX5_read_30 : decode cX5_read 30 = .ok (.astore 4, 2) := by decide +kernel
theorem dX5_read_32 : decode cX5_read 32 = .ok (.aload 4, 2) := by decide +kernel
theorem dX5_read_34 : decode cX5_read 34 = .ok (.iload_n 2, 1) := by decide +kernel
theorem dX5_read_35 : decode cX5_read 35 = .ok (.invokestatic 60, 3) := by decide +kernel
theorem dX5_read_38 : decode cX5_read 38 = .ok (.ifCond .eq 13, 3) := by decide +kernel
theorem dX5_read_41 : decode cX5_read 41 = .ok (.aload_n 0, 1) := by decide +kernel
theorem dX5_read_42 : decode cX5_read 42 = .ok (.aload 4, 2) := by decide +kernel
theorem dX5_read_44 : decode cX5_read 44 = .ok (.iload_n 3, 1) := by decide +kernel
theorem dX5_read_45 : decode cX5_read 45 = .ok (.invokevirtual 72, 3) := by decide +kernel
theorem dX5_read_48 : decode cX5_read 48 = .ok (.goto 8, 3) := by decide +kernel
theorem dX5_read_51 : decode cX5_read 51 = .ok (.aload_n 0, 1) := by decide +kernel
theorem dX5_read_52 : decode cX5_read 52 = .ok (.iconst 2, 1) := by decide +kernel
theorem dX5_read_53 : decode cX5_read 53 = .ok (.invokevirtual 68, 3) := by decide +kernel
theorem dX5_read_56 : decode cX5_read 56 = .ok (.lreturn, 1) := by decide +kernel
theorem dX5_write_0 : decode cX5_write 0 = .ok (.iload_n 1, 1) := by decide +kernel
theorem dX5_write_1 : decode cX5_write 1 = .ok (.invokestatic 22, 3) := by decide +kernel
theorem dX5_write_4 : decode cX5_write 4 = .ok (.ifCond .eq 13, 3) := by decide +kernel
theorem dX5_write_7 : decode cX5_write 7 = .ok (.iload_n 2, 1) := by decide +kernel
theorem dX5_write_8 : decode cX5_write 8 = .ok (.iconst 0, 1) := by decide +kernel
theorem dX5_write_9 : decode cX5_write 9 = .ok (.bipush 7, 2) := by decide +kernel
theorem dX5_write_11 : decode cX5_write 11 = .ok (.invokestatic 26, 3) := by decide +kernel
theorem dX5_write_14 : decode cX5_write 14 = .ok (.ifCond .ne 6, 3) := by decide +kernel
theorem dX5_write_17 : decode cX5_write 17 = .ok (.bipush (-2), 2) := by decide +kernel
theorem dX5_write_19 : decode cX5_write 19 = .ok (.ireturn, 1) := by decide +kernel
theorem dX5_write_20 : decode cX5_write 20 = .ok (.aload_n 0, 1) := by decide +kernel
theorem dX5_write_21 : decode cX5_write 21 = .ok (.getfield 11, 3) := by decide +kernel
theorem dX5_write_24 : decode cX5_write 24 = .ok (.iload_n 1, 1) := by decide +kernel
theorem dX5_write_25 : decode cX5_write 25 = .ok (.aaload, 1) := by decide +kernel
theorem dX5_write_26 : decode cX5_write 26 = .ok (.astore 6, 2) := by decide +kernel
theorem dX5_write_28 : decode cX5_write 28 = .ok (.aload 6, 2) := by decide +kernel
theorem dX5_write_30 : decode cX5_write 30 = .ok (.iload_n 2, 1) := by decide +kernel
theorem dX5_write_31 : decode cX5_write 31 = .ok (.invokestatic 60, 3) := by decide +kernel
theorem dX5_write_34 : decode cX5_write 34 = .ok (.ifCond .eq 14, 3) := by decide +kernel
theorem dX5_write_37 : decode cX5_write 37 = .ok (.aload 6, 2) := by decide +kernel
theorem dX5_write_39 : decode cX5_write 39 = .ok (.iload_n 3, 1) := by decide +kernel
theorem dX5_write_40 : decode cX5_write 40 = .ok (.lload 4, 2) := by decide +kernel
theorem dX5_write_42 : decode cX5_write 42 = .ok (.invokestatic 76, 3) := by decide +kernel
theorem dX5_write_45 : decode cX5_write 45 = .ok (.goto 7, 3) := by decide +kernel
theorem dX5_write_48 : decode cX5_write 48 = .ok (.iconst 2, 1) := by decide +kernel
theorem dX5_write_49 : decode cX5_write 49 = .ok (.invokestatic 34, 3) := by decide +kernel
theorem dX5_write_52 : decode cX5_write 52 = .ok (.ireturn, 1) := by decide +kernel
theorem dX5_thing_0 : decode cX5_thing 0 = .ok (.iload_n 1, 1) := by decide +kernel
theorem dX5_thing_1 : decode cX5_thing 1 = .ok (.invokestatic 22, 3) := by decide +kernel
theorem dX5_thing_4 : decode cX5_thing 4 = .ok (.ifCond .eq 12, 3) := by decide +kernel
theorem dX5_thing_7 : decode cX5_thing 7 = .ok (.iload_n 3, 1) := by decide +kernel
theorem dX5_thing_8 : decode cX5_thing 8 = .ok (.ifCond .lt 8, 3) := by decide +kernel
theorem dX5_thing_11 : decode cX5_thing 11 = .ok (.iload_n 3, 1) := by decide +kernel
theorem dX5_thing_12 : decode cX5_thing 12 = .ok (.iconst 2, 1) := by decide +kernel
theorem dX5_thing_13 : decode cX5_thing 13 = .ok (.if_icmp .le 6, 3) := by decide +kernel
theorem dX5_thing_16 : decode cX5_thing 16 = .ok (.bipush (-2), 2) := by decide +kernel
theorem dX5_thing_18 : decode cX5_thing 18 = .ok (.ireturn, 1) := by decide +kernel
theorem dX5_thing_19 : decode cX5_thing 19 = .ok (.iload_n 3, 1) := by decide +kernel
theorem dX5_thing_20 : decode cX5_thing 20 = .ok (.iconst 2, 1) := by decide +kernel
theorem dX5_thing_21 : decode cX5_thing 21 = .ok (.if_icmp .eq 16, 3) := by decide +kernel
theorem dX5_thing_24 : decode cX5_thing 24 = .ok (.aload_n 0, 1) := by decide +kernel
theorem dX5_thing_25 : decode cX5_thing 25 = .ok (.getfield 80, 3) := by decide +kernel
theorem dX5_thing_28 : decode cX5_thing 28 = .ok (.sipush 3000, 3) := by decide +kernel
theorem dX5_thing_31 : decode cX5_thing 31 = .ok (.if_icmp .lt 6, 3) := by decide +kernel
theorem dX5_thing_34 : decode cX5_thing 34 = .ok (.bipush (-3), 2) := by decide +kernel
theorem dX5_thing_36 : decode cX5_thing 36 = .ok (.ireturn, 1) := by decide +kernel
theorem dX5_thing_37 : decode cX5_thing 37 = .ok (.iload_n 3, 1) := by decide +kernel
theorem dX5_thing_38 : decode cX5_thing 38 = .ok (.iconst 2, 1) := by decide +kernel
theorem dX5_thing_39 : decode cX5_thing 39 = .ok (.if_icmp .eq 22, 3) := by decide +kernel
theorem dX5_thing_42 : decode cX5_thing 42 = .ok (.aload_n 0, 1) := by decide +kernel
theorem dX5_thing_43 : decode cX5_thing 43 = .ok (.iload 4, 2) := by decide +kernel
theorem dX5_thing_45 : decode cX5_thing 45 = .ok (.iload_n 3, 1) := by decide +kernel
theorem dX5_thing_46 : decode cX5_thing 46 = .ok (.iconst 1, 1) := by decide +kernel
theorem dX5_thing_47 : decode cX5_thing 47 = .ok (.if_icmp .ne 7, 3) := by decide +kernel
theorem dX5_thing_50 : decode cX5_thing 50 = .ok (.iconst 1, 1) := by decide +kernel
theorem dX5_thing_51 : decode cX5_thing 51 = .ok (.goto 4, 3) := by decide +kernel
theorem dX5_thing_54 : decode cX5_thing 54 = .ok (.iconst 0, 1) := by decide +kernel
theorem dX5_thing_55 : decode cX5_thing 55 = .ok (.invokevirtual 83, 3) := by decide +kernel
theorem dX5_thing_58 : decode cX5_thing 58 = .ok (.goto 4, 3) := by decide +kernel
theorem dX5_thing_61 : decode cX5_thing 61 = .ok (.aconst_null, 1) := by decide +kernel
theorem dX5_thing_62 : decode cX5_thing 62 = .ok (.astore 5, 2) := by decide +kernel
theorem dX5_thing_64 : decode cX5_thing 64 = .ok (.aload_n 0, 1) := by decide +kernel
theorem dX5_thing_65 : decode cX5_thing 65 = .ok (.getfield 11, 3) := by decide +kernel
theorem dX5_thing_68 : decode cX5_thing 68 = .ok (.iload_n 1, 1) := by decide +kernel
theorem dX5_thing_69 : decode cX5_thing 69 = .ok (.aaload, 1) := by decide +kernel
theorem dX5_thing_70 : decode cX5_thing 70 = .ok (.astore 6, 2) := by decide +kernel
theorem dX5_thing_72 : decode cX5_thing 72 = .ok (.aload 6, 2) := by decide +kernel
theorem dX5_thing_74 : decode cX5_thing 74 = .ok (.bipush 8, 2) := by decide +kernel
theorem dX5_thing_76 : decode cX5_thing 76 = .ok (.invokestatic 60, 3) := by decide +kernel
theorem dX5_thing_79 : decode cX5_thing 79 = .ok (.ifCond .eq 14, 3) := by decide +kernel
theorem dX5_thing_82 : decode cX5_thing 82 = .ok (.aload 6, 2) := by decide +kernel
theorem dX5_thing_84 : decode cX5_thing 84 = .ok (.iload_n 2, 1) := by decide +kernel
theorem dX5_thing_85 : decode cX5_thing 85 = .ok (.aload 5, 2) := by decide +kernel
theorem dX5_thing_87 : decode cX5_thing 87 = .ok (.invokestatic 87, 3) := by decide +kernel
theorem dX5_thing_90 : decode cX5_thing 90 = .ok (.goto 7, 3) := by decide +kernel
theorem dX5_thing_93 : decode cX5_thing 93 = .ok (.iconst 2, 1) := by decide +kernel
theorem dX5_thing_94 : decode cX5_thing 94 = .ok (.invokestatic 34, 3) := by decide +kernel
theorem dX5_thing_97 : decode cX5_thing 97 = .ok (.ireturn, 1) := by decide +kernel
theorem dX5_marked_0 : decode cX5_marked 0 = .ok (.iload_n 1, 1) := by decide +kernel
theorem dX5_marked_1 : decode cX5_marked 1 = .ok (.invokestatic 22, 3) := by decide +kernel
theorem dX5_marked_4 : decode cX5_marked 4 = .ok (.ifCond .ne 6, 3) := by decide +kernel
theorem dX5_marked_7 : decode cX5_marked 7 = .ok (.bipush (-2), 2) := by decide +kernel
theorem dX5_marked_9 : decode cX5_marked 9 = .ok (.ireturn, 1) := by decide +kernel
theorem dX5_marked_10 : decode cX5_marked 10 = .ok (.aload_n 0, 1) := by decide +kernel
theorem dX5_marked_11 : decode cX5_marked 11 = .ok (.getfield 11, 3) := by decide +kernel
theorem dX5_marked_14 : decode cX5_marked 14 = .ok (.iload_n 1, 1) := by decide +kernel
theorem dX5_marked_15 : decode cX5_marked 15 = .ok (.aaload, 1) := by decide +kernel
theorem dX5_marked_16 : decode cX5_marked 16 = .ok (.astore_n 3, 1) := by decide +kernel
theorem dX5_marked_17 : decode cX5_marked 17 = .ok (.aload_n 3, 1) := by decide +kernel
theorem dX5_marked_18 : decode cX5_marked 18 = .ok (.bipush 8, 2) := by decide +kernel
theorem dX5_marked_20 : decode cX5_marked 20 = .ok (.iload_n 2, 1) := by decide +kernel
theorem dX5_marked_21 : decode cX5_marked 21 = .ok (.invokestatic 91, 3) := by decide +kernel
theorem dX5_marked_24 : decode cX5_marked 24 = .ok (.istore 4, 2) := by decide +kernel
theorem dX5_marked_26 : decode cX5_marked 26 = .ok (.iload 4, 2) := by decide +kernel
theorem dX5_marked_28 : decode cX5_marked 28 = .ok (.ifCond .eq 9, 3) := by decide +kernel
theorem dX5_marked_31 : decode cX5_marked 31 = .ok (.iload 4, 2) := by decide +kernel
theorem dX5_marked_33 : decode cX5_marked 33 = .ok (.invokestatic 34, 3) := by decide +kernel
theorem dX5_marked_36 : decode cX5_marked 36 = .ok (.ireturn, 1) := by decide +kernel
theorem dX5_marked_37 : decode cX5_marked 37 = .ok (.aload_n 3, 1) := by decide +kernel
theorem dX5_marked_38 : decode cX5_marked 38 = .ok (.iload_n 2, 1) := by decide +kernel
theorem dX5_marked_39 : decode cX5_marked 39 = .ok (.invokestatic 95, 3) := by decide +kernel
theorem dX5_marked_42 : decode cX5_marked 42 = .ok (.astore 6, 2) := by decide +kernel
theorem dX5_marked_44 : decode cX5_marked 44 = .ok (.aload 6, 2) := by decide +kernel
theorem dX5_marked_46 : decode cX5_marked 46 = .ok (.instanceof 99, 3) := by decide +kernel
theorem dX5_marked_49 : decode cX5_marked 49 = .ok (.ifCond .eq 22, 3) := by decide +kernel
theorem dX5_marked_52 : decode cX5_marked 52 = .ok (.aload 6, 2) := by decide +kernel
theorem dX5_marked_54 : decode cX5_marked 54 = .ok (.checkcast 99, 3) := by decide +kernel
theorem dX5_marked_57 : decode cX5_marked 57 = .ok (.astore 5, 2) := by decide +kernel
theorem dX5_marked_59 : decode cX5_marked 59 = .ok (.aload 5, 2) := by decide +kernel
theorem dX5_marked_61 : decode cX5_marked 61 = .ok (.getfield 101, 3) := by decide +kernel
theorem dX5_marked_64 : decode cX5_marked 64 = .ok (.ifCond .eq 7, 3) := by decide +kernel
theorem dX5_marked_67 : decode cX5_marked 67 = .ok (.iconst 1, 1) := by decide +kernel
theorem dX5_marked_68 : decode cX5_marked 68 = .ok (.goto 4, 3) := by decide +kernel
theorem dX5_marked_71 : decode cX5_marked 71 = .ok (.iconst 0, 1) := by decide +kernel
theorem dX5_marked_72 : decode cX5_marked 72 = .ok (.ireturn, 1) := by decide +kernel
theorem dX5_cell_0 : decode cX5_cell 0 = .ok (.iload_n 1, 1) := by decide +kernel
theorem dX5_cell_1 : decode cX5_cell 1 = .ok (.invokestatic 22, 3) := by decide +kernel
theorem dX5_cell_4 : decode cX5_cell 4 = .ok (.ifCond .eq 14, 3) := by decide +kernel
theorem dX5_cell_7 : decode cX5_cell 7 = .ok (.iload_n 2, 1) := by decide +kernel
theorem dX5_cell_8 : decode cX5_cell 8 = .ok (.bipush 10, 2) := by decide +kernel
theorem dX5_cell_10 : decode cX5_cell 10 = .ok (.bipush 12, 2) := by decide +kernel
theorem dX5_cell_12 : decode cX5_cell 12 = .ok (.invokestatic 26, 3) := by decide +kernel
theorem dX5_cell_15 : decode cX5_cell 15 = .ok (.ifCond .ne 10, 3) := by decide +kernel
theorem dX5_cell_18 : decode cX5_cell 18 = .ok (.aload_n 0, 1) := by decide +kernel
theorem dX5_cell_19 : decode cX5_cell 19 = .ok (.bipush (-2), 2) := by decide +kernel
theorem dX5_cell_21 : decode cX5_cell 21 = .ok (.invokevirtual 68, 3) := by decide +kernel
theorem dX5_cell_24 : decode cX5_cell 24 = .ok (.lreturn, 1) := by decide +kernel
theorem dX5_cell_25 : decode cX5_cell 25 = .ok (.aload_n 0, 1) := by decide +kernel
theorem dX5_cell_26 : decode cX5_cell 26 = .ok (.getfield 11, 3) := by decide +kernel
theorem dX5_cell_29 : decode cX5_cell 29 = .ok (.iload_n 1, 1) := by decide +kernel
theorem dX5_cell_30 : decode cX5_cell 30 = .ok (.aaload, 1) := by decide +kernel
theorem dX5_cell_31 : decode cX5_cell 31 = .ok (.astore 5, 2) := by decide +kernel
theorem dX5_cell_33 : decode cX5_cell 33 = .ok (.aload 5, 2) := by decide +kernel
theorem dX5_cell_35 : decode cX5_cell 35 = .ok (.iload_n 2, 1) := by decide +kernel
theorem dX5_cell_36 : decode cX5_cell 36 = .ok (.iload_n 3, 1) := by decide +kernel
theorem dX5_cell_37 : decode cX5_cell 37 = .ok (.invokestatic 91, 3) := by decide +kernel
theorem dX5_cell_40 : decode cX5_cell 40 = .ok (.istore 6, 2) := by decide +kernel
theorem dX5_cell_42 : decode cX5_cell 42 = .ok (.iload 6, 2) := by decide +kernel
theorem dX5_cell_44 : decode cX5_cell 44 = .ok (.ifCond .ne 18, 3) := by decide +kernel
theorem dX5_cell_47 : decode cX5_cell 47 = .ok (.aload_n 0, 1) := by decide +kernel
theorem dX5_cell_48 : decode cX5_cell 48 = .ok (.aload 5, 2) := by decide +kernel
theorem dX5_cell_50 : decode cX5_cell 50 = .ok (.iload_n 3, 1) := by decide +kernel
theorem dX5_cell_51 : decode cX5_cell 51 = .ok (.invokestatic 105, 3) := by decide +kernel
theorem dX5_cell_54 : decode cX5_cell 54 = .ok (.iload 4, 2) := by decide +kernel
theorem dX5_cell_56 : decode cX5_cell 56 = .ok (.invokevirtual 72, 3) := by decide +kernel
theorem dX5_cell_59 : decode cX5_cell 59 = .ok (.goto 9, 3) := by decide +kernel
theorem dX5_cell_62 : decode cX5_cell 62 = .ok (.aload_n 0, 1) := by decide +kernel
theorem dX5_cell_63 : decode cX5_cell 63 = .ok (.iload 6, 2) := by decide +kernel
theorem dX5_cell_65 : decode cX5_cell 65 = .ok (.invokevirtual 68, 3) := by decide +kernel
theorem dX5_cell_68 : decode cX5_cell 68 = .ok (.lreturn, 1) := by decide +kernel
theorem dX5_set_0 : decode cX5_set 0 = .ok (.iload_n 1, 1) := by decide +kernel
theorem dX5_set_1 : decode cX5_set 1 = .ok (.invokestatic 22, 3) := by decide +kernel
theorem dX5_set_4 : decode cX5_set 4 = .ok (.ifCond .eq 14, 3) := by decide +kernel
theorem dX5_set_7 : decode cX5_set 7 = .ok (.iload_n 2, 1) := by decide +kernel
theorem dX5_set_8 : decode cX5_set 8 = .ok (.bipush 10, 2) := by decide +kernel
theorem dX5_set_10 : decode cX5_set 10 = .ok (.bipush 11, 2) := by decide +kernel
theorem dX5_set_12 : decode cX5_set 12 = .ok (.invokestatic 26, 3) := by decide +kernel
theorem dX5_set_15 : decode cX5_set 15 = .ok (.ifCond .ne 6, 3) := by decide +kernel
theorem dX5_set_18 : decode cX5_set 18 = .ok (.bipush (-2), 2) := by decide +kernel
theorem dX5_set_20 : decode cX5_set 20 = .ok (.ireturn, 1) := by decide +kernel
theorem dX5_set_21 : decode cX5_set 21 = .ok (.aload_n 0, 1) := by decide +kernel
theorem dX5_set_22 : decode cX5_set 22 = .ok (.getfield 11, 3) := by decide +kernel
theorem dX5_set_25 : decode cX5_set 25 = .ok (.iload_n 1, 1) := by decide +kernel
theorem dX5_set_26 : decode cX5_set 26 = .ok (.aaload, 1) := by decide +kernel
theorem dX5_set_27 : decode cX5_set 27 = .ok (.astore 7, 2) := by decide +kernel
theorem dX5_set_29 : decode cX5_set 29 = .ok (.aload 7, 2) := by decide +kernel
theorem dX5_set_31 : decode cX5_set 31 = .ok (.iload_n 2, 1) := by decide +kernel
theorem dX5_set_32 : decode cX5_set 32 = .ok (.iload_n 3, 1) := by decide +kernel
theorem dX5_set_33 : decode cX5_set 33 = .ok (.invokestatic 91, 3) := by decide +kernel
theorem dX5_set_36 : decode cX5_set 36 = .ok (.istore 8, 2) := by decide +kernel
theorem dX5_set_38 : decode cX5_set 38 = .ok (.iload 8, 2) := by decide +kernel
theorem dX5_set_40 : decode cX5_set 40 = .ok (.ifCond .ne 19, 3) := by decide +kernel
theorem dX5_set_43 : decode cX5_set 43 = .ok (.aload 7, 2) := by decide +kernel
theorem dX5_set_45 : decode cX5_set 45 = .ok (.iload_n 3, 1) := by decide +kernel
theorem dX5_set_46 : decode cX5_set 46 = .ok (.invokestatic 105, 3) := by decide +kernel
theorem dX5_set_49 : decode cX5_set 49 = .ok (.iload 4, 2) := by decide +kernel
theorem dX5_set_51 : decode cX5_set 51 = .ok (.lload 5, 2) := by decide +kernel
theorem dX5_set_53 : decode cX5_set 53 = .ok (.invokestatic 76, 3) := by decide +kernel
theorem dX5_set_56 : decode cX5_set 56 = .ok (.goto 8, 3) := by decide +kernel
theorem dX5_set_59 : decode cX5_set 59 = .ok (.iload 8, 2) := by decide +kernel
theorem dX5_set_61 : decode cX5_set 61 = .ok (.invokestatic 34, 3) := by decide +kernel
theorem dX5_set_64 : decode cX5_set 64 = .ok (.ireturn, 1) := by decide +kernel
theorem dX5_deepest_0 : decode cX5_deepest 0 = .ok (.iload_n 1, 1) := by decide +kernel
theorem dX5_deepest_1 : decode cX5_deepest 1 = .ok (.invokestatic 22, 3) := by decide +kernel
theorem dX5_deepest_4 : decode cX5_deepest 4 = .ok (.ifCond .ne 10, 3) := by decide +kernel
theorem dX5_deepest_7 : decode cX5_deepest 7 = .ok (.aload_n 0, 1) := by decide +kernel
theorem dX5_deepest_8 : decode cX5_deepest 8 = .ok (.bipush (-2), 2) := by decide +kernel
theorem dX5_deepest_10 : decode cX5_deepest 10 = .ok (.invokevirtual 68, 3) := by decide +kernel
theorem dX5_deepest_13 : decode cX5_deepest 13 = .ok (.lreturn, 1) := by decide +kernel
theorem dX5_deepest_14 : decode cX5_deepest 14 = .ok (.aload_n 0, 1) := by decide +kernel
theorem dX5_deepest_15 : decode cX5_deepest 15 = .ok (.getfield 11, 3) := by decide +kernel
theorem dX5_deepest_18 : decode cX5_deepest 18 = .ok (.iload_n 1, 1) := by decide +kernel
theorem dX5_deepest_19 : decode cX5_deepest 19 = .ok (.aaload, 1) := by decide +kernel
theorem dX5_deepest_20 : decode cX5_deepest 20 = .ok (.astore 5, 2) := by decide +kernel
theorem dX5_deepest_22 : decode cX5_deepest 22 = .ok (.aload 5, 2) := by decide +kernel
theorem dX5_deepest_24 : decode cX5_deepest 24 = .ok (.bipush 13, 2) := by decide +kernel
theorem dX5_deepest_26 : decode cX5_deepest 26 = .ok (.iload_n 2, 1) := by decide +kernel
theorem dX5_deepest_27 : decode cX5_deepest 27 = .ok (.invokestatic 91, 3) := by decide +kernel
theorem dX5_deepest_30 : decode cX5_deepest 30 = .ok (.istore 6, 2) := by decide +kernel
theorem dX5_deepest_32 : decode cX5_deepest 32 = .ok (.iload 6, 2) := by decide +kernel
theorem dX5_deepest_34 : decode cX5_deepest 34 = .ok (.ifCond .eq 10, 3) := by decide +kernel
theorem dX5_deepest_37 : decode cX5_deepest 37 = .ok (.aload_n 0, 1) := by decide +kernel
theorem dX5_deepest_38 : decode cX5_deepest 38 = .ok (.iload 6, 2) := by decide +kernel
theorem dX5_deepest_40 : decode cX5_deepest 40 = .ok (.invokevirtual 68, 3) := by decide +kernel
theorem dX5_deepest_43 : decode cX5_deepest 43 = .ok (.lreturn, 1) := by decide +kernel
theorem dX5_deepest_44 : decode cX5_deepest 44 = .ok (.aload 5, 2) := by decide +kernel
theorem dX5_deepest_46 : decode cX5_deepest 46 = .ok (.iload_n 2, 1) := by decide +kernel
theorem dX5_deepest_47 : decode cX5_deepest 47 = .ok (.invokestatic 105, 3) := by decide +kernel
theorem dX5_deepest_50 : decode cX5_deepest 50 = .ok (.astore 7, 2) := by decide +kernel
theorem dX5_deepest_52 : decode cX5_deepest 52 = .ok (.aload 7, 2) := by decide +kernel
theorem dX5_deepest_54 : decode cX5_deepest 54 = .ok (.iload_n 3, 1) := by decide +kernel
theorem dX5_deepest_55 : decode cX5_deepest 55 = .ok (.invokestatic 108, 3) := by decide +kernel
theorem dX5_deepest_58 : decode cX5_deepest 58 = .ok (.istore 6, 2) := by decide +kernel
theorem dX5_deepest_60 : decode cX5_deepest 60 = .ok (.iload 6, 2) := by decide +kernel
theorem dX5_deepest_62 : decode cX5_deepest 62 = .ok (.ifCond .ne 18, 3) := by decide +kernel
theorem dX5_deepest_65 : decode cX5_deepest 65 = .ok (.aload_n 0, 1) := by decide +kernel
theorem dX5_deepest_66 : decode cX5_deepest 66 = .ok (.aload 7, 2) := by decide +kernel
theorem dX5_deepest_68 : decode cX5_deepest 68 = .ok (.iload_n 3, 1) := by decide +kernel
theorem dX5_deepest_69 : decode cX5_deepest 69 = .ok (.invokestatic 105, 3) := by decide +kernel
theorem dX5_deepest_72 : decode cX5_deepest 72 = .ok (.iload 4, 2) := by decide +kernel
theorem dX5_deepest_74 : decode cX5_deepest 74 = .ok (.invokevirtual 72, 3) := by decide +kernel
theorem dX5_deepest_77 : decode cX5_deepest 77 = .ok (.goto 9, 3) := by decide +kernel
theorem dX5_deepest_80 : decode cX5_deepest 80 = .ok (.aload_n 0, 1) := by decide +kernel
theorem dX5_deepest_81 : decode cX5_deepest 81 = .ok (.iload 6, 2) := by decide +kernel
theorem dX5_deepest_83 : decode cX5_deepest 83 = .ok (.invokevirtual 68, 3) := by decide +kernel
theorem dX5_deepest_86 : decode cX5_deepest 86 = .ok (.lreturn, 1) := by decide +kernel
theorem dX5_row_0 : decode cX5_row 0 = .ok (.iload_n 1, 1) := by decide +kernel
theorem dX5_row_1 : decode cX5_row 1 = .ok (.invokestatic 22, 3) := by decide +kernel
theorem dX5_row_4 : decode cX5_row 4 = .ok (.ifCond .eq 22, 3) := by decide +kernel
theorem dX5_row_7 : decode cX5_row 7 = .ok (.iload 4, 2) := by decide +kernel
theorem dX5_row_9 : decode cX5_row 9 = .ok (.invokestatic 22, 3) := by decide +kernel
theorem dX5_row_12 : decode cX5_row 12 = .ok (.ifCond .eq 14, 3) := by decide +kernel
theorem dX5_row_15 : decode cX5_row 15 = .ok (.iload_n 2, 1) := by decide +kernel
theorem dX5_row_16 : decode cX5_row 16 = .ok (.bipush 10, 2) := by decide +kernel
theorem dX5_row_18 : decode cX5_row 18 = .ok (.bipush 13, 2) := by decide +kernel
theorem dX5_row_20 : decode cX5_row 20 = .ok (.invokestatic 26, 3) := by decide +kernel
theorem dX5_row_23 : decode cX5_row 23 = .ok (.ifCond .ne 6, 3) := by decide +kernel
theorem dX5_row_26 : decode cX5_row 26 = .ok (.bipush (-2), 2) := by decide +kernel
theorem dX5_row_28 : decode cX5_row 28 = .ok (.ireturn, 1) := by decide +kernel
theorem dX5_row_29 : decode cX5_row 29 = .ok (.aload_n 0, 1) := by decide +kernel
theorem dX5_row_30 : decode cX5_row 30 = .ok (.getfield 11, 3) := by decide +kernel
theorem dX5_row_33 : decode cX5_row 33 = .ok (.iload_n 1, 1) := by decide +kernel
theorem dX5_row_34 : decode cX5_row 34 = .ok (.aaload, 1) := by decide +kernel
theorem dX5_row_35 : decode cX5_row 35 = .ok (.astore 5, 2) := by decide +kernel
theorem dX5_row_37 : decode cX5_row 37 = .ok (.aload_n 0, 1) := by decide +kernel
theorem dX5_row_38 : decode cX5_row 38 = .ok (.getfield 11, 3) := by decide +kernel
theorem dX5_row_41 : decode cX5_row 41 = .ok (.iload 4, 2) := by decide +kernel
theorem dX5_row_43 : decode cX5_row 43 = .ok (.aaload, 1) := by decide +kernel
theorem dX5_row_44 : decode cX5_row 44 = .ok (.astore 6, 2) := by decide +kernel
theorem dX5_row_46 : decode cX5_row 46 = .ok (.aload 5, 2) := by decide +kernel
theorem dX5_row_48 : decode cX5_row 48 = .ok (.iload_n 2, 1) := by decide +kernel
theorem dX5_row_49 : decode cX5_row 49 = .ok (.invokestatic 60, 3) := by decide +kernel
theorem dX5_row_52 : decode cX5_row 52 = .ok (.ifCond .eq 15, 3) := by decide +kernel
theorem dX5_row_55 : decode cX5_row 55 = .ok (.aload 6, 2) := by decide +kernel
theorem dX5_row_57 : decode cX5_row 57 = .ok (.iload_n 2, 1) := by decide +kernel
theorem dX5_row_58 : decode cX5_row 58 = .ok (.invokestatic 112, 3) := by decide +kernel
theorem dX5_row_61 : decode cX5_row 61 = .ok (.invokestatic 60, 3) := by decide +kernel
theorem dX5_row_64 : decode cX5_row 64 = .ok (.ifCond .ne 8, 3) := by decide +kernel
theorem dX5_row_67 : decode cX5_row 67 = .ok (.iconst 2, 1) := by decide +kernel
theorem dX5_row_68 : decode cX5_row 68 = .ok (.invokestatic 34, 3) := by decide +kernel
theorem dX5_row_71 : decode cX5_row 71 = .ok (.ireturn, 1) := by decide +kernel
theorem dX5_row_72 : decode cX5_row 72 = .ok (.aload 5, 2) := by decide +kernel
theorem dX5_row_74 : decode cX5_row 74 = .ok (.iload_n 3, 1) := by decide +kernel
theorem dX5_row_75 : decode cX5_row 75 = .ok (.aload 6, 2) := by decide +kernel
theorem dX5_row_77 : decode cX5_row 77 = .ok (.invokestatic 87, 3) := by decide +kernel
theorem dX5_row_80 : decode cX5_row 80 = .ok (.ireturn, 1) := by decide +kernel
theorem dX5_take_0 : decode cX5_take 0 = .ok (.iload_n 1, 1) := by decide +kernel
theorem dX5_take_1 : decode cX5_take 1 = .ok (.invokestatic 22, 3) := by decide +kernel
theorem dX5_take_4 : decode cX5_take 4 = .ok (.ifCond .eq 21, 3) := by decide +kernel
theorem dX5_take_7 : decode cX5_take 7 = .ok (.iload_n 2, 1) := by decide +kernel
theorem dX5_take_8 : decode cX5_take 8 = .ok (.invokestatic 22, 3) := by decide +kernel
theorem dX5_take_11 : decode cX5_take 11 = .ok (.ifCond .eq 14, 3) := by decide +kernel
theorem dX5_take_14 : decode cX5_take 14 = .ok (.iload_n 3, 1) := by decide +kernel
theorem dX5_take_15 : decode cX5_take 15 = .ok (.bipush 10, 2) := by decide +kernel
theorem dX5_take_17 : decode cX5_take 17 = .ok (.bipush 13, 2) := by decide +kernel
theorem dX5_take_19 : decode cX5_take 19 = .ok (.invokestatic 26, 3) := by decide +kernel
theorem dX5_take_22 : decode cX5_take 22 = .ok (.ifCond .ne 6, 3) := by decide +kernel
theorem dX5_take_25 : decode cX5_take 25 = .ok (.bipush (-2), 2) := by decide +kernel
theorem dX5_take_27 : decode cX5_take 27 = .ok (.ireturn, 1) := by decide +kernel
theorem dX5_take_28 : decode cX5_take 28 = .ok (.aload_n 0, 1) := by decide +kernel
theorem dX5_take_29 : decode cX5_take 29 = .ok (.getfield 11, 3) := by decide +kernel
theorem dX5_take_32 : decode cX5_take 32 = .ok (.iload_n 2, 1) := by decide +kernel
theorem dX5_take_33 : decode cX5_take 33 = .ok (.aaload, 1) := by decide +kernel
theorem dX5_take_34 : decode cX5_take 34 = .ok (.astore 5, 2) := by decide +kernel
theorem dX5_take_36 : decode cX5_take 36 = .ok (.aload 5, 2) := by decide +kernel
theorem dX5_take_38 : decode cX5_take 38 = .ok (.iload_n 3, 1) := by decide +kernel
theorem dX5_take_39 : decode cX5_take 39 = .ok (.iload 4, 2) := by decide +kernel
theorem dX5_take_41 : decode cX5_take 41 = .ok (.invokestatic 91, 3) := by decide +kernel
theorem dX5_take_44 : decode cX5_take 44 = .ok (.istore 6, 2) := by decide +kernel
theorem dX5_take_46 : decode cX5_take 46 = .ok (.iload 6, 2) := by decide +kernel
theorem dX5_take_48 : decode cX5_take 48 = .ok (.ifCond .eq 9, 3) := by decide +kernel
theorem dX5_take_51 : decode cX5_take 51 = .ok (.iload 6, 2) := by decide +kernel
theorem dX5_take_53 : decode cX5_take 53 = .ok (.invokestatic 34, 3) := by decide +kernel
theorem dX5_take_56 : decode cX5_take 56 = .ok (.ireturn, 1) := by decide +kernel
theorem dX5_take_57 : decode cX5_take 57 = .ok (.aload_n 0, 1) := by decide +kernel
theorem dX5_take_58 : decode cX5_take 58 = .ok (.getfield 11, 3) := by decide +kernel
theorem dX5_take_61 : decode cX5_take 61 = .ok (.iload_n 1, 1) := by decide +kernel
theorem dX5_take_62 : decode cX5_take 62 = .ok (.aload 5, 2) := by decide +kernel
theorem dX5_take_64 : decode cX5_take 64 = .ok (.iload 4, 2) := by decide +kernel
theorem dX5_take_66 : decode cX5_take 66 = .ok (.invokestatic 105, 3) := by decide +kernel
theorem dX5_take_69 : decode cX5_take 69 = .ok (.aastore, 1) := by decide +kernel
theorem dX5_take_70 : decode cX5_take 70 = .ok (.iconst 1, 1) := by decide +kernel
theorem dX5_take_71 : decode cX5_take 71 = .ok (.ireturn, 1) := by decide +kernel
theorem dX5_grow_0 : decode cX5_grow 0 = .ok (.iload_n 1, 1) := by decide +kernel
theorem dX5_grow_1 : decode cX5_grow 1 = .ok (.invokestatic 22, 3) := by decide +kernel
theorem dX5_grow_4 : decode cX5_grow 4 = .ok (.ifCond .eq 9, 3) := by decide +kernel
theorem dX5_grow_7 : decode cX5_grow 7 = .ok (.iload_n 2, 1) := by decide +kernel
theorem dX5_grow_8 : decode cX5_grow 8 = .ok (.bipush 30, 2) := by decide +kernel
theorem dX5_grow_10 : decode cX5_grow 10 = .ok (.if_icmp .le 6, 3) := by decide +kernel
theorem dX5_grow_13 : decode cX5_grow 13 = .ok (.bipush (-2), 2) := by decide +kernel
theorem dX5_grow_15 : decode cX5_grow 15 = .ok (.ireturn, 1) := by decide +kernel
theorem dX5_grow_16 : decode cX5_grow 16 = .ok (.aload_n 0, 1) := by decide +kernel
theorem dX5_grow_17 : decode cX5_grow 17 = .ok (.invokevirtual 30, 3) := by decide +kernel
theorem dX5_grow_20 : decode cX5_grow 20 = .ok (.ifCond .eq 6, 3) := by decide +kernel
theorem dX5_grow_23 : decode cX5_grow 23 = .ok (.bipush (-3), 2) := by decide +kernel
theorem dX5_grow_25 : decode cX5_grow 25 = .ok (.ireturn, 1) := by decide +kernel
theorem dX5_grow_26 : decode cX5_grow 26 = .ok (.aload_n 0, 1) := by decide +kernel
theorem dX5_grow_27 : decode cX5_grow 27 = .ok (.getfield 11, 3) := by decide +kernel
theorem dX5_grow_30 : decode cX5_grow 30 = .ok (.iload_n 1, 1) := by decide +kernel
theorem dX5_grow_31 : decode cX5_grow 31 = .ok (.aaload, 1) := by decide +kernel
theorem dX5_grow_32 : decode cX5_grow 32 = .ok (.astore_n 3, 1) := by decide +kernel
theorem dX5_grow_33 : decode cX5_grow 33 = .ok (.aload_n 3, 1) := by decide +kernel
theorem dX5_grow_34 : decode cX5_grow 34 = .ok (.ifnonnull 8, 3) := by decide +kernel
theorem dX5_grow_37 : decode cX5_grow 37 = .ok (.iconst 1, 1) := by decide +kernel
theorem dX5_grow_38 : decode cX5_grow 38 = .ok (.invokestatic 34, 3) := by decide +kernel
theorem dX5_grow_41 : decode cX5_grow 41 = .ok (.ireturn, 1) := by decide +kernel
theorem dX5_grow_42 : decode cX5_grow 42 = .ok (.iload_n 2, 1) := by decide +kernel
theorem dX5_grow_43 : decode cX5_grow 43 = .ok (.ifCond .ge 8, 3) := by decide +kernel
theorem dX5_grow_46 : decode cX5_grow 46 = .ok (.iconst 4, 1) := by decide +kernel
theorem dX5_grow_47 : decode cX5_grow 47 = .ok (.invokestatic 34, 3) := by decide +kernel
theorem dX5_grow_50 : decode cX5_grow 50 = .ok (.ireturn, 1) := by decide +kernel
theorem dX5_grow_51 : decode cX5_grow 51 = .ok (.aload_n 0, 1) := by decide +kernel
theorem dX5_grow_52 : decode cX5_grow 52 = .ok (.aload_n 3, 1) := by decide +kernel
theorem dX5_grow_53 : decode cX5_grow 53 = .ok (.getfield 57, 3) := by decide +kernel
theorem dX5_grow_56 : decode cX5_grow 56 = .ok (.iload_n 2, 1) := by decide +kernel
theorem dX5_grow_57 : decode cX5_grow 57 = .ok (.invokevirtual 38, 3) := by decide +kernel
theorem dX5_grow_60 : decode cX5_grow 60 = .ok (.astore 4, 2) := by decide +kernel
theorem dX5_grow_62 : decode cX5_grow 62 = .ok (.aload_n 3, 1) := by decide +kernel
theorem dX5_grow_63 : decode cX5_grow 63 = .ok (.iconst 0, 1) := by decide +kernel
theorem dX5_grow_64 : decode cX5_grow 64 = .ok (.aload 4, 2) := by decide +kernel
theorem dX5_grow_66 : decode cX5_grow 66 = .ok (.iconst 0, 1) := by decide +kernel
theorem dX5_grow_67 : decode cX5_grow 67 = .ok (.iload_n 2, 1) := by decide +kernel
theorem dX5_grow_68 : decode cX5_grow 68 = .ok (.aload_n 3, 1) := by decide +kernel
theorem dX5_grow_69 : decode cX5_grow 69 = .ok (.invokevirtual 64, 3) := by decide +kernel
theorem dX5_grow_72 : decode cX5_grow 72 = .ok (.invokestatic 115, 3) := by decide +kernel
theorem dX5_grow_75 : decode cX5_grow 75 = .ok (.invokestatic 121, 3) := by decide +kernel
theorem dX5_grow_78 : decode cX5_grow 78 = .ok (.pop, 1) := by decide +kernel
theorem dX5_grow_79 : decode cX5_grow 79 = .ok (.aload_n 0, 1) := by decide +kernel
theorem dX5_grow_80 : decode cX5_grow 80 = .ok (.getfield 11, 3) := by decide +kernel
theorem dX5_grow_83 : decode cX5_grow 83 = .ok (.iload_n 1, 1) := by decide +kernel
theorem dX5_grow_84 : decode cX5_grow 84 = .ok (.aload 4, 2) := by decide +kernel
theorem dX5_grow_86 : decode cX5_grow 86 = .ok (.aastore, 1) := by decide +kernel
theorem dX5_grow_87 : decode cX5_grow 87 = .ok (.iconst 1, 1) := by decide +kernel
theorem dX5_grow_88 : decode cX5_grow 88 = .ok (.ireturn, 1) := by decide +kernel
theorem dX5_copy_0 : decode cX5_copy 0 = .ok (.iload_n 1, 1) := by decide +kernel
theorem dX5_copy_1 : decode cX5_copy 1 = .ok (.invokestatic 22, 3) := by decide +kernel
theorem dX5_copy_4 : decode cX5_copy 4 = .ok (.ifCond .eq 10, 3) := by decide +kernel
theorem dX5_copy_7 : decode cX5_copy 7 = .ok (.iload_n 3, 1) := by decide +kernel
theorem dX5_copy_8 : decode cX5_copy 8 = .ok (.invokestatic 22, 3) := by decide +kernel
theorem dX5_copy_11 : decode cX5_copy 11 = .ok (.ifCond .ne 6, 3) := by decide +kernel
theorem dX5_copy_14 : decode cX5_copy 14 = .ok (.bipush (-2), 2) := by decide +kernel
theorem dX5_copy_16 : decode cX5_copy 16 = .ok (.ireturn, 1) := by decide +kernel
theorem dX5_copy_17 : decode cX5_copy 17 = .ok (.aload_n 0, 1) := by decide +kernel
theorem dX5_copy_18 : decode cX5_copy 18 = .ok (.getfield 11, 3) := by decide +kernel
theorem dX5_copy_21 : decode cX5_copy 21 = .ok (.iload_n 1, 1) := by decide +kernel
theorem dX5_copy_22 : decode cX5_copy 22 = .ok (.aaload, 1) := by decide +kernel
theorem dX5_copy_23 : decode cX5_copy 23 = .ok (.astore 6, 2) := by decide +kernel
theorem dX5_copy_25 : decode cX5_copy 25 = .ok (.aload_n 0, 1) := by decide +kernel
theorem dX5_copy_26 : decode cX5_copy 26 = .ok (.getfield 11, 3) := by decide +kernel
theorem dX5_copy_29 : decode cX5_copy 29 = .ok (.iload_n 3, 1) := by decide +kernel
theorem dX5_copy_30 : decode cX5_copy 30 = .ok (.aaload, 1) := by decide +kernel
theorem dX5_copy_31 : decode cX5_copy 31 = .ok (.astore 7, 2) := by decide +kernel
theorem dX5_copy_33 : decode cX5_copy 33 = .ok (.aload 6, 2) := by decide +kernel
theorem dX5_copy_35 : decode cX5_copy 35 = .ok (.ifnull 8, 3) := by decide +kernel
theorem dX5_copy_38 : decode cX5_copy 38 = .ok (.aload 7, 2) := by decide +kernel
theorem dX5_copy_40 : decode cX5_copy 40 = .ok (.ifnonnull 8, 3) := by decide +kernel
theorem dX5_copy_43 : decode cX5_copy 43 = .ok (.iconst 1, 1) := by decide +kernel
theorem dX5_copy_44 : decode cX5_copy 44 = .ok (.invokestatic 34, 3) := by decide +kernel
theorem dX5_copy_47 : decode cX5_copy 47 = .ok (.ireturn, 1) := by decide +kernel
theorem dX5_copy_48 : decode cX5_copy 48 = .ok (.aload 6, 2) := by decide +kernel
theorem dX5_copy_50 : decode cX5_copy 50 = .ok (.getfield 57, 3) := by decide +kernel
theorem dX5_copy_53 : decode cX5_copy 53 = .ok (.aload 7, 2) := by decide +kernel
theorem dX5_copy_55 : decode cX5_copy 55 = .ok (.getfield 57, 3) := by decide +kernel
theorem dX5_copy_58 : decode cX5_copy 58 = .ok (.if_icmp .eq 24, 3) := by decide +kernel
theorem dX5_copy_61 : decode cX5_copy 61 = .ok (.aload 6, 2) := by decide +kernel
theorem dX5_copy_63 : decode cX5_copy 63 = .ok (.instanceof 125, 3) := by decide +kernel
theorem dX5_copy_66 : decode cX5_copy 66 = .ok (.ifCond .ne 11, 3) := by decide +kernel
theorem dX5_copy_69 : decode cX5_copy 69 = .ok (.aload 7, 2) := by decide +kernel
theorem dX5_copy_71 : decode cX5_copy 71 = .ok (.instanceof 125, 3) := by decide +kernel
theorem dX5_copy_74 : decode cX5_copy 74 = .ok (.ifCond .eq 8, 3) := by decide +kernel
theorem dX5_copy_77 : decode cX5_copy 77 = .ok (.iconst 5, 1) := by decide +kernel
theorem dX5_copy_78 : decode cX5_copy 78 = .ok (.invokestatic 34, 3) := by decide +kernel
theorem dX5_copy_81 : decode cX5_copy 81 = .ok (.ireturn, 1) := by decide +kernel
theorem dX5_copy_82 : decode cX5_copy 82 = .ok (.aload 6, 2) := by decide +kernel
theorem dX5_copy_84 : decode cX5_copy 84 = .ok (.iload_n 2, 1) := by decide +kernel
theorem dX5_copy_85 : decode cX5_copy 85 = .ok (.aload 7, 2) := by decide +kernel
theorem dX5_copy_87 : decode cX5_copy 87 = .ok (.iload 4, 2) := by decide +kernel
theorem dX5_copy_89 : decode cX5_copy 89 = .ok (.iload 5, 2) := by decide +kernel
theorem dX5_copy_91 : decode cX5_copy 91 = .ok (.invokestatic 121, 3) := by decide +kernel
theorem dX5_copy_94 : decode cX5_copy 94 = .ok (.ireturn, 1) := by decide +kernel
theorem dX5_fill_0 : decode cX5_fill 0 = .ok (.iload_n 1, 1) := by decide +kernel
theorem dX5_fill_1 : decode cX5_fill 1 = .ok (.invokestatic 22, 3) := by decide +kernel
theorem dX5_fill_4 : decode cX5_fill 4 = .ok (.ifCond .eq 13, 3) := by decide +kernel
theorem dX5_fill_7 : decode cX5_fill 7 = .ok (.iload_n 2, 1) := by decide +kernel
theorem dX5_fill_8 : decode cX5_fill 8 = .ok (.iconst 0, 1) := by decide +kernel
theorem dX5_fill_9 : decode cX5_fill 9 = .ok (.bipush 7, 2) := by decide +kernel
theorem dX5_fill_11 : decode cX5_fill 11 = .ok (.invokestatic 26, 3) := by decide +kernel
theorem dX5_fill_14 : decode cX5_fill 14 = .ok (.ifCond .ne 6, 3) := by decide +kernel
theorem dX5_fill_17 : decode cX5_fill 17 = .ok (.bipush (-2), 2) := by decide +kernel
theorem dX5_fill_19 : decode cX5_fill 19 = .ok (.ireturn, 1) := by decide +kernel
theorem dX5_fill_20 : decode cX5_fill 20 = .ok (.aload_n 0, 1) := by decide +kernel
theorem dX5_fill_21 : decode cX5_fill 21 = .ok (.getfield 11, 3) := by decide +kernel
theorem dX5_fill_24 : decode cX5_fill 24 = .ok (.iload_n 1, 1) := by decide +kernel
theorem dX5_fill_25 : decode cX5_fill 25 = .ok (.aaload, 1) := by decide +kernel
theorem dX5_fill_26 : decode cX5_fill 26 = .ok (.astore 5, 2) := by decide +kernel
theorem dX5_fill_28 : decode cX5_fill 28 = .ok (.aload 5, 2) := by decide +kernel
theorem dX5_fill_30 : decode cX5_fill 30 = .ok (.iload_n 2, 1) := by decide +kernel
theorem dX5_fill_31 : decode cX5_fill 31 = .ok (.invokestatic 60, 3) := by decide +kernel
theorem dX5_fill_34 : decode cX5_fill 34 = .ok (.ifCond .ne 8, 3) := by decide +kernel
theorem dX5_fill_37 : decode cX5_fill 37 = .ok (.iconst 2, 1) := by decide +kernel
theorem dX5_fill_38 : decode cX5_fill 38 = .ok (.invokestatic 34, 3) := by decide +kernel
theorem dX5_fill_41 : decode cX5_fill 41 = .ok (.ireturn, 1) := by decide +kernel
theorem dX5_fill_42 : decode cX5_fill 42 = .ok (.aload 5, 2) := by decide +kernel
theorem dX5_fill_44 : decode cX5_fill 44 = .ok (.ifnonnull 8, 3) := by decide +kernel
theorem dX5_fill_47 : decode cX5_fill 47 = .ok (.iconst 1, 1) := by decide +kernel
theorem dX5_fill_48 : decode cX5_fill 48 = .ok (.invokestatic 34, 3) := by decide +kernel
theorem dX5_fill_51 : decode cX5_fill 51 = .ok (.ireturn, 1) := by decide +kernel
theorem dX5_fill_52 : decode cX5_fill 52 = .ok (.iconst 0, 1) := by decide +kernel
theorem dX5_fill_53 : decode cX5_fill 53 = .ok (.istore 6, 2) := by decide +kernel
theorem dX5_fill_55 : decode cX5_fill 55 = .ok (.iload 6, 2) := by decide +kernel
theorem dX5_fill_57 : decode cX5_fill 57 = .ok (.aload 5, 2) := by decide +kernel
theorem dX5_fill_59 : decode cX5_fill 59 = .ok (.invokevirtual 64, 3) := by decide +kernel
theorem dX5_fill_62 : decode cX5_fill 62 = .ok (.if_icmp .ge 18, 3) := by decide +kernel
theorem dX5_fill_65 : decode cX5_fill 65 = .ok (.aload 5, 2) := by decide +kernel
theorem dX5_fill_67 : decode cX5_fill 67 = .ok (.iload 6, 2) := by decide +kernel
theorem dX5_fill_69 : decode cX5_fill 69 = .ok (.lload_n 3, 1) := by decide +kernel
theorem dX5_fill_70 : decode cX5_fill 70 = .ok (.invokestatic 76, 3) := by decide +kernel
theorem dX5_fill_73 : decode cX5_fill 73 = .ok (.pop, 1) := by decide +kernel
theorem dX5_fill_74 : decode cX5_fill 74 = .ok (.iinc 6 1, 3) := by decide +kernel
theorem dX5_fill_77 : decode cX5_fill 77 = .ok (.goto (-22), 3) := by decide +kernel
theorem dX5_fill_80 : decode cX5_fill 80 = .ok (.aload 5, 2) := by decide +kernel
theorem dX5_fill_82 : decode cX5_fill 82 = .ok (.invokevirtual 64, 3) := by decide +kernel
theorem dX5_fill_85 : decode cX5_fill 85 = .ok (.ireturn, 1) := by decide +kernel
theorem dX5_size_0 : decode cX5_size 0 = .ok (.iload_n 1, 1) := by decide +kernel
theorem dX5_size_1 : decode cX5_size 1 = .ok (.invokestatic 22, 3) := by decide +kernel
theorem dX5_size_4 : decode cX5_size 4 = .ok (.ifCond .eq 16, 3) := by decide +kernel
theorem dX5_size_7 : decode cX5_size 7 = .ok (.aload_n 0, 1) := by decide +kernel
theorem dX5_size_8 : decode cX5_size 8 = .ok (.getfield 11, 3) := by decide +kernel
theorem dX5_size_11 : decode cX5_size 11 = .ok (.iload_n 1, 1) := by decide +kernel
theorem dX5_size_12 : decode cX5_size 12 = .ok (.aaload, 1) := by decide +kernel
theorem dX5_size_13 : decode cX5_size 13 = .ok (.iconst 3, 1) := by decide +kernel
theorem dX5_size_14 : decode cX5_size 14 = .ok (.invokestatic 127, 3) := by decide +kernel
theorem dX5_size_17 : decode cX5_size 17 = .ok (.goto 5, 3) := by decide +kernel
theorem dX5_size_20 : decode cX5_size 20 = .ok (.bipush (-2), 2) := by decide +kernel
theorem dX5_size_22 : decode cX5_size 22 = .ok (.ireturn, 1) := by decide +kernel
theorem dX5_alike_0 : decode cX5_alike 0 = .ok (.iload_n 1, 1) := by decide +kernel
theorem dX5_alike_1 : decode cX5_alike 1 = .ok (.invokestatic 22, 3) := by decide +kernel
theorem dX5_alike_4 : decode cX5_alike 4 = .ok (.ifCond .eq 10, 3) := by decide +kernel
theorem dX5_alike_7 : decode cX5_alike 7 = .ok (.iload_n 2, 1) := by decide +kernel
theorem dX5_alike_8 : decode cX5_alike 8 = .ok (.invokestatic 22, 3) := by decide +kernel
theorem dX5_alike_11 : decode cX5_alike 11 = .ok (.ifCond .ne 6, 3) := by decide +kernel
theorem dX5_alike_14 : decode cX5_alike 14 = .ok (.bipush (-2), 2) := by decide +kernel
theorem dX5_alike_16 : decode cX5_alike 16 = .ok (.ireturn, 1) := by decide +kernel
theorem dX5_alike_17 : decode cX5_alike 17 = .ok (.aload_n 0, 1) := by decide +kernel
theorem dX5_alike_18 : decode cX5_alike 18 = .ok (.getfield 11, 3) := by decide +kernel
theorem dX5_alike_21 : decode cX5_alike 21 = .ok (.iload_n 1, 1) := by decide +kernel
theorem dX5_alike_22 : decode cX5_alike 22 = .ok (.aaload, 1) := by decide +kernel
theorem dX5_alike_23 : decode cX5_alike 23 = .ok (.astore_n 3, 1) := by decide +kernel
theorem dX5_alike_24 : decode cX5_alike 24 = .ok (.aload_n 0, 1) := by decide +kernel
theorem dX5_alike_25 : decode cX5_alike 25 = .ok (.getfield 11, 3) := by decide +kernel
theorem dX5_alike_28 : decode cX5_alike 28 = .ok (.iload_n 2, 1) := by decide +kernel
theorem dX5_alike_29 : decode cX5_alike 29 = .ok (.aaload, 1) := by decide +kernel
theorem dX5_alike_30 : decode cX5_alike 30 = .ok (.astore 4, 2) := by decide +kernel
theorem dX5_alike_32 : decode cX5_alike 32 = .ok (.aload_n 3, 1) := by decide +kernel
theorem dX5_alike_33 : decode cX5_alike 33 = .ok (.aload 4, 2) := by decide +kernel
theorem dX5_alike_35 : decode cX5_alike 35 = .ok (.if_acmp .ne 5, 3) := by decide +kernel
theorem dX5_alike_38 : decode cX5_alike 38 = .ok (.iconst 2, 1) := by decide +kernel
theorem dX5_alike_39 : decode cX5_alike 39 = .ok (.ireturn, 1) := by decide +kernel
theorem dX5_alike_40 : decode cX5_alike 40 = .ok (.aload_n 3, 1) := by decide +kernel
theorem dX5_alike_41 : decode cX5_alike 41 = .ok (.aload 4, 2) := by decide +kernel
theorem dX5_alike_43 : decode cX5_alike 43 = .ok (.iconst 3, 1) := by decide +kernel
theorem dX5_alike_44 : decode cX5_alike 44 = .ok (.invokestatic 130, 3) := by decide +kernel
theorem dX5_alike_47 : decode cX5_alike 47 = .ok (.ifCond .eq 7, 3) := by decide +kernel
theorem dX5_alike_50 : decode cX5_alike 50 = .ok (.iconst 1, 1) := by decide +kernel
theorem dX5_alike_51 : decode cX5_alike 51 = .ok (.goto 4, 3) := by decide +kernel
theorem dX5_alike_54 : decode cX5_alike 54 = .ok (.iconst 0, 1) := by decide +kernel
theorem dX5_alike_55 : decode cX5_alike 55 = .ok (.ireturn, 1) := by decide +kernel
theorem dX5_trouble_0 : decode cX5_trouble 0 = .ok (.iload_n 1, 1) := by decide +kernel
theorem dX5_trouble_1 : decode cX5_trouble 1 = .ok (.invokestatic 134, 3) := by decide +kernel
theorem dX5_trouble_4 : decode cX5_trouble 4 = .ok (.ifCond .eq 8, 3) := by decide +kernel
theorem dX5_trouble_7 : decode cX5_trouble 7 = .ok (.iload_n 2, 1) := by decide +kernel
theorem dX5_trouble_8 : decode cX5_trouble 8 = .ok (.iconst (-1), 1) := by decide +kernel
theorem dX5_trouble_9 : decode cX5_trouble 9 = .ok (.if_icmp .ge 6, 3) := by decide +kernel
theorem dX5_trouble_12 : decode cX5_trouble 12 = .ok (.bipush (-2), 2) := by decide +kernel
theorem dX5_trouble_14 : decode cX5_trouble 14 = .ok (.ireturn, 1) := by decide +kernel
theorem dX5_trouble_15 : decode cX5_trouble 15 = .ok (.aload_n 0, 1) := by decide +kernel
theorem dX5_trouble_16 : decode cX5_trouble 16 = .ok (.getfield 15, 3) := by decide +kernel
theorem dX5_trouble_19 : decode cX5_trouble 19 = .ok (.iload_n 1, 1) := by decide +kernel
theorem dX5_trouble_20 : decode cX5_trouble 20 = .ok (.iaload, 1) := by decide +kernel
theorem dX5_trouble_21 : decode cX5_trouble 21 = .ok (.istore_n 3, 1) := by decide +kernel
theorem dX5_trouble_22 : decode cX5_trouble 22 = .ok (.aload_n 0, 1) := by decide +kernel
theorem dX5_trouble_23 : decode cX5_trouble 23 = .ok (.getfield 15, 3) := by decide +kernel
theorem dX5_trouble_26 : decode cX5_trouble 26 = .ok (.iload_n 1, 1) := by decide +kernel
theorem dX5_trouble_27 : decode cX5_trouble 27 = .ok (.iload_n 2, 1) := by decide +kernel
theorem dX5_trouble_28 : decode cX5_trouble 28 = .ok (.iastore, 1) := by decide +kernel
theorem dX5_trouble_29 : decode cX5_trouble 29 = .ok (.iload_n 3, 1) := by decide +kernel
theorem dX5_trouble_30 : decode cX5_trouble 30 = .ok (.ireturn, 1) := by decide +kernel
theorem dX5_raise_0 : decode cX5_raise 0 = .ok (.iload_n 1, 1) := by decide +kernel
theorem dX5_raise_1 : decode cX5_raise 1 = .ok (.invokestatic 134, 3) := by decide +kernel
theorem dX5_raise_4 : decode cX5_raise 4 = .ok (.ifCond .eq 14, 3) := by decide +kernel
theorem dX5_raise_7 : decode cX5_raise 7 = .ok (.iload_n 2, 1) := by decide +kernel
theorem dX5_raise_8 : decode cX5_raise 8 = .ok (.iconst 1, 1) := by decide +kernel
theorem dX5_raise_9 : decode cX5_raise 9 = .ok (.if_icmp .lt 9, 3) := by decide +kernel
theorem dX5_raise_12 : decode cX5_raise 12 = .ok (.iload_n 2, 1) := by decide +kernel
theorem dX5_raise_13 : decode cX5_raise 13 = .ok (.bipush 8, 2) := by decide +kernel
theorem dX5_raise_15 : decode cX5_raise 15 = .ok (.if_icmp .le 6, 3) := by decide +kernel
theorem dX5_raise_18 : decode cX5_raise 18 = .ok (.bipush (-2), 2) := by decide +kernel
theorem dX5_raise_20 : decode cX5_raise 20 = .ok (.ireturn, 1) := by decide +kernel
theorem dX5_raise_21 : decode cX5_raise 21 = .ok (.aload_n 0, 1) := by decide +kernel
theorem dX5_raise_22 : decode cX5_raise 22 = .ok (.iconst 0, 1) := by decide +kernel
theorem dX5_raise_23 : decode cX5_raise 23 = .ok (.putfield 137, 3) := by decide +kernel
theorem dX5_raise_26 : decode cX5_raise 26 = .ok (.iload_n 2, 1) := by decide +kernel
theorem dX5_raise_27 : decode cX5_raise 27 = .ok (.istore_n 3, 1) := by decide +kernel
theorem dX5_raise_28 : decode cX5_raise 28 = .ok (.iload_n 3, 1) := by decide +kernel
theorem dX5_raise_29 : decode cX5_raise 29 = .ok (.iconst 1, 1) := by decide +kernel
theorem dX5_raise_30 : decode cX5_raise 30 = .ok (.if_icmp .lt 22, 3) := by decide +kernel
theorem dX5_raise_33 : decode cX5_raise 33 = .ok (.aload_n 0, 1) := by decide +kernel
theorem dX5_raise_34 : decode cX5_raise 34 = .ok (.aload_n 0, 1) := by decide +kernel
theorem dX5_raise_35 : decode cX5_raise 35 = .ok (.getfield 137, 3) := by decide +kernel
theorem dX5_raise_38 : decode cX5_raise 38 = .ok (.bipush 10, 2) := by decide +kernel
theorem dX5_raise_40 : decode cX5_raise 40 = .ok (.imul, 1) := by decide +kernel
theorem dX5_raise_41 : decode cX5_raise 41 = .ok (.iload_n 3, 1) := by decide +kernel
theorem dX5_raise_42 : decode cX5_raise 42 = .ok (.iadd, 1) := by decide +kernel
theorem dX5_raise_43 : decode cX5_raise 43 = .ok (.putfield 137, 3) := by decide +kernel
theorem dX5_raise_46 : decode cX5_raise 46 = .ok (.iinc 3 (-1), 3) := by decide +kernel
theorem dX5_raise_49 : decode cX5_raise 49 = .ok (.goto (-21), 3) := by decide +kernel
theorem dX5_raise_52 : decode cX5_raise 52 = .ok (.aload_n 0, 1) := by decide +kernel
theorem dX5_raise_53 : decode cX5_raise 53 = .ok (.aload_n 0, 1) := by decide +kernel
theorem dX5_raise_54 : decode cX5_raise 54 = .ok (.getfield 15, 3) := by decide +kernel
theorem dX5_raise_57 : decode cX5_raise 57 = .ok (.iload_n 1, 1) := by decide +kernel
theorem dX5_raise_58 : decode cX5_raise 58 = .ok (.iaload, 1) := by decide +kernel
theorem dX5_raise_59 : decode cX5_raise 59 = .ok (.putfield 140, 3) := by decide +kernel
theorem dX5_raise_62 : decode cX5_raise 62 = .ok (.aload_n 0, 1) := by decide +kernel
theorem dX5_raise_63 : decode cX5_raise 63 = .ok (.getfield 140, 3) := by decide +kernel
theorem dX5_raise_66 : decode cX5_raise 66 = .ok (.iconst (-1), 1) := by decide +kernel
theorem dX5_raise_67 : decode cX5_raise 67 = .ok (.if_icmp .eq 8, 3) := by decide +kernel
theorem dX5_raise_70 : decode cX5_raise 70 = .ok (.bipush 6, 2) := by decide +kernel
theorem dX5_raise_72 : decode cX5_raise 72 = .ok (.goto 4, 3) := by decide +kernel
theorem dX5_raise_75 : decode cX5_raise 75 = .ok (.iconst 1, 1) := by decide +kernel
theorem dX5_raise_76 : decode cX5_raise 76 = .ok (.invokestatic 34, 3) := by decide +kernel
theorem dX5_raise_79 : decode cX5_raise 79 = .ok (.ireturn, 1) := by decide +kernel
theorem dX5_passed_0 : decode cX5_passed 0 = .ok (.aload_n 0, 1) := by decide +kernel
theorem dX5_passed_1 : decode cX5_passed 1 = .ok (.getfield 137, 3) := by decide +kernel
theorem dX5_passed_4 : decode cX5_passed 4 = .ok (.ireturn, 1) := by decide +kernel
theorem dX5_number_0 : decode cX5_number 0 = .ok (.aload_n 0, 1) := by decide +kernel
theorem dX5_number_1 : decode cX5_number 1 = .ok (.getfield 140, 3) := by decide +kernel
theorem dX5_number_4 : decode cX5_number 4 = .ok (.ireturn, 1) := by decide +kernel
theorem dX5_fault_0 : decode cX5_fault 0 = .ok (.aload_n 0, 1) := by decide +kernel
theorem dX5_fault_1 : decode cX5_fault 1 = .ok (.getfield 143, 3) := by decide +kernel
theorem dX5_fault_4 : decode cX5_fault 4 = .ok (.ireturn, 1) := by decide +kernel
theorem dX5_clear_0 : decode cX5_clear 0 = .ok (.aload_n 0, 1) := by decide +kernel
theorem dX5_clear_1 : decode cX5_clear 1 = .ok (.invokevirtual 146, 3) := by decide +kernel
theorem dX5_clear_4 : decode cX5_clear 4 = .ok (.istore_n 1, 1) := by decide +kernel
theorem dX5_clear_5 : decode cX5_clear 5 = .ok (.aload_n 0, 1) := by decide +kernel
theorem dX5_clear_6 : decode cX5_clear 6 = .ok (.invokevirtual 19, 3) := by decide +kernel
theorem dX5_clear_9 : decode cX5_clear 9 = .ok (.iload_n 1, 1) := by decide +kernel
theorem dX5_clear_10 : decode cX5_clear 10 = .ok (.ireturn, 1) := by decide +kernel
theorem dX5_told_0 : decode cX5_told 0 = .ok (.iload_n 1, 1) := by decide +kernel
theorem dX5_told_1 : decode cX5_told 1 = .ok (.tableswitch 42 0 2 #[27, 32, 37], 27) := by decide +kernel
theorem dX5_told_28 : decode cX5_told 28 = .ok (.aload_n 0, 1) := by decide +kernel
theorem dX5_told_29 : decode cX5_told 29 = .ok (.invokevirtual 146, 3) := by decide +kernel
theorem dX5_told_32 : decode cX5_told 32 = .ok (.ireturn, 1) := by decide +kernel
theorem dX5_told_33 : decode cX5_told 33 = .ok (.aload_n 0, 1) := by decide +kernel
theorem dX5_told_34 : decode cX5_told 34 = .ok (.getfield 149, 3) := by decide +kernel
theorem dX5_told_37 : decode cX5_told 37 = .ok (.ireturn, 1) := by decide +kernel
theorem dX5_told_38 : decode cX5_told 38 = .ok (.aload_n 0, 1) := by decide +kernel
theorem dX5_told_39 : decode cX5_told 39 = .ok (.getfield 80, 3) := by decide +kernel
theorem dX5_told_42 : decode cX5_told 42 = .ok (.ireturn, 1) := by decide +kernel
theorem dX5_told_43 : decode cX5_told 43 = .ok (.bipush (-2), 2) := by decide +kernel
theorem dX5_told_45 : decode cX5_told 45 = .ok (.ireturn, 1) := by decide +kernel
theorem dX5_begin_0 : decode cX5_begin 0 = .ok (.iconst 0, 1) := by decide +kernel
theorem dX5_begin_1 : decode cX5_begin 1 = .ok (.istore_n 1, 1) := by decide +kernel
theorem dX5_begin_2 : decode cX5_begin 2 = .ok (.iload_n 1, 1) := by decide +kernel
theorem dX5_begin_3 : decode cX5_begin 3 = .ok (.bipush 16, 2) := by decide +kernel
theorem dX5_begin_5 : decode cX5_begin 5 = .ok (.if_icmp .ge 16, 3) := by decide +kernel
theorem dX5_begin_8 : decode cX5_begin 8 = .ok (.aload_n 0, 1) := by decide +kernel
theorem dX5_begin_9 : decode cX5_begin 9 = .ok (.getfield 11, 3) := by decide +kernel
theorem dX5_begin_12 : decode cX5_begin 12 = .ok (.iload_n 1, 1) := by decide +kernel
theorem dX5_begin_13 : decode cX5_begin 13 = .ok (.aconst_null, 1) := by decide +kernel
theorem dX5_begin_14 : decode cX5_begin 14 = .ok (.aastore, 1) := by decide +kernel
theorem dX5_begin_15 : decode cX5_begin 15 = .ok (.iinc 1 1, 3) := by decide +kernel
theorem dX5_begin_18 : decode cX5_begin 18 = .ok (.goto (-16), 3) := by decide +kernel
theorem dX5_begin_21 : decode cX5_begin 21 = .ok (.iconst 0, 1) := by decide +kernel
theorem dX5_begin_22 : decode cX5_begin 22 = .ok (.istore_n 1, 1) := by decide +kernel
theorem dX5_begin_23 : decode cX5_begin 23 = .ok (.iload_n 1, 1) := by decide +kernel
theorem dX5_begin_24 : decode cX5_begin 24 = .ok (.bipush 8, 2) := by decide +kernel
theorem dX5_begin_26 : decode cX5_begin 26 = .ok (.if_icmp .ge 16, 3) := by decide +kernel
theorem dX5_begin_29 : decode cX5_begin 29 = .ok (.aload_n 0, 1) := by decide +kernel
theorem dX5_begin_30 : decode cX5_begin 30 = .ok (.getfield 15, 3) := by decide +kernel
theorem dX5_begin_33 : decode cX5_begin 33 = .ok (.iload_n 1, 1) := by decide +kernel
theorem dX5_begin_34 : decode cX5_begin 34 = .ok (.iconst (-1), 1) := by decide +kernel
theorem dX5_begin_35 : decode cX5_begin 35 = .ok (.iastore, 1) := by decide +kernel
theorem dX5_begin_36 : decode cX5_begin 36 = .ok (.iinc 1 1, 3) := by decide +kernel
theorem dX5_begin_39 : decode cX5_begin 39 = .ok (.goto (-16), 3) := by decide +kernel
theorem dX5_begin_42 : decode cX5_begin 42 = .ok (.aload_n 0, 1) := by decide +kernel
theorem dX5_begin_43 : decode cX5_begin 43 = .ok (.iconst 0, 1) := by decide +kernel
theorem dX5_begin_44 : decode cX5_begin 44 = .ok (.putfield 137, 3) := by decide +kernel
theorem dX5_begin_47 : decode cX5_begin 47 = .ok (.aload_n 0, 1) := by decide +kernel
theorem dX5_begin_48 : decode cX5_begin 48 = .ok (.iconst (-1), 1) := by decide +kernel
theorem dX5_begin_49 : decode cX5_begin 49 = .ok (.putfield 140, 3) := by decide +kernel
theorem dX5_begin_52 : decode cX5_begin 52 = .ok (.aload_n 0, 1) := by decide +kernel
theorem dX5_begin_53 : decode cX5_begin 53 = .ok (.iconst 0, 1) := by decide +kernel
theorem dX5_begin_54 : decode cX5_begin 54 = .ok (.putfield 143, 3) := by decide +kernel
theorem dX5_begin_57 : decode cX5_begin 57 = .ok (.return_, 1) := by decide +kernel
theorem dX5_heldColumns_0 : decode cX5_heldColumns 0 = .ok (.iconst 0, 1) := by decide +kernel
theorem dX5_heldColumns_1 : decode cX5_heldColumns 1 = .ok (.istore_n 1, 1) := by decide +kernel
theorem dX5_heldColumns_2 : decode cX5_heldColumns 2 = .ok (.iconst 0, 1) := by decide +kernel
theorem dX5_heldColumns_3 : decode cX5_heldColumns 3 = .ok (.istore_n 2, 1) := by decide +kernel
theorem dX5_heldColumns_4 : decode cX5_heldColumns 4 = .ok (.iload_n 2, 1) := by decide +kernel
theorem dX5_heldColumns_5 : decode cX5_heldColumns 5 = .ok (.bipush 16, 2) := by decide +kernel
theorem dX5_heldColumns_7 : decode cX5_heldColumns 7 = .ok (.if_icmp .ge 21, 3) := by decide +kernel
theorem dX5_heldColumns_10 : decode cX5_heldColumns 10 = .ok (.aload_n 0, 1) := by decide +kernel
theorem dX5_heldColumns_11 : decode cX5_heldColumns 11 = .ok (.getfield 11, 3) := by decide +kernel
theorem dX5_heldColumns_14 : decode cX5_heldColumns 14 = .ok (.iload_n 2, 1) := by decide +kernel
theorem dX5_heldColumns_15 : decode cX5_heldColumns 15 = .ok (.aaload, 1) := by decide +kernel
theorem dX5_heldColumns_16 : decode cX5_heldColumns 16 = .ok (.ifnull 6, 3) := by decide +kernel
theorem dX5_heldColumns_19 : decode cX5_heldColumns 19 = .ok (.iinc 1 1, 3) := by decide +kernel
theorem dX5_heldColumns_22 : decode cX5_heldColumns 22 = .ok (.iinc 2 1, 3) := by decide +kernel
theorem dX5_heldColumns_25 : decode cX5_heldColumns 25 = .ok (.goto (-21), 3) := by decide +kernel
theorem dX5_heldColumns_28 : decode cX5_heldColumns 28 = .ok (.iload_n 1, 1) := by decide +kernel
theorem dX5_heldColumns_29 : decode cX5_heldColumns 29 = .ok (.ireturn, 1) := by decide +kernel
theorem dX5_isFull_0 : decode cX5_isFull 0 = .ok (.aload_n 0, 1) := by decide +kernel
theorem dX5_isFull_1 : decode cX5_isFull 1 = .ok (.getfield 149, 3) := by decide +kernel
theorem dX5_isFull_4 : decode cX5_isFull 4 = .ok (.sipush 6000, 3) := by decide +kernel
theorem dX5_isFull_7 : decode cX5_isFull 7 = .ok (.if_icmp .lt 7, 3) := by decide +kernel
theorem dX5_isFull_10 : decode cX5_isFull 10 = .ok (.iconst 1, 1) := by decide +kernel
theorem dX5_isFull_11 : decode cX5_isFull 11 = .ok (.goto 4, 3) := by decide +kernel
theorem dX5_isFull_14 : decode cX5_isFull 14 = .ok (.iconst 0, 1) := by decide +kernel
theorem dX5_isFull_15 : decode cX5_isFull 15 = .ok (.ireturn, 1) := by decide +kernel
theorem dX5_isColumn_0 : decode cX5_isColumn 0 = .ok (.iload_n 0, 1) := by decide +kernel
theorem dX5_isColumn_1 : decode cX5_isColumn 1 = .ok (.ifCond .lt 13, 3) := by decide +kernel
theorem dX5_isColumn_4 : decode cX5_isColumn 4 = .ok (.iload_n 0, 1) := by decide +kernel
theorem dX5_isColumn_5 : decode cX5_isColumn 5 = .ok (.bipush 16, 2) := by decide +kernel
theorem dX5_isColumn_7 : decode cX5_isColumn 7 = .ok (.if_icmp .ge 7, 3) := by decide +kernel
theorem dX5_isColumn_10 : decode cX5_isColumn 10 = .ok (.iconst 1, 1) := by decide +kernel
theorem dX5_isColumn_11 : decode cX5_isColumn 11 = .ok (.goto 4, 3) := by decide +kernel
theorem dX5_isColumn_14 : decode cX5_isColumn 14 = .ok (.iconst 0, 1) := by decide +kernel
theorem dX5_isColumn_15 : decode cX5_isColumn 15 = .ok (.ireturn, 1) := by decide +kernel
theorem dX5_isTrouble_0 : decode cX5_isTrouble 0 = .ok (.iload_n 0, 1) := by decide +kernel
theorem dX5_isTrouble_1 : decode cX5_isTrouble 1 = .ok (.ifCond .lt 13, 3) := by decide +kernel
theorem dX5_isTrouble_4 : decode cX5_isTrouble 4 = .ok (.iload_n 0, 1) := by decide +kernel
theorem dX5_isTrouble_5 : decode cX5_isTrouble 5 = .ok (.bipush 8, 2) := by decide +kernel
theorem dX5_isTrouble_7 : decode cX5_isTrouble 7 = .ok (.if_icmp .ge 7, 3) := by decide +kernel
theorem dX5_isTrouble_10 : decode cX5_isTrouble 10 = .ok (.iconst 1, 1) := by decide +kernel
theorem dX5_isTrouble_11 : decode cX5_isTrouble 11 = .ok (.goto 4, 3) := by decide +kernel
theorem dX5_isTrouble_14 : decode cX5_isTrouble 14 = .ok (.iconst 0, 1) := by decide +kernel
theorem dX5_isTrouble_15 : decode cX5_isTrouble 15 = .ok (.ireturn, 1) := by decide +kernel
theorem dX5_isKind_0 : decode cX5_isKind 0 = .ok (.iload_n 0, 1) := by decide +kernel
theorem dX5_isKind_1 : decode cX5_isKind 1 = .ok (.iload_n 1, 1) := by decide +kernel
theorem dX5_isKind_2 : decode cX5_isKind 2 = .ok (.if_icmp .lt 12, 3) := by decide +kernel
theorem dX5_isKind_5 : decode cX5_isKind 5 = .ok (.iload_n 0, 1) := by decide +kernel
theorem dX5_isKind_6 : decode cX5_isKind 6 = .ok (.iload_n 2, 1) := by decide +kernel
theorem dX5_isKind_7 : decode cX5_isKind 7 = .ok (.if_icmp .gt 7, 3) := by decide +kernel
theorem dX5_isKind_10 : decode cX5_isKind 10 = .ok (.iconst 1, 1) := by decide +kernel
theorem dX5_isKind_11 : decode cX5_isKind 11 = .ok (.goto 4, 3) := by decide +kernel
theorem dX5_isKind_14 : decode cX5_isKind 14 = .ok (.iconst 0, 1) := by decide +kernel
theorem dX5_isKind_15 : decode cX5_isKind 15 = .ok (.ireturn, 1) := by decide +kernel
theorem dX5_isTooDeep_0 : decode cX5_isTooDeep 0 = .ok (.iload_n 0, 1) := by decide +kernel
theorem dX5_isTooDeep_1 : decode cX5_isTooDeep 1 = .ok (.bipush 30, 2) := by decide +kernel
theorem dX5_isTooDeep_3 : decode cX5_isTooDeep 3 = .ok (.if_icmp .gt 15, 3) := by decide +kernel
theorem dX5_isTooDeep_6 : decode cX5_isTooDeep 6 = .ok (.iload_n 1, 1) := by decide +kernel
theorem dX5_isTooDeep_7 : decode cX5_isTooDeep 7 = .ok (.bipush 30, 2) := by decide +kernel
theorem dX5_isTooDeep_9 : decode cX5_isTooDeep 9 = .ok (.if_icmp .gt 9, 3) := by decide +kernel
theorem dX5_isTooDeep_12 : decode cX5_isTooDeep 12 = .ok (.iload_n 2, 1) := by decide +kernel
theorem dX5_isTooDeep_13 : decode cX5_isTooDeep 13 = .ok (.bipush 30, 2) := by decide +kernel
theorem dX5_isTooDeep_15 : decode cX5_isTooDeep 15 = .ok (.if_icmp .le 5, 3) := by decide +kernel
theorem dX5_isTooDeep_18 : decode cX5_isTooDeep 18 = .ok (.iconst 1, 1) := by decide +kernel
theorem dX5_isTooDeep_19 : decode cX5_isTooDeep 19 = .ok (.ireturn, 1) := by decide +kernel
theorem dX5_isTooDeep_20 : decode cX5_isTooDeep 20 = .ok (.iload_n 0, 1) := by decide +kernel
theorem dX5_isTooDeep_21 : decode cX5_isTooDeep 21 = .ok (.iconst 0, 1) := by decide +kernel
theorem dX5_isTooDeep_22 : decode cX5_isTooDeep 22 = .ok (.invokestatic 152, 3) := by decide +kernel
theorem dX5_isTooDeep_25 : decode cX5_isTooDeep 25 = .ok (.iload_n 1, 1) := by decide +kernel
theorem dX5_isTooDeep_26 : decode cX5_isTooDeep 26 = .ok (.iconst 0, 1) := by decide +kernel
theorem dX5_isTooDeep_27 : decode cX5_isTooDeep 27 = .ok (.invokestatic 152, 3) := by decide +kernel
theorem dX5_isTooDeep_30 : decode cX5_isTooDeep 30 = .ok (.imul, 1) := by decide +kernel
theorem dX5_isTooDeep_31 : decode cX5_isTooDeep 31 = .ok (.iload_n 2, 1) := by decide +kernel
theorem dX5_isTooDeep_32 : decode cX5_isTooDeep 32 = .ok (.iconst 0, 1) := by decide +kernel
theorem dX5_isTooDeep_33 : decode cX5_isTooDeep 33 = .ok (.invokestatic 152, 3) := by decide +kernel
theorem dX5_isTooDeep_36 : decode cX5_isTooDeep 36 = .ok (.imul, 1) := by decide +kernel
theorem dX5_isTooDeep_37 : decode cX5_isTooDeep 37 = .ok (.sipush 400, 3) := by decide +kernel
theorem dX5_isTooDeep_40 : decode cX5_isTooDeep 40 = .ok (.if_icmp .le 7, 3) := by decide +kernel
theorem dX5_isTooDeep_43 : decode cX5_isTooDeep 43 = .ok (.iconst 1, 1) := by decide +kernel
theorem dX5_isTooDeep_44 : decode cX5_isTooDeep 44 = .ok (.goto 4, 3) := by decide +kernel
theorem dX5_isTooDeep_47 : decode cX5_isTooDeep 47 = .ok (.iconst 0, 1) := by decide +kernel
theorem dX5_isTooDeep_48 : decode cX5_isTooDeep 48 = .ok (.ireturn, 1) := by decide +kernel
theorem dX5_against_0 : decode cX5_against 0 = .ok (.bipush (-10), 2) := by decide +kernel
theorem dX5_against_2 : decode cX5_against 2 = .ok (.iload_n 0, 1) := by decide +kernel
theorem dX5_against_3 : decode cX5_against 3 = .ok (.isub, 1) := by decide +kernel
theorem dX5_against_4 : decode cX5_against 4 = .ok (.ireturn, 1) := by decide +kernel
theorem dX5_noBits_0 : decode cX5_noBits 0 = .ok (.aload_n 0, 1) := by decide +kernel
theorem dX5_noBits_1 : decode cX5_noBits 1 = .ok (.iload_n 1, 1) := by decide +kernel
theorem dX5_noBits_2 : decode cX5_noBits 2 = .ok (.putfield 143, 3) := by decide +kernel
theorem dX5_noBits_5 : decode cX5_noBits 5 = .ok (.lconst 0, 1) := by decide +kernel
theorem dX5_noBits_6 : decode cX5_noBits 6 = .ok (.lreturn, 1) := by decide +kernel
theorem dX5_newTable_0 : decode cX5_newTable 0 = .ok (.aload_n 0, 1) := by decide +kernel
theorem dX5_newTable_1 : decode cX5_newTable 1 = .ok (.dup, 1) := by decide +kernel
theorem dX5_newTable_2 : decode cX5_newTable 2 = .ok (.getfield 149, 3) := by decide +kernel
theorem dX5_newTable_5 : decode cX5_newTable 5 = .ok (.iload_n 2, 1) := by decide +kernel
theorem dX5_newTable_6 : decode cX5_newTable 6 = .ok (.iadd, 1) := by decide +kernel
theorem dX5_newTable_7 : decode cX5_newTable 7 = .ok (.putfield 149, 3) := by decide +kernel
theorem dX5_newTable_10 : decode cX5_newTable 10 = .ok (.iload_n 1, 1) := by decide +kernel
theorem dX5_newTable_11 : decode cX5_newTable 11 = .ok (.iconst 0, 1) := by decide +kernel
theorem dX5_newTable_12 : decode cX5_newTable 12 = .ok (.bipush 7, 2) := by decide +kernel
theorem dX5_newTable_14 : decode cX5_newTable 14 = .ok (.invokestatic 26, 3) := by decide +kernel
theorem dX5_newTable_17 : decode cX5_newTable 17 = .ok (.ifCond .eq 15, 3) := by decide +kernel
theorem dX5_newTable_20 : decode cX5_newTable 20 = .ok (.new 125, 3) := by decide +kernel
theorem dX5_newTable_23 : decode cX5_newTable 23 = .ok (.dup, 1) := by decide +kernel
theorem dX5_newTable_24 : decode cX5_newTable 24 = .ok (.iload_n 1, 1) := by decide +kernel
theorem dX5_newTable_25 : decode cX5_newTable 25 = .ok (.iload_n 2, 1) := by decide +kernel
theorem dX5_newTable_26 : decode cX5_newTable 26 = .ok (.invokespecial 155, 3) := by decide +kernel
theorem dX5_newTable_29 : decode cX5_newTable 29 = .ok (.goto 12, 3) := by decide +kernel
theorem dX5_newTable_32 : decode cX5_newTable 32 = .ok (.new 158, 3) := by decide +kernel
theorem dX5_newTable_35 : decode cX5_newTable 35 = .ok (.dup, 1) := by decide +kernel
theorem dX5_newTable_36 : decode cX5_newTable 36 = .ok (.iload_n 1, 1) := by decide +kernel
theorem dX5_newTable_37 : decode cX5_newTable 37 = .ok (.iload_n 2, 1) := by decide +kernel
theorem dX5_newTable_38 : decode cX5_newTable 38 = .ok (.invokespecial 160, 3) := by decide +kernel
theorem dX5_newTable_41 : decode cX5_newTable 41 = .ok (.areturn, 1) := by decide +kernel
theorem dX5_newDeepTable_0 : decode cX5_newDeepTable 0 = .ok (.aload_n 0, 1) := by decide +kernel
theorem dX5_newDeepTable_1 : decode cX5_newDeepTable 1 = .ok (.iload_n 1, 1) := by decide +kernel
theorem dX5_newDeepTable_2 : decode cX5_newDeepTable 2 = .ok (.iload_n 2, 1) := by decide +kernel
theorem dX5_newDeepTable_3 : decode cX5_newDeepTable 3 = .ok (.invokevirtual 38, 3) := by decide +kernel
theorem dX5_newDeepTable_6 : decode cX5_newDeepTable 6 = .ok (.astore 5, 2) := by decide +kernel
theorem dX5_newDeepTable_8 : decode cX5_newDeepTable 8 = .ok (.iconst 0, 1) := by decide +kernel
theorem dX5_newDeepTable_9 : decode cX5_newDeepTable 9 = .ok (.istore 6, 2) := by decide +kernel
theorem dX5_newDeepTable_11 : decode cX5_newDeepTable 11 = .ok (.iload 6, 2) := by decide +kernel
theorem dX5_newDeepTable_13 : decode cX5_newDeepTable 13 = .ok (.iload_n 2, 1) := by decide +kernel
theorem dX5_newDeepTable_14 : decode cX5_newDeepTable 14 = .ok (.if_icmp .ge 44, 3) := by decide +kernel
theorem dX5_newDeepTable_17 : decode cX5_newDeepTable 17 = .ok (.aload_n 0, 1) := by decide +kernel
theorem dX5_newDeepTable_18 : decode cX5_newDeepTable 18 = .ok (.iload_n 1, 1) := by decide +kernel
theorem dX5_newDeepTable_19 : decode cX5_newDeepTable 19 = .ok (.invokestatic 112, 3) := by decide +kernel
theorem dX5_newDeepTable_22 : decode cX5_newDeepTable 22 = .ok (.iload_n 3, 1) := by decide +kernel
theorem dX5_newDeepTable_23 : decode cX5_newDeepTable 23 = .ok (.invokevirtual 38, 3) := by decide +kernel
theorem dX5_newDeepTable_26 : decode cX5_newDeepTable 26 = .ok (.astore 7, 2) := by decide +kernel
theorem dX5_newDeepTable_28 : decode cX5_newDeepTable 28 = .ok (.aload 5, 2) := by decide +kernel
theorem dX5_newDeepTable_30 : decode cX5_newDeepTable 30 = .ok (.iload 6, 2) := by decide +kernel
theorem dX5_newDeepTable_32 : decode cX5_newDeepTable 32 = .ok (.aload 7, 2) := by decide +kernel
theorem dX5_newDeepTable_34 : decode cX5_newDeepTable 34 = .ok (.invokestatic 87, 3) := by decide +kernel
theorem dX5_newDeepTable_37 : decode cX5_newDeepTable 37 = .ok (.pop, 1) := by decide +kernel
theorem dX5_newDeepTable_38 : decode cX5_newDeepTable 38 = .ok (.iload_n 1, 1) := by decide +kernel
theorem dX5_newDeepTable_39 : decode cX5_newDeepTable 39 = .ok (.bipush 13, 2) := by decide +kernel
theorem dX5_newDeepTable_41 : decode cX5_newDeepTable 41 = .ok (.if_icmp .ne 11, 3) := by decide +kernel
theorem dX5_newDeepTable_44 : decode cX5_newDeepTable 44 = .ok (.aload_n 0, 1) := by decide +kernel
theorem dX5_newDeepTable_45 : decode cX5_newDeepTable 45 = .ok (.aload 7, 2) := by decide +kernel
theorem dX5_newDeepTable_47 : decode cX5_newDeepTable 47 = .ok (.iload 4, 2) := by decide +kernel
theorem dX5_newDeepTable_49 : decode cX5_newDeepTable 49 = .ok (.invokevirtual 161, 3) := by decide +kernel
theorem dX5_newDeepTable_52 : decode cX5_newDeepTable 52 = .ok (.iinc 6 1, 3) := by decide +kernel
theorem dX5_newDeepTable_55 : decode cX5_newDeepTable 55 = .ok (.goto (-44), 3) := by decide +kernel
theorem dX5_newDeepTable_58 : decode cX5_newDeepTable 58 = .ok (.aload 5, 2) := by decide +kernel
theorem dX5_newDeepTable_60 : decode cX5_newDeepTable 60 = .ok (.areturn, 1) := by decide +kernel
theorem dX5_placeNewRows_0 : decode cX5_placeNewRows 0 = .ok (.iconst 0, 1) := by decide +kernel
theorem dX5_placeNewRows_1 : decode cX5_placeNewRows 1 = .ok (.istore_n 3, 1) := by decide +kernel
theorem dX5_placeNewRows_2 : decode cX5_placeNewRows 2 = .ok (.iload_n 3, 1) := by decide +kernel
theorem dX5_placeNewRows_3 : decode cX5_placeNewRows 3 = .ok (.aload_n 1, 1) := by decide +kernel
theorem dX5_placeNewRows_4 : decode cX5_placeNewRows 4 = .ok (.invokevirtual 64, 3) := by decide +kernel
theorem dX5_placeNewRows_7 : decode cX5_placeNewRows 7 = .ok (.if_icmp .ge 21, 3) := by decide +kernel
theorem dX5_placeNewRows_10 : decode cX5_placeNewRows 10 = .ok (.aload_n 1, 1) := by decide +kernel
theorem dX5_placeNewRows_11 : decode cX5_placeNewRows 11 = .ok (.iload_n 3, 1) := by decide +kernel
theorem dX5_placeNewRows_12 : decode cX5_placeNewRows 12 = .ok (.aload_n 0, 1) := by decide +kernel
theorem dX5_placeNewRows_13 : decode cX5_placeNewRows 13 = .ok (.iconst 4, 1) := by decide +kernel
theorem dX5_placeNewRows_14 : decode cX5_placeNewRows 14 = .ok (.iload_n 2, 1) := by decide +kernel
theorem dX5_placeNewRows_15 : decode cX5_placeNewRows 15 = .ok (.invokevirtual 38, 3) := by decide +kernel
theorem dX5_placeNewRows_18 : decode cX5_placeNewRows 18 = .ok (.invokestatic 87, 3) := by decide +kernel
theorem dX5_placeNewRows_21 : decode cX5_placeNewRows 21 = .ok (.pop, 1) := by decide +kernel
theorem dX5_placeNewRows_22 : decode cX5_placeNewRows 22 = .ok (.iinc 3 1, 3) := by decide +kernel
theorem dX5_placeNewRows_25 : decode cX5_placeNewRows 25 = .ok (.goto (-23), 3) := by decide +kernel
theorem dX5_placeNewRows_28 : decode cX5_placeNewRows 28 = .ok (.return_, 1) := by decide +kernel
theorem dX5_newThing_0 : decode cX5_newThing 0 = .ok (.aload_n 0, 1) := by decide +kernel
theorem dX5_newThing_1 : decode cX5_newThing 1 = .ok (.dup, 1) := by decide +kernel
theorem dX5_newThing_2 : decode cX5_newThing 2 = .ok (.getfield 80, 3) := by decide +kernel
theorem dX5_newThing_5 : decode cX5_newThing 5 = .ok (.iconst 1, 1) := by decide +kernel
theorem dX5_newThing_6 : decode cX5_newThing 6 = .ok (.iadd, 1) := by decide +kernel
theorem dX5_newThing_7 : decode cX5_newThing 7 = .ok (.putfield 80, 3) := by decide +kernel
theorem dX5_newThing_10 : decode cX5_newThing 10 = .ok (.new 99, 3) := by decide +kernel
theorem dX5_newThing_13 : decode cX5_newThing 13 = .ok (.dup, 1) := by decide +kernel
theorem dX5_newThing_14 : decode cX5_newThing 14 = .ok (.iload_n 1, 1) := by decide +kernel
theorem dX5_newThing_15 : decode cX5_newThing 15 = .ok (.iload_n 2, 1) := by decide +kernel
theorem dX5_newThing_16 : decode cX5_newThing 16 = .ok (.invokespecial 165, 3) := by decide +kernel
theorem dX5_newThing_19 : decode cX5_newThing 19 = .ok (.areturn, 1) := by decide +kernel
theorem dX5_twinOf_0 : decode cX5_twinOf 0 = .ok (.aload_n 1, 1) := by decide +kernel
theorem dX5_twinOf_1 : decode cX5_twinOf 1 = .ok (.ifnull 7, 3) := by decide +kernel
theorem dX5_twinOf_4 : decode cX5_twinOf 4 = .ok (.iload_n 2, 1) := by decide +kernel
theorem dX5_twinOf_5 : decode cX5_twinOf 5 = .ok (.ifCond .ne 5, 3) := by decide +kernel
theorem dX5_twinOf_8 : decode cX5_twinOf 8 = .ok (.aconst_null, 1) := by decide +kernel
theorem dX5_twinOf_9 : decode cX5_twinOf 9 = .ok (.areturn, 1) := by decide +kernel
theorem dX5_twinOf_10 : decode cX5_twinOf 10 = .ok (.aload_n 1, 1) := by decide +kernel
theorem dX5_twinOf_11 : decode cX5_twinOf 11 = .ok (.getfield 168, 3) := by decide +kernel
theorem dX5_twinOf_14 : decode cX5_twinOf 14 = .ok (.aload_n 0, 1) := by decide +kernel
theorem dX5_twinOf_15 : decode cX5_twinOf 15 = .ok (.getfield 49, 3) := by decide +kernel
theorem dX5_twinOf_18 : decode cX5_twinOf 18 = .ok (.if_icmp .ne 8, 3) := by decide +kernel
theorem dX5_twinOf_21 : decode cX5_twinOf 21 = .ok (.aload_n 1, 1) := by decide +kernel
theorem dX5_twinOf_22 : decode cX5_twinOf 22 = .ok (.getfield 171, 3) := by decide +kernel
theorem dX5_twinOf_25 : decode cX5_twinOf 25 = .ok (.areturn, 1) := by decide +kernel
theorem dX5_twinOf_26 : decode cX5_twinOf 26 = .ok (.aload_n 0, 1) := by decide +kernel
theorem dX5_twinOf_27 : decode cX5_twinOf 27 = .ok (.aload_n 1, 1) := by decide +kernel
theorem dX5_twinOf_28 : decode cX5_twinOf 28 = .ok (.getfield 57, 3) := by decide +kernel
theorem dX5_twinOf_31 : decode cX5_twinOf 31 = .ok (.aload_n 1, 1) := by decide +kernel
theorem dX5_twinOf_32 : decode cX5_twinOf 32 = .ok (.invokevirtual 64, 3) := by decide +kernel
theorem dX5_twinOf_35 : decode cX5_twinOf 35 = .ok (.invokevirtual 38, 3) := by decide +kernel
theorem dX5_twinOf_38 : decode cX5_twinOf 38 = .ok (.astore_n 3, 1) := by decide +kernel
theorem dX5_twinOf_39 : decode cX5_twinOf 39 = .ok (.aload_n 1, 1) := by decide +kernel
theorem dX5_twinOf_40 : decode cX5_twinOf 40 = .ok (.aload_n 0, 1) := by decide +kernel
theorem dX5_twinOf_41 : decode cX5_twinOf 41 = .ok (.getfield 49, 3) := by decide +kernel
theorem dX5_twinOf_44 : decode cX5_twinOf 44 = .ok (.putfield 168, 3) := by decide +kernel
theorem dX5_twinOf_47 : decode cX5_twinOf 47 = .ok (.aload_n 1, 1) := by decide +kernel
theorem dX5_twinOf_48 : decode cX5_twinOf 48 = .ok (.aload_n 3, 1) := by decide +kernel
theorem dX5_twinOf_49 : decode cX5_twinOf 49 = .ok (.putfield 171, 3) := by decide +kernel
theorem dX5_twinOf_52 : decode cX5_twinOf 52 = .ok (.aload_n 1, 1) := by decide +kernel
theorem dX5_twinOf_53 : decode cX5_twinOf 53 = .ok (.iconst 0, 1) := by decide +kernel
theorem dX5_twinOf_54 : decode cX5_twinOf 54 = .ok (.aload_n 3, 1) := by decide +kernel
theorem dX5_twinOf_55 : decode cX5_twinOf 55 = .ok (.iconst 0, 1) := by decide +kernel
theorem dX5_twinOf_56 : decode cX5_twinOf 56 = .ok (.aload_n 1, 1) := by decide +kernel
theorem dX5_twinOf_57 : decode cX5_twinOf 57 = .ok (.invokevirtual 64, 3) := by decide +kernel
theorem dX5_twinOf_60 : decode cX5_twinOf 60 = .ok (.invokestatic 121, 3) := by decide +kernel
theorem dX5_twinOf_63 : decode cX5_twinOf 63 = .ok (.pop, 1) := by decide +kernel
theorem dX5_twinOf_64 : decode cX5_twinOf 64 = .ok (.aload_n 3, 1) := by decide +kernel
theorem dX5_twinOf_65 : decode cX5_twinOf 65 = .ok (.instanceof 158, 3) := by decide +kernel
theorem dX5_twinOf_68 : decode cX5_twinOf 68 = .ok (.ifCond .eq 18, 3) := by decide +kernel
theorem dX5_twinOf_71 : decode cX5_twinOf 71 = .ok (.aload_n 3, 1) := by decide +kernel
theorem dX5_twinOf_72 : decode cX5_twinOf 72 = .ok (.checkcast 158, 3) := by decide +kernel
theorem dX5_twinOf_75 : decode cX5_twinOf 75 = .ok (.astore 4, 2) := by decide +kernel
theorem dX5_twinOf_77 : decode cX5_twinOf 77 = .ok (.aload_n 0, 1) := by decide +kernel
theorem dX5_twinOf_78 : decode cX5_twinOf 78 = .ok (.aload 4, 2) := by decide +kernel
theorem dX5_twinOf_80 : decode cX5_twinOf 80 = .ok (.iload_n 2, 1) := by decide +kernel
theorem dX5_twinOf_81 : decode cX5_twinOf 81 = .ok (.iconst 1, 1) := by decide +kernel
theorem dX5_twinOf_82 : decode cX5_twinOf 82 = .ok (.isub, 1) := by decide +kernel
theorem dX5_twinOf_83 : decode cX5_twinOf 83 = .ok (.invokevirtual 175, 3) := by decide +kernel
theorem dX5_twinOf_86 : decode cX5_twinOf 86 = .ok (.aload_n 3, 1) := by decide +kernel
theorem dX5_twinOf_87 : decode cX5_twinOf 87 = .ok (.areturn, 1) := by decide +kernel
theorem dX5_renewRows_0 : decode cX5_renewRows 0 = .ok (.iconst 0, 1) := by decide +kernel
theorem dX5_renewRows_1 : decode cX5_renewRows 1 = .ok (.istore_n 3, 1) := by decide +kernel
theorem dX5_renewRows_2 : decode cX5_renewRows 2 = .ok (.iload_n 3, 1) := by decide +kernel
theorem dX5_renewRows_3 : decode cX5_renewRows 3 = .ok (.aload_n 1, 1) := by decide +kernel
theorem dX5_renewRows_4 : decode cX5_renewRows 4 = .ok (.getfield 179, 3) := by decide +kernel
theorem dX5_renewRows_7 : decode cX5_renewRows 7 = .ok (.arraylength, 1) := by decide +kernel
theorem dX5_renewRows_8 : decode cX5_renewRows 8 = .ok (.if_icmp .ge 45, 3) := by decide +kernel
theorem dX5_renewRows_11 : decode cX5_renewRows 11 = .ok (.aload_n 1, 1) := by decide +kernel
theorem dX5_renewRows_12 : decode cX5_renewRows 12 = .ok (.getfield 179, 3) := by decide +kernel
theorem dX5_renewRows_15 : decode cX5_renewRows 15 = .ok (.iload_n 3, 1) := by decide +kernel
theorem dX5_renewRows_16 : decode cX5_renewRows 16 = .ok (.aaload, 1) := by decide +kernel
theorem dX5_renewRows_17 : decode cX5_renewRows 17 = .ok (.astore 5, 2) := by decide +kernel
theorem dX5_renewRows_19 : decode cX5_renewRows 19 = .ok (.aload 5, 2) := by decide +kernel
theorem dX5_renewRows_21 : decode cX5_renewRows 21 = .ok (.instanceof 9, 3) := by decide +kernel
theorem dX5_renewRows_24 : decode cX5_renewRows 24 = .ok (.ifCond .eq 23, 3) := by decide +kernel
theorem dX5_renewRows_27 : decode cX5_renewRows 27 = .ok (.aload 5, 2) := by decide +kernel
theorem dX5_renewRows_29 : decode cX5_renewRows 29 = .ok (.checkcast 9, 3) := by decide +kernel
theorem dX5_renewRows_32 : decode cX5_renewRows 32 = .ok (.astore 4, 2) := by decide +kernel
theorem dX5_renewRows_34 : decode cX5_renewRows 34 = .ok (.aload_n 1, 1) := by decide +kernel
theorem dX5_renewRows_35 : decode cX5_renewRows 35 = .ok (.getfield 179, 3) := by decide +kernel
theorem dX5_renewRows_38 : decode cX5_renewRows 38 = .ok (.iload_n 3, 1) := by decide +kernel
theorem dX5_renewRows_39 : decode cX5_renewRows 39 = .ok (.aload_n 0, 1) := by decide +kernel
theorem dX5_renewRows_40 : decode cX5_renewRows 40 = .ok (.aload 4, 2) := by decide +kernel
theorem dX5_renewRows_42 : decode cX5_renewRows 42 = .ok (.iload_n 2, 1) := by decide +kernel
theorem dX5_renewRows_43 : decode cX5_renewRows 43 = .ok (.invokevirtual 53, 3) := by decide +kernel
theorem dX5_renewRows_46 : decode cX5_renewRows 46 = .ok (.aastore, 1) := by decide +kernel
theorem dX5_renewRows_47 : decode cX5_renewRows 47 = .ok (.iinc 3 1, 3) := by decide +kernel
theorem dX5_renewRows_50 : decode cX5_renewRows 50 = .ok (.goto (-48), 3) := by decide +kernel
theorem dX5_renewRows_53 : decode cX5_renewRows 53 = .ok (.return_, 1) := by decide +kernel
theorem dX5_kindOfRows_0 : decode cX5_kindOfRows 0 = .ok (.iload_n 0, 1) := by decide +kernel
theorem dX5_kindOfRows_1 : decode cX5_kindOfRows 1 = .ok (.tableswitch 42 10 13 #[31, 33, 36, 39], 31) := by decide +kernel
theorem dX5_kindOfRows_32 : decode cX5_kindOfRows 32 = .ok (.iconst 4, 1) := by decide +kernel
theorem dX5_kindOfRows_33 : decode cX5_kindOfRows 33 = .ok (.ireturn, 1) := by decide +kernel
theorem dX5_kindOfRows_34 : decode cX5_kindOfRows 34 = .ok (.bipush 7, 2) := by decide +kernel
theorem dX5_kindOfRows_36 : decode cX5_kindOfRows 36 = .ok (.ireturn, 1) := by decide +kernel
theorem dX5_kindOfRows_37 : decode cX5_kindOfRows 37 = .ok (.bipush 8, 2) := by decide +kernel
theorem dX5_kindOfRows_39 : decode cX5_kindOfRows 39 = .ok (.ireturn, 1) := by decide +kernel
theorem dX5_kindOfRows_40 : decode cX5_kindOfRows 40 = .ok (.bipush 10, 2) := by decide +kernel
theorem dX5_kindOfRows_42 : decode cX5_kindOfRows 42 = .ok (.ireturn, 1) := by decide +kernel
theorem dX5_kindOfRows_43 : decode cX5_kindOfRows 43 = .ok (.iconst (-1), 1) := by decide +kernel
theorem dX5_kindOfRows_44 : decode cX5_kindOfRows 44 = .ok (.ireturn, 1) := by decide +kernel
theorem dX5_fits_0 : decode cX5_fits 0 = .ok (.aload_n 0, 1) := by decide +kernel
theorem dX5_fits_1 : decode cX5_fits 1 = .ok (.ifnull 26, 3) := by decide +kernel
theorem dX5_fits_4 : decode cX5_fits 4 = .ok (.aload_n 0, 1) := by decide +kernel
theorem dX5_fits_5 : decode cX5_fits 5 = .ok (.getfield 57, 3) := by decide +kernel
theorem dX5_fits_8 : decode cX5_fits 8 = .ok (.iload_n 1, 1) := by decide +kernel
theorem dX5_fits_9 : decode cX5_fits 9 = .ok (.if_icmp .eq 18, 3) := by decide +kernel
theorem dX5_fits_12 : decode cX5_fits 12 = .ok (.iload_n 1, 1) := by decide +kernel
theorem dX5_fits_13 : decode cX5_fits 13 = .ok (.bipush 8, 2) := by decide +kernel
theorem dX5_fits_15 : decode cX5_fits 15 = .ok (.if_icmp .ne 16, 3) := by decide +kernel
theorem dX5_fits_18 : decode cX5_fits 18 = .ok (.aload_n 0, 1) := by decide +kernel
theorem dX5_fits_19 : decode cX5_fits 19 = .ok (.getfield 57, 3) := by decide +kernel
theorem dX5_fits_22 : decode cX5_fits 22 = .ok (.bipush 9, 2) := by decide +kernel
theorem dX5_fits_24 : decode cX5_fits 24 = .ok (.if_icmp .ne 7, 3) := by decide +kernel
theorem dX5_fits_27 : decode cX5_fits 27 = .ok (.iconst 1, 1) := by decide +kernel
theorem dX5_fits_28 : decode cX5_fits 28 = .ok (.goto 4, 3) := by decide +kernel
theorem dX5_fits_31 : decode cX5_fits 31 = .ok (.iconst 0, 1) := by decide +kernel
theorem dX5_fits_32 : decode cX5_fits 32 = .ok (.ireturn, 1) := by decide +kernel
theorem dX5_canStand_0 : decode cX5_canStand 0 = .ok (.aload_n 0, 1) := by decide +kernel
theorem dX5_canStand_1 : decode cX5_canStand 1 = .ok (.instanceof 99, 3) := by decide +kernel
theorem dX5_canStand_4 : decode cX5_canStand 4 = .ok (.ifCond .eq 33, 3) := by decide +kernel
theorem dX5_canStand_7 : decode cX5_canStand 7 = .ok (.aload_n 0, 1) := by decide +kernel
theorem dX5_canStand_8 : decode cX5_canStand 8 = .ok (.checkcast 99, 3) := by decide +kernel
theorem dX5_canStand_11 : decode cX5_canStand 11 = .ok (.astore_n 2, 1) := by decide +kernel
theorem dX5_canStand_12 : decode cX5_canStand 12 = .ok (.iload_n 1, 1) := by decide +kernel
theorem dX5_canStand_13 : decode cX5_canStand 13 = .ok (.bipush 8, 2) := by decide +kernel
theorem dX5_canStand_15 : decode cX5_canStand 15 = .ok (.if_icmp .eq 16, 3) := by decide +kernel
theorem dX5_canStand_18 : decode cX5_canStand 18 = .ok (.iload_n 1, 1) := by decide +kernel
theorem dX5_canStand_19 : decode cX5_canStand 19 = .ok (.bipush 9, 2) := by decide +kernel
theorem dX5_canStand_21 : decode cX5_canStand 21 = .ok (.if_icmp .ne 14, 3) := by decide +kernel
theorem dX5_canStand_24 : decode cX5_canStand 24 = .ok (.aload_n 2, 1) := by decide +kernel
theorem dX5_canStand_25 : decode cX5_canStand 25 = .ok (.getfield 101, 3) := by decide +kernel
theorem dX5_canStand_28 : decode cX5_canStand 28 = .ok (.ifCond .eq 7, 3) := by decide +kernel
theorem dX5_canStand_31 : decode cX5_canStand 31 = .ok (.iconst 1, 1) := by decide +kernel
theorem dX5_canStand_32 : decode cX5_canStand 32 = .ok (.goto 4, 3) := by decide +kernel
theorem dX5_canStand_35 : decode cX5_canStand 35 = .ok (.iconst 0, 1) := by decide +kernel
theorem dX5_canStand_36 : decode cX5_canStand 36 = .ok (.ireturn, 1) := by decide +kernel
theorem dX5_canStand_37 : decode cX5_canStand 37 = .ok (.aload_n 0, 1) := by decide +kernel
theorem dX5_canStand_38 : decode cX5_canStand 38 = .ok (.instanceof 9, 3) := by decide +kernel
theorem dX5_canStand_41 : decode cX5_canStand 41 = .ok (.ifCond .eq 17, 3) := by decide +kernel
theorem dX5_canStand_44 : decode cX5_canStand 44 = .ok (.aload_n 0, 1) := by decide +kernel
theorem dX5_canStand_45 : decode cX5_canStand 45 = .ok (.checkcast 9, 3) := by decide +kernel
theorem dX5_canStand_48 : decode cX5_canStand 48 = .ok (.astore_n 2, 1) := by decide +kernel
theorem dX5_canStand_49 : decode cX5_canStand 49 = .ok (.aload_n 2, 1) := by decide +kernel
theorem dX5_canStand_50 : decode cX5_canStand 50 = .ok (.iload_n 1, 1) := by decide +kernel
theorem dX5_canStand_51 : decode cX5_canStand 51 = .ok (.invokestatic 112, 3) := by decide +kernel
theorem dX5_canStand_54 : decode cX5_canStand 54 = .ok (.invokestatic 60, 3) := by decide +kernel
theorem dX5_canStand_57 : decode cX5_canStand 57 = .ok (.ireturn, 1) := by decide +kernel
theorem dX5_canStand_58 : decode cX5_canStand 58 = .ok (.iconst 1, 1) := by decide +kernel
theorem dX5_canStand_59 : decode cX5_canStand 59 = .ok (.ireturn, 1) := by decide +kernel
theorem dX5_faultAt_0 : decode cX5_faultAt 0 = .ok (.aload_n 0, 1) := by decide +kernel
theorem dX5_faultAt_1 : decode cX5_faultAt 1 = .ok (.ifnonnull 5, 3) := by decide +kernel
theorem dX5_faultAt_4 : decode cX5_faultAt 4 = .ok (.iconst 1, 1) := by decide +kernel
theorem dX5_faultAt_5 : decode cX5_faultAt 5 = .ok (.ireturn, 1) := by decide +kernel
theorem dX5_faultAt_6 : decode cX5_faultAt 6 = .ok (.iload_n 1, 1) := by decide +kernel
theorem dX5_faultAt_7 : decode cX5_faultAt 7 = .ok (.ifCond .lt 15, 3) := by decide +kernel
theorem dX5_faultAt_10 : decode cX5_faultAt 10 = .ok (.iload_n 1, 1) := by decide +kernel
theorem dX5_faultAt_11 : decode cX5_faultAt 11 = .ok (.aload_n 0, 1) := by decide +kernel
theorem dX5_faultAt_12 : decode cX5_faultAt 12 = .ok (.invokevirtual 64, 3) := by decide +kernel
theorem dX5_faultAt_15 : decode cX5_faultAt 15 = .ok (.if_icmp .ge 7, 3) := by decide +kernel
theorem dX5_faultAt_18 : decode cX5_faultAt 18 = .ok (.iconst 0, 1) := by decide +kernel
theorem dX5_faultAt_19 : decode cX5_faultAt 19 = .ok (.goto 4, 3) := by decide +kernel
theorem dX5_faultAt_22 : decode cX5_faultAt 22 = .ok (.iconst 3, 1) := by decide +kernel
theorem dX5_faultAt_23 : decode cX5_faultAt 23 = .ok (.ireturn, 1) := by decide +kernel
theorem dX5_faultTaken_0 : decode cX5_faultTaken 0 = .ok (.aload_n 0, 1) := by decide +kernel
theorem dX5_faultTaken_1 : decode cX5_faultTaken 1 = .ok (.iload_n 1, 1) := by decide +kernel
theorem dX5_faultTaken_2 : decode cX5_faultTaken 2 = .ok (.invokestatic 60, 3) := by decide +kernel
theorem dX5_faultTaken_5 : decode cX5_faultTaken 5 = .ok (.ifCond .eq 11, 3) := by decide +kernel
theorem dX5_faultTaken_8 : decode cX5_faultTaken 8 = .ok (.aload_n 0, 1) := by decide +kernel
theorem dX5_faultTaken_9 : decode cX5_faultTaken 9 = .ok (.iload_n 2, 1) := by decide +kernel
theorem dX5_faultTaken_10 : decode cX5_faultTaken 10 = .ok (.invokestatic 108, 3) := by decide +kernel
theorem dX5_faultTaken_13 : decode cX5_faultTaken 13 = .ok (.goto 4, 3) := by decide +kernel
theorem dX5_faultTaken_16 : decode cX5_faultTaken 16 = .ok (.iconst 2, 1) := by decide +kernel
theorem dX5_faultTaken_17 : decode cX5_faultTaken 17 = .ok (.ireturn, 1) := by decide +kernel
theorem dX5_itemAt_0 : decode cX5_itemAt 0 = .ok (.aload_n 0, 1) := by decide +kernel
theorem dX5_itemAt_1 : decode cX5_itemAt 1 = .ok (.instanceof 158, 3) := by decide +kernel
theorem dX5_itemAt_4 : decode cX5_itemAt 4 = .ok (.ifCond .eq 28, 3) := by decide +kernel
theorem dX5_itemAt_7 : decode cX5_itemAt 7 = .ok (.aload_n 0, 1) := by decide +kernel
theorem dX5_itemAt_8 : decode cX5_itemAt 8 = .ok (.checkcast 158, 3) := by decide +kernel
theorem dX5_itemAt_11 : decode cX5_itemAt 11 = .ok (.astore_n 2, 1) := by decide +kernel
theorem dX5_itemAt_12 : decode cX5_itemAt 12 = .ok (.iload_n 1, 1) := by decide +kernel
theorem dX5_itemAt_13 : decode cX5_itemAt 13 = .ok (.ifCond .lt 19, 3) := by decide +kernel
theorem dX5_itemAt_16 : decode cX5_itemAt 16 = .ok (.iload_n 1, 1) := by decide +kernel
theorem dX5_itemAt_17 : decode cX5_itemAt 17 = .ok (.aload_n 2, 1) := by decide +kernel
theorem dX5_itemAt_18 : decode cX5_itemAt 18 = .ok (.getfield 179, 3) := by decide +kernel
theorem dX5_itemAt_21 : decode cX5_itemAt 21 = .ok (.arraylength, 1) := by decide +kernel
theorem dX5_itemAt_22 : decode cX5_itemAt 22 = .ok (.if_icmp .ge 10, 3) := by decide +kernel
theorem dX5_itemAt_25 : decode cX5_itemAt 25 = .ok (.aload_n 2, 1) := by decide +kernel
theorem dX5_itemAt_26 : decode cX5_itemAt 26 = .ok (.getfield 179, 3) := by decide +kernel
theorem dX5_itemAt_29 : decode cX5_itemAt 29 = .ok (.iload_n 1, 1) := by decide +kernel
theorem dX5_itemAt_30 : decode cX5_itemAt 30 = .ok (.aaload, 1) := by decide +kernel
theorem dX5_itemAt_31 : decode cX5_itemAt 31 = .ok (.areturn, 1) := by decide +kernel
theorem dX5_itemAt_32 : decode cX5_itemAt 32 = .ok (.aconst_null, 1) := by decide +kernel
theorem dX5_itemAt_33 : decode cX5_itemAt 33 = .ok (.areturn, 1) := by decide +kernel
theorem dX5_rowAt_0 : decode cX5_rowAt 0 = .ok (.aload_n 0, 1) := by decide +kernel
theorem dX5_rowAt_1 : decode cX5_rowAt 1 = .ok (.iload_n 1, 1) := by decide +kernel
theorem dX5_rowAt_2 : decode cX5_rowAt 2 = .ok (.invokestatic 95, 3) := by decide +kernel
theorem dX5_rowAt_5 : decode cX5_rowAt 5 = .ok (.astore_n 3, 1) := by decide +kernel
theorem dX5_rowAt_6 : decode cX5_rowAt 6 = .ok (.aload_n 3, 1) := by decide +kernel
theorem dX5_rowAt_7 : decode cX5_rowAt 7 = .ok (.instanceof 9, 3) := by decide +kernel
theorem dX5_rowAt_10 : decode cX5_rowAt 10 = .ok (.ifCond .eq 12, 3) := by decide +kernel
theorem dX5_rowAt_13 : decode cX5_rowAt 13 = .ok (.aload_n 3, 1) := by decide +kernel
theorem dX5_rowAt_14 : decode cX5_rowAt 14 = .ok (.checkcast 9, 3) := by decide +kernel
theorem dX5_rowAt_17 : decode cX5_rowAt 17 = .ok (.astore_n 2, 1) := by decide +kernel
theorem dX5_rowAt_18 : decode cX5_rowAt 18 = .ok (.aload_n 2, 1) := by decide +kernel
theorem dX5_rowAt_19 : decode cX5_rowAt 19 = .ok (.goto 4, 3) := by decide +kernel
theorem dX5_rowAt_22 : decode cX5_rowAt 22 = .ok (.aconst_null, 1) := by decide +kernel
theorem dX5_rowAt_23 : decode cX5_rowAt 23 = .ok (.areturn, 1) := by decide +kernel
theorem dX5_bitsAt_0 : decode cX5_bitsAt 0 = .ok (.aload_n 0, 1) := by decide +kernel
theorem dX5_bitsAt_1 : decode cX5_bitsAt 1 = .ok (.aload_n 1, 1) := by decide +kernel
theorem dX5_bitsAt_2 : decode cX5_bitsAt 2 = .ok (.iload_n 2, 1) := by decide +kernel
theorem dX5_bitsAt_3 : decode cX5_bitsAt 3 = .ok (.invokestatic 108, 3) := by decide +kernel
theorem dX5_bitsAt_6 : decode cX5_bitsAt 6 = .ok (.putfield 143, 3) := by decide +kernel
theorem dX5_bitsAt_9 : decode cX5_bitsAt 9 = .ok (.aload_n 0, 1) := by decide +kernel
theorem dX5_bitsAt_10 : decode cX5_bitsAt 10 = .ok (.getfield 143, 3) := by decide +kernel
theorem dX5_bitsAt_13 : decode cX5_bitsAt 13 = .ok (.ifCond .eq 5, 3) := by decide +kernel
theorem dX5_bitsAt_16 : decode cX5_bitsAt 16 = .ok (.lconst 0, 1) := by decide +kernel
theorem dX5_bitsAt_17 : decode cX5_bitsAt 17 = .ok (.lreturn, 1) := by decide +kernel
theorem dX5_bitsAt_18 : decode cX5_bitsAt 18 = .ok (.aload_n 1, 1) := by decide +kernel
theorem dX5_bitsAt_19 : decode cX5_bitsAt 19 = .ok (.instanceof 125, 3) := by decide +kernel
theorem dX5_bitsAt_22 : decode cX5_bitsAt 22 = .ok (.ifCond .eq 15, 3) := by decide +kernel
theorem dX5_bitsAt_25 : decode cX5_bitsAt 25 = .ok (.aload_n 1, 1) := by decide +kernel
theorem dX5_bitsAt_26 : decode cX5_bitsAt 26 = .ok (.checkcast 125, 3) := by decide +kernel
theorem dX5_bitsAt_29 : decode cX5_bitsAt 29 = .ok (.astore_n 3, 1) := by decide +kernel
theorem dX5_bitsAt_30 : decode cX5_bitsAt 30 = .ok (.aload_n 3, 1) := by decide +kernel
theorem dX5_bitsAt_31 : decode cX5_bitsAt 31 = .ok (.getfield 183, 3) := by decide +kernel
theorem dX5_bitsAt_34 : decode cX5_bitsAt 34 = .ok (.iload_n 2, 1) := by decide +kernel
theorem dX5_bitsAt_35 : decode cX5_bitsAt 35 = .ok (.laload, 1) := by decide +kernel
theorem dX5_bitsAt_36 : decode cX5_bitsAt 36 = .ok (.lreturn, 1) := by decide +kernel
theorem dX5_bitsAt_37 : decode cX5_bitsAt 37 = .ok (.aload_n 1, 1) := by decide +kernel
theorem dX5_bitsAt_38 : decode cX5_bitsAt 38 = .ok (.iload_n 2, 1) := by decide +kernel
theorem dX5_bitsAt_39 : decode cX5_bitsAt 39 = .ok (.invokestatic 95, 3) := by decide +kernel
theorem dX5_bitsAt_42 : decode cX5_bitsAt 42 = .ok (.astore 4, 2) := by decide +kernel
theorem dX5_bitsAt_44 : decode cX5_bitsAt 44 = .ok (.aload 4, 2) := by decide +kernel
theorem dX5_bitsAt_46 : decode cX5_bitsAt 46 = .ok (.instanceof 99, 3) := by decide +kernel
theorem dX5_bitsAt_49 : decode cX5_bitsAt 49 = .ok (.ifCond .eq 17, 3) := by decide +kernel
theorem dX5_bitsAt_52 : decode cX5_bitsAt 52 = .ok (.aload 4, 2) := by decide +kernel
theorem dX5_bitsAt_54 : decode cX5_bitsAt 54 = .ok (.checkcast 99, 3) := by decide +kernel
theorem dX5_bitsAt_57 : decode cX5_bitsAt 57 = .ok (.astore_n 3, 1) := by decide +kernel
theorem dX5_bitsAt_58 : decode cX5_bitsAt 58 = .ok (.aload_n 3, 1) := by decide +kernel
theorem dX5_bitsAt_59 : decode cX5_bitsAt 59 = .ok (.getfield 187, 3) := by decide +kernel
theorem dX5_bitsAt_62 : decode cX5_bitsAt 62 = .ok (.i2l, 1) := by decide +kernel
theorem dX5_bitsAt_63 : decode cX5_bitsAt 63 = .ok (.goto 8, 3) := by decide +kernel
theorem dX5_bitsAt_66 : decode cX5_bitsAt 66 = .ok (.aload_n 0, 1) := by decide +kernel
theorem dX5_bitsAt_67 : decode cX5_bitsAt 67 = .ok (.iconst 1, 1) := by decide +kernel
theorem dX5_bitsAt_68 : decode cX5_bitsAt 68 = .ok (.invokevirtual 68, 3) := by decide +kernel
theorem dX5_bitsAt_71 : decode cX5_bitsAt 71 = .ok (.lreturn, 1) := by decide +kernel
theorem dX5_putBits_0 : decode cX5_putBits 0 = .ok (.aload_n 0, 1) := by decide +kernel
theorem dX5_putBits_1 : decode cX5_putBits 1 = .ok (.iload_n 1, 1) := by decide +kernel
theorem dX5_putBits_2 : decode cX5_putBits 2 = .ok (.invokestatic 108, 3) := by decide +kernel
theorem dX5_putBits_5 : decode cX5_putBits 5 = .ok (.istore 4, 2) := by decide +kernel
theorem dX5_putBits_7 : decode cX5_putBits 7 = .ok (.iload 4, 2) := by decide +kernel
theorem dX5_putBits_9 : decode cX5_putBits 9 = .ok (.ifCond .eq 9, 3) := by decide +kernel
theorem dX5_putBits_12 : decode cX5_putBits 12 = .ok (.iload 4, 2) := by decide +kernel
theorem dX5_putBits_14 : decode cX5_putBits 14 = .ok (.invokestatic 34, 3) := by decide +kernel
theorem dX5_putBits_17 : decode cX5_putBits 17 = .ok (.ireturn, 1) := by decide +kernel
theorem dX5_putBits_18 : decode cX5_putBits 18 = .ok (.aload_n 0, 1) := by decide +kernel
theorem dX5_putBits_19 : decode cX5_putBits 19 = .ok (.instanceof 125, 3) := by decide +kernel
theorem dX5_putBits_22 : decode cX5_putBits 22 = .ok (.ifCond .eq 25, 3) := by decide +kernel
theorem dX5_putBits_25 : decode cX5_putBits 25 = .ok (.aload_n 0, 1) := by decide +kernel
theorem dX5_putBits_26 : decode cX5_putBits 26 = .ok (.checkcast 125, 3) := by decide +kernel
theorem dX5_putBits_29 : decode cX5_putBits 29 = .ok (.astore 5, 2) := by decide +kernel
theorem dX5_putBits_31 : decode cX5_putBits 31 = .ok (.aload 5, 2) := by decide +kernel
theorem dX5_putBits_33 : decode cX5_putBits 33 = .ok (.getfield 183, 3) := by decide +kernel
theorem dX5_putBits_36 : decode cX5_putBits 36 = .ok (.iload_n 1, 1) := by decide +kernel
theorem dX5_putBits_37 : decode cX5_putBits 37 = .ok (.aload 5, 2) := by decide +kernel
theorem dX5_putBits_39 : decode cX5_putBits 39 = .ok (.getfield 190, 3) := by decide +kernel
theorem dX5_putBits_42 : decode cX5_putBits 42 = .ok (.lload_n 2, 1) := by decide +kernel
theorem dX5_putBits_43 : decode cX5_putBits 43 = .ok (.invokestatic 191, 3) := by decide +kernel
theorem dX5_putBits_46 : decode cX5_putBits 46 = .ok (.lastore, 1) := by decide +kernel
theorem dX5_putBits_47 : decode cX5_putBits 47 = .ok (.iconst 1, 1) := by decide +kernel
theorem dX5_putBits_48 : decode cX5_putBits 48 = .ok (.ireturn, 1) := by decide +kernel
theorem dX5_place_0 : decode cX5_place 0 = .ok (.aload_n 0, 1) := by decide +kernel
theorem dX5_place_1 : decode cX5_place 1 = .ok (.iload_n 1, 1) := by decide +kernel
theorem dX5_place_2 : decode cX5_place 2 = .ok (.invokestatic 108, 3) := by decide +kernel
theorem dX5_place_5 : decode cX5_place 5 = .ok (.istore_n 3, 1) := by decide +kernel
theorem dX5_place_6 : decode cX5_place 6 = .ok (.iload_n 3, 1) := by decide +kernel
theorem dX5_place_7 : decode cX5_place 7 = .ok (.ifCond .eq 8, 3) := by decide +kernel
theorem dX5_place_10 : decode cX5_place 10 = .ok (.iload_n 3, 1) := by decide +kernel
theorem dX5_place_11 : decode cX5_place 11 = .ok (.invokestatic 34, 3) := by decide +kernel
theorem dX5_place_14 : decode cX5_place 14 = .ok (.ireturn, 1) := by decide +kernel
theorem dX5_place_15 : decode cX5_place 15 = .ok (.aload_n 0, 1) := by decide +kernel
theorem dX5_place_16 : decode cX5_place 16 = .ok (.instanceof 158, 3) := by decide +kernel
theorem dX5_place_19 : decode cX5_place 19 = .ok (.ifCond .eq 31, 3) := by decide +kernel
theorem dX5_place_22 : decode cX5_place 22 = .ok (.aload_n 0, 1) := by decide +kernel
theorem dX5_place_23 : decode cX5_place 23 = .ok (.checkcast 158, 3) := by decide +kernel
theorem dX5_place_26 : decode cX5_place 26 = .ok (.astore 4, 2) := by decide +kernel
theorem dX5_place_28 : decode cX5_place 28 = .ok (.aload_n 2, 1) := by decide +kernel
theorem dX5_place_29 : decode cX5_place 29 = .ok (.aload 4, 2) := by decide +kernel
theorem dX5_place_31 : decode cX5_place 31 = .ok (.getfield 195, 3) := by decide +kernel
theorem dX5_place_34 : decode cX5_place 34 = .ok (.invokestatic 196, 3) := by decide +kernel
theorem dX5_place_37 : decode cX5_place 37 = .ok (.ifCond .eq 13, 3) := by decide +kernel
theorem dX5_place_40 : decode cX5_place 40 = .ok (.aload 4, 2) := by decide +kernel
theorem dX5_place_42 : decode cX5_place 42 = .ok (.getfield 179, 3) := by decide +kernel
theorem dX5_place_45 : decode cX5_place 45 = .ok (.iload_n 1, 1) := by decide +kernel
theorem dX5_place_46 : decode cX5_place 46 = .ok (.aload_n 2, 1) := by decide +kernel
theorem dX5_place_47 : decode cX5_place 47 = .ok (.aastore, 1) := by decide +kernel
theorem dX5_place_48 : decode cX5_place 48 = .ok (.iconst 1, 1) := by decide +kernel
theorem dX5_place_49 : decode cX5_place 49 = .ok (.ireturn, 1) := by decide +kernel
theorem dX5_place_50 : decode cX5_place 50 = .ok (.iconst 5, 1) := by decide +kernel
theorem dX5_place_51 : decode cX5_place 51 = .ok (.invokestatic 34, 3) := by decide +kernel
theorem dX5_place_54 : decode cX5_place 54 = .ok (.ireturn, 1) := by decide +kernel
theorem dX5_transfer_0 : decode cX5_transfer 0 = .ok (.aload_n 0, 1) := by decide +kernel
theorem dX5_transfer_1 : decode cX5_transfer 1 = .ok (.iload_n 1, 1) := by decide +kernel
theorem dX5_transfer_2 : decode cX5_transfer 2 = .ok (.iload 4, 2) := by decide +kernel
theorem dX5_transfer_4 : decode cX5_transfer 4 = .ok (.invokestatic 200, 3) := by decide +kernel
theorem dX5_transfer_7 : decode cX5_transfer 7 = .ok (.ifCond .eq 13, 3) := by decide +kernel
theorem dX5_transfer_10 : decode cX5_transfer 10 = .ok (.aload_n 2, 1) := by decide +kernel
theorem dX5_transfer_11 : decode cX5_transfer 11 = .ok (.iload_n 3, 1) := by decide +kernel
theorem dX5_transfer_12 : decode cX5_transfer 12 = .ok (.iload 4, 2) := by decide +kernel
theorem dX5_transfer_14 : decode cX5_transfer 14 = .ok (.invokestatic 200, 3) := by decide +kernel
theorem dX5_transfer_17 : decode cX5_transfer 17 = .ok (.ifCond .ne 8, 3) := by decide +kernel
theorem dX5_transfer_20 : decode cX5_transfer 20 = .ok (.iconst 3, 1) := by decide +kernel
theorem dX5_transfer_21 : decode cX5_transfer 21 = .ok (.invokestatic 34, 3) := by decide +kernel
theorem dX5_transfer_24 : decode cX5_transfer 24 = .ok (.ireturn, 1) := by decide +kernel
theorem dX5_transfer_25 : decode cX5_transfer 25 = .ok (.aload_n 0, 1) := by decide +kernel
theorem dX5_transfer_26 : decode cX5_transfer 26 = .ok (.instanceof 125, 3) := by decide +kernel
theorem dX5_transfer_29 : decode cX5_transfer 29 = .ok (.ifCond .eq 42, 3) := by decide +kernel
theorem dX5_transfer_32 : decode cX5_transfer 32 = .ok (.aload_n 0, 1) := by decide +kernel
theorem dX5_transfer_33 : decode cX5_transfer 33 = .ok (.checkcast 125, 3) := by decide +kernel
theorem dX5_transfer_36 : decode cX5_transfer 36 = .ok (.astore 5, 2) := by decide +kernel
theorem dX5_transfer_38 : decode cX5_transfer 38 = .ok (.aload_n 2, 1) := by decide +kernel
theorem dX5_transfer_39 : decode cX5_transfer 39 = .ok (.instanceof 125, 3) := by decide +kernel
theorem dX5_transfer_42 : decode cX5_transfer 42 = .ok (.ifCond .eq 29, 3) := by decide +kernel
theorem dX5_transfer_45 : decode cX5_transfer 45 = .ok (.aload_n 2, 1) := by decide +kernel
theorem dX5_transfer_46 : decode cX5_transfer 46 = .ok (.checkcast 125, 3) := by decide +kernel
theorem dX5_transfer_49 : decode cX5_transfer 49 = .ok (.astore 6, 2) := by decide +kernel
theorem dX5_transfer_51 : decode cX5_transfer 51 = .ok (.aload 5, 2) := by decide +kernel
theorem dX5_transfer_53 : decode cX5_transfer 53 = .ok (.getfield 183, 3) := by decide +kernel
theorem dX5_transfer_56 : decode cX5_transfer 56 = .ok (.iload_n 1, 1) := by decide +kernel
theorem dX5_transfer_57 : decode cX5_transfer 57 = .ok (.aload 6, 2) := by decide +kernel
theorem dX5_transfer_59 : decode cX5_transfer 59 = .ok (.getfield 183, 3) := by decide +kernel
theorem dX5_transfer_62 : decode cX5_transfer 62 = .ok (.iload_n 3, 1) := by decide +kernel
theorem dX5_transfer_63 : decode cX5_transfer 63 = .ok (.iload 4, 2) := by decide +kernel
theorem dX5_transfer_65 : decode cX5_transfer 65 = .ok (.invokestatic 204, 3) := by decide +kernel
theorem dX5_transfer_68 : decode cX5_transfer 68 = .ok (.iload 4, 2) := by decide +kernel
theorem dX5_transfer_70 : decode cX5_transfer 70 = .ok (.ireturn, 1) := by decide +kernel
theorem dX5_transfer_71 : decode cX5_transfer 71 = .ok (.aload_n 0, 1) := by decide +kernel
theorem dX5_transfer_72 : decode cX5_transfer 72 = .ok (.iload_n 1, 1) := by decide +kernel
theorem dX5_transfer_73 : decode cX5_transfer 73 = .ok (.aload_n 2, 1) := by decide +kernel
theorem dX5_transfer_74 : decode cX5_transfer 74 = .ok (.iload_n 3, 1) := by decide +kernel
theorem dX5_transfer_75 : decode cX5_transfer 75 = .ok (.iload 4, 2) := by decide +kernel
theorem dX5_transfer_77 : decode cX5_transfer 77 = .ok (.invokestatic 210, 3) := by decide +kernel
theorem dX5_transfer_80 : decode cX5_transfer 80 = .ok (.ireturn, 1) := by decide +kernel
theorem dX5_transferItems_0 : decode cX5_transferItems 0 = .ok (.aload_n 0, 1) := by decide +kernel
theorem dX5_transferItems_1 : decode cX5_transferItems 1 = .ok (.aload_n 2, 1) := by decide +kernel
theorem dX5_transferItems_2 : decode cX5_transferItems 2 = .ok (.if_acmp .ne 12, 3) := by decide +kernel
theorem dX5_transferItems_5 : decode cX5_transferItems 5 = .ok (.iload_n 1, 1) := by decide +kernel
theorem dX5_transferItems_6 : decode cX5_transferItems 6 = .ok (.iload_n 3, 1) := by decide +kernel
theorem dX5_transferItems_7 : decode cX5_transferItems 7 = .ok (.if_icmp .ge 7, 3) := by decide +kernel
theorem dX5_transferItems_10 : decode cX5_transferItems 10 = .ok (.iconst 1, 1) := by decide +kernel
theorem dX5_transferItems_11 : decode cX5_transferItems 11 = .ok (.goto 4, 3) := by decide +kernel
theorem dX5_transferItems_14 : decode cX5_transferItems 14 = .ok (.iconst 0, 1) := by decide +kernel
theorem dX5_transferItems_15 : decode cX5_transferItems 15 = .ok (.istore 5, 2) := by decide +kernel
theorem dX5_transferItems_17 : decode cX5_transferItems 17 = .ok (.iconst 0, 1) := by decide +kernel
theorem dX5_transferItems_18 : decode cX5_transferItems 18 = .ok (.istore 6, 2) := by decide +kernel
theorem dX5_transferItems_20 : decode cX5_transferItems 20 = .ok (.iload 6, 2) := by decide +kernel
theorem dX5_transferItems_22 : decode cX5_transferItems 22 = .ok (.iload 4, 2) := by decide +kernel
theorem dX5_transferItems_24 : decode cX5_transferItems 24 = .ok (.if_icmp .ge 55, 3) := by decide +kernel
theorem dX5_transferItems_27 : decode cX5_transferItems 27 = .ok (.iload 5, 2) := by decide +kernel
theorem dX5_transferItems_29 : decode cX5_transferItems 29 = .ok (.ifCond .eq 13, 3) := by decide +kernel
theorem dX5_transferItems_32 : decode cX5_transferItems 32 = .ok (.iload 4, 2) := by decide +kernel
theorem dX5_transferItems_34 : decode cX5_transferItems 34 = .ok (.iconst 1, 1) := by decide +kernel
theorem dX5_transferItems_35 : decode cX5_transferItems 35 = .ok (.isub, 1) := by decide +kernel
theorem dX5_transferItems_36 : decode cX5_transferItems 36 = .ok (.iload 6, 2) := by decide +kernel
theorem dX5_transferItems_38 : decode cX5_transferItems 38 = .ok (.isub, 1) := by decide +kernel
theorem dX5_transferItems_39 : decode cX5_transferItems 39 = .ok (.goto 5, 3) := by decide +kernel
theorem dX5_transferItems_42 : decode cX5_transferItems 42 = .ok (.iload 6, 2) := by decide +kernel
theorem dX5_transferItems_44 : decode cX5_transferItems 44 = .ok (.istore 7, 2) := by decide +kernel
theorem dX5_transferItems_46 : decode cX5_transferItems 46 = .ok (.aload_n 2, 1) := by decide +kernel
theorem dX5_transferItems_47 : decode cX5_transferItems 47 = .ok (.iload_n 3, 1) := by decide +kernel
theorem dX5_transferItems_48 : decode cX5_transferItems 48 = .ok (.iload 7, 2) := by decide +kernel
theorem dX5_transferItems_50 : decode cX5_transferItems 50 = .ok (.iadd, 1) := by decide +kernel
theorem dX5_transferItems_51 : decode cX5_transferItems 51 = .ok (.aload_n 0, 1) := by decide +kernel
theorem dX5_transferItems_52 : decode cX5_transferItems 52 = .ok (.iload_n 1, 1) := by decide +kernel
theorem dX5_transferItems_53 : decode cX5_transferItems 53 = .ok (.iload 7, 2) := by decide +kernel
theorem dX5_transferItems_55 : decode cX5_transferItems 55 = .ok (.iadd, 1) := by decide +kernel
theorem dX5_transferItems_56 : decode cX5_transferItems 56 = .ok (.invokestatic 95, 3) := by decide +kernel
theorem dX5_transferItems_59 : decode cX5_transferItems 59 = .ok (.invokestatic 87, 3) := by decide +kernel
theorem dX5_transferItems_62 : decode cX5_transferItems 62 = .ok (.istore 8, 2) := by decide +kernel
theorem dX5_transferItems_64 : decode cX5_transferItems 64 = .ok (.iload 8, 2) := by decide +kernel
theorem dX5_transferItems_66 : decode cX5_transferItems 66 = .ok (.iconst 1, 1) := by decide +kernel
theorem dX5_transferItems_67 : decode cX5_transferItems 67 = .ok (.if_icmp .eq 6, 3) := by decide +kernel
theorem dX5_transferItems_70 : decode cX5_transferItems 70 = .ok (.iload 8, 2) := by decide +kernel
theorem dX5_transferItems_72 : decode cX5_transferItems 72 = .ok (.ireturn, 1) := by decide +kernel
theorem dX5_transferItems_73 : decode cX5_transferItems 73 = .ok (.iinc 6 1, 3) := by decide +kernel
theorem dX5_transferItems_76 : decode cX5_transferItems 76 = .ok (.goto (-56), 3) := by decide +kernel
theorem dX5_transferItems_79 : decode cX5_transferItems 79 = .ok (.iload 4, 2) := by decide +kernel
theorem dX5_transferItems_81 : decode cX5_transferItems 81 = .ok (.ireturn, 1) := by decide +kernel
theorem dX5_hasStretch_0 : decode cX5_hasStretch 0 = .ok (.iload_n 1, 1) := by decide +kernel
theorem dX5_hasStretch_1 : decode cX5_hasStretch 1 = .ok (.ifCond .lt 21, 3) := by decide +kernel
theorem dX5_hasStretch_4 : decode cX5_hasStretch 4 = .ok (.iload_n 2, 1) := by decide +kernel
theorem dX5_hasStretch_5 : decode cX5_hasStretch 5 = .ok (.ifCond .lt 17, 3) := by decide +kernel
theorem dX5_hasStretch_8 : decode cX5_hasStretch 8 = .ok (.iload_n 1, 1) := by decide +kernel
theorem dX5_hasStretch_9 : decode cX5_hasStretch 9 = .ok (.aload_n 0, 1) := by decide +kernel
theorem dX5_hasStretch_10 : decode cX5_hasStretch 10 = .ok (.invokevirtual 64, 3) := by decide +kernel
theorem dX5_hasStretch_13 : decode cX5_hasStretch 13 = .ok (.iload_n 2, 1) := by decide +kernel
theorem dX5_hasStretch_14 : decode cX5_hasStretch 14 = .ok (.isub, 1) := by decide +kernel
theorem dX5_hasStretch_15 : decode cX5_hasStretch 15 = .ok (.if_icmp .gt 7, 3) := by decide +kernel
theorem dX5_hasStretch_18 : decode cX5_hasStretch 18 = .ok (.iconst 1, 1) := by decide +kernel
theorem dX5_hasStretch_19 : decode cX5_hasStretch 19 = .ok (.goto 4, 3) := by decide +kernel
theorem dX5_hasStretch_22 : decode cX5_hasStretch 22 = .ok (.iconst 0, 1) := by decide +kernel
theorem dX5_hasStretch_23 : decode cX5_hasStretch 23 = .ok (.ireturn, 1) := by decide +kernel
theorem dX5_keptBits_0 : decode cX5_keptBits 0 = .ok (.iload_n 0, 1) := by decide +kernel
theorem dX5_keptBits_1 : decode cX5_keptBits 1 = .ok (.tableswitch 82 0 7 #[47, 51, 56, 61, 66, 82, 70, 77], 47) := by decide +kernel
theorem dX5_keptBits_48 : decode cX5_keptBits 48 = .ok (.lload_n 1, 1) := by decide +kernel
theorem dX5_keptBits_49 : decode cX5_keptBits 49 = .ok (.lconst 1, 1) := by decide +kernel
theorem dX5_keptBits_50 : decode cX5_keptBits 50 = .ok (.land, 1) := by decide +kernel
theorem dX5_keptBits_51 : decode cX5_keptBits 51 = .ok (.lreturn, 1) := by decide +kernel
theorem dX5_keptBits_52 : decode cX5_keptBits 52 = .ok (.lload_n 1, 1) := by decide +kernel
theorem dX5_keptBits_53 : decode cX5_keptBits 53 = .ok (.l2i, 1) := by decide +kernel
theorem dX5_keptBits_54 : decode cX5_keptBits 54 = .ok (.i2b, 1) := by decide +kernel
theorem dX5_keptBits_55 : decode cX5_keptBits 55 = .ok (.i2l, 1) := by decide +kernel
theorem dX5_keptBits_56 : decode cX5_keptBits 56 = .ok (.lreturn, 1) := by decide +kernel
theorem dX5_keptBits_57 : decode cX5_keptBits 57 = .ok (.lload_n 1, 1) := by decide +kernel
theorem dX5_keptBits_58 : decode cX5_keptBits 58 = .ok (.l2i, 1) := by decide +kernel
theorem dX5_keptBits_59 : decode cX5_keptBits 59 = .ok (.i2s, 1) := by decide +kernel
theorem dX5_keptBits_60 : decode cX5_keptBits 60 = .ok (.i2l, 1) := by decide +kernel
theorem dX5_keptBits_61 : decode cX5_keptBits 61 = .ok (.lreturn, 1) := by decide +kernel
theorem dX5_keptBits_62 : decode cX5_keptBits 62 = .ok (.lload_n 1, 1) := by decide +kernel
theorem dX5_keptBits_63 : decode cX5_keptBits 63 = .ok (.l2i, 1) := by decide +kernel
theorem dX5_keptBits_64 : decode cX5_keptBits 64 = .ok (.i2c, 1) := by decide +kernel
theorem dX5_keptBits_65 : decode cX5_keptBits 65 = .ok (.i2l, 1) := by decide +kernel
theorem dX5_keptBits_66 : decode cX5_keptBits 66 = .ok (.lreturn, 1) := by decide +kernel
theorem dX5_keptBits_67 : decode cX5_keptBits 67 = .ok (.lload_n 1, 1) := by decide +kernel
theorem dX5_keptBits_68 : decode cX5_keptBits 68 = .ok (.l2i, 1) := by decide +kernel
theorem dX5_keptBits_69 : decode cX5_keptBits 69 = .ok (.i2l, 1) := by decide +kernel
theorem dX5_keptBits_70 : decode cX5_keptBits 70 = .ok (.lreturn, 1) := by decide +kernel
theorem dX5_keptBits_71 : decode cX5_keptBits 71 = .ok (.lload_n 1, 1) := by decide +kernel
theorem dX5_keptBits_72 : decode cX5_keptBits 72 = .ok (.l2i, 1) := by decide +kernel
theorem dX5_keptBits_73 : decode cX5_keptBits 73 = .ok (.invokestatic 213, 3) := by decide +kernel
theorem dX5_keptBits_76 : decode cX5_keptBits 76 = .ok (.i2l, 1) := by decide +kernel
theorem dX5_keptBits_77 : decode cX5_keptBits 77 = .ok (.lreturn, 1) := by decide +kernel
theorem dX5_keptBits_78 : decode cX5_keptBits 78 = .ok (.lload_n 1, 1) := by decide +kernel
theorem dX5_keptBits_79 : decode cX5_keptBits 79 = .ok (.invokestatic 216, 3) := by decide +kernel
theorem dX5_keptBits_82 : decode cX5_keptBits 82 = .ok (.lreturn, 1) := by decide +kernel
theorem dX5_keptBits_83 : decode cX5_keptBits 83 = .ok (.lload_n 1, 1) := by decide +kernel
theorem dX5_keptBits_84 : decode cX5_keptBits 84 = .ok (.lreturn, 1) := by decide +kernel
theorem dX5_keptFloat_0 : decode cX5_keptFloat 0 = .ok (.iload_n 0, 1) := by decide +kernel
theorem dX5_keptFloat_1 : decode cX5_keptFloat 1 = .ok (.ldc 222, 2) := by decide +kernel
theorem dX5_keptFloat_3 : decode cX5_keptFloat 3 = .ok (.iand, 1) := by decide +kernel
theorem dX5_keptFloat_4 : decode cX5_keptFloat 4 = .ok (.ldc 223, 2) := by decide +kernel
theorem dX5_keptFloat_6 : decode cX5_keptFloat 6 = .ok (.if_icmp .le 8, 3) := by decide +kernel
theorem dX5_keptFloat_9 : decode cX5_keptFloat 9 = .ok (.ldc 224, 2) := by decide +kernel
theorem dX5_keptFloat_11 : decode cX5_keptFloat 11 = .ok (.goto 4, 3) := by decide +kernel
theorem dX5_keptFloat_14 : decode cX5_keptFloat 14 = .ok (.iload_n 0, 1) := by decide +kernel
theorem dX5_keptFloat_15 : decode cX5_keptFloat 15 = .ok (.ireturn, 1) := by decide +kernel
theorem dX5_keptDouble_0 : decode cX5_keptDouble 0 = .ok (.lload_n 0, 1) := by decide +kernel
theorem dX5_keptDouble_1 : decode cX5_keptDouble 1 = .ok (.ldc2_w 227, 3) := by decide +kernel
theorem dX5_keptDouble_4 : decode cX5_keptDouble 4 = .ok (.land, 1) := by decide +kernel
theorem dX5_keptDouble_5 : decode cX5_keptDouble 5 = .ok (.ldc2_w 229, 3) := by decide +kernel
theorem dX5_keptDouble_8 : decode cX5_keptDouble 8 = .ok (.lcmp, 1) := by decide +kernel
theorem dX5_keptDouble_9 : decode cX5_keptDouble 9 = .ok (.ifCond .le 9, 3) := by decide +kernel
theorem dX5_keptDouble_12 : decode cX5_keptDouble 12 = .ok (.ldc2_w 231, 3) := by decide +kernel
theorem dX5_keptDouble_15 : decode cX5_keptDouble 15 = .ok (.goto 4, 3) := by decide +kernel
theorem dX5_keptDouble_18 : decode cX5_keptDouble 18 = .ok (.lload_n 0, 1) := by decide +kernel
theorem dX5_keptDouble_19 : decode cX5_keptDouble 19 = .ok (.lreturn, 1) := by decide +kernel
theorem dX5_singleItems_0 : decode cX5_singleItems 0 = .ok (.aload_n 0, 1) := by decide +kernel
theorem dX5_singleItems_1 : decode cX5_singleItems 1 = .ok (.instanceof 125, 3) := by decide +kernel
theorem dX5_singleItems_4 : decode cX5_singleItems 4 = .ok (.ifCond .eq 14, 3) := by decide +kernel
theorem dX5_singleItems_7 : decode cX5_singleItems 7 = .ok (.aload_n 0, 1) := by decide +kernel
theorem dX5_singleItems_8 : decode cX5_singleItems 8 = .ok (.checkcast 125, 3) := by decide +kernel
theorem dX5_singleItems_11 : decode cX5_singleItems 11 = .ok (.astore_n 2, 1) := by decide +kernel
theorem dX5_singleItems_12 : decode cX5_singleItems 12 = .ok (.aload_n 2, 1) := by decide +kernel
theorem dX5_singleItems_13 : decode cX5_singleItems 13 = .ok (.getfield 183, 3) := by decide +kernel
theorem dX5_singleItems_16 : decode cX5_singleItems 16 = .ok (.arraylength, 1) := by decide +kernel
theorem dX5_singleItems_17 : decode cX5_singleItems 17 = .ok (.ireturn, 1) := by decide +kernel
theorem dX5_singleItems_18 : decode cX5_singleItems 18 = .ok (.iconst 0, 1) := by decide +kernel
theorem dX5_singleItems_19 : decode cX5_singleItems 19 = .ok (.istore_n 2, 1) := by decide +kernel
theorem dX5_singleItems_20 : decode cX5_singleItems 20 = .ok (.aload_n 0, 1) := by decide +kernel
theorem dX5_singleItems_21 : decode cX5_singleItems 21 = .ok (.instanceof 158, 3) := by decide +kernel
theorem dX5_singleItems_24 : decode cX5_singleItems 24 = .ok (.ifCond .eq 63, 3) := by decide +kernel
theorem dX5_singleItems_27 : decode cX5_singleItems 27 = .ok (.aload_n 0, 1) := by decide +kernel
theorem dX5_singleItems_28 : decode cX5_singleItems 28 = .ok (.checkcast 158, 3) := by decide +kernel
theorem dX5_singleItems_31 : decode cX5_singleItems 31 = .ok (.astore_n 3, 1) := by decide +kernel
theorem dX5_singleItems_32 : decode cX5_singleItems 32 = .ok (.iload_n 1, 1) := by decide +kernel
theorem dX5_singleItems_33 : decode cX5_singleItems 33 = .ok (.ifCond .le 54, 3) := by decide +kernel
theorem dX5_singleItems_36 : decode cX5_singleItems 36 = .ok (.iconst 0, 1) := by decide +kernel
theorem dX5_singleItems_37 : decode cX5_singleItems 37 = .ok (.istore 4, 2) := by decide +kernel
theorem dX5_singleItems_39 : decode cX5_singleItems 39 = .ok (.iload 4, 2) := by decide +kernel
theorem dX5_singleItems_41 : decode cX5_singleItems 41 = .ok (.aload_n 3, 1) := by decide +kernel
theorem dX5_singleItems_42 : decode cX5_singleItems 42 = .ok (.getfield 179, 3) := by decide +kernel
theorem dX5_singleItems_45 : decode cX5_singleItems 45 = .ok (.arraylength, 1) := by decide +kernel
theorem dX5_singleItems_46 : decode cX5_singleItems 46 = .ok (.if_icmp .ge 41, 3) := by decide +kernel
theorem dX5_singleItems_49 : decode cX5_singleItems 49 = .ok (.iload_n 2, 1) := by decide +kernel
theorem dX5_singleItems_50 : decode cX5_singleItems 50 = .ok (.aload_n 3, 1) := by decide +kernel
theorem dX5_singleItems_51 : decode cX5_singleItems 51 = .ok (.getfield 179, 3) := by decide +kernel
theorem dX5_singleItems_54 : decode cX5_singleItems 54 = .ok (.iload 4, 2) := by decide +kernel
theorem dX5_singleItems_56 : decode cX5_singleItems 56 = .ok (.aaload, 1) := by decide +kernel
theorem dX5_singleItems_57 : decode cX5_singleItems 57 = .ok (.instanceof 99, 3) := by decide +kernel
theorem dX5_singleItems_60 : decode cX5_singleItems 60 = .ok (.ifCond .eq 7, 3) := by decide +kernel
theorem dX5_singleItems_63 : decode cX5_singleItems 63 = .ok (.iconst 1, 1) := by decide +kernel
theorem dX5_singleItems_64 : decode cX5_singleItems 64 = .ok (.goto 15, 3) := by decide +kernel
theorem dX5_singleItems_67 : decode cX5_singleItems 67 = .ok (.aload_n 3, 1) := by decide +kernel
theorem dX5_singleItems_68 : decode cX5_singleItems 68 = .ok (.iload 4, 2) := by decide +kernel
theorem dX5_singleItems_70 : decode cX5_singleItems 70 = .ok (.invokestatic 105, 3) := by decide +kernel
theorem dX5_singleItems_73 : decode cX5_singleItems 73 = .ok (.iload_n 1, 1) := by decide +kernel
theorem dX5_singleItems_74 : decode cX5_singleItems 74 = .ok (.iconst 1, 1) := by decide +kernel
theorem dX5_singleItems_75 : decode cX5_singleItems 75 = .ok (.isub, 1) := by decide +kernel
theorem dX5_singleItems_76 : decode cX5_singleItems 76 = .ok (.invokestatic 127, 3) := by decide +kernel
theorem dX5_singleItems_79 : decode cX5_singleItems 79 = .ok (.iadd, 1) := by decide +kernel
theorem dX5_singleItems_80 : decode cX5_singleItems 80 = .ok (.istore_n 2, 1) := by decide +kernel
theorem dX5_singleItems_81 : decode cX5_singleItems 81 = .ok (.iinc 4 1, 3) := by decide +kernel
theorem dX5_singleItems_84 : decode cX5_singleItems 84 = .ok (.goto (-45), 3) := by decide +kernel
theorem dX5_singleItems_87 : decode cX5_singleItems 87 = .ok (.iload_n 2, 1) := by decide +kernel
theorem dX5_singleItems_88 : decode cX5_singleItems 88 = .ok (.ireturn, 1) := by decide +kernel
theorem dX5_areAlike_0 : decode cX5_areAlike 0 = .ok (.aload_n 0, 1) := by decide +kernel
theorem dX5_areAlike_1 : decode cX5_areAlike 1 = .ok (.aload_n 1, 1) := by decide +kernel
theorem dX5_areAlike_2 : decode cX5_areAlike 2 = .ok (.if_acmp .ne 5, 3) := by decide +kernel
theorem dX5_areAlike_5 : decode cX5_areAlike 5 = .ok (.iconst 1, 1) := by decide +kernel
theorem dX5_areAlike_6 : decode cX5_areAlike 6 = .ok (.ireturn, 1) := by decide +kernel
theorem dX5_areAlike_7 : decode cX5_areAlike 7 = .ok (.aload_n 0, 1) := by decide +kernel
theorem dX5_areAlike_8 : decode cX5_areAlike 8 = .ok (.ifnull 11, 3) := by decide +kernel
theorem dX5_areAlike_11 : decode cX5_areAlike 11 = .ok (.aload_n 1, 1) := by decide +kernel
theorem dX5_areAlike_12 : decode cX5_areAlike 12 = .ok (.ifnull 7, 3) := by decide +kernel
theorem dX5_areAlike_15 : decode cX5_areAlike 15 = .ok (.iload_n 2, 1) := by decide +kernel
theorem dX5_areAlike_16 : decode cX5_areAlike 16 = .ok (.ifCond .ne 5, 3) := by decide +kernel
theorem dX5_areAlike_19 : decode cX5_areAlike 19 = .ok (.iconst 0, 1) := by decide +kernel
theorem dX5_areAlike_20 : decode cX5_areAlike 20 = .ok (.ireturn, 1) := by decide +kernel
theorem dX5_areAlike_21 : decode cX5_areAlike 21 = .ok (.aload_n 0, 1) := by decide +kernel
theorem dX5_areAlike_22 : decode cX5_areAlike 22 = .ok (.getfield 57, 3) := by decide +kernel
theorem dX5_areAlike_25 : decode cX5_areAlike 25 = .ok (.aload_n 1, 1) := by decide +kernel
theorem dX5_areAlike_26 : decode cX5_areAlike 26 = .ok (.getfield 57, 3) := by decide +kernel
theorem dX5_areAlike_29 : decode cX5_areAlike 29 = .ok (.if_icmp .ne 14, 3) := by decide +kernel
theorem dX5_areAlike_32 : decode cX5_areAlike 32 = .ok (.aload_n 0, 1) := by decide +kernel
theorem dX5_areAlike_33 : decode cX5_areAlike 33 = .ok (.invokevirtual 64, 3) := by decide +kernel
theorem dX5_areAlike_36 : decode cX5_areAlike 36 = .ok (.aload_n 1, 1) := by decide +kernel
theorem dX5_areAlike_37 : decode cX5_areAlike 37 = .ok (.invokevirtual 64, 3) := by decide +kernel
theorem dX5_areAlike_40 : decode cX5_areAlike 40 = .ok (.if_icmp .eq 5, 3) := by decide +kernel
theorem dX5_areAlike_43 : decode cX5_areAlike 43 = .ok (.iconst 0, 1) := by decide +kernel
theorem dX5_areAlike_44 : decode cX5_areAlike 44 = .ok (.ireturn, 1) := by decide +kernel
theorem dX5_areAlike_45 : decode cX5_areAlike 45 = .ok (.aload_n 0, 1) := by decide +kernel
theorem dX5_areAlike_46 : decode cX5_areAlike 46 = .ok (.instanceof 125, 3) := by decide +kernel
theorem dX5_areAlike_49 : decode cX5_areAlike 49 = .ok (.ifCond .eq 28, 3) := by decide +kernel
theorem dX5_areAlike_52 : decode cX5_areAlike 52 = .ok (.aload_n 0, 1) := by decide +kernel
theorem dX5_areAlike_53 : decode cX5_areAlike 53 = .ok (.checkcast 125, 3) := by decide +kernel
theorem dX5_areAlike_56 : decode cX5_areAlike 56 = .ok (.astore_n 3, 1) := by decide +kernel
theorem dX5_areAlike_57 : decode cX5_areAlike 57 = .ok (.aload_n 1, 1) := by decide +kernel
theorem dX5_areAlike_58 : decode cX5_areAlike 58 = .ok (.instanceof 125, 3) := by decide +kernel
theorem dX5_areAlike_61 : decode cX5_areAlike 61 = .ok (.ifCond .eq 16, 3) := by decide +kernel
theorem dX5_areAlike_64 : decode cX5_areAlike 64 = .ok (.aload_n 1, 1) := by decide +kernel
theorem dX5_areAlike_65 : decode cX5_areAlike 65 = .ok (.checkcast 125, 3) := by decide +kernel
theorem dX5_areAlike_68 : decode cX5_areAlike 68 = .ok (.astore 4, 2) := by decide +kernel
theorem dX5_areAlike_70 : decode cX5_areAlike 70 = .ok (.aload_n 3, 1) := by decide +kernel
theorem dX5_areAlike_71 : decode cX5_areAlike 71 = .ok (.aload 4, 2) := by decide +kernel
theorem dX5_areAlike_73 : decode cX5_areAlike 73 = .ok (.invokestatic 233, 3) := by decide +kernel
theorem dX5_areAlike_76 : decode cX5_areAlike 76 = .ok (.ireturn, 1) := by decide +kernel
theorem dX5_areAlike_77 : decode cX5_areAlike 77 = .ok (.iconst 0, 1) := by decide +kernel
theorem dX5_areAlike_78 : decode cX5_areAlike 78 = .ok (.istore_n 3, 1) := by decide +kernel
theorem dX5_areAlike_79 : decode cX5_areAlike 79 = .ok (.iload_n 3, 1) := by decide +kernel
theorem dX5_areAlike_80 : decode cX5_areAlike 80 = .ok (.aload_n 0, 1) := by decide +kernel
theorem dX5_areAlike_81 : decode cX5_areAlike 81 = .ok (.invokevirtual 64, 3) := by decide +kernel
theorem dX5_areAlike_84 : decode cX5_areAlike 84 = .ok (.if_icmp .ge 28, 3) := by decide +kernel
theorem dX5_areAlike_87 : decode cX5_areAlike 87 = .ok (.aload_n 0, 1) := by decide +kernel
theorem dX5_areAlike_88 : decode cX5_areAlike 88 = .ok (.iload_n 3, 1) := by decide +kernel
theorem dX5_areAlike_89 : decode cX5_areAlike 89 = .ok (.invokestatic 95, 3) := by decide +kernel
theorem dX5_areAlike_92 : decode cX5_areAlike 92 = .ok (.aload_n 1, 1) := by decide +kernel
theorem dX5_areAlike_93 : decode cX5_areAlike 93 = .ok (.iload_n 3, 1) := by decide +kernel
theorem dX5_areAlike_94 : decode cX5_areAlike 94 = .ok (.invokestatic 95, 3) := by decide +kernel
theorem dX5_areAlike_97 : decode cX5_areAlike 97 = .ok (.iload_n 2, 1) := by decide +kernel
theorem dX5_areAlike_98 : decode cX5_areAlike 98 = .ok (.invokestatic 237, 3) := by decide +kernel
theorem dX5_areAlike_101 : decode cX5_areAlike 101 = .ok (.ifCond .ne 5, 3) := by decide +kernel
theorem dX5_areAlike_104 : decode cX5_areAlike 104 = .ok (.iconst 0, 1) := by decide +kernel
theorem dX5_areAlike_105 : decode cX5_areAlike 105 = .ok (.ireturn, 1) := by decide +kernel
theorem dX5_areAlike_106 : decode cX5_areAlike 106 = .ok (.iinc 3 1, 3) := by decide +kernel
theorem dX5_areAlike_109 : decode cX5_areAlike 109 = .ok (.goto (-30), 3) := by decide +kernel
theorem dX5_areAlike_112 : decode cX5_areAlike 112 = .ok (.iconst 1, 1) := by decide +kernel
theorem dX5_areAlike_113 : decode cX5_areAlike 113 = .ok (.ireturn, 1) := by decide +kernel
theorem dX5_haveSameBits_0 : decode cX5_haveSameBits 0 = .ok (.iconst 0, 1) := by decide +kernel
theorem dX5_haveSameBits_1 : decode cX5_haveSameBits 1 = .ok (.istore_n 2, 1) := by decide +kernel
theorem dX5_haveSameBits_2 : decode cX5_haveSameBits 2 = .ok (.iload_n 2, 1) := by decide +kernel
theorem dX5_haveSameBits_3 : decode cX5_haveSameBits 3 = .ok (.aload_n 0, 1) := by decide +kernel
theorem dX5_haveSameBits_4 : decode cX5_haveSameBits 4 = .ok (.getfield 183, 3) := by decide +kernel
theorem dX5_haveSameBits_7 : decode cX5_haveSameBits 7 = .ok (.arraylength, 1) := by decide +kernel
theorem dX5_haveSameBits_8 : decode cX5_haveSameBits 8 = .ok (.if_icmp .ge 36, 3) := by decide +kernel
theorem dX5_haveSameBits_11 : decode cX5_haveSameBits 11 = .ok (.iload_n 2, 1) := by decide +kernel
theorem dX5_haveSameBits_12 : decode cX5_haveSameBits 12 = .ok (.aload_n 1, 1) := by decide +kernel
theorem dX5_haveSameBits_13 : decode cX5_haveSameBits 13 = .ok (.getfield 183, 3) := by decide +kernel
theorem dX5_haveSameBits_16 : decode cX5_haveSameBits 16 = .ok (.arraylength, 1) := by decide +kernel
theorem dX5_haveSameBits_17 : decode cX5_haveSameBits 17 = .ok (.if_icmp .ge 27, 3) := by decide +kernel
theorem dX5_haveSameBits_20 : decode cX5_haveSameBits 20 = .ok (.aload_n 0, 1) := by decide +kernel
theorem dX5_haveSameBits_21 : decode cX5_haveSameBits 21 = .ok (.getfield 183, 3) := by decide +kernel
theorem dX5_haveSameBits_24 : decode cX5_haveSameBits 24 = .ok (.iload_n 2, 1) := by decide +kernel
theorem dX5_haveSameBits_25 : decode cX5_haveSameBits 25 = .ok (.laload, 1) := by decide +kernel
theorem dX5_haveSameBits_26 : decode cX5_haveSameBits 26 = .ok (.aload_n 1, 1) := by decide +kernel
theorem dX5_haveSameBits_27 : decode cX5_haveSameBits 27 = .ok (.getfield 183, 3) := by decide +kernel
theorem dX5_haveSameBits_30 : decode cX5_haveSameBits 30 = .ok (.iload_n 2, 1) := by decide +kernel
theorem dX5_haveSameBits_31 : decode cX5_haveSameBits 31 = .ok (.laload, 1) := by decide +kernel
theorem dX5_haveSameBits_32 : decode cX5_haveSameBits 32 = .ok (.lcmp, 1) := by decide +kernel
theorem dX5_haveSameBits_33 : decode cX5_haveSameBits 33 = .ok (.ifCond .eq 5, 3) := by decide +kernel
theorem dX5_haveSameBits_36 : decode cX5_haveSameBits 36 = .ok (.iconst 0, 1) := by decide +kernel
theorem dX5_haveSameBits_37 : decode cX5_haveSameBits 37 = .ok (.ireturn, 1) := by decide +kernel
theorem dX5_haveSameBits_38 : decode cX5_haveSameBits 38 = .ok (.iinc 2 1, 3) := by decide +kernel
theorem dX5_haveSameBits_41 : decode cX5_haveSameBits 41 = .ok (.goto (-39), 3) := by decide +kernel
theorem dX5_haveSameBits_44 : decode cX5_haveSameBits 44 = .ok (.aload_n 0, 1) := by decide +kernel
theorem dX5_haveSameBits_45 : decode cX5_haveSameBits 45 = .ok (.getfield 183, 3) := by decide +kernel
theorem dX5_haveSameBits_48 : decode cX5_haveSameBits 48 = .ok (.arraylength, 1) := by decide +kernel
theorem dX5_haveSameBits_49 : decode cX5_haveSameBits 49 = .ok (.aload_n 1, 1) := by decide +kernel
theorem dX5_haveSameBits_50 : decode cX5_haveSameBits 50 = .ok (.getfield 183, 3) := by decide +kernel
theorem dX5_haveSameBits_53 : decode cX5_haveSameBits 53 = .ok (.arraylength, 1) := by decide +kernel
theorem dX5_haveSameBits_54 : decode cX5_haveSameBits 54 = .ok (.if_icmp .ne 7, 3) := by decide +kernel
theorem dX5_haveSameBits_57 : decode cX5_haveSameBits 57 = .ok (.iconst 1, 1) := by decide +kernel
theorem dX5_haveSameBits_58 : decode cX5_haveSameBits 58 = .ok (.goto 4, 3) := by decide +kernel
theorem dX5_haveSameBits_61 : decode cX5_haveSameBits 61 = .ok (.iconst 0, 1) := by decide +kernel
theorem dX5_haveSameBits_62 : decode cX5_haveSameBits 62 = .ok (.ireturn, 1) := by decide +kernel
theorem dX5_areItemsAlike_0 : decode cX5_areItemsAlike 0 = .ok (.aload_n 0, 1) := by decide +kernel
theorem dX5_areItemsAlike_1 : decode cX5_areItemsAlike 1 = .ok (.instanceof 99, 3) := by decide +kernel
theorem dX5_areItemsAlike_4 : decode cX5_areItemsAlike 4 = .ok (.ifCond .eq 51, 3) := by decide +kernel
theorem dX5_areItemsAlike_7 : decode cX5_areItemsAlike 7 = .ok (.aload_n 0, 1) := by decide +kernel
theorem dX5_areItemsAlike_8 : decode cX5_areItemsAlike 8 = .ok (.checkcast 99, 3) := by decide +kernel
theorem dX5_areItemsAlike_11 : decode cX5_areItemsAlike 11 = .ok (.astore_n 3, 1) := by decide +kernel
theorem dX5_areItemsAlike_12 : decode cX5_areItemsAlike 12 = .ok (.aload_n 1, 1) := by decide +kernel
theorem dX5_areItemsAlike_13 : decode cX5_areItemsAlike 13 = .ok (.instanceof 99, 3) := by decide +kernel
theorem dX5_areItemsAlike_16 : decode cX5_areItemsAlike 16 = .ok (.ifCond .eq 39, 3) := by decide +kernel
theorem dX5_areItemsAlike_19 : decode cX5_areItemsAlike 19 = .ok (.aload_n 1, 1) := by decide +kernel
theorem dX5_areItemsAlike_20 : decode cX5_areItemsAlike 20 = .ok (.checkcast 99, 3) := by decide +kernel
theorem dX5_areItemsAlike_23 : decode cX5_areItemsAlike 23 = .ok (.astore 4, 2) := by decide +kernel
theorem dX5_areItemsAlike_25 : decode cX5_areItemsAlike 25 = .ok (.aload_n 3, 1) := by decide +kernel
theorem dX5_areItemsAlike_26 : decode cX5_areItemsAlike 26 = .ok (.getfield 187, 3) := by decide +kernel
theorem dX5_areItemsAlike_29 : decode cX5_areItemsAlike 29 = .ok (.aload 4, 2) := by decide +kernel
theorem dX5_areItemsAlike_31 : decode cX5_areItemsAlike 31 = .ok (.getfield 187, 3) := by decide +kernel
theorem dX5_areItemsAlike_34 : decode cX5_areItemsAlike 34 = .ok (.if_icmp .ne 19, 3) := by decide +kernel
theorem dX5_areItemsAlike_37 : decode cX5_areItemsAlike 37 = .ok (.aload_n 3, 1) := by decide +kernel
theorem dX5_areItemsAlike_38 : decode cX5_areItemsAlike 38 = .ok (.getfield 101, 3) := by decide +kernel
theorem dX5_areItemsAlike_41 : decode cX5_areItemsAlike 41 = .ok (.aload 4, 2) := by decide +kernel
theorem dX5_areItemsAlike_43 : decode cX5_areItemsAlike 43 = .ok (.getfield 101, 3) := by decide +kernel
theorem dX5_areItemsAlike_46 : decode cX5_areItemsAlike 46 = .ok (.if_icmp .ne 7, 3) := by decide +kernel
theorem dX5_areItemsAlike_49 : decode cX5_areItemsAlike 49 = .ok (.iconst 1, 1) := by decide +kernel
theorem dX5_areItemsAlike_50 : decode cX5_areItemsAlike 50 = .ok (.goto 4, 3) := by decide +kernel
theorem dX5_areItemsAlike_53 : decode cX5_areItemsAlike 53 = .ok (.iconst 0, 1) := by decide +kernel
theorem dX5_areItemsAlike_54 : decode cX5_areItemsAlike 54 = .ok (.ireturn, 1) := by decide +kernel
theorem dX5_areItemsAlike_55 : decode cX5_areItemsAlike 55 = .ok (.aload_n 0, 1) := by decide +kernel
theorem dX5_areItemsAlike_56 : decode cX5_areItemsAlike 56 = .ok (.instanceof 9, 3) := by decide +kernel
theorem dX5_areItemsAlike_59 : decode cX5_areItemsAlike 59 = .ok (.ifCond .eq 31, 3) := by decide +kernel
theorem dX5_areItemsAlike_62 : decode cX5_areItemsAlike 62 = .ok (.aload_n 0, 1) := by decide +kernel
theorem dX5_areItemsAlike_63 : decode cX5_areItemsAlike 63 = .ok (.checkcast 9, 3) := by decide +kernel
theorem dX5_areItemsAlike_66 : decode cX5_areItemsAlike 66 = .ok (.astore_n 3, 1) := by decide +kernel
theorem dX5_areItemsAlike_67 : decode cX5_areItemsAlike 67 = .ok (.aload_n 1, 1) := by decide +kernel
theorem dX5_areItemsAlike_68 : decode cX5_areItemsAlike 68 = .ok (.instanceof 9, 3) := by decide +kernel
theorem dX5_areItemsAlike_71 : decode cX5_areItemsAlike 71 = .ok (.ifCond .eq 19, 3) := by decide +kernel
theorem dX5_areItemsAlike_74 : decode cX5_areItemsAlike 74 = .ok (.aload_n 1, 1) := by decide +kernel
theorem dX5_areItemsAlike_75 : decode cX5_areItemsAlike 75 = .ok (.checkcast 9, 3) := by decide +kernel
theorem dX5_areItemsAlike_78 : decode cX5_areItemsAlike 78 = .ok (.astore 4, 2) := by decide +kernel
theorem dX5_areItemsAlike_80 : decode cX5_areItemsAlike 80 = .ok (.aload_n 3, 1) := by decide +kernel
theorem dX5_areItemsAlike_81 : decode cX5_areItemsAlike 81 = .ok (.aload 4, 2) := by decide +kernel
theorem dX5_areItemsAlike_83 : decode cX5_areItemsAlike 83 = .ok (.iload_n 2, 1) := by decide +kernel
theorem dX5_areItemsAlike_84 : decode cX5_areItemsAlike 84 = .ok (.iconst 1, 1) := by decide +kernel
theorem dX5_areItemsAlike_85 : decode cX5_areItemsAlike 85 = .ok (.isub, 1) := by decide +kernel
theorem dX5_areItemsAlike_86 : decode cX5_areItemsAlike 86 = .ok (.invokestatic 130, 3) := by decide +kernel
theorem dX5_areItemsAlike_89 : decode cX5_areItemsAlike 89 = .ok (.ireturn, 1) := by decide +kernel
theorem dX5_areItemsAlike_90 : decode cX5_areItemsAlike 90 = .ok (.aload_n 0, 1) := by decide +kernel
theorem dX5_areItemsAlike_91 : decode cX5_areItemsAlike 91 = .ok (.ifnonnull 11, 3) := by decide +kernel
theorem dX5_areItemsAlike_94 : decode cX5_areItemsAlike 94 = .ok (.aload_n 1, 1) := by decide +kernel
theorem dX5_areItemsAlike_95 : decode cX5_areItemsAlike 95 = .ok (.ifnonnull 7, 3) := by decide +kernel
theorem dX5_areItemsAlike_98 : decode cX5_areItemsAlike 98 = .ok (.iconst 1, 1) := by decide +kernel
theorem dX5_areItemsAlike_99 : decode cX5_areItemsAlike 99 = .ok (.goto 4, 3) := by decide +kernel
theorem dX5_areItemsAlike_102 : decode cX5_areItemsAlike 102 = .ok (.iconst 0, 1) := by decide +kernel
theorem dX5_areItemsAlike_103 : decode cX5_areItemsAlike 103 = .ok (.ireturn, 1) := by decide +kernel
theorem dJ9_max_7cf53_0 : decode cJ9_max_7cf53 0 = .ok (.iload_n 0, 1) := by decide +kernel
theorem dJ9_max_7cf53_1 : decode cJ9_max_7cf53 1 = .ok (.iload_n 1, 1) := by decide +kernel
theorem dJ9_max_7cf53_2 : decode cJ9_max_7cf53 2 = .ok (.if_icmp .lt 7, 3) := by decide +kernel
theorem dJ9_max_7cf53_5 : decode cJ9_max_7cf53 5 = .ok (.iload_n 0, 1) := by decide +kernel
theorem dJ9_max_7cf53_6 : decode cJ9_max_7cf53 6 = .ok (.goto 4, 3) := by decide +kernel
theorem dJ9_max_7cf53_9 : decode cJ9_max_7cf53 9 = .ok (.iload_n 1, 1) := by decide +kernel
theorem dJ9_max_7cf53_10 : decode cJ9_max_7cf53 10 = .ok (.ireturn, 1) := by decide +kernel
theorem dJ9_min_7cf53_0 : decode cJ9_min_7cf53 0 = .ok (.iload_n 0, 1) := by decide +kernel
theorem dJ9_min_7cf53_1 : decode cJ9_min_7cf53 1 = .ok (.iload_n 1, 1) := by decide +kernel
theorem dJ9_min_7cf53_2 : decode cJ9_min_7cf53 2 = .ok (.if_icmp .gt 7, 3) := by decide +kernel
theorem dJ9_min_7cf53_5 : decode cJ9_min_7cf53 5 = .ok (.iload_n 0, 1) := by decide +kernel
theorem dJ9_min_7cf53_6 : decode cJ9_min_7cf53 6 = .ok (.goto 4, 3) := by decide +kernel
theorem dJ9_min_7cf53_9 : decode cJ9_min_7cf53 9 = .ok (.iload_n 1, 1) := by decide +kernel
theorem dJ9_min_7cf53_10 : decode cJ9_min_7cf53 10 = .ok (.ireturn, 1) := by decide +kernel
