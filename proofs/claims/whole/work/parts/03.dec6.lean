theorem dX6_init_0 : decode cX6_init 0 = .ok (.aload_n 0, 1) := by decide +kernel
theorem dX6_init_1 : decode cX6_init 1 = .ok (.invokespecial 1, 3) := by decide +kernel
theorem dX6_init_4 : decode cX6_init 4 = .ok (.aload_n 0, 1) := by decide +kernel
theorem dX6_init_5 : decode cX6_init 5 = .ok (.sipush 13000, 3) := by decide +kernel
theorem dX6_init_8 : decode cX6_init 8 = .ok (.newarray .byte, 2) := by decide +kernel
theorem dX6_init_10 : decode cX6_init 10 = .ok (.putfield 7, 3) := by decide +kernel
theorem dX6_init_13 : decode cX6_init 13 = .ok (.aload_n 0, 1) := by decide +kernel
theorem dX6_init_14 : decode cX6_init 14 = .ok (.sipush 13000, 3) := by decide +kernel
theorem dX6_init_17 : decode cX6_init 17 = .ok (.newarray .byte, 2) := by decide +kernel
theorem dX6_init_19 : decode cX6_init 19 = .ok (.putfield 13, 3) := by decide +kernel
theorem dX6_init_22 : decode cX6_init 22 = .ok (.aload_n 0, 1) := by decide +kernel
theorem dX6_init_23 : decode cX6_init 23 = .ok (.sipush 13000, 3) := by decide +kernel
theorem dX6_init_26 : decode cX6_init 26 = .ok (.newarray .int, 2) := by decide +kernel
theorem dX6_init_28 : decode cX6_init 28 = .ok (.putfield 16, 3) := by decide +kernel
theorem dX6_init_31 : decode cX6_init 31 = .ok (.aload_n 0, 1) := by decide +kernel
theorem dX6_init_32 : decode cX6_init 32 = .ok (.sipush 12200, 3) := by decide +kernel
theorem dX6_init_35 : decode cX6_init 35 = .ok (.newarray .long, 2) := by decide +kernel
theorem dX6_init_37 : decode cX6_init 37 = .ok (.putfield 20, 3) := by decide +kernel
theorem dX6_init_40 : decode cX6_init 40 = .ok (.aload_n 0, 1) := by decide +kernel
theorem dX6_init_41 : decode cX6_init 41 = .ok (.sipush 3100, 3) := by decide +kernel
theorem dX6_init_44 : decode cX6_init 44 = .ok (.newarray .int, 2) := by decide +kernel
theorem dX6_init_46 : decode cX6_init 46 = .ok (.putfield 24, 3) := by decide +kernel
theorem dX6_init_49 : decode cX6_init 49 = .ok (.aload_n 0, 1) := by decide +kernel
theorem dX6_init_50 : decode cX6_init 50 = .ok (.sipush 3100, 3) := by decide +kernel
theorem dX6_init_53 : decode cX6_init 53 = .ok (.newarray .boolean, 2) := by decide +kernel
theorem dX6_init_55 : decode cX6_init 55 = .ok (.putfield 27, 3) := by decide +kernel
theorem dX6_init_58 : decode cX6_init 58 = .ok (.aload_n 0, 1) := by decide +kernel
theorem dX6_init_59 : decode cX6_init 59 = .ok (.bipush 16, 2) := by decide +kernel
theorem dX6_init_61 : decode cX6_init 61 = .ok (.newarray .int, 2) := by decide +kernel
theorem dX6_init_63 : decode cX6_init 63 = .ok (.putfield 31, 3) := by decide +kernel
theorem dX6_init_66 : decode cX6_init 66 = .ok (.aload_n 0, 1) := by decide +kernel
theorem dX6_init_67 : decode cX6_init 67 = .ok (.bipush 8, 2) := by decide +kernel
theorem dX6_init_69 : decode cX6_init 69 = .ok (.newarray .int, 2) := by decide +kernel
theorem dX6_init_71 : decode cX6_init 71 = .ok (.dup, 1) := by decide +kernel
theorem dX6_init_72 : decode cX6_init 72 = .ok (.iconst 0, 1) := by decide +kernel
theorem dX6_init_73 : decode cX6_init 73 = .ok (.iconst (-1), 1) := by decide +kernel
theorem dX6_init_74 : decode cX6_init 74 = .ok (.iastore, 1) := by decide +kernel
theorem dX6_init_75 : decode cX6_init 75 = .ok (.dup, 1) := by decide +kernel
theorem dX6_init_76 : decode cX6_init 76 = .ok (.iconst 1, 1) := by decide +kernel
theorem dX6_init_77 : decode cX6_init 77 = .ok (.iconst (-1), 1) := by decide +kernel
theorem dX6_init_78 : decode cX6_init 78 = .ok (.iastore, 1) := by decide +kernel
theorem dX6_init_79 : decode cX6_init 79 = .ok (.dup, 1) := by decide +kernel
theorem dX6_init_80 : decode cX6_init 80 = .ok (.iconst 2, 1) := by decide +kernel
theorem dX6_init_81 : decode cX6_init 81 = .ok (.iconst (-1), 1) := by decide +kernel
theorem dX6_init_82 : decode cX6_init 82 = .ok (.iastore, 1) := by decide +kernel
theorem dX6_init_83 : decode cX6_init 83 = .ok (.dup, 1) := by decide +kernel
theorem dX6_init_84 : decode cX6_init 84 = .ok (.iconst 3, 1) := by decide +kernel
theorem dX6_init_85 : decode cX6_init 85 = .ok (.iconst (-1), 1) := by decide +kernel
theorem dX6_init_86 : decode cX6_init 86 = .ok (.iastore, 1) := by decide +kernel
theorem dX6_init_87 : decode cX6_init 87 = .ok (.dup, 1) := by decide +kernel
theorem dX6_init_88 : decode cX6_init 88 = .ok (.iconst 4, 1) := by decide +kernel
theorem dX6_init_89 : decode cX6_init 89 = .ok (.iconst (-1), 1) := by decide +kernel
theorem dX6_init_90 : decode cX6_init 90 = .ok (.iastore, 1) := by decide +kernel
theorem dX6_init_91 : decode cX6_init 91 = .ok (.dup, 1) := by decide +kernel
theorem dX6_init_92 : decode cX6_init 92 = .ok (.iconst 5, 1) := by decide +kernel
theorem dX6_init_93 : decode cX6_init 93 = .ok (.iconst (-1), 1) := by decide +kernel
theorem dX6_init_94 : decode cX6_init 94 = .ok (.iastore, 1) := by decide +kernel
theorem dX6_init_95 : decode cX6_init 95 = .ok (.dup, 1) := by decide +kernel
theorem dX6_init_96 : decode cX6_init 96 = .ok (.bipush 6, 2) := by decide +kernel
theorem dX6_init_98 : decode cX6_init 98 = .ok (.iconst (-1), 1) := by decide +kernel
theorem dX6_init_99 : decode cX6_init 99 = .ok (.iastore, 1) := by decide +kernel
theorem dX6_init_100 : decode cX6_init 100 = .ok (.dup, 1) := by decide +kernel
theorem dX6_init_101 : decode cX6_init 101 = .ok (.bipush 7, 2) := by decide +kernel
theorem dX6_init_103 : decode cX6_init 103 = .ok (.iconst (-1), 1) := by decide +kernel
theorem dX6_init_104 : decode cX6_init 104 = .ok (.iastore, 1) := by decide +kernel
theorem dX6_init_105 : decode cX6_init 105 = .ok (.putfield 34, 3) := by decide +kernel
theorem dX6_init_108 : decode cX6_init 108 = .ok (.aload_n 0, 1) := by decide +kernel
theorem dX6_init_109 : decode cX6_init 109 = .ok (.iconst (-1), 1) := by decide +kernel
theorem dX6_init_110 : decode cX6_init 110 = .ok (.putfield 37, 3) := by decide +kernel
theorem dX6_init_113 : decode cX6_init 113 = .ok (.aload_n 0, 1) := by decide +kernel
theorem dX6_init_114 : decode cX6_init 114 = .ok (.sipush 13000, 3) := by decide +kernel
theorem dX6_init_117 : decode cX6_init 117 = .ok (.newarray .int, 2) := by decide +kernel
theorem dX6_init_119 : decode cX6_init 119 = .ok (.putfield 41, 3) := by decide +kernel
theorem dX6_init_122 : decode cX6_init 122 = .ok (.aload_n 0, 1) := by decide +kernel
theorem dX6_init_123 : decode cX6_init 123 = .ok (.bipush 30, 2) := by decide +kernel
theorem dX6_init_125 : decode cX6_init 125 = .ok (.newarray .long, 2) := by decide +kernel
theorem dX6_init_127 : decode cX6_init 127 = .ok (.putfield 44, 3) := by decide +kernel
theorem dX6_init_130 : decode cX6_init 130 = .ok (.return_, 1) := by decide +kernel
theorem dX6_in_0 : decode cX6_in 0 = .ok (.iload_n 0, 1) := by decide +kernel
theorem dX6_in_1 : decode cX6_in 1 = .ok (.iload_n 1, 1) := by decide +kernel
theorem dX6_in_2 : decode cX6_in 2 = .ok (.if_icmp .lt 12, 3) := by decide +kernel
theorem dX6_in_5 : decode cX6_in 5 = .ok (.iload_n 0, 1) := by decide +kernel
theorem dX6_in_6 : decode cX6_in 6 = .ok (.iload_n 2, 1) := by decide +kernel
theorem dX6_in_7 : decode cX6_in 7 = .ok (.if_icmp .gt 7, 3) := by decide +kernel
theorem dX6_in_10 : decode cX6_in 10 = .ok (.iconst 1, 1) := by decide +kernel
theorem dX6_in_11 : decode cX6_in 11 = .ok (.goto 4, 3) := by decide +kernel
theorem dX6_in_14 : decode cX6_in 14 = .ok (.iconst 0, 1) := by decide +kernel
theorem dX6_in_15 : decode cX6_in 15 = .ok (.ireturn, 1) := by decide +kernel
theorem dX6_isColumn_0 : decode cX6_isColumn 0 = .ok (.iload_n 0, 1) := by decide +kernel
theorem dX6_isColumn_1 : decode cX6_isColumn 1 = .ok (.ifCond .lt 13, 3) := by decide +kernel
theorem dX6_isColumn_4 : decode cX6_isColumn 4 = .ok (.iload_n 0, 1) := by decide +kernel
theorem dX6_isColumn_5 : decode cX6_isColumn 5 = .ok (.bipush 15, 2) := by decide +kernel
theorem dX6_isColumn_7 : decode cX6_isColumn 7 = .ok (.if_icmp .gt 7, 3) := by decide +kernel
theorem dX6_isColumn_10 : decode cX6_isColumn 10 = .ok (.iconst 1, 1) := by decide +kernel
theorem dX6_isColumn_11 : decode cX6_isColumn 11 = .ok (.goto 4, 3) := by decide +kernel
theorem dX6_isColumn_14 : decode cX6_isColumn 14 = .ok (.iconst 0, 1) := by decide +kernel
theorem dX6_isColumn_15 : decode cX6_isColumn 15 = .ok (.ireturn, 1) := by decide +kernel
theorem dX6_answer_0 : decode cX6_answer 0 = .ok (.bipush (-10), 2) := by decide +kernel
theorem dX6_answer_2 : decode cX6_answer 2 = .ok (.iload_n 0, 1) := by decide +kernel
theorem dX6_answer_3 : decode cX6_answer 3 = .ok (.isub, 1) := by decide +kernel
theorem dX6_answer_4 : decode cX6_answer 4 = .ok (.ireturn, 1) := by decide +kernel
theorem dX6_table_0 : decode cX6_table 0 = .ok (.aload_n 0, 1) := by decide +kernel
theorem dX6_table_1 : decode cX6_table 1 = .ok (.dup, 1) := by decide +kernel
theorem dX6_table_2 : decode cX6_table 2 = .ok (.getfield 47, 3) := by decide +kernel
theorem dX6_table_5 : decode cX6_table 5 = .ok (.iconst 1, 1) := by decide +kernel
theorem dX6_table_6 : decode cX6_table 6 = .ok (.iadd, 1) := by decide +kernel
theorem dX6_table_7 : decode cX6_table 7 = .ok (.putfield 47, 3) := by decide +kernel
theorem dX6_table_10 : decode cX6_table 10 = .ok (.aload_n 0, 1) := by decide +kernel
theorem dX6_table_11 : decode cX6_table 11 = .ok (.getfield 7, 3) := by decide +kernel
theorem dX6_table_14 : decode cX6_table 14 = .ok (.aload_n 0, 1) := by decide +kernel
theorem dX6_table_15 : decode cX6_table 15 = .ok (.getfield 47, 3) := by decide +kernel
theorem dX6_table_18 : decode cX6_table 18 = .ok (.iload_n 1, 1) := by decide +kernel
theorem dX6_table_19 : decode cX6_table 19 = .ok (.i2b, 1) := by decide +kernel
theorem dX6_table_20 : decode cX6_table 20 = .ok (.bastore, 1) := by decide +kernel
theorem dX6_table_21 : decode cX6_table 21 = .ok (.aload_n 0, 1) := by decide +kernel
theorem dX6_table_22 : decode cX6_table 22 = .ok (.getfield 13, 3) := by decide +kernel
theorem dX6_table_25 : decode cX6_table 25 = .ok (.aload_n 0, 1) := by decide +kernel
theorem dX6_table_26 : decode cX6_table 26 = .ok (.getfield 47, 3) := by decide +kernel
theorem dX6_table_29 : decode cX6_table 29 = .ok (.iload_n 2, 1) := by decide +kernel
theorem dX6_table_30 : decode cX6_table 30 = .ok (.i2b, 1) := by decide +kernel
theorem dX6_table_31 : decode cX6_table 31 = .ok (.bastore, 1) := by decide +kernel
theorem dX6_table_32 : decode cX6_table 32 = .ok (.aload_n 0, 1) := by decide +kernel
theorem dX6_table_33 : decode cX6_table 33 = .ok (.getfield 16, 3) := by decide +kernel
theorem dX6_table_36 : decode cX6_table 36 = .ok (.aload_n 0, 1) := by decide +kernel
theorem dX6_table_37 : decode cX6_table 37 = .ok (.getfield 47, 3) := by decide +kernel
theorem dX6_table_40 : decode cX6_table 40 = .ok (.aload_n 0, 1) := by decide +kernel
theorem dX6_table_41 : decode cX6_table 41 = .ok (.getfield 50, 3) := by decide +kernel
theorem dX6_table_44 : decode cX6_table 44 = .ok (.iastore, 1) := by decide +kernel
theorem dX6_table_45 : decode cX6_table 45 = .ok (.iconst 0, 1) := by decide +kernel
theorem dX6_table_46 : decode cX6_table 46 = .ok (.istore_n 3, 1) := by decide +kernel
theorem dX6_table_47 : decode cX6_table 47 = .ok (.iload_n 3, 1) := by decide +kernel
theorem dX6_table_48 : decode cX6_table 48 = .ok (.iload_n 2, 1) := by decide +kernel
theorem dX6_table_49 : decode cX6_table 49 = .ok (.if_icmp .ge 29, 3) := by decide +kernel
theorem dX6_table_52 : decode cX6_table 52 = .ok (.aload_n 0, 1) := by decide +kernel
theorem dX6_table_53 : decode cX6_table 53 = .ok (.getfield 20, 3) := by decide +kernel
theorem dX6_table_56 : decode cX6_table 56 = .ok (.aload_n 0, 1) := by decide +kernel
theorem dX6_table_57 : decode cX6_table 57 = .ok (.getfield 50, 3) := by decide +kernel
theorem dX6_table_60 : decode cX6_table 60 = .ok (.lconst 0, 1) := by decide +kernel
theorem dX6_table_61 : decode cX6_table 61 = .ok (.lastore, 1) := by decide +kernel
theorem dX6_table_62 : decode cX6_table 62 = .ok (.aload_n 0, 1) := by decide +kernel
theorem dX6_table_63 : decode cX6_table 63 = .ok (.dup, 1) := by decide +kernel
theorem dX6_table_64 : decode cX6_table 64 = .ok (.getfield 50, 3) := by decide +kernel
theorem dX6_table_67 : decode cX6_table 67 = .ok (.iconst 1, 1) := by decide +kernel
theorem dX6_table_68 : decode cX6_table 68 = .ok (.iadd, 1) := by decide +kernel
theorem dX6_table_69 : decode cX6_table 69 = .ok (.putfield 50, 3) := by decide +kernel
theorem dX6_table_72 : decode cX6_table 72 = .ok (.iinc 3 1, 3) := by decide +kernel
theorem dX6_table_75 : decode cX6_table 75 = .ok (.goto (-28), 3) := by decide +kernel
theorem dX6_table_78 : decode cX6_table 78 = .ok (.aload_n 0, 1) := by decide +kernel
theorem dX6_table_79 : decode cX6_table 79 = .ok (.getfield 47, 3) := by decide +kernel
theorem dX6_table_82 : decode cX6_table 82 = .ok (.ireturn, 1) := by decide +kernel
theorem dX6_at_0 : decode cX6_at 0 = .ok (.aload_n 0, 1) := by decide +kernel
theorem dX6_at_1 : decode cX6_at 1 = .ok (.getfield 20, 3) := by decide +kernel
theorem dX6_at_4 : decode cX6_at 4 = .ok (.aload_n 0, 1) := by decide +kernel
theorem dX6_at_5 : decode cX6_at 5 = .ok (.getfield 16, 3) := by decide +kernel
theorem dX6_at_8 : decode cX6_at 8 = .ok (.iload_n 1, 1) := by decide +kernel
theorem dX6_at_9 : decode cX6_at 9 = .ok (.iaload, 1) := by decide +kernel
theorem dX6_at_10 : decode cX6_at 10 = .ok (.iload_n 2, 1) := by decide +kernel
theorem dX6_at_11 : decode cX6_at 11 = .ok (.iadd, 1) := by decide +kernel
theorem dX6_at_12 : decode cX6_at 12 = .ok (.laload, 1) := by decide +kernel
theorem dX6_at_13 : decode cX6_at 13 = .ok (.lreturn, 1) := by decide +kernel
theorem dX6_put_0 : decode cX6_put 0 = .ok (.aload_n 0, 1) := by decide +kernel
theorem dX6_put_1 : decode cX6_put 1 = .ok (.getfield 20, 3) := by decide +kernel
theorem dX6_put_4 : decode cX6_put 4 = .ok (.aload_n 0, 1) := by decide +kernel
theorem dX6_put_5 : decode cX6_put 5 = .ok (.getfield 16, 3) := by decide +kernel
theorem dX6_put_8 : decode cX6_put 8 = .ok (.iload_n 1, 1) := by decide +kernel
theorem dX6_put_9 : decode cX6_put 9 = .ok (.iaload, 1) := by decide +kernel
theorem dX6_put_10 : decode cX6_put 10 = .ok (.iload_n 2, 1) := by decide +kernel
theorem dX6_put_11 : decode cX6_put 11 = .ok (.iadd, 1) := by decide +kernel
theorem dX6_put_12 : decode cX6_put 12 = .ok (.lload_n 3, 1) := by decide +kernel
theorem dX6_put_13 : decode cX6_put 13 = .ok (.lastore, 1) := by decide +kernel
theorem dX6_put_14 : decode cX6_put 14 = .ok (.return_, 1) := by decide +kernel
theorem dX6_rowKind_0 : decode cX6_rowKind 0 = .ok (.iload_n 0, 1) := by decide +kernel
theorem dX6_rowKind_1 : decode cX6_rowKind 1 = .ok (.bipush 10, 2) := by decide +kernel
theorem dX6_rowKind_3 : decode cX6_rowKind 3 = .ok (.if_icmp .ne 7, 3) := by decide +kernel
theorem dX6_rowKind_6 : decode cX6_rowKind 6 = .ok (.iconst 4, 1) := by decide +kernel
theorem dX6_rowKind_7 : decode cX6_rowKind 7 = .ok (.goto 27, 3) := by decide +kernel
theorem dX6_rowKind_10 : decode cX6_rowKind 10 = .ok (.iload_n 0, 1) := by decide +kernel
theorem dX6_rowKind_11 : decode cX6_rowKind 11 = .ok (.bipush 11, 2) := by decide +kernel
theorem dX6_rowKind_13 : decode cX6_rowKind 13 = .ok (.if_icmp .ne 8, 3) := by decide +kernel
theorem dX6_rowKind_16 : decode cX6_rowKind 16 = .ok (.bipush 7, 2) := by decide +kernel
theorem dX6_rowKind_18 : decode cX6_rowKind 18 = .ok (.goto 16, 3) := by decide +kernel
theorem dX6_rowKind_21 : decode cX6_rowKind 21 = .ok (.iload_n 0, 1) := by decide +kernel
theorem dX6_rowKind_22 : decode cX6_rowKind 22 = .ok (.bipush 12, 2) := by decide +kernel
theorem dX6_rowKind_24 : decode cX6_rowKind 24 = .ok (.if_icmp .ne 8, 3) := by decide +kernel
theorem dX6_rowKind_27 : decode cX6_rowKind 27 = .ok (.bipush 8, 2) := by decide +kernel
theorem dX6_rowKind_29 : decode cX6_rowKind 29 = .ok (.goto 5, 3) := by decide +kernel
theorem dX6_rowKind_32 : decode cX6_rowKind 32 = .ok (.bipush 10, 2) := by decide +kernel
theorem dX6_rowKind_34 : decode cX6_rowKind 34 = .ok (.ireturn, 1) := by decide +kernel
theorem dX6_isOf_0 : decode cX6_isOf 0 = .ok (.iload_n 1, 1) := by decide +kernel
theorem dX6_isOf_1 : decode cX6_isOf 1 = .ok (.ifCond .eq 30, 3) := by decide +kernel
theorem dX6_isOf_4 : decode cX6_isOf 4 = .ok (.aload_n 0, 1) := by decide +kernel
theorem dX6_isOf_5 : decode cX6_isOf 5 = .ok (.getfield 7, 3) := by decide +kernel
theorem dX6_isOf_8 : decode cX6_isOf 8 = .ok (.iload_n 1, 1) := by decide +kernel
theorem dX6_isOf_9 : decode cX6_isOf 9 = .ok (.baload, 1) := by decide +kernel
theorem dX6_isOf_10 : decode cX6_isOf 10 = .ok (.iload_n 2, 1) := by decide +kernel
theorem dX6_isOf_11 : decode cX6_isOf 11 = .ok (.if_icmp .eq 20, 3) := by decide +kernel
theorem dX6_isOf_14 : decode cX6_isOf 14 = .ok (.iload_n 2, 1) := by decide +kernel
theorem dX6_isOf_15 : decode cX6_isOf 15 = .ok (.bipush 8, 2) := by decide +kernel
theorem dX6_isOf_17 : decode cX6_isOf 17 = .ok (.if_icmp .ne 18, 3) := by decide +kernel
theorem dX6_isOf_20 : decode cX6_isOf 20 = .ok (.aload_n 0, 1) := by decide +kernel
theorem dX6_isOf_21 : decode cX6_isOf 21 = .ok (.getfield 7, 3) := by decide +kernel
theorem dX6_isOf_24 : decode cX6_isOf 24 = .ok (.iload_n 1, 1) := by decide +kernel
theorem dX6_isOf_25 : decode cX6_isOf 25 = .ok (.baload, 1) := by decide +kernel
theorem dX6_isOf_26 : decode cX6_isOf 26 = .ok (.bipush 9, 2) := by decide +kernel
theorem dX6_isOf_28 : decode cX6_isOf 28 = .ok (.if_icmp .ne 7, 3) := by decide +kernel
theorem dX6_isOf_31 : decode cX6_isOf 31 = .ok (.iconst 1, 1) := by decide +kernel
theorem dX6_isOf_32 : decode cX6_isOf 32 = .ok (.goto 4, 3) := by decide +kernel
theorem dX6_isOf_35 : decode cX6_isOf 35 = .ok (.iconst 0, 1) := by decide +kernel
theorem dX6_isOf_36 : decode cX6_isOf 36 = .ok (.ireturn, 1) := by decide +kernel
theorem dX6_isFull_0 : decode cX6_isFull 0 = .ok (.aload_n 0, 1) := by decide +kernel
theorem dX6_isFull_1 : decode cX6_isFull 1 = .ok (.getfield 50, 3) := by decide +kernel
theorem dX6_isFull_4 : decode cX6_isFull 4 = .ok (.sipush 6000, 3) := by decide +kernel
theorem dX6_isFull_7 : decode cX6_isFull 7 = .ok (.if_icmp .lt 7, 3) := by decide +kernel
theorem dX6_isFull_10 : decode cX6_isFull 10 = .ok (.iconst 1, 1) := by decide +kernel
theorem dX6_isFull_11 : decode cX6_isFull 11 = .ok (.goto 4, 3) := by decide +kernel
theorem dX6_isFull_14 : decode cX6_isFull 14 = .ok (.iconst 0, 1) := by decide +kernel
theorem dX6_isFull_15 : decode cX6_isFull 15 = .ok (.ireturn, 1) := by decide +kernel
theorem dX6_make_0 : decode cX6_make 0 = .ok (.iload_n 1, 1) := by decide +kernel
theorem dX6_make_1 : decode cX6_make 1 = .ok (.invokestatic 53, 3) := by decide +kernel
theorem dX6_make_4 : decode cX6_make 4 = .ok (.ifCond .eq 19, 3) := by decide +kernel
theorem dX6_make_7 : decode cX6_make 7 = .ok (.iload_n 2, 1) := by decide +kernel
theorem dX6_make_8 : decode cX6_make 8 = .ok (.iconst 0, 1) := by decide +kernel
theorem dX6_make_9 : decode cX6_make 9 = .ok (.bipush 13, 2) := by decide +kernel
theorem dX6_make_11 : decode cX6_make 11 = .ok (.invokestatic 57, 3) := by decide +kernel
theorem dX6_make_14 : decode cX6_make 14 = .ok (.ifCond .eq 9, 3) := by decide +kernel
theorem dX6_make_17 : decode cX6_make 17 = .ok (.iload_n 3, 1) := by decide +kernel
theorem dX6_make_18 : decode cX6_make 18 = .ok (.bipush 30, 2) := by decide +kernel
theorem dX6_make_20 : decode cX6_make 20 = .ok (.if_icmp .le 6, 3) := by decide +kernel
theorem dX6_make_23 : decode cX6_make 23 = .ok (.bipush (-2), 2) := by decide +kernel
theorem dX6_make_25 : decode cX6_make 25 = .ok (.ireturn, 1) := by decide +kernel
theorem dX6_make_26 : decode cX6_make 26 = .ok (.aload_n 0, 1) := by decide +kernel
theorem dX6_make_27 : decode cX6_make 27 = .ok (.invokevirtual 61, 3) := by decide +kernel
theorem dX6_make_30 : decode cX6_make 30 = .ok (.ifCond .eq 6, 3) := by decide +kernel
theorem dX6_make_33 : decode cX6_make 33 = .ok (.bipush (-3), 2) := by decide +kernel
theorem dX6_make_35 : decode cX6_make 35 = .ok (.ireturn, 1) := by decide +kernel
theorem dX6_make_36 : decode cX6_make 36 = .ok (.iload_n 3, 1) := by decide +kernel
theorem dX6_make_37 : decode cX6_make 37 = .ok (.ifCond .ge 8, 3) := by decide +kernel
theorem dX6_make_40 : decode cX6_make 40 = .ok (.iconst 4, 1) := by decide +kernel
theorem dX6_make_41 : decode cX6_make 41 = .ok (.invokestatic 65, 3) := by decide +kernel
theorem dX6_make_44 : decode cX6_make 44 = .ok (.ireturn, 1) := by decide +kernel
theorem dX6_make_45 : decode cX6_make 45 = .ok (.aload_n 0, 1) := by decide +kernel
theorem dX6_make_46 : decode cX6_make 46 = .ok (.getfield 31, 3) := by decide +kernel
theorem dX6_make_49 : decode cX6_make 49 = .ok (.iload_n 1, 1) := by decide +kernel
theorem dX6_make_50 : decode cX6_make 50 = .ok (.aload_n 0, 1) := by decide +kernel
theorem dX6_make_51 : decode cX6_make 51 = .ok (.iload_n 2, 1) := by decide +kernel
theorem dX6_make_52 : decode cX6_make 52 = .ok (.iload_n 3, 1) := by decide +kernel
theorem dX6_make_53 : decode cX6_make 53 = .ok (.invokevirtual 69, 3) := by decide +kernel
theorem dX6_make_56 : decode cX6_make 56 = .ok (.iastore, 1) := by decide +kernel
theorem dX6_make_57 : decode cX6_make 57 = .ok (.iconst 1, 1) := by decide +kernel
theorem dX6_make_58 : decode cX6_make 58 = .ok (.ireturn, 1) := by decide +kernel
theorem dX6_deep_0 : decode cX6_deep 0 = .ok (.iload_n 1, 1) := by decide +kernel
theorem dX6_deep_1 : decode cX6_deep 1 = .ok (.invokestatic 53, 3) := by decide +kernel
theorem dX6_deep_4 : decode cX6_deep 4 = .ok (.ifCond .eq 40, 3) := by decide +kernel
theorem dX6_deep_7 : decode cX6_deep 7 = .ok (.iload_n 2, 1) := by decide +kernel
theorem dX6_deep_8 : decode cX6_deep 8 = .ok (.bipush 10, 2) := by decide +kernel
theorem dX6_deep_10 : decode cX6_deep 10 = .ok (.bipush 13, 2) := by decide +kernel
theorem dX6_deep_12 : decode cX6_deep 12 = .ok (.invokestatic 57, 3) := by decide +kernel
theorem dX6_deep_15 : decode cX6_deep 15 = .ok (.ifCond .eq 29, 3) := by decide +kernel
theorem dX6_deep_18 : decode cX6_deep 18 = .ok (.iload_n 3, 1) := by decide +kernel
theorem dX6_deep_19 : decode cX6_deep 19 = .ok (.bipush 30, 2) := by decide +kernel
theorem dX6_deep_21 : decode cX6_deep 21 = .ok (.if_icmp .gt 23, 3) := by decide +kernel
theorem dX6_deep_24 : decode cX6_deep 24 = .ok (.iload 4, 2) := by decide +kernel
theorem dX6_deep_26 : decode cX6_deep 26 = .ok (.bipush 30, 2) := by decide +kernel
theorem dX6_deep_28 : decode cX6_deep 28 = .ok (.if_icmp .gt 16, 3) := by decide +kernel
theorem dX6_deep_31 : decode cX6_deep 31 = .ok (.iload_n 2, 1) := by decide +kernel
theorem dX6_deep_32 : decode cX6_deep 32 = .ok (.bipush 13, 2) := by decide +kernel
theorem dX6_deep_34 : decode cX6_deep 34 = .ok (.if_icmp .ne 13, 3) := by decide +kernel
theorem dX6_deep_37 : decode cX6_deep 37 = .ok (.iload 5, 2) := by decide +kernel
theorem dX6_deep_39 : decode cX6_deep 39 = .ok (.bipush 30, 2) := by decide +kernel
theorem dX6_deep_41 : decode cX6_deep 41 = .ok (.if_icmp .le 6, 3) := by decide +kernel
theorem dX6_deep_44 : decode cX6_deep 44 = .ok (.bipush (-2), 2) := by decide +kernel
theorem dX6_deep_46 : decode cX6_deep 46 = .ok (.ireturn, 1) := by decide +kernel
theorem dX6_deep_47 : decode cX6_deep 47 = .ok (.iload_n 3, 1) := by decide +kernel
theorem dX6_deep_48 : decode cX6_deep 48 = .ok (.ifCond .lt 19, 3) := by decide +kernel
theorem dX6_deep_51 : decode cX6_deep 51 = .ok (.iload 4, 2) := by decide +kernel
theorem dX6_deep_53 : decode cX6_deep 53 = .ok (.ifCond .lt 14, 3) := by decide +kernel
theorem dX6_deep_56 : decode cX6_deep 56 = .ok (.iload_n 2, 1) := by decide +kernel
theorem dX6_deep_57 : decode cX6_deep 57 = .ok (.bipush 13, 2) := by decide +kernel
theorem dX6_deep_59 : decode cX6_deep 59 = .ok (.if_icmp .ne 12, 3) := by decide +kernel
theorem dX6_deep_62 : decode cX6_deep 62 = .ok (.iload 5, 2) := by decide +kernel
theorem dX6_deep_64 : decode cX6_deep 64 = .ok (.ifCond .ge 7, 3) := by decide +kernel
theorem dX6_deep_67 : decode cX6_deep 67 = .ok (.iconst 1, 1) := by decide +kernel
theorem dX6_deep_68 : decode cX6_deep 68 = .ok (.goto 4, 3) := by decide +kernel
theorem dX6_deep_71 : decode cX6_deep 71 = .ok (.iconst 0, 1) := by decide +kernel
theorem dX6_deep_72 : decode cX6_deep 72 = .ok (.istore 6, 2) := by decide +kernel
theorem dX6_deep_74 : decode cX6_deep 74 = .ok (.iload 6, 2) := by decide +kernel
theorem dX6_deep_76 : decode cX6_deep 76 = .ok (.ifCond .eq 7, 3) := by decide +kernel
theorem dX6_deep_79 : decode cX6_deep 79 = .ok (.iconst 0, 1) := by decide +kernel
theorem dX6_deep_80 : decode cX6_deep 80 = .ok (.goto 23, 3) := by decide +kernel
theorem dX6_deep_83 : decode cX6_deep 83 = .ok (.iload_n 2, 1) := by decide +kernel
theorem dX6_deep_84 : decode cX6_deep 84 = .ok (.bipush 13, 2) := by decide +kernel
theorem dX6_deep_86 : decode cX6_deep 86 = .ok (.if_icmp .ne 13, 3) := by decide +kernel
theorem dX6_deep_89 : decode cX6_deep 89 = .ok (.iload_n 3, 1) := by decide +kernel
theorem dX6_deep_90 : decode cX6_deep 90 = .ok (.iload 4, 2) := by decide +kernel
theorem dX6_deep_92 : decode cX6_deep 92 = .ok (.imul, 1) := by decide +kernel
theorem dX6_deep_93 : decode cX6_deep 93 = .ok (.iload 5, 2) := by decide +kernel
theorem dX6_deep_95 : decode cX6_deep 95 = .ok (.imul, 1) := by decide +kernel
theorem dX6_deep_96 : decode cX6_deep 96 = .ok (.goto 7, 3) := by decide +kernel
theorem dX6_deep_99 : decode cX6_deep 99 = .ok (.iload_n 3, 1) := by decide +kernel
theorem dX6_deep_100 : decode cX6_deep 100 = .ok (.iload 4, 2) := by decide +kernel
theorem dX6_deep_102 : decode cX6_deep 102 = .ok (.imul, 1) := by decide +kernel
theorem dX6_deep_103 : decode cX6_deep 103 = .ok (.istore 7, 2) := by decide +kernel
theorem dX6_deep_105 : decode cX6_deep 105 = .ok (.iload 7, 2) := by decide +kernel
theorem dX6_deep_107 : decode cX6_deep 107 = .ok (.sipush 400, 3) := by decide +kernel
theorem dX6_deep_110 : decode cX6_deep 110 = .ok (.if_icmp .le 6, 3) := by decide +kernel
theorem dX6_deep_113 : decode cX6_deep 113 = .ok (.bipush (-2), 2) := by decide +kernel
theorem dX6_deep_115 : decode cX6_deep 115 = .ok (.ireturn, 1) := by decide +kernel
theorem dX6_deep_116 : decode cX6_deep 116 = .ok (.aload_n 0, 1) := by decide +kernel
theorem dX6_deep_117 : decode cX6_deep 117 = .ok (.invokevirtual 61, 3) := by decide +kernel
theorem dX6_deep_120 : decode cX6_deep 120 = .ok (.ifCond .eq 6, 3) := by decide +kernel
theorem dX6_deep_123 : decode cX6_deep 123 = .ok (.bipush (-3), 2) := by decide +kernel
theorem dX6_deep_125 : decode cX6_deep 125 = .ok (.ireturn, 1) := by decide +kernel
theorem dX6_deep_126 : decode cX6_deep 126 = .ok (.iload 6, 2) := by decide +kernel
theorem dX6_deep_128 : decode cX6_deep 128 = .ok (.ifCond .eq 8, 3) := by decide +kernel
theorem dX6_deep_131 : decode cX6_deep 131 = .ok (.iconst 4, 1) := by decide +kernel
theorem dX6_deep_132 : decode cX6_deep 132 = .ok (.invokestatic 65, 3) := by decide +kernel
theorem dX6_deep_135 : decode cX6_deep 135 = .ok (.ireturn, 1) := by decide +kernel
theorem dX6_deep_136 : decode cX6_deep 136 = .ok (.aload_n 0, 1) := by decide +kernel
theorem dX6_deep_137 : decode cX6_deep 137 = .ok (.iload_n 2, 1) := by decide +kernel
theorem dX6_deep_138 : decode cX6_deep 138 = .ok (.iload_n 3, 1) := by decide +kernel
theorem dX6_deep_139 : decode cX6_deep 139 = .ok (.invokevirtual 69, 3) := by decide +kernel
theorem dX6_deep_142 : decode cX6_deep 142 = .ok (.istore 8, 2) := by decide +kernel
theorem dX6_deep_144 : decode cX6_deep 144 = .ok (.iconst 0, 1) := by decide +kernel
theorem dX6_deep_145 : decode cX6_deep 145 = .ok (.istore 9, 2) := by decide +kernel
theorem dX6_deep_147 : decode cX6_deep 147 = .ok (.iload 9, 2) := by decide +kernel
theorem dX6_deep_149 : decode cX6_deep 149 = .ok (.iload_n 3, 1) := by decide +kernel
theorem dX6_deep_150 : decode cX6_deep 150 = .ok (.if_icmp .ge 74, 3) := by decide +kernel
theorem dX6_deep_153 : decode cX6_deep 153 = .ok (.aload_n 0, 1) := by decide +kernel
theorem dX6_deep_154 : decode cX6_deep 154 = .ok (.iload_n 2, 1) := by decide +kernel
theorem dX6_deep_155 : decode cX6_deep 155 = .ok (.invokestatic 73, 3) := by decide +kernel
theorem dX6_deep_158 : decode cX6_deep 158 = .ok (.iload 4, 2) := by decide +kernel
theorem dX6_deep_160 : decode cX6_deep 160 = .ok (.invokevirtual 69, 3) := by decide +kernel
theorem dX6_deep_163 : decode cX6_deep 163 = .ok (.istore 10, 2) := by decide +kernel
theorem dX6_deep_165 : decode cX6_deep 165 = .ok (.aload_n 0, 1) := by decide +kernel
theorem dX6_deep_166 : decode cX6_deep 166 = .ok (.iload 8, 2) := by decide +kernel
theorem dX6_deep_168 : decode cX6_deep 168 = .ok (.iload 9, 2) := by decide +kernel
theorem dX6_deep_170 : decode cX6_deep 170 = .ok (.iload 10, 2) := by decide +kernel
theorem dX6_deep_172 : decode cX6_deep 172 = .ok (.i2l, 1) := by decide +kernel
theorem dX6_deep_173 : decode cX6_deep 173 = .ok (.invokevirtual 76, 3) := by decide +kernel
theorem dX6_deep_176 : decode cX6_deep 176 = .ok (.iconst 0, 1) := by decide +kernel
theorem dX6_deep_177 : decode cX6_deep 177 = .ok (.istore 11, 2) := by decide +kernel
theorem dX6_deep_179 : decode cX6_deep 179 = .ok (.iload 11, 2) := by decide +kernel
theorem dX6_deep_181 : decode cX6_deep 181 = .ok (.iload 4, 2) := by decide +kernel
theorem dX6_deep_183 : decode cX6_deep 183 = .ok (.if_icmp .ge 35, 3) := by decide +kernel
theorem dX6_deep_186 : decode cX6_deep 186 = .ok (.iload_n 2, 1) := by decide +kernel
theorem dX6_deep_187 : decode cX6_deep 187 = .ok (.bipush 13, 2) := by decide +kernel
theorem dX6_deep_189 : decode cX6_deep 189 = .ok (.if_icmp .ne 29, 3) := by decide +kernel
theorem dX6_deep_192 : decode cX6_deep 192 = .ok (.aload_n 0, 1) := by decide +kernel
theorem dX6_deep_193 : decode cX6_deep 193 = .ok (.iconst 4, 1) := by decide +kernel
theorem dX6_deep_194 : decode cX6_deep 194 = .ok (.iload 5, 2) := by decide +kernel
theorem dX6_deep_196 : decode cX6_deep 196 = .ok (.invokevirtual 69, 3) := by decide +kernel
theorem dX6_deep_199 : decode cX6_deep 199 = .ok (.istore 12, 2) := by decide +kernel
theorem dX6_deep_201 : decode cX6_deep 201 = .ok (.aload_n 0, 1) := by decide +kernel
theorem dX6_deep_202 : decode cX6_deep 202 = .ok (.iload 10, 2) := by decide +kernel
theorem dX6_deep_204 : decode cX6_deep 204 = .ok (.iload 11, 2) := by decide +kernel
theorem dX6_deep_206 : decode cX6_deep 206 = .ok (.iload 12, 2) := by decide +kernel
theorem dX6_deep_208 : decode cX6_deep 208 = .ok (.i2l, 1) := by decide +kernel
theorem dX6_deep_209 : decode cX6_deep 209 = .ok (.invokevirtual 76, 3) := by decide +kernel
theorem dX6_deep_212 : decode cX6_deep 212 = .ok (.iinc 11 1, 3) := by decide +kernel
theorem dX6_deep_215 : decode cX6_deep 215 = .ok (.goto (-36), 3) := by decide +kernel
theorem dX6_deep_218 : decode cX6_deep 218 = .ok (.iinc 9 1, 3) := by decide +kernel
theorem dX6_deep_221 : decode cX6_deep 221 = .ok (.goto (-74), 3) := by decide +kernel
theorem dX6_deep_224 : decode cX6_deep 224 = .ok (.aload_n 0, 1) := by decide +kernel
theorem dX6_deep_225 : decode cX6_deep 225 = .ok (.getfield 31, 3) := by decide +kernel
theorem dX6_deep_228 : decode cX6_deep 228 = .ok (.iload_n 1, 1) := by decide +kernel
theorem dX6_deep_229 : decode cX6_deep 229 = .ok (.iload 8, 2) := by decide +kernel
theorem dX6_deep_231 : decode cX6_deep 231 = .ok (.iastore, 1) := by decide +kernel
theorem dX6_deep_232 : decode cX6_deep 232 = .ok (.iconst 1, 1) := by decide +kernel
theorem dX6_deep_233 : decode cX6_deep 233 = .ok (.ireturn, 1) := by decide +kernel
theorem dX6_share_0 : decode cX6_share 0 = .ok (.iload_n 1, 1) := by decide +kernel
theorem dX6_share_1 : decode cX6_share 1 = .ok (.invokestatic 53, 3) := by decide +kernel
theorem dX6_share_4 : decode cX6_share 4 = .ok (.ifCond .eq 10, 3) := by decide +kernel
theorem dX6_share_7 : decode cX6_share 7 = .ok (.iload_n 2, 1) := by decide +kernel
theorem dX6_share_8 : decode cX6_share 8 = .ok (.invokestatic 53, 3) := by decide +kernel
theorem dX6_share_11 : decode cX6_share 11 = .ok (.ifCond .ne 6, 3) := by decide +kernel
theorem dX6_share_14 : decode cX6_share 14 = .ok (.bipush (-2), 2) := by decide +kernel
theorem dX6_share_16 : decode cX6_share 16 = .ok (.ireturn, 1) := by decide +kernel
theorem dX6_share_17 : decode cX6_share 17 = .ok (.aload_n 0, 1) := by decide +kernel
theorem dX6_share_18 : decode cX6_share 18 = .ok (.getfield 31, 3) := by decide +kernel
theorem dX6_share_21 : decode cX6_share 21 = .ok (.iload_n 1, 1) := by decide +kernel
theorem dX6_share_22 : decode cX6_share 22 = .ok (.aload_n 0, 1) := by decide +kernel
theorem dX6_share_23 : decode cX6_share 23 = .ok (.getfield 31, 3) := by decide +kernel
theorem dX6_share_26 : decode cX6_share 26 = .ok (.iload_n 2, 1) := by decide +kernel
theorem dX6_share_27 : decode cX6_share 27 = .ok (.iaload, 1) := by decide +kernel
theorem dX6_share_28 : decode cX6_share 28 = .ok (.iastore, 1) := by decide +kernel
theorem dX6_share_29 : decode cX6_share 29 = .ok (.iconst 1, 1) := by decide +kernel
theorem dX6_share_30 : decode cX6_share 30 = .ok (.ireturn, 1) := by decide +kernel
theorem dX6_flat_0 : decode cX6_flat 0 = .ok (.iload_n 1, 1) := by decide +kernel
theorem dX6_flat_1 : decode cX6_flat 1 = .ok (.ifCond .ne 5, 3) := by decide +kernel
theorem dX6_flat_4 : decode cX6_flat 4 = .ok (.iconst 0, 1) := by decide +kernel
theorem dX6_flat_5 : decode cX6_flat 5 = .ok (.ireturn, 1) := by decide +kernel
theorem dX6_flat_6 : decode cX6_flat 6 = .ok (.aload_n 0, 1) := by decide +kernel
theorem dX6_flat_7 : decode cX6_flat 7 = .ok (.getfield 41, 3) := by decide +kernel
theorem dX6_flat_10 : decode cX6_flat 10 = .ok (.iload_n 1, 1) := by decide +kernel
theorem dX6_flat_11 : decode cX6_flat 11 = .ok (.iaload, 1) := by decide +kernel
theorem dX6_flat_12 : decode cX6_flat 12 = .ok (.ifCond .ne 57, 3) := by decide +kernel
theorem dX6_flat_15 : decode cX6_flat 15 = .ok (.aload_n 0, 1) := by decide +kernel
theorem dX6_flat_16 : decode cX6_flat 16 = .ok (.aload_n 0, 1) := by decide +kernel
theorem dX6_flat_17 : decode cX6_flat 17 = .ok (.getfield 7, 3) := by decide +kernel
theorem dX6_flat_20 : decode cX6_flat 20 = .ok (.iload_n 1, 1) := by decide +kernel
theorem dX6_flat_21 : decode cX6_flat 21 = .ok (.baload, 1) := by decide +kernel
theorem dX6_flat_22 : decode cX6_flat 22 = .ok (.aload_n 0, 1) := by decide +kernel
theorem dX6_flat_23 : decode cX6_flat 23 = .ok (.getfield 13, 3) := by decide +kernel
theorem dX6_flat_26 : decode cX6_flat 26 = .ok (.iload_n 1, 1) := by decide +kernel
theorem dX6_flat_27 : decode cX6_flat 27 = .ok (.baload, 1) := by decide +kernel
theorem dX6_flat_28 : decode cX6_flat 28 = .ok (.invokevirtual 69, 3) := by decide +kernel
theorem dX6_flat_31 : decode cX6_flat 31 = .ok (.istore_n 2, 1) := by decide +kernel
theorem dX6_flat_32 : decode cX6_flat 32 = .ok (.iconst 0, 1) := by decide +kernel
theorem dX6_flat_33 : decode cX6_flat 33 = .ok (.istore_n 3, 1) := by decide +kernel
theorem dX6_flat_34 : decode cX6_flat 34 = .ok (.iload_n 3, 1) := by decide +kernel
theorem dX6_flat_35 : decode cX6_flat 35 = .ok (.aload_n 0, 1) := by decide +kernel
theorem dX6_flat_36 : decode cX6_flat 36 = .ok (.getfield 13, 3) := by decide +kernel
theorem dX6_flat_39 : decode cX6_flat 39 = .ok (.iload_n 1, 1) := by decide +kernel
theorem dX6_flat_40 : decode cX6_flat 40 = .ok (.baload, 1) := by decide +kernel
theorem dX6_flat_41 : decode cX6_flat 41 = .ok (.if_icmp .ge 21, 3) := by decide +kernel
theorem dX6_flat_44 : decode cX6_flat 44 = .ok (.aload_n 0, 1) := by decide +kernel
theorem dX6_flat_45 : decode cX6_flat 45 = .ok (.iload_n 2, 1) := by decide +kernel
theorem dX6_flat_46 : decode cX6_flat 46 = .ok (.iload_n 3, 1) := by decide +kernel
theorem dX6_flat_47 : decode cX6_flat 47 = .ok (.aload_n 0, 1) := by decide +kernel
theorem dX6_flat_48 : decode cX6_flat 48 = .ok (.iload_n 1, 1) := by decide +kernel
theorem dX6_flat_49 : decode cX6_flat 49 = .ok (.iload_n 3, 1) := by decide +kernel
theorem dX6_flat_50 : decode cX6_flat 50 = .ok (.invokevirtual 80, 3) := by decide +kernel
theorem dX6_flat_53 : decode cX6_flat 53 = .ok (.invokevirtual 76, 3) := by decide +kernel
theorem dX6_flat_56 : decode cX6_flat 56 = .ok (.iinc 3 1, 3) := by decide +kernel
theorem dX6_flat_59 : decode cX6_flat 59 = .ok (.goto (-25), 3) := by decide +kernel
theorem dX6_flat_62 : decode cX6_flat 62 = .ok (.aload_n 0, 1) := by decide +kernel
theorem dX6_flat_63 : decode cX6_flat 63 = .ok (.getfield 41, 3) := by decide +kernel
theorem dX6_flat_66 : decode cX6_flat 66 = .ok (.iload_n 1, 1) := by decide +kernel
theorem dX6_flat_67 : decode cX6_flat 67 = .ok (.iload_n 2, 1) := by decide +kernel
theorem dX6_flat_68 : decode cX6_flat 68 = .ok (.iastore, 1) := by decide +kernel
theorem dX6_flat_69 : decode cX6_flat 69 = .ok (.aload_n 0, 1) := by decide +kernel
theorem dX6_flat_70 : decode cX6_flat 70 = .ok (.getfield 41, 3) := by decide +kernel
theorem dX6_flat_73 : decode cX6_flat 73 = .ok (.iload_n 1, 1) := by decide +kernel
theorem dX6_flat_74 : decode cX6_flat 74 = .ok (.iaload, 1) := by decide +kernel
theorem dX6_flat_75 : decode cX6_flat 75 = .ok (.ireturn, 1) := by decide +kernel
theorem dX6_middle_0 : decode cX6_middle 0 = .ok (.iload_n 1, 1) := by decide +kernel
theorem dX6_middle_1 : decode cX6_middle 1 = .ok (.ifCond .eq 14, 3) := by decide +kernel
theorem dX6_middle_4 : decode cX6_middle 4 = .ok (.aload_n 0, 1) := by decide +kernel
theorem dX6_middle_5 : decode cX6_middle 5 = .ok (.getfield 7, 3) := by decide +kernel
theorem dX6_middle_8 : decode cX6_middle 8 = .ok (.iload_n 1, 1) := by decide +kernel
theorem dX6_middle_9 : decode cX6_middle 9 = .ok (.baload, 1) := by decide +kernel
theorem dX6_middle_10 : decode cX6_middle 10 = .ok (.bipush 10, 2) := by decide +kernel
theorem dX6_middle_12 : decode cX6_middle 12 = .ok (.if_icmp .ge 9, 3) := by decide +kernel
theorem dX6_middle_15 : decode cX6_middle 15 = .ok (.aload_n 0, 1) := by decide +kernel
theorem dX6_middle_16 : decode cX6_middle 16 = .ok (.iload_n 1, 1) := by decide +kernel
theorem dX6_middle_17 : decode cX6_middle 17 = .ok (.invokevirtual 84, 3) := by decide +kernel
theorem dX6_middle_20 : decode cX6_middle 20 = .ok (.ireturn, 1) := by decide +kernel
theorem dX6_middle_21 : decode cX6_middle 21 = .ok (.aload_n 0, 1) := by decide +kernel
theorem dX6_middle_22 : decode cX6_middle 22 = .ok (.getfield 41, 3) := by decide +kernel
theorem dX6_middle_25 : decode cX6_middle 25 = .ok (.iload_n 1, 1) := by decide +kernel
theorem dX6_middle_26 : decode cX6_middle 26 = .ok (.iaload, 1) := by decide +kernel
theorem dX6_middle_27 : decode cX6_middle 27 = .ok (.ifCond .ne 45, 3) := by decide +kernel
theorem dX6_middle_30 : decode cX6_middle 30 = .ok (.aload_n 0, 1) := by decide +kernel
theorem dX6_middle_31 : decode cX6_middle 31 = .ok (.iload_n 1, 1) := by decide +kernel
theorem dX6_middle_32 : decode cX6_middle 32 = .ok (.invokevirtual 84, 3) := by decide +kernel
theorem dX6_middle_35 : decode cX6_middle 35 = .ok (.istore_n 2, 1) := by decide +kernel
theorem dX6_middle_36 : decode cX6_middle 36 = .ok (.iconst 0, 1) := by decide +kernel
theorem dX6_middle_37 : decode cX6_middle 37 = .ok (.istore_n 3, 1) := by decide +kernel
theorem dX6_middle_38 : decode cX6_middle 38 = .ok (.iload_n 3, 1) := by decide +kernel
theorem dX6_middle_39 : decode cX6_middle 39 = .ok (.aload_n 0, 1) := by decide +kernel
theorem dX6_middle_40 : decode cX6_middle 40 = .ok (.getfield 13, 3) := by decide +kernel
theorem dX6_middle_43 : decode cX6_middle 43 = .ok (.iload_n 1, 1) := by decide +kernel
theorem dX6_middle_44 : decode cX6_middle 44 = .ok (.baload, 1) := by decide +kernel
theorem dX6_middle_45 : decode cX6_middle 45 = .ok (.if_icmp .ge 27, 3) := by decide +kernel
theorem dX6_middle_48 : decode cX6_middle 48 = .ok (.aload_n 0, 1) := by decide +kernel
theorem dX6_middle_49 : decode cX6_middle 49 = .ok (.iload_n 2, 1) := by decide +kernel
theorem dX6_middle_50 : decode cX6_middle 50 = .ok (.iload_n 3, 1) := by decide +kernel
theorem dX6_middle_51 : decode cX6_middle 51 = .ok (.aload_n 0, 1) := by decide +kernel
theorem dX6_middle_52 : decode cX6_middle 52 = .ok (.aload_n 0, 1) := by decide +kernel
theorem dX6_middle_53 : decode cX6_middle 53 = .ok (.iload_n 1, 1) := by decide +kernel
theorem dX6_middle_54 : decode cX6_middle 54 = .ok (.iload_n 3, 1) := by decide +kernel
theorem dX6_middle_55 : decode cX6_middle 55 = .ok (.invokevirtual 80, 3) := by decide +kernel
theorem dX6_middle_58 : decode cX6_middle 58 = .ok (.l2i, 1) := by decide +kernel
theorem dX6_middle_59 : decode cX6_middle 59 = .ok (.invokevirtual 84, 3) := by decide +kernel
theorem dX6_middle_62 : decode cX6_middle 62 = .ok (.i2l, 1) := by decide +kernel
theorem dX6_middle_63 : decode cX6_middle 63 = .ok (.invokevirtual 76, 3) := by decide +kernel
theorem dX6_middle_66 : decode cX6_middle 66 = .ok (.iinc 3 1, 3) := by decide +kernel
theorem dX6_middle_69 : decode cX6_middle 69 = .ok (.goto (-31), 3) := by decide +kernel
theorem dX6_middle_72 : decode cX6_middle 72 = .ok (.aload_n 0, 1) := by decide +kernel
theorem dX6_middle_73 : decode cX6_middle 73 = .ok (.getfield 41, 3) := by decide +kernel
theorem dX6_middle_76 : decode cX6_middle 76 = .ok (.iload_n 1, 1) := by decide +kernel
theorem dX6_middle_77 : decode cX6_middle 77 = .ok (.iaload, 1) := by decide +kernel
theorem dX6_middle_78 : decode cX6_middle 78 = .ok (.ireturn, 1) := by decide +kernel
theorem dX6_aside_0 : decode cX6_aside 0 = .ok (.iload_n 1, 1) := by decide +kernel
theorem dX6_aside_1 : decode cX6_aside 1 = .ok (.invokestatic 53, 3) := by decide +kernel
theorem dX6_aside_4 : decode cX6_aside 4 = .ok (.ifCond .eq 10, 3) := by decide +kernel
theorem dX6_aside_7 : decode cX6_aside 7 = .ok (.iload_n 2, 1) := by decide +kernel
theorem dX6_aside_8 : decode cX6_aside 8 = .ok (.invokestatic 53, 3) := by decide +kernel
theorem dX6_aside_11 : decode cX6_aside 11 = .ok (.ifCond .ne 6, 3) := by decide +kernel
theorem dX6_aside_14 : decode cX6_aside 14 = .ok (.bipush (-2), 2) := by decide +kernel
theorem dX6_aside_16 : decode cX6_aside 16 = .ok (.ireturn, 1) := by decide +kernel
theorem dX6_aside_17 : decode cX6_aside 17 = .ok (.aload_n 0, 1) := by decide +kernel
theorem dX6_aside_18 : decode cX6_aside 18 = .ok (.invokevirtual 61, 3) := by decide +kernel
theorem dX6_aside_21 : decode cX6_aside 21 = .ok (.ifCond .eq 6, 3) := by decide +kernel
theorem dX6_aside_24 : decode cX6_aside 24 = .ok (.bipush (-3), 2) := by decide +kernel
theorem dX6_aside_26 : decode cX6_aside 26 = .ok (.ireturn, 1) := by decide +kernel
theorem dX6_aside_27 : decode cX6_aside 27 = .ok (.iconst 0, 1) := by decide +kernel
theorem dX6_aside_28 : decode cX6_aside 28 = .ok (.istore_n 3, 1) := by decide +kernel
theorem dX6_aside_29 : decode cX6_aside 29 = .ok (.iload_n 3, 1) := by decide +kernel
theorem dX6_aside_30 : decode cX6_aside 30 = .ok (.aload_n 0, 1) := by decide +kernel
theorem dX6_aside_31 : decode cX6_aside 31 = .ok (.getfield 47, 3) := by decide +kernel
theorem dX6_aside_34 : decode cX6_aside 34 = .ok (.if_icmp .gt 16, 3) := by decide +kernel
theorem dX6_aside_37 : decode cX6_aside 37 = .ok (.aload_n 0, 1) := by decide +kernel
theorem dX6_aside_38 : decode cX6_aside 38 = .ok (.getfield 41, 3) := by decide +kernel
theorem dX6_aside_41 : decode cX6_aside 41 = .ok (.iload_n 3, 1) := by decide +kernel
theorem dX6_aside_42 : decode cX6_aside 42 = .ok (.iconst 0, 1) := by decide +kernel
theorem dX6_aside_43 : decode cX6_aside 43 = .ok (.iastore, 1) := by decide +kernel
theorem dX6_aside_44 : decode cX6_aside 44 = .ok (.iinc 3 1, 3) := by decide +kernel
theorem dX6_aside_47 : decode cX6_aside 47 = .ok (.goto (-18), 3) := by decide +kernel
theorem dX6_aside_50 : decode cX6_aside 50 = .ok (.aload_n 0, 1) := by decide +kernel
theorem dX6_aside_51 : decode cX6_aside 51 = .ok (.getfield 31, 3) := by decide +kernel
theorem dX6_aside_54 : decode cX6_aside 54 = .ok (.iload_n 2, 1) := by decide +kernel
theorem dX6_aside_55 : decode cX6_aside 55 = .ok (.iaload, 1) := by decide +kernel
theorem dX6_aside_56 : decode cX6_aside 56 = .ok (.istore_n 3, 1) := by decide +kernel
theorem dX6_aside_57 : decode cX6_aside 57 = .ok (.iload_n 3, 1) := by decide +kernel
theorem dX6_aside_58 : decode cX6_aside 58 = .ok (.ifCond .eq 22, 3) := by decide +kernel
theorem dX6_aside_61 : decode cX6_aside 61 = .ok (.aload_n 0, 1) := by decide +kernel
theorem dX6_aside_62 : decode cX6_aside 62 = .ok (.getfield 7, 3) := by decide +kernel
theorem dX6_aside_65 : decode cX6_aside 65 = .ok (.iload_n 3, 1) := by decide +kernel
theorem dX6_aside_66 : decode cX6_aside 66 = .ok (.baload, 1) := by decide +kernel
theorem dX6_aside_67 : decode cX6_aside 67 = .ok (.bipush 13, 2) := by decide +kernel
theorem dX6_aside_69 : decode cX6_aside 69 = .ok (.if_icmp .ne 11, 3) := by decide +kernel
theorem dX6_aside_72 : decode cX6_aside 72 = .ok (.aload_n 0, 1) := by decide +kernel
theorem dX6_aside_73 : decode cX6_aside 73 = .ok (.iload_n 3, 1) := by decide +kernel
theorem dX6_aside_74 : decode cX6_aside 74 = .ok (.invokevirtual 84, 3) := by decide +kernel
theorem dX6_aside_77 : decode cX6_aside 77 = .ok (.goto 8, 3) := by decide +kernel
theorem dX6_aside_80 : decode cX6_aside 80 = .ok (.aload_n 0, 1) := by decide +kernel
theorem dX6_aside_81 : decode cX6_aside 81 = .ok (.iload_n 3, 1) := by decide +kernel
theorem dX6_aside_82 : decode cX6_aside 82 = .ok (.invokevirtual 87, 3) := by decide +kernel
theorem dX6_aside_85 : decode cX6_aside 85 = .ok (.istore 4, 2) := by decide +kernel
theorem dX6_aside_87 : decode cX6_aside 87 = .ok (.iload_n 3, 1) := by decide +kernel
theorem dX6_aside_88 : decode cX6_aside 88 = .ok (.ifCond .eq 55, 3) := by decide +kernel
theorem dX6_aside_91 : decode cX6_aside 91 = .ok (.aload_n 0, 1) := by decide +kernel
theorem dX6_aside_92 : decode cX6_aside 92 = .ok (.getfield 7, 3) := by decide +kernel
theorem dX6_aside_95 : decode cX6_aside 95 = .ok (.iload_n 3, 1) := by decide +kernel
theorem dX6_aside_96 : decode cX6_aside 96 = .ok (.baload, 1) := by decide +kernel
theorem dX6_aside_97 : decode cX6_aside 97 = .ok (.bipush 13, 2) := by decide +kernel
theorem dX6_aside_99 : decode cX6_aside 99 = .ok (.if_icmp .ne 44, 3) := by decide +kernel
theorem dX6_aside_102 : decode cX6_aside 102 = .ok (.iconst 0, 1) := by decide +kernel
theorem dX6_aside_103 : decode cX6_aside 103 = .ok (.istore 5, 2) := by decide +kernel
theorem dX6_aside_105 : decode cX6_aside 105 = .ok (.iload 5, 2) := by decide +kernel
theorem dX6_aside_107 : decode cX6_aside 107 = .ok (.aload_n 0, 1) := by decide +kernel
theorem dX6_aside_108 : decode cX6_aside 108 = .ok (.getfield 13, 3) := by decide +kernel
theorem dX6_aside_111 : decode cX6_aside 111 = .ok (.iload_n 3, 1) := by decide +kernel
theorem dX6_aside_112 : decode cX6_aside 112 = .ok (.baload, 1) := by decide +kernel
theorem dX6_aside_113 : decode cX6_aside 113 = .ok (.if_icmp .ge 30, 3) := by decide +kernel
theorem dX6_aside_116 : decode cX6_aside 116 = .ok (.aload_n 0, 1) := by decide +kernel
theorem dX6_aside_117 : decode cX6_aside 117 = .ok (.iload 4, 2) := by decide +kernel
theorem dX6_aside_119 : decode cX6_aside 119 = .ok (.iload 5, 2) := by decide +kernel
theorem dX6_aside_121 : decode cX6_aside 121 = .ok (.aload_n 0, 1) := by decide +kernel
theorem dX6_aside_122 : decode cX6_aside 122 = .ok (.aload_n 0, 1) := by decide +kernel
theorem dX6_aside_123 : decode cX6_aside 123 = .ok (.iload_n 3, 1) := by decide +kernel
theorem dX6_aside_124 : decode cX6_aside 124 = .ok (.iload 5, 2) := by decide +kernel
theorem dX6_aside_126 : decode cX6_aside 126 = .ok (.invokevirtual 80, 3) := by decide +kernel
theorem dX6_aside_129 : decode cX6_aside 129 = .ok (.l2i, 1) := by decide +kernel
theorem dX6_aside_130 : decode cX6_aside 130 = .ok (.invokevirtual 87, 3) := by decide +kernel
theorem dX6_aside_133 : decode cX6_aside 133 = .ok (.i2l, 1) := by decide +kernel
theorem dX6_aside_134 : decode cX6_aside 134 = .ok (.invokevirtual 76, 3) := by decide +kernel
theorem dX6_aside_137 : decode cX6_aside 137 = .ok (.iinc 5 1, 3) := by decide +kernel
theorem dX6_aside_140 : decode cX6_aside 140 = .ok (.goto (-35), 3) := by decide +kernel
theorem dX6_aside_143 : decode cX6_aside 143 = .ok (.aload_n 0, 1) := by decide +kernel
theorem dX6_aside_144 : decode cX6_aside 144 = .ok (.getfield 31, 3) := by decide +kernel
theorem dX6_aside_147 : decode cX6_aside 147 = .ok (.iload_n 1, 1) := by decide +kernel
theorem dX6_aside_148 : decode cX6_aside 148 = .ok (.iload 4, 2) := by decide +kernel
theorem dX6_aside_150 : decode cX6_aside 150 = .ok (.iastore, 1) := by decide +kernel
theorem dX6_aside_151 : decode cX6_aside 151 = .ok (.iconst 1, 1) := by decide +kernel
theorem dX6_aside_152 : decode cX6_aside 152 = .ok (.ireturn, 1) := by decide +kernel
theorem dX6_drop_0 : decode cX6_drop 0 = .ok (.iload_n 1, 1) := by decide +kernel
theorem dX6_drop_1 : decode cX6_drop 1 = .ok (.invokestatic 53, 3) := by decide +kernel
theorem dX6_drop_4 : decode cX6_drop 4 = .ok (.ifCond .ne 6, 3) := by decide +kernel
theorem dX6_drop_7 : decode cX6_drop 7 = .ok (.bipush (-2), 2) := by decide +kernel
theorem dX6_drop_9 : decode cX6_drop 9 = .ok (.ireturn, 1) := by decide +kernel
theorem dX6_drop_10 : decode cX6_drop 10 = .ok (.aload_n 0, 1) := by decide +kernel
theorem dX6_drop_11 : decode cX6_drop 11 = .ok (.getfield 31, 3) := by decide +kernel
theorem dX6_drop_14 : decode cX6_drop 14 = .ok (.iload_n 1, 1) := by decide +kernel
theorem dX6_drop_15 : decode cX6_drop 15 = .ok (.iaload, 1) := by decide +kernel
theorem dX6_drop_16 : decode cX6_drop 16 = .ok (.ifCond .ne 7, 3) := by decide +kernel
theorem dX6_drop_19 : decode cX6_drop 19 = .ok (.iconst 0, 1) := by decide +kernel
theorem dX6_drop_20 : decode cX6_drop 20 = .ok (.goto 4, 3) := by decide +kernel
theorem dX6_drop_23 : decode cX6_drop 23 = .ok (.iconst 1, 1) := by decide +kernel
theorem dX6_drop_24 : decode cX6_drop 24 = .ok (.istore_n 2, 1) := by decide +kernel
theorem dX6_drop_25 : decode cX6_drop 25 = .ok (.aload_n 0, 1) := by decide +kernel
theorem dX6_drop_26 : decode cX6_drop 26 = .ok (.getfield 31, 3) := by decide +kernel
theorem dX6_drop_29 : decode cX6_drop 29 = .ok (.iload_n 1, 1) := by decide +kernel
theorem dX6_drop_30 : decode cX6_drop 30 = .ok (.iconst 0, 1) := by decide +kernel
theorem dX6_drop_31 : decode cX6_drop 31 = .ok (.iastore, 1) := by decide +kernel
theorem dX6_drop_32 : decode cX6_drop 32 = .ok (.iload_n 2, 1) := by decide +kernel
theorem dX6_drop_33 : decode cX6_drop 33 = .ok (.ireturn, 1) := by decide +kernel
theorem dX6_kind_0 : decode cX6_kind 0 = .ok (.iload_n 1, 1) := by decide +kernel
theorem dX6_kind_1 : decode cX6_kind 1 = .ok (.invokestatic 53, 3) := by decide +kernel
theorem dX6_kind_4 : decode cX6_kind 4 = .ok (.ifCond .ne 6, 3) := by decide +kernel
theorem dX6_kind_7 : decode cX6_kind 7 = .ok (.bipush (-2), 2) := by decide +kernel
theorem dX6_kind_9 : decode cX6_kind 9 = .ok (.ireturn, 1) := by decide +kernel
theorem dX6_kind_10 : decode cX6_kind 10 = .ok (.aload_n 0, 1) := by decide +kernel
theorem dX6_kind_11 : decode cX6_kind 11 = .ok (.getfield 31, 3) := by decide +kernel
theorem dX6_kind_14 : decode cX6_kind 14 = .ok (.iload_n 1, 1) := by decide +kernel
theorem dX6_kind_15 : decode cX6_kind 15 = .ok (.iaload, 1) := by decide +kernel
theorem dX6_kind_16 : decode cX6_kind 16 = .ok (.ifCond .ne 7, 3) := by decide +kernel
theorem dX6_kind_19 : decode cX6_kind 19 = .ok (.iconst (-1), 1) := by decide +kernel
theorem dX6_kind_20 : decode cX6_kind 20 = .ok (.goto 14, 3) := by decide +kernel
theorem dX6_kind_23 : decode cX6_kind 23 = .ok (.aload_n 0, 1) := by decide +kernel
theorem dX6_kind_24 : decode cX6_kind 24 = .ok (.getfield 7, 3) := by decide +kernel
theorem dX6_kind_27 : decode cX6_kind 27 = .ok (.aload_n 0, 1) := by decide +kernel
theorem dX6_kind_28 : decode cX6_kind 28 = .ok (.getfield 31, 3) := by decide +kernel
theorem dX6_kind_31 : decode cX6_kind 31 = .ok (.iload_n 1, 1) := by decide +kernel
theorem dX6_kind_32 : decode cX6_kind 32 = .ok (.iaload, 1) := by decide +kernel
theorem dX6_kind_33 : decode cX6_kind 33 = .ok (.baload, 1) := by decide +kernel
theorem dX6_kind_34 : decode cX6_kind 34 = .ok (.ireturn, 1) := by decide +kernel
theorem dX6_length_0 : decode cX6_length 0 = .ok (.iload_n 1, 1) := by decide +kernel
theorem dX6_length_1 : decode cX6_length 1 = .ok (.invokestatic 53, 3) := by decide +kernel
theorem dX6_length_4 : decode cX6_length 4 = .ok (.ifCond .eq 13, 3) := by decide +kernel
theorem dX6_length_7 : decode cX6_length 7 = .ok (.iload_n 2, 1) := by decide +kernel
theorem dX6_length_8 : decode cX6_length 8 = .ok (.iconst 0, 1) := by decide +kernel
theorem dX6_length_9 : decode cX6_length 9 = .ok (.bipush 13, 2) := by decide +kernel
theorem dX6_length_11 : decode cX6_length 11 = .ok (.invokestatic 57, 3) := by decide +kernel
theorem dX6_length_14 : decode cX6_length 14 = .ok (.ifCond .ne 6, 3) := by decide +kernel
theorem dX6_length_17 : decode cX6_length 17 = .ok (.bipush (-2), 2) := by decide +kernel
theorem dX6_length_19 : decode cX6_length 19 = .ok (.ireturn, 1) := by decide +kernel
theorem dX6_length_20 : decode cX6_length 20 = .ok (.aload_n 0, 1) := by decide +kernel
theorem dX6_length_21 : decode cX6_length 21 = .ok (.getfield 31, 3) := by decide +kernel
theorem dX6_length_24 : decode cX6_length 24 = .ok (.iload_n 1, 1) := by decide +kernel
theorem dX6_length_25 : decode cX6_length 25 = .ok (.iaload, 1) := by decide +kernel
theorem dX6_length_26 : decode cX6_length 26 = .ok (.istore_n 3, 1) := by decide +kernel
theorem dX6_length_27 : decode cX6_length 27 = .ok (.aload_n 0, 1) := by decide +kernel
theorem dX6_length_28 : decode cX6_length 28 = .ok (.iload_n 3, 1) := by decide +kernel
theorem dX6_length_29 : decode cX6_length 29 = .ok (.iload_n 2, 1) := by decide +kernel
theorem dX6_length_30 : decode cX6_length 30 = .ok (.invokevirtual 90, 3) := by decide +kernel
theorem dX6_length_33 : decode cX6_length 33 = .ok (.ifCond .ne 10, 3) := by decide +kernel
theorem dX6_length_36 : decode cX6_length 36 = .ok (.iconst 2, 1) := by decide +kernel
theorem dX6_length_37 : decode cX6_length 37 = .ok (.invokestatic 65, 3) := by decide +kernel
theorem dX6_length_40 : decode cX6_length 40 = .ok (.goto 20, 3) := by decide +kernel
theorem dX6_length_43 : decode cX6_length 43 = .ok (.iload_n 3, 1) := by decide +kernel
theorem dX6_length_44 : decode cX6_length 44 = .ok (.ifCond .ne 10, 3) := by decide +kernel
theorem dX6_length_47 : decode cX6_length 47 = .ok (.iconst 1, 1) := by decide +kernel
theorem dX6_length_48 : decode cX6_length 48 = .ok (.invokestatic 65, 3) := by decide +kernel
theorem dX6_length_51 : decode cX6_length 51 = .ok (.goto 9, 3) := by decide +kernel
theorem dX6_length_54 : decode cX6_length 54 = .ok (.aload_n 0, 1) := by decide +kernel
theorem dX6_length_55 : decode cX6_length 55 = .ok (.getfield 13, 3) := by decide +kernel
theorem dX6_length_58 : decode cX6_length 58 = .ok (.iload_n 3, 1) := by decide +kernel
theorem dX6_length_59 : decode cX6_length 59 = .ok (.baload, 1) := by decide +kernel
theorem dX6_length_60 : decode cX6_length 60 = .ok (.ireturn, 1) := by decide +kernel
theorem dX6_looked_0 : decode cX6_looked 0 = .ok (.iload_n 1, 1) := by decide +kernel
theorem dX6_looked_1 : decode cX6_looked 1 = .ok (.ifCond .ne 7, 3) := by decide +kernel
theorem dX6_looked_4 : decode cX6_looked 4 = .ok (.iconst 1, 1) := by decide +kernel
theorem dX6_looked_5 : decode cX6_looked 5 = .ok (.goto 24, 3) := by decide +kernel
theorem dX6_looked_8 : decode cX6_looked 8 = .ok (.iload_n 2, 1) := by decide +kernel
theorem dX6_looked_9 : decode cX6_looked 9 = .ok (.iconst 0, 1) := by decide +kernel
theorem dX6_looked_10 : decode cX6_looked 10 = .ok (.aload_n 0, 1) := by decide +kernel
theorem dX6_looked_11 : decode cX6_looked 11 = .ok (.getfield 13, 3) := by decide +kernel
theorem dX6_looked_14 : decode cX6_looked 14 = .ok (.iload_n 1, 1) := by decide +kernel
theorem dX6_looked_15 : decode cX6_looked 15 = .ok (.baload, 1) := by decide +kernel
theorem dX6_looked_16 : decode cX6_looked 16 = .ok (.iconst 1, 1) := by decide +kernel
theorem dX6_looked_17 : decode cX6_looked 17 = .ok (.isub, 1) := by decide +kernel
theorem dX6_looked_18 : decode cX6_looked 18 = .ok (.invokestatic 57, 3) := by decide +kernel
theorem dX6_looked_21 : decode cX6_looked 21 = .ok (.ifCond .eq 7, 3) := by decide +kernel
theorem dX6_looked_24 : decode cX6_looked 24 = .ok (.iconst 0, 1) := by decide +kernel
theorem dX6_looked_25 : decode cX6_looked 25 = .ok (.goto 4, 3) := by decide +kernel
theorem dX6_looked_28 : decode cX6_looked 28 = .ok (.iconst 3, 1) := by decide +kernel
theorem dX6_looked_29 : decode cX6_looked 29 = .ok (.ireturn, 1) := by decide +kernel
theorem dX6_cut_0 : decode cX6_cut 0 = .ok (.iload_n 0, 1) := by decide +kernel
theorem dX6_cut_1 : decode cX6_cut 1 = .ok (.tableswitch 113 0 7 #[47, 51, 56, 61, 67, 113, 71, 93], 47) := by decide +kernel
theorem dX6_cut_48 : decode cX6_cut 48 = .ok (.lload_n 1, 1) := by decide +kernel
theorem dX6_cut_49 : decode cX6_cut 49 = .ok (.lconst 1, 1) := by decide +kernel
theorem dX6_cut_50 : decode cX6_cut 50 = .ok (.land, 1) := by decide +kernel
theorem dX6_cut_51 : decode cX6_cut 51 = .ok (.lreturn, 1) := by decide +kernel
theorem dX6_cut_52 : decode cX6_cut 52 = .ok (.lload_n 1, 1) := by decide +kernel
theorem dX6_cut_53 : decode cX6_cut 53 = .ok (.l2i, 1) := by decide +kernel
theorem dX6_cut_54 : decode cX6_cut 54 = .ok (.i2b, 1) := by decide +kernel
theorem dX6_cut_55 : decode cX6_cut 55 = .ok (.i2l, 1) := by decide +kernel
theorem dX6_cut_56 : decode cX6_cut 56 = .ok (.lreturn, 1) := by decide +kernel
theorem dX6_cut_57 : decode cX6_cut 57 = .ok (.lload_n 1, 1) := by decide +kernel
theorem dX6_cut_58 : decode cX6_cut 58 = .ok (.l2i, 1) := by decide +kernel
theorem dX6_cut_59 : decode cX6_cut 59 = .ok (.i2s, 1) := by decide +kernel
theorem dX6_cut_60 : decode cX6_cut 60 = .ok (.i2l, 1) := by decide +kernel
theorem dX6_cut_61 : decode cX6_cut 61 = .ok (.lreturn, 1) := by decide +kernel
theorem dX6_cut_62 : decode cX6_cut 62 = .ok (.lload_n 1, 1) := by decide +kernel
theorem dX6_cut_63 : decode cX6_cut 63 = .ok (.ldc2_w 94, 3) := by decide +kernel
theorem dX6_cut_66 : decode cX6_cut 66 = .ok (.land, 1) := by decide +kernel
theorem dX6_cut_67 : decode cX6_cut 67 = .ok (.lreturn, 1) := by decide +kernel
theorem dX6_cut_68 : decode cX6_cut 68 = .ok (.lload_n 1, 1) := by decide +kernel
theorem dX6_cut_69 : decode cX6_cut 69 = .ok (.l2i, 1) := by decide +kernel
theorem dX6_cut_70 : decode cX6_cut 70 = .ok (.i2l, 1) := by decide +kernel
theorem dX6_cut_71 : decode cX6_cut 71 = .ok (.lreturn, 1) := by decide +kernel
theorem dX6_cut_72 : decode cX6_cut 72 = .ok (.lload_n 1, 1) := by decide +kernel
theorem dX6_cut_73 : decode cX6_cut 73 = .ok (.ldc2_w 96, 3) := by decide +kernel
theorem dX6_cut_76 : decode cX6_cut 76 = .ok (.land, 1) := by decide +kernel
theorem dX6_cut_77 : decode cX6_cut 77 = .ok (.ldc2_w 98, 3) := by decide +kernel
theorem dX6_cut_80 : decode cX6_cut 80 = .ok (.lcmp, 1) := by decide +kernel
theorem dX6_cut_81 : decode cX6_cut 81 = .ok (.ifCond .le 9, 3) := by decide +kernel
theorem dX6_cut_84 : decode cX6_cut 84 = .ok (.ldc2_w 100, 3) := by decide +kernel
theorem dX6_cut_87 : decode cX6_cut 87 = .ok (.goto 6, 3) := by decide +kernel
theorem dX6_cut_90 : decode cX6_cut 90 = .ok (.lload_n 1, 1) := by decide +kernel
theorem dX6_cut_91 : decode cX6_cut 91 = .ok (.l2i, 1) := by decide +kernel
theorem dX6_cut_92 : decode cX6_cut 92 = .ok (.i2l, 1) := by decide +kernel
theorem dX6_cut_93 : decode cX6_cut 93 = .ok (.lreturn, 1) := by decide +kernel
theorem dX6_cut_94 : decode cX6_cut 94 = .ok (.lload_n 1, 1) := by decide +kernel
theorem dX6_cut_95 : decode cX6_cut 95 = .ok (.ldc2_w 102, 3) := by decide +kernel
theorem dX6_cut_98 : decode cX6_cut 98 = .ok (.land, 1) := by decide +kernel
theorem dX6_cut_99 : decode cX6_cut 99 = .ok (.ldc2_w 104, 3) := by decide +kernel
theorem dX6_cut_102 : decode cX6_cut 102 = .ok (.lcmp, 1) := by decide +kernel
theorem dX6_cut_103 : decode cX6_cut 103 = .ok (.ifCond .le 9, 3) := by decide +kernel
theorem dX6_cut_106 : decode cX6_cut 106 = .ok (.ldc2_w 106, 3) := by decide +kernel
theorem dX6_cut_109 : decode cX6_cut 109 = .ok (.goto 4, 3) := by decide +kernel
theorem dX6_cut_112 : decode cX6_cut 112 = .ok (.lload_n 1, 1) := by decide +kernel
theorem dX6_cut_113 : decode cX6_cut 113 = .ok (.lreturn, 1) := by decide +kernel
theorem dX6_cut_114 : decode cX6_cut 114 = .ok (.lload_n 1, 1) := by decide +kernel
theorem dX6_cut_115 : decode cX6_cut 115 = .ok (.lreturn, 1) := by decide +kernel
theorem dX6_itemOf_0 : decode cX6_itemOf 0 = .ok (.aload_n 0, 1) := by decide +kernel
theorem dX6_itemOf_1 : decode cX6_itemOf 1 = .ok (.iload_n 3, 1) := by decide +kernel
theorem dX6_itemOf_2 : decode cX6_itemOf 2 = .ok (.ifCond .eq 7, 3) := by decide +kernel
theorem dX6_itemOf_5 : decode cX6_itemOf 5 = .ok (.iload_n 3, 1) := by decide +kernel
theorem dX6_itemOf_6 : decode cX6_itemOf 6 = .ok (.goto 9, 3) := by decide +kernel
theorem dX6_itemOf_9 : decode cX6_itemOf 9 = .ok (.aload_n 0, 1) := by decide +kernel
theorem dX6_itemOf_10 : decode cX6_itemOf 10 = .ok (.iload_n 1, 1) := by decide +kernel
theorem dX6_itemOf_11 : decode cX6_itemOf 11 = .ok (.iload_n 2, 1) := by decide +kernel
theorem dX6_itemOf_12 : decode cX6_itemOf 12 = .ok (.invokevirtual 108, 3) := by decide +kernel
theorem dX6_itemOf_15 : decode cX6_itemOf 15 = .ok (.putfield 111, 3) := by decide +kernel
theorem dX6_itemOf_18 : decode cX6_itemOf 18 = .ok (.aload_n 0, 1) := by decide +kernel
theorem dX6_itemOf_19 : decode cX6_itemOf 19 = .ok (.getfield 111, 3) := by decide +kernel
theorem dX6_itemOf_22 : decode cX6_itemOf 22 = .ok (.ifCond .eq 5, 3) := by decide +kernel
theorem dX6_itemOf_25 : decode cX6_itemOf 25 = .ok (.lconst 0, 1) := by decide +kernel
theorem dX6_itemOf_26 : decode cX6_itemOf 26 = .ok (.lreturn, 1) := by decide +kernel
theorem dX6_itemOf_27 : decode cX6_itemOf 27 = .ok (.aload_n 0, 1) := by decide +kernel
theorem dX6_itemOf_28 : decode cX6_itemOf 28 = .ok (.iload_n 1, 1) := by decide +kernel
theorem dX6_itemOf_29 : decode cX6_itemOf 29 = .ok (.iload_n 2, 1) := by decide +kernel
theorem dX6_itemOf_30 : decode cX6_itemOf 30 = .ok (.invokevirtual 80, 3) := by decide +kernel
theorem dX6_itemOf_33 : decode cX6_itemOf 33 = .ok (.lstore 4, 2) := by decide +kernel
theorem dX6_itemOf_35 : decode cX6_itemOf 35 = .ok (.aload_n 0, 1) := by decide +kernel
theorem dX6_itemOf_36 : decode cX6_itemOf 36 = .ok (.getfield 7, 3) := by decide +kernel
theorem dX6_itemOf_39 : decode cX6_itemOf 39 = .ok (.iload_n 1, 1) := by decide +kernel
theorem dX6_itemOf_40 : decode cX6_itemOf 40 = .ok (.baload, 1) := by decide +kernel
theorem dX6_itemOf_41 : decode cX6_itemOf 41 = .ok (.bipush 8, 2) := by decide +kernel
theorem dX6_itemOf_43 : decode cX6_itemOf 43 = .ok (.if_icmp .eq 14, 3) := by decide +kernel
theorem dX6_itemOf_46 : decode cX6_itemOf 46 = .ok (.aload_n 0, 1) := by decide +kernel
theorem dX6_itemOf_47 : decode cX6_itemOf 47 = .ok (.getfield 7, 3) := by decide +kernel
theorem dX6_itemOf_50 : decode cX6_itemOf 50 = .ok (.iload_n 1, 1) := by decide +kernel
theorem dX6_itemOf_51 : decode cX6_itemOf 51 = .ok (.baload, 1) := by decide +kernel
theorem dX6_itemOf_52 : decode cX6_itemOf 52 = .ok (.bipush 9, 2) := by decide +kernel
theorem dX6_itemOf_54 : decode cX6_itemOf 54 = .ok (.if_icmp .ne 40, 3) := by decide +kernel
theorem dX6_itemOf_57 : decode cX6_itemOf 57 = .ok (.aload_n 0, 1) := by decide +kernel
theorem dX6_itemOf_58 : decode cX6_itemOf 58 = .ok (.lload 4, 2) := by decide +kernel
theorem dX6_itemOf_60 : decode cX6_itemOf 60 = .ok (.lconst 0, 1) := by decide +kernel
theorem dX6_itemOf_61 : decode cX6_itemOf 61 = .ok (.lcmp, 1) := by decide +kernel
theorem dX6_itemOf_62 : decode cX6_itemOf 62 = .ok (.ifCond .ne 7, 3) := by decide +kernel
theorem dX6_itemOf_65 : decode cX6_itemOf 65 = .ok (.iconst 1, 1) := by decide +kernel
theorem dX6_itemOf_66 : decode cX6_itemOf 66 = .ok (.goto 4, 3) := by decide +kernel
theorem dX6_itemOf_69 : decode cX6_itemOf 69 = .ok (.iconst 0, 1) := by decide +kernel
theorem dX6_itemOf_70 : decode cX6_itemOf 70 = .ok (.putfield 111, 3) := by decide +kernel
theorem dX6_itemOf_73 : decode cX6_itemOf 73 = .ok (.lload 4, 2) := by decide +kernel
theorem dX6_itemOf_75 : decode cX6_itemOf 75 = .ok (.lconst 0, 1) := by decide +kernel
theorem dX6_itemOf_76 : decode cX6_itemOf 76 = .ok (.lcmp, 1) := by decide +kernel
theorem dX6_itemOf_77 : decode cX6_itemOf 77 = .ok (.ifCond .ne 7, 3) := by decide +kernel
theorem dX6_itemOf_80 : decode cX6_itemOf 80 = .ok (.lconst 0, 1) := by decide +kernel
theorem dX6_itemOf_81 : decode cX6_itemOf 81 = .ok (.goto 12, 3) := by decide +kernel
theorem dX6_itemOf_84 : decode cX6_itemOf 84 = .ok (.aload_n 0, 1) := by decide +kernel
theorem dX6_itemOf_85 : decode cX6_itemOf 85 = .ok (.getfield 24, 3) := by decide +kernel
theorem dX6_itemOf_88 : decode cX6_itemOf 88 = .ok (.lload 4, 2) := by decide +kernel
theorem dX6_itemOf_90 : decode cX6_itemOf 90 = .ok (.l2i, 1) := by decide +kernel
theorem dX6_itemOf_91 : decode cX6_itemOf 91 = .ok (.iaload, 1) := by decide +kernel
theorem dX6_itemOf_92 : decode cX6_itemOf 92 = .ok (.i2l, 1) := by decide +kernel
theorem dX6_itemOf_93 : decode cX6_itemOf 93 = .ok (.lreturn, 1) := by decide +kernel
theorem dX6_itemOf_94 : decode cX6_itemOf 94 = .ok (.lload 4, 2) := by decide +kernel
theorem dX6_itemOf_96 : decode cX6_itemOf 96 = .ok (.lreturn, 1) := by decide +kernel
theorem dX6_read_0 : decode cX6_read 0 = .ok (.iload_n 1, 1) := by decide +kernel
theorem dX6_read_1 : decode cX6_read 1 = .ok (.invokestatic 53, 3) := by decide +kernel
theorem dX6_read_4 : decode cX6_read 4 = .ok (.ifCond .eq 13, 3) := by decide +kernel
theorem dX6_read_7 : decode cX6_read 7 = .ok (.iload_n 2, 1) := by decide +kernel
theorem dX6_read_8 : decode cX6_read 8 = .ok (.iconst 0, 1) := by decide +kernel
theorem dX6_read_9 : decode cX6_read 9 = .ok (.bipush 9, 2) := by decide +kernel
theorem dX6_read_11 : decode cX6_read 11 = .ok (.invokestatic 57, 3) := by decide +kernel
theorem dX6_read_14 : decode cX6_read 14 = .ok (.ifCond .ne 11, 3) := by decide +kernel
theorem dX6_read_17 : decode cX6_read 17 = .ok (.aload_n 0, 1) := by decide +kernel
theorem dX6_read_18 : decode cX6_read 18 = .ok (.bipush (-2), 2) := by decide +kernel
theorem dX6_read_20 : decode cX6_read 20 = .ok (.putfield 111, 3) := by decide +kernel
theorem dX6_read_23 : decode cX6_read 23 = .ok (.lconst 0, 1) := by decide +kernel
theorem dX6_read_24 : decode cX6_read 24 = .ok (.lreturn, 1) := by decide +kernel
theorem dX6_read_25 : decode cX6_read 25 = .ok (.aload_n 0, 1) := by decide +kernel
theorem dX6_read_26 : decode cX6_read 26 = .ok (.getfield 31, 3) := by decide +kernel
theorem dX6_read_29 : decode cX6_read 29 = .ok (.iload_n 1, 1) := by decide +kernel
theorem dX6_read_30 : decode cX6_read 30 = .ok (.iaload, 1) := by decide +kernel
theorem dX6_read_31 : decode cX6_read 31 = .ok (.istore 4, 2) := by decide +kernel
theorem dX6_read_33 : decode cX6_read 33 = .ok (.aload_n 0, 1) := by decide +kernel
theorem dX6_read_34 : decode cX6_read 34 = .ok (.iload 4, 2) := by decide +kernel
theorem dX6_read_36 : decode cX6_read 36 = .ok (.iload_n 3, 1) := by decide +kernel
theorem dX6_read_37 : decode cX6_read 37 = .ok (.aload_n 0, 1) := by decide +kernel
theorem dX6_read_38 : decode cX6_read 38 = .ok (.iload 4, 2) := by decide +kernel
theorem dX6_read_40 : decode cX6_read 40 = .ok (.iload_n 2, 1) := by decide +kernel
theorem dX6_read_41 : decode cX6_read 41 = .ok (.invokevirtual 90, 3) := by decide +kernel
theorem dX6_read_44 : decode cX6_read 44 = .ok (.ifCond .eq 7, 3) := by decide +kernel
theorem dX6_read_47 : decode cX6_read 47 = .ok (.iconst 0, 1) := by decide +kernel
theorem dX6_read_48 : decode cX6_read 48 = .ok (.goto 4, 3) := by decide +kernel
theorem dX6_read_51 : decode cX6_read 51 = .ok (.iconst 2, 1) := by decide +kernel
theorem dX6_read_52 : decode cX6_read 52 = .ok (.invokevirtual 114, 3) := by decide +kernel
theorem dX6_read_55 : decode cX6_read 55 = .ok (.lreturn, 1) := by decide +kernel
theorem dX6_write_0 : decode cX6_write 0 = .ok (.iload_n 1, 1) := by decide +kernel
theorem dX6_write_1 : decode cX6_write 1 = .ok (.invokestatic 53, 3) := by decide +kernel
theorem dX6_write_4 : decode cX6_write 4 = .ok (.ifCond .eq 13, 3) := by decide +kernel
theorem dX6_write_7 : decode cX6_write 7 = .ok (.iload_n 2, 1) := by decide +kernel
theorem dX6_write_8 : decode cX6_write 8 = .ok (.iconst 0, 1) := by decide +kernel
theorem dX6_write_9 : decode cX6_write 9 = .ok (.bipush 7, 2) := by decide +kernel
theorem dX6_write_11 : decode cX6_write 11 = .ok (.invokestatic 57, 3) := by decide +kernel
theorem dX6_write_14 : decode cX6_write 14 = .ok (.ifCond .ne 6, 3) := by decide +kernel
theorem dX6_write_17 : decode cX6_write 17 = .ok (.bipush (-2), 2) := by decide +kernel
theorem dX6_write_19 : decode cX6_write 19 = .ok (.ireturn, 1) := by decide +kernel
theorem dX6_write_20 : decode cX6_write 20 = .ok (.aload_n 0, 1) := by decide +kernel
theorem dX6_write_21 : decode cX6_write 21 = .ok (.getfield 31, 3) := by decide +kernel
theorem dX6_write_24 : decode cX6_write 24 = .ok (.iload_n 1, 1) := by decide +kernel
theorem dX6_write_25 : decode cX6_write 25 = .ok (.iaload, 1) := by decide +kernel
theorem dX6_write_26 : decode cX6_write 26 = .ok (.istore 6, 2) := by decide +kernel
theorem dX6_write_28 : decode cX6_write 28 = .ok (.aload_n 0, 1) := by decide +kernel
theorem dX6_write_29 : decode cX6_write 29 = .ok (.iload 6, 2) := by decide +kernel
theorem dX6_write_31 : decode cX6_write 31 = .ok (.iload_n 2, 1) := by decide +kernel
theorem dX6_write_32 : decode cX6_write 32 = .ok (.invokevirtual 90, 3) := by decide +kernel
theorem dX6_write_35 : decode cX6_write 35 = .ok (.ifCond .eq 13, 3) := by decide +kernel
theorem dX6_write_38 : decode cX6_write 38 = .ok (.aload_n 0, 1) := by decide +kernel
theorem dX6_write_39 : decode cX6_write 39 = .ok (.iload 6, 2) := by decide +kernel
theorem dX6_write_41 : decode cX6_write 41 = .ok (.iload_n 3, 1) := by decide +kernel
theorem dX6_write_42 : decode cX6_write 42 = .ok (.invokevirtual 108, 3) := by decide +kernel
theorem dX6_write_45 : decode cX6_write 45 = .ok (.goto 4, 3) := by decide +kernel
theorem dX6_write_48 : decode cX6_write 48 = .ok (.iconst 2, 1) := by decide +kernel
theorem dX6_write_49 : decode cX6_write 49 = .ok (.istore 7, 2) := by decide +kernel
theorem dX6_write_51 : decode cX6_write 51 = .ok (.iload 7, 2) := by decide +kernel
theorem dX6_write_53 : decode cX6_write 53 = .ok (.ifCond .eq 9, 3) := by decide +kernel
theorem dX6_write_56 : decode cX6_write 56 = .ok (.iload 7, 2) := by decide +kernel
theorem dX6_write_58 : decode cX6_write 58 = .ok (.invokestatic 65, 3) := by decide +kernel
theorem dX6_write_61 : decode cX6_write 61 = .ok (.ireturn, 1) := by decide +kernel
theorem dX6_write_62 : decode cX6_write 62 = .ok (.aload_n 0, 1) := by decide +kernel
theorem dX6_write_63 : decode cX6_write 63 = .ok (.iload 6, 2) := by decide +kernel
theorem dX6_write_65 : decode cX6_write 65 = .ok (.iload_n 3, 1) := by decide +kernel
theorem dX6_write_66 : decode cX6_write 66 = .ok (.iload_n 2, 1) := by decide +kernel
theorem dX6_write_67 : decode cX6_write 67 = .ok (.lload 4, 2) := by decide +kernel
theorem dX6_write_69 : decode cX6_write 69 = .ok (.invokestatic 118, 3) := by decide +kernel
theorem dX6_write_72 : decode cX6_write 72 = .ok (.invokevirtual 76, 3) := by decide +kernel
theorem dX6_write_75 : decode cX6_write 75 = .ok (.iconst 1, 1) := by decide +kernel
theorem dX6_write_76 : decode cX6_write 76 = .ok (.ireturn, 1) := by decide +kernel
theorem dX6_thing_0 : decode cX6_thing 0 = .ok (.iload_n 1, 1) := by decide +kernel
theorem dX6_thing_1 : decode cX6_thing 1 = .ok (.invokestatic 53, 3) := by decide +kernel
theorem dX6_thing_4 : decode cX6_thing 4 = .ok (.ifCond .eq 12, 3) := by decide +kernel
theorem dX6_thing_7 : decode cX6_thing 7 = .ok (.iload_n 3, 1) := by decide +kernel
theorem dX6_thing_8 : decode cX6_thing 8 = .ok (.iconst 0, 1) := by decide +kernel
theorem dX6_thing_9 : decode cX6_thing 9 = .ok (.iconst 2, 1) := by decide +kernel
theorem dX6_thing_10 : decode cX6_thing 10 = .ok (.invokestatic 57, 3) := by decide +kernel
theorem dX6_thing_13 : decode cX6_thing 13 = .ok (.ifCond .ne 6, 3) := by decide +kernel
theorem dX6_thing_16 : decode cX6_thing 16 = .ok (.bipush (-2), 2) := by decide +kernel
theorem dX6_thing_18 : decode cX6_thing 18 = .ok (.ireturn, 1) := by decide +kernel
theorem dX6_thing_19 : decode cX6_thing 19 = .ok (.iload_n 3, 1) := by decide +kernel
theorem dX6_thing_20 : decode cX6_thing 20 = .ok (.iconst 2, 1) := by decide +kernel
theorem dX6_thing_21 : decode cX6_thing 21 = .ok (.if_icmp .ge 16, 3) := by decide +kernel
theorem dX6_thing_24 : decode cX6_thing 24 = .ok (.aload_n 0, 1) := by decide +kernel
theorem dX6_thing_25 : decode cX6_thing 25 = .ok (.getfield 122, 3) := by decide +kernel
theorem dX6_thing_28 : decode cX6_thing 28 = .ok (.sipush 3000, 3) := by decide +kernel
theorem dX6_thing_31 : decode cX6_thing 31 = .ok (.if_icmp .lt 6, 3) := by decide +kernel
theorem dX6_thing_34 : decode cX6_thing 34 = .ok (.bipush (-3), 2) := by decide +kernel
theorem dX6_thing_36 : decode cX6_thing 36 = .ok (.ireturn, 1) := by decide +kernel
theorem dX6_thing_37 : decode cX6_thing 37 = .ok (.iload_n 3, 1) := by decide +kernel
theorem dX6_thing_38 : decode cX6_thing 38 = .ok (.iconst 2, 1) := by decide +kernel
theorem dX6_thing_39 : decode cX6_thing 39 = .ok (.if_icmp .ge 43, 3) := by decide +kernel
theorem dX6_thing_42 : decode cX6_thing 42 = .ok (.aload_n 0, 1) := by decide +kernel
theorem dX6_thing_43 : decode cX6_thing 43 = .ok (.dup, 1) := by decide +kernel
theorem dX6_thing_44 : decode cX6_thing 44 = .ok (.getfield 122, 3) := by decide +kernel
theorem dX6_thing_47 : decode cX6_thing 47 = .ok (.iconst 1, 1) := by decide +kernel
theorem dX6_thing_48 : decode cX6_thing 48 = .ok (.iadd, 1) := by decide +kernel
theorem dX6_thing_49 : decode cX6_thing 49 = .ok (.putfield 122, 3) := by decide +kernel
theorem dX6_thing_52 : decode cX6_thing 52 = .ok (.aload_n 0, 1) := by decide +kernel
theorem dX6_thing_53 : decode cX6_thing 53 = .ok (.getfield 24, 3) := by decide +kernel
theorem dX6_thing_56 : decode cX6_thing 56 = .ok (.aload_n 0, 1) := by decide +kernel
theorem dX6_thing_57 : decode cX6_thing 57 = .ok (.getfield 122, 3) := by decide +kernel
theorem dX6_thing_60 : decode cX6_thing 60 = .ok (.iload 4, 2) := by decide +kernel
theorem dX6_thing_62 : decode cX6_thing 62 = .ok (.iastore, 1) := by decide +kernel
theorem dX6_thing_63 : decode cX6_thing 63 = .ok (.aload_n 0, 1) := by decide +kernel
theorem dX6_thing_64 : decode cX6_thing 64 = .ok (.getfield 27, 3) := by decide +kernel
theorem dX6_thing_67 : decode cX6_thing 67 = .ok (.aload_n 0, 1) := by decide +kernel
theorem dX6_thing_68 : decode cX6_thing 68 = .ok (.getfield 122, 3) := by decide +kernel
theorem dX6_thing_71 : decode cX6_thing 71 = .ok (.iload_n 3, 1) := by decide +kernel
theorem dX6_thing_72 : decode cX6_thing 72 = .ok (.iconst 1, 1) := by decide +kernel
theorem dX6_thing_73 : decode cX6_thing 73 = .ok (.if_icmp .ne 7, 3) := by decide +kernel
theorem dX6_thing_76 : decode cX6_thing 76 = .ok (.iconst 1, 1) := by decide +kernel
theorem dX6_thing_77 : decode cX6_thing 77 = .ok (.goto 4, 3) := by decide +kernel
theorem dX6_thing_80 : decode cX6_thing 80 = .ok (.iconst 0, 1) := by decide +kernel
theorem dX6_thing_81 : decode cX6_thing 81 = .ok (.bastore, 1) := by decide +kernel
theorem dX6_thing_82 : decode cX6_thing 82 = .ok (.aload_n 0, 1) := by decide +kernel
theorem dX6_thing_83 : decode cX6_thing 83 = .ok (.getfield 31, 3) := by decide +kernel
theorem dX6_thing_86 : decode cX6_thing 86 = .ok (.iload_n 1, 1) := by decide +kernel
theorem dX6_thing_87 : decode cX6_thing 87 = .ok (.iaload, 1) := by decide +kernel
theorem dX6_thing_88 : decode cX6_thing 88 = .ok (.istore 5, 2) := by decide +kernel
theorem dX6_thing_90 : decode cX6_thing 90 = .ok (.aload_n 0, 1) := by decide +kernel
theorem dX6_thing_91 : decode cX6_thing 91 = .ok (.iload 5, 2) := by decide +kernel
theorem dX6_thing_93 : decode cX6_thing 93 = .ok (.bipush 8, 2) := by decide +kernel
theorem dX6_thing_95 : decode cX6_thing 95 = .ok (.invokevirtual 90, 3) := by decide +kernel
theorem dX6_thing_98 : decode cX6_thing 98 = .ok (.ifCond .eq 13, 3) := by decide +kernel
theorem dX6_thing_101 : decode cX6_thing 101 = .ok (.aload_n 0, 1) := by decide +kernel
theorem dX6_thing_102 : decode cX6_thing 102 = .ok (.iload 5, 2) := by decide +kernel
theorem dX6_thing_104 : decode cX6_thing 104 = .ok (.iload_n 2, 1) := by decide +kernel
theorem dX6_thing_105 : decode cX6_thing 105 = .ok (.invokevirtual 108, 3) := by decide +kernel
theorem dX6_thing_108 : decode cX6_thing 108 = .ok (.goto 4, 3) := by decide +kernel
theorem dX6_thing_111 : decode cX6_thing 111 = .ok (.iconst 2, 1) := by decide +kernel
theorem dX6_thing_112 : decode cX6_thing 112 = .ok (.istore 6, 2) := by decide +kernel
theorem dX6_thing_114 : decode cX6_thing 114 = .ok (.iload 6, 2) := by decide +kernel
theorem dX6_thing_116 : decode cX6_thing 116 = .ok (.ifCond .ne 23, 3) := by decide +kernel
theorem dX6_thing_119 : decode cX6_thing 119 = .ok (.iload_n 3, 1) := by decide +kernel
theorem dX6_thing_120 : decode cX6_thing 120 = .ok (.ifCond .ne 19, 3) := by decide +kernel
theorem dX6_thing_123 : decode cX6_thing 123 = .ok (.aload_n 0, 1) := by decide +kernel
theorem dX6_thing_124 : decode cX6_thing 124 = .ok (.getfield 7, 3) := by decide +kernel
theorem dX6_thing_127 : decode cX6_thing 127 = .ok (.iload 5, 2) := by decide +kernel
theorem dX6_thing_129 : decode cX6_thing 129 = .ok (.baload, 1) := by decide +kernel
theorem dX6_thing_130 : decode cX6_thing 130 = .ok (.bipush 9, 2) := by decide +kernel
theorem dX6_thing_132 : decode cX6_thing 132 = .ok (.if_icmp .ne 7, 3) := by decide +kernel
theorem dX6_thing_135 : decode cX6_thing 135 = .ok (.iconst 5, 1) := by decide +kernel
theorem dX6_thing_136 : decode cX6_thing 136 = .ok (.goto 5, 3) := by decide +kernel
theorem dX6_thing_139 : decode cX6_thing 139 = .ok (.iload 6, 2) := by decide +kernel
theorem dX6_thing_141 : decode cX6_thing 141 = .ok (.istore 6, 2) := by decide +kernel
theorem dX6_thing_143 : decode cX6_thing 143 = .ok (.iload 6, 2) := by decide +kernel
theorem dX6_thing_145 : decode cX6_thing 145 = .ok (.ifCond .eq 9, 3) := by decide +kernel
theorem dX6_thing_148 : decode cX6_thing 148 = .ok (.iload 6, 2) := by decide +kernel
theorem dX6_thing_150 : decode cX6_thing 150 = .ok (.invokestatic 65, 3) := by decide +kernel
theorem dX6_thing_153 : decode cX6_thing 153 = .ok (.ireturn, 1) := by decide +kernel
theorem dX6_thing_154 : decode cX6_thing 154 = .ok (.aload_n 0, 1) := by decide +kernel
theorem dX6_thing_155 : decode cX6_thing 155 = .ok (.iload 5, 2) := by decide +kernel
theorem dX6_thing_157 : decode cX6_thing 157 = .ok (.iload_n 2, 1) := by decide +kernel
theorem dX6_thing_158 : decode cX6_thing 158 = .ok (.iload_n 3, 1) := by decide +kernel
theorem dX6_thing_159 : decode cX6_thing 159 = .ok (.iconst 2, 1) := by decide +kernel
theorem dX6_thing_160 : decode cX6_thing 160 = .ok (.if_icmp .ne 7, 3) := by decide +kernel
theorem dX6_thing_163 : decode cX6_thing 163 = .ok (.lconst 0, 1) := by decide +kernel
theorem dX6_thing_164 : decode cX6_thing 164 = .ok (.goto 8, 3) := by decide +kernel
theorem dX6_thing_167 : decode cX6_thing 167 = .ok (.aload_n 0, 1) := by decide +kernel
theorem dX6_thing_168 : decode cX6_thing 168 = .ok (.getfield 122, 3) := by decide +kernel
theorem dX6_thing_171 : decode cX6_thing 171 = .ok (.i2l, 1) := by decide +kernel
theorem dX6_thing_172 : decode cX6_thing 172 = .ok (.invokevirtual 76, 3) := by decide +kernel
theorem dX6_thing_175 : decode cX6_thing 175 = .ok (.iconst 1, 1) := by decide +kernel
theorem dX6_thing_176 : decode cX6_thing 176 = .ok (.ireturn, 1) := by decide +kernel
theorem dX6_marked_0 : decode cX6_marked 0 = .ok (.iload_n 1, 1) := by decide +kernel
theorem dX6_marked_1 : decode cX6_marked 1 = .ok (.invokestatic 53, 3) := by decide +kernel
theorem dX6_marked_4 : decode cX6_marked 4 = .ok (.ifCond .ne 6, 3) := by decide +kernel
theorem dX6_marked_7 : decode cX6_marked 7 = .ok (.bipush (-2), 2) := by decide +kernel
theorem dX6_marked_9 : decode cX6_marked 9 = .ok (.ireturn, 1) := by decide +kernel
theorem dX6_marked_10 : decode cX6_marked 10 = .ok (.aload_n 0, 1) := by decide +kernel
theorem dX6_marked_11 : decode cX6_marked 11 = .ok (.getfield 31, 3) := by decide +kernel
theorem dX6_marked_14 : decode cX6_marked 14 = .ok (.iload_n 1, 1) := by decide +kernel
theorem dX6_marked_15 : decode cX6_marked 15 = .ok (.iaload, 1) := by decide +kernel
theorem dX6_marked_16 : decode cX6_marked 16 = .ok (.istore_n 3, 1) := by decide +kernel
theorem dX6_marked_17 : decode cX6_marked 17 = .ok (.aload_n 0, 1) := by decide +kernel
theorem dX6_marked_18 : decode cX6_marked 18 = .ok (.iload_n 3, 1) := by decide +kernel
theorem dX6_marked_19 : decode cX6_marked 19 = .ok (.bipush 8, 2) := by decide +kernel
theorem dX6_marked_21 : decode cX6_marked 21 = .ok (.invokevirtual 90, 3) := by decide +kernel
theorem dX6_marked_24 : decode cX6_marked 24 = .ok (.ifCond .eq 12, 3) := by decide +kernel
theorem dX6_marked_27 : decode cX6_marked 27 = .ok (.aload_n 0, 1) := by decide +kernel
theorem dX6_marked_28 : decode cX6_marked 28 = .ok (.iload_n 3, 1) := by decide +kernel
theorem dX6_marked_29 : decode cX6_marked 29 = .ok (.iload_n 2, 1) := by decide +kernel
theorem dX6_marked_30 : decode cX6_marked 30 = .ok (.invokevirtual 108, 3) := by decide +kernel
theorem dX6_marked_33 : decode cX6_marked 33 = .ok (.goto 4, 3) := by decide +kernel
theorem dX6_marked_36 : decode cX6_marked 36 = .ok (.iconst 2, 1) := by decide +kernel
theorem dX6_marked_37 : decode cX6_marked 37 = .ok (.istore 4, 2) := by decide +kernel
theorem dX6_marked_39 : decode cX6_marked 39 = .ok (.iload 4, 2) := by decide +kernel
theorem dX6_marked_41 : decode cX6_marked 41 = .ok (.ifCond .eq 9, 3) := by decide +kernel
theorem dX6_marked_44 : decode cX6_marked 44 = .ok (.iload 4, 2) := by decide +kernel
theorem dX6_marked_46 : decode cX6_marked 46 = .ok (.invokestatic 65, 3) := by decide +kernel
theorem dX6_marked_49 : decode cX6_marked 49 = .ok (.ireturn, 1) := by decide +kernel
theorem dX6_marked_50 : decode cX6_marked 50 = .ok (.aload_n 0, 1) := by decide +kernel
theorem dX6_marked_51 : decode cX6_marked 51 = .ok (.iload_n 3, 1) := by decide +kernel
theorem dX6_marked_52 : decode cX6_marked 52 = .ok (.iload_n 2, 1) := by decide +kernel
theorem dX6_marked_53 : decode cX6_marked 53 = .ok (.invokevirtual 80, 3) := by decide +kernel
theorem dX6_marked_56 : decode cX6_marked 56 = .ok (.lconst 0, 1) := by decide +kernel
theorem dX6_marked_57 : decode cX6_marked 57 = .ok (.lcmp, 1) := by decide +kernel
theorem dX6_marked_58 : decode cX6_marked 58 = .ok (.ifCond .eq 22, 3) := by decide +kernel
theorem dX6_marked_61 : decode cX6_marked 61 = .ok (.aload_n 0, 1) := by decide +kernel
theorem dX6_marked_62 : decode cX6_marked 62 = .ok (.getfield 27, 3) := by decide +kernel
theorem dX6_marked_65 : decode cX6_marked 65 = .ok (.aload_n 0, 1) := by decide +kernel
theorem dX6_marked_66 : decode cX6_marked 66 = .ok (.iload_n 3, 1) := by decide +kernel
theorem dX6_marked_67 : decode cX6_marked 67 = .ok (.iload_n 2, 1) := by decide +kernel
theorem dX6_marked_68 : decode cX6_marked 68 = .ok (.invokevirtual 80, 3) := by decide +kernel
theorem dX6_marked_71 : decode cX6_marked 71 = .ok (.l2i, 1) := by decide +kernel
theorem dX6_marked_72 : decode cX6_marked 72 = .ok (.baload, 1) := by decide +kernel
theorem dX6_marked_73 : decode cX6_marked 73 = .ok (.ifCond .eq 7, 3) := by decide +kernel
theorem dX6_marked_76 : decode cX6_marked 76 = .ok (.iconst 1, 1) := by decide +kernel
theorem dX6_marked_77 : decode cX6_marked 77 = .ok (.goto 4, 3) := by decide +kernel
theorem dX6_marked_80 : decode cX6_marked 80 = .ok (.iconst 0, 1) := by decide +kernel
theorem dX6_marked_81 : decode cX6_marked 81 = .ok (.ireturn, 1) := by decide +kernel
theorem dX6_cell_0 : decode cX6_cell 0 = .ok (.iload_n 1, 1) := by decide +kernel
theorem dX6_cell_1 : decode cX6_cell 1 = .ok (.invokestatic 53, 3) := by decide +kernel
theorem dX6_cell_4 : decode cX6_cell 4 = .ok (.ifCond .eq 14, 3) := by decide +kernel
theorem dX6_cell_7 : decode cX6_cell 7 = .ok (.iload_n 2, 1) := by decide +kernel
theorem dX6_cell_8 : decode cX6_cell 8 = .ok (.bipush 10, 2) := by decide +kernel
theorem dX6_cell_10 : decode cX6_cell 10 = .ok (.bipush 12, 2) := by decide +kernel
theorem dX6_cell_12 : decode cX6_cell 12 = .ok (.invokestatic 57, 3) := by decide +kernel
theorem dX6_cell_15 : decode cX6_cell 15 = .ok (.ifCond .ne 11, 3) := by decide +kernel
theorem dX6_cell_18 : decode cX6_cell 18 = .ok (.aload_n 0, 1) := by decide +kernel
theorem dX6_cell_19 : decode cX6_cell 19 = .ok (.bipush (-2), 2) := by decide +kernel
theorem dX6_cell_21 : decode cX6_cell 21 = .ok (.putfield 111, 3) := by decide +kernel
theorem dX6_cell_24 : decode cX6_cell 24 = .ok (.lconst 0, 1) := by decide +kernel
theorem dX6_cell_25 : decode cX6_cell 25 = .ok (.lreturn, 1) := by decide +kernel
theorem dX6_cell_26 : decode cX6_cell 26 = .ok (.aload_n 0, 1) := by decide +kernel
theorem dX6_cell_27 : decode cX6_cell 27 = .ok (.getfield 31, 3) := by decide +kernel
theorem dX6_cell_30 : decode cX6_cell 30 = .ok (.iload_n 1, 1) := by decide +kernel
theorem dX6_cell_31 : decode cX6_cell 31 = .ok (.iaload, 1) := by decide +kernel
theorem dX6_cell_32 : decode cX6_cell 32 = .ok (.istore 5, 2) := by decide +kernel
theorem dX6_cell_34 : decode cX6_cell 34 = .ok (.aload_n 0, 1) := by decide +kernel
theorem dX6_cell_35 : decode cX6_cell 35 = .ok (.iload 5, 2) := by decide +kernel
theorem dX6_cell_37 : decode cX6_cell 37 = .ok (.iload_n 2, 1) := by decide +kernel
theorem dX6_cell_38 : decode cX6_cell 38 = .ok (.invokevirtual 90, 3) := by decide +kernel
theorem dX6_cell_41 : decode cX6_cell 41 = .ok (.ifCond .eq 13, 3) := by decide +kernel
theorem dX6_cell_44 : decode cX6_cell 44 = .ok (.aload_n 0, 1) := by decide +kernel
theorem dX6_cell_45 : decode cX6_cell 45 = .ok (.iload 5, 2) := by decide +kernel
theorem dX6_cell_47 : decode cX6_cell 47 = .ok (.iload_n 3, 1) := by decide +kernel
theorem dX6_cell_48 : decode cX6_cell 48 = .ok (.invokevirtual 108, 3) := by decide +kernel
theorem dX6_cell_51 : decode cX6_cell 51 = .ok (.goto 4, 3) := by decide +kernel
theorem dX6_cell_54 : decode cX6_cell 54 = .ok (.iconst 2, 1) := by decide +kernel
theorem dX6_cell_55 : decode cX6_cell 55 = .ok (.istore 6, 2) := by decide +kernel
theorem dX6_cell_57 : decode cX6_cell 57 = .ok (.aload_n 0, 1) := by decide +kernel
theorem dX6_cell_58 : decode cX6_cell 58 = .ok (.iload 6, 2) := by decide +kernel
theorem dX6_cell_60 : decode cX6_cell 60 = .ok (.ifCond .ne 14, 3) := by decide +kernel
theorem dX6_cell_63 : decode cX6_cell 63 = .ok (.aload_n 0, 1) := by decide +kernel
theorem dX6_cell_64 : decode cX6_cell 64 = .ok (.iload 5, 2) := by decide +kernel
theorem dX6_cell_66 : decode cX6_cell 66 = .ok (.iload_n 3, 1) := by decide +kernel
theorem dX6_cell_67 : decode cX6_cell 67 = .ok (.invokevirtual 80, 3) := by decide +kernel
theorem dX6_cell_70 : decode cX6_cell 70 = .ok (.l2i, 1) := by decide +kernel
theorem dX6_cell_71 : decode cX6_cell 71 = .ok (.goto 4, 3) := by decide +kernel
theorem dX6_cell_74 : decode cX6_cell 74 = .ok (.iconst 0, 1) := by decide +kernel
theorem dX6_cell_75 : decode cX6_cell 75 = .ok (.iload 4, 2) := by decide +kernel
theorem dX6_cell_77 : decode cX6_cell 77 = .ok (.iload 6, 2) := by decide +kernel
theorem dX6_cell_79 : decode cX6_cell 79 = .ok (.invokevirtual 114, 3) := by decide +kernel
theorem dX6_cell_82 : decode cX6_cell 82 = .ok (.lreturn, 1) := by decide +kernel
theorem dX6_set_0 : decode cX6_set 0 = .ok (.iload_n 1, 1) := by decide +kernel
theorem dX6_set_1 : decode cX6_set 1 = .ok (.invokestatic 53, 3) := by decide +kernel
theorem dX6_set_4 : decode cX6_set 4 = .ok (.ifCond .eq 14, 3) := by decide +kernel
theorem dX6_set_7 : decode cX6_set 7 = .ok (.iload_n 2, 1) := by decide +kernel
theorem dX6_set_8 : decode cX6_set 8 = .ok (.bipush 10, 2) := by decide +kernel
theorem dX6_set_10 : decode cX6_set 10 = .ok (.bipush 11, 2) := by decide +kernel
theorem dX6_set_12 : decode cX6_set 12 = .ok (.invokestatic 57, 3) := by decide +kernel
theorem dX6_set_15 : decode cX6_set 15 = .ok (.ifCond .ne 6, 3) := by decide +kernel
theorem dX6_set_18 : decode cX6_set 18 = .ok (.bipush (-2), 2) := by decide +kernel
theorem dX6_set_20 : decode cX6_set 20 = .ok (.ireturn, 1) := by decide +kernel
theorem dX6_set_21 : decode cX6_set 21 = .ok (.aload_n 0, 1) := by decide +kernel
theorem dX6_set_22 : decode cX6_set 22 = .ok (.getfield 31, 3) := by decide +kernel
theorem dX6_set_25 : decode cX6_set 25 = .ok (.iload_n 1, 1) := by decide +kernel
theorem dX6_set_26 : decode cX6_set 26 = .ok (.iaload, 1) := by decide +kernel
theorem dX6_set_27 : decode cX6_set 27 = .ok (.istore 7, 2) := by decide +kernel
theorem dX6_set_29 : decode cX6_set 29 = .ok (.aload_n 0, 1) := by decide +kernel
theorem dX6_set_30 : decode cX6_set 30 = .ok (.iload 7, 2) := by decide +kernel
theorem dX6_set_32 : decode cX6_set 32 = .ok (.iload_n 2, 1) := by decide +kernel
theorem dX6_set_33 : decode cX6_set 33 = .ok (.invokevirtual 90, 3) := by decide +kernel
theorem dX6_set_36 : decode cX6_set 36 = .ok (.ifCond .eq 13, 3) := by decide +kernel
theorem dX6_set_39 : decode cX6_set 39 = .ok (.aload_n 0, 1) := by decide +kernel
theorem dX6_set_40 : decode cX6_set 40 = .ok (.iload 7, 2) := by decide +kernel
theorem dX6_set_42 : decode cX6_set 42 = .ok (.iload_n 3, 1) := by decide +kernel
theorem dX6_set_43 : decode cX6_set 43 = .ok (.invokevirtual 108, 3) := by decide +kernel
theorem dX6_set_46 : decode cX6_set 46 = .ok (.goto 4, 3) := by decide +kernel
theorem dX6_set_49 : decode cX6_set 49 = .ok (.iconst 2, 1) := by decide +kernel
theorem dX6_set_50 : decode cX6_set 50 = .ok (.istore 8, 2) := by decide +kernel
theorem dX6_set_52 : decode cX6_set 52 = .ok (.iload 8, 2) := by decide +kernel
theorem dX6_set_54 : decode cX6_set 54 = .ok (.ifCond .ne 14, 3) := by decide +kernel
theorem dX6_set_57 : decode cX6_set 57 = .ok (.aload_n 0, 1) := by decide +kernel
theorem dX6_set_58 : decode cX6_set 58 = .ok (.iload 7, 2) := by decide +kernel
theorem dX6_set_60 : decode cX6_set 60 = .ok (.iload_n 3, 1) := by decide +kernel
theorem dX6_set_61 : decode cX6_set 61 = .ok (.invokevirtual 80, 3) := by decide +kernel
theorem dX6_set_64 : decode cX6_set 64 = .ok (.l2i, 1) := by decide +kernel
theorem dX6_set_65 : decode cX6_set 65 = .ok (.goto 4, 3) := by decide +kernel
theorem dX6_set_68 : decode cX6_set 68 = .ok (.iconst 0, 1) := by decide +kernel
theorem dX6_set_69 : decode cX6_set 69 = .ok (.istore 9, 2) := by decide +kernel
theorem dX6_set_71 : decode cX6_set 71 = .ok (.iload 8, 2) := by decide +kernel
theorem dX6_set_73 : decode cX6_set 73 = .ok (.ifCond .ne 14, 3) := by decide +kernel
theorem dX6_set_76 : decode cX6_set 76 = .ok (.aload_n 0, 1) := by decide +kernel
theorem dX6_set_77 : decode cX6_set 77 = .ok (.iload 9, 2) := by decide +kernel
theorem dX6_set_79 : decode cX6_set 79 = .ok (.iload 4, 2) := by decide +kernel
theorem dX6_set_81 : decode cX6_set 81 = .ok (.invokevirtual 108, 3) := by decide +kernel
theorem dX6_set_84 : decode cX6_set 84 = .ok (.goto 5, 3) := by decide +kernel
theorem dX6_set_87 : decode cX6_set 87 = .ok (.iload 8, 2) := by decide +kernel
theorem dX6_set_89 : decode cX6_set 89 = .ok (.istore 8, 2) := by decide +kernel
theorem dX6_set_91 : decode cX6_set 91 = .ok (.iload 8, 2) := by decide +kernel
theorem dX6_set_93 : decode cX6_set 93 = .ok (.ifCond .eq 9, 3) := by decide +kernel
theorem dX6_set_96 : decode cX6_set 96 = .ok (.iload 8, 2) := by decide +kernel
theorem dX6_set_98 : decode cX6_set 98 = .ok (.invokestatic 65, 3) := by decide +kernel
theorem dX6_set_101 : decode cX6_set 101 = .ok (.ireturn, 1) := by decide +kernel
theorem dX6_set_102 : decode cX6_set 102 = .ok (.aload_n 0, 1) := by decide +kernel
theorem dX6_set_103 : decode cX6_set 103 = .ok (.iload 9, 2) := by decide +kernel
theorem dX6_set_105 : decode cX6_set 105 = .ok (.iload 4, 2) := by decide +kernel
theorem dX6_set_107 : decode cX6_set 107 = .ok (.iload_n 2, 1) := by decide +kernel
theorem dX6_set_108 : decode cX6_set 108 = .ok (.invokestatic 73, 3) := by decide +kernel
theorem dX6_set_111 : decode cX6_set 111 = .ok (.lload 5, 2) := by decide +kernel
theorem dX6_set_113 : decode cX6_set 113 = .ok (.invokestatic 118, 3) := by decide +kernel
theorem dX6_set_116 : decode cX6_set 116 = .ok (.invokevirtual 76, 3) := by decide +kernel
theorem dX6_set_119 : decode cX6_set 119 = .ok (.iconst 1, 1) := by decide +kernel
theorem dX6_set_120 : decode cX6_set 120 = .ok (.ireturn, 1) := by decide +kernel
theorem dX6_deepest_0 : decode cX6_deepest 0 = .ok (.iload_n 1, 1) := by decide +kernel
theorem dX6_deepest_1 : decode cX6_deepest 1 = .ok (.invokestatic 53, 3) := by decide +kernel
theorem dX6_deepest_4 : decode cX6_deepest 4 = .ok (.ifCond .ne 11, 3) := by decide +kernel
theorem dX6_deepest_7 : decode cX6_deepest 7 = .ok (.aload_n 0, 1) := by decide +kernel
theorem dX6_deepest_8 : decode cX6_deepest 8 = .ok (.bipush (-2), 2) := by decide +kernel
theorem dX6_deepest_10 : decode cX6_deepest 10 = .ok (.putfield 111, 3) := by decide +kernel
theorem dX6_deepest_13 : decode cX6_deepest 13 = .ok (.lconst 0, 1) := by decide +kernel
theorem dX6_deepest_14 : decode cX6_deepest 14 = .ok (.lreturn, 1) := by decide +kernel
theorem dX6_deepest_15 : decode cX6_deepest 15 = .ok (.aload_n 0, 1) := by decide +kernel
theorem dX6_deepest_16 : decode cX6_deepest 16 = .ok (.getfield 31, 3) := by decide +kernel
theorem dX6_deepest_19 : decode cX6_deepest 19 = .ok (.iload_n 1, 1) := by decide +kernel
theorem dX6_deepest_20 : decode cX6_deepest 20 = .ok (.iaload, 1) := by decide +kernel
theorem dX6_deepest_21 : decode cX6_deepest 21 = .ok (.istore 5, 2) := by decide +kernel
theorem dX6_deepest_23 : decode cX6_deepest 23 = .ok (.aload_n 0, 1) := by decide +kernel
theorem dX6_deepest_24 : decode cX6_deepest 24 = .ok (.iload 5, 2) := by decide +kernel
theorem dX6_deepest_26 : decode cX6_deepest 26 = .ok (.bipush 13, 2) := by decide +kernel
theorem dX6_deepest_28 : decode cX6_deepest 28 = .ok (.invokevirtual 90, 3) := by decide +kernel
theorem dX6_deepest_31 : decode cX6_deepest 31 = .ok (.ifCond .eq 13, 3) := by decide +kernel
theorem dX6_deepest_34 : decode cX6_deepest 34 = .ok (.aload_n 0, 1) := by decide +kernel
theorem dX6_deepest_35 : decode cX6_deepest 35 = .ok (.iload 5, 2) := by decide +kernel
theorem dX6_deepest_37 : decode cX6_deepest 37 = .ok (.iload_n 2, 1) := by decide +kernel
theorem dX6_deepest_38 : decode cX6_deepest 38 = .ok (.invokevirtual 108, 3) := by decide +kernel
theorem dX6_deepest_41 : decode cX6_deepest 41 = .ok (.goto 4, 3) := by decide +kernel
theorem dX6_deepest_44 : decode cX6_deepest 44 = .ok (.iconst 2, 1) := by decide +kernel
theorem dX6_deepest_45 : decode cX6_deepest 45 = .ok (.istore 6, 2) := by decide +kernel
theorem dX6_deepest_47 : decode cX6_deepest 47 = .ok (.iload 6, 2) := by decide +kernel
theorem dX6_deepest_49 : decode cX6_deepest 49 = .ok (.ifCond .ne 14, 3) := by decide +kernel
theorem dX6_deepest_52 : decode cX6_deepest 52 = .ok (.aload_n 0, 1) := by decide +kernel
theorem dX6_deepest_53 : decode cX6_deepest 53 = .ok (.iload 5, 2) := by decide +kernel
theorem dX6_deepest_55 : decode cX6_deepest 55 = .ok (.iload_n 2, 1) := by decide +kernel
theorem dX6_deepest_56 : decode cX6_deepest 56 = .ok (.invokevirtual 80, 3) := by decide +kernel
theorem dX6_deepest_59 : decode cX6_deepest 59 = .ok (.l2i, 1) := by decide +kernel
theorem dX6_deepest_60 : decode cX6_deepest 60 = .ok (.goto 4, 3) := by decide +kernel
theorem dX6_deepest_63 : decode cX6_deepest 63 = .ok (.iconst 0, 1) := by decide +kernel
theorem dX6_deepest_64 : decode cX6_deepest 64 = .ok (.istore 7, 2) := by decide +kernel
theorem dX6_deepest_66 : decode cX6_deepest 66 = .ok (.iload 6, 2) := by decide +kernel
theorem dX6_deepest_68 : decode cX6_deepest 68 = .ok (.ifCond .ne 13, 3) := by decide +kernel
theorem dX6_deepest_71 : decode cX6_deepest 71 = .ok (.aload_n 0, 1) := by decide +kernel
theorem dX6_deepest_72 : decode cX6_deepest 72 = .ok (.iload 7, 2) := by decide +kernel
theorem dX6_deepest_74 : decode cX6_deepest 74 = .ok (.iload_n 3, 1) := by decide +kernel
theorem dX6_deepest_75 : decode cX6_deepest 75 = .ok (.invokevirtual 108, 3) := by decide +kernel
theorem dX6_deepest_78 : decode cX6_deepest 78 = .ok (.goto 5, 3) := by decide +kernel
theorem dX6_deepest_81 : decode cX6_deepest 81 = .ok (.iload 6, 2) := by decide +kernel
theorem dX6_deepest_83 : decode cX6_deepest 83 = .ok (.istore 6, 2) := by decide +kernel
theorem dX6_deepest_85 : decode cX6_deepest 85 = .ok (.aload_n 0, 1) := by decide +kernel
theorem dX6_deepest_86 : decode cX6_deepest 86 = .ok (.iload 6, 2) := by decide +kernel
theorem dX6_deepest_88 : decode cX6_deepest 88 = .ok (.ifCond .ne 14, 3) := by decide +kernel
theorem dX6_deepest_91 : decode cX6_deepest 91 = .ok (.aload_n 0, 1) := by decide +kernel
theorem dX6_deepest_92 : decode cX6_deepest 92 = .ok (.iload 7, 2) := by decide +kernel
theorem dX6_deepest_94 : decode cX6_deepest 94 = .ok (.iload_n 3, 1) := by decide +kernel
theorem dX6_deepest_95 : decode cX6_deepest 95 = .ok (.invokevirtual 80, 3) := by decide +kernel
theorem dX6_deepest_98 : decode cX6_deepest 98 = .ok (.l2i, 1) := by decide +kernel
theorem dX6_deepest_99 : decode cX6_deepest 99 = .ok (.goto 4, 3) := by decide +kernel
theorem dX6_deepest_102 : decode cX6_deepest 102 = .ok (.iconst 0, 1) := by decide +kernel
theorem dX6_deepest_103 : decode cX6_deepest 103 = .ok (.iload 4, 2) := by decide +kernel
theorem dX6_deepest_105 : decode cX6_deepest 105 = .ok (.iload 6, 2) := by decide +kernel
theorem dX6_deepest_107 : decode cX6_deepest 107 = .ok (.invokevirtual 114, 3) := by decide +kernel
theorem dX6_deepest_110 : decode cX6_deepest 110 = .ok (.lreturn, 1) := by decide +kernel
theorem dX6_row_0 : decode cX6_row 0 = .ok (.iload_n 1, 1) := by decide +kernel
theorem dX6_row_1 : decode cX6_row 1 = .ok (.invokestatic 53, 3) := by decide +kernel
theorem dX6_row_4 : decode cX6_row 4 = .ok (.ifCond .eq 22, 3) := by decide +kernel
theorem dX6_row_7 : decode cX6_row 7 = .ok (.iload_n 2, 1) := by decide +kernel
theorem dX6_row_8 : decode cX6_row 8 = .ok (.bipush 10, 2) := by decide +kernel
theorem dX6_row_10 : decode cX6_row 10 = .ok (.bipush 13, 2) := by decide +kernel
theorem dX6_row_12 : decode cX6_row 12 = .ok (.invokestatic 57, 3) := by decide +kernel
theorem dX6_row_15 : decode cX6_row 15 = .ok (.ifCond .eq 11, 3) := by decide +kernel
theorem dX6_row_18 : decode cX6_row 18 = .ok (.iload 4, 2) := by decide +kernel
theorem dX6_row_20 : decode cX6_row 20 = .ok (.invokestatic 53, 3) := by decide +kernel
theorem dX6_row_23 : decode cX6_row 23 = .ok (.ifCond .ne 6, 3) := by decide +kernel
theorem dX6_row_26 : decode cX6_row 26 = .ok (.bipush (-2), 2) := by decide +kernel
theorem dX6_row_28 : decode cX6_row 28 = .ok (.ireturn, 1) := by decide +kernel
theorem dX6_row_29 : decode cX6_row 29 = .ok (.aload_n 0, 1) := by decide +kernel
theorem dX6_row_30 : decode cX6_row 30 = .ok (.getfield 31, 3) := by decide +kernel
theorem dX6_row_33 : decode cX6_row 33 = .ok (.iload_n 1, 1) := by decide +kernel
theorem dX6_row_34 : decode cX6_row 34 = .ok (.iaload, 1) := by decide +kernel
theorem dX6_row_35 : decode cX6_row 35 = .ok (.istore 5, 2) := by decide +kernel
theorem dX6_row_37 : decode cX6_row 37 = .ok (.aload_n 0, 1) := by decide +kernel
theorem dX6_row_38 : decode cX6_row 38 = .ok (.iload 5, 2) := by decide +kernel
theorem dX6_row_40 : decode cX6_row 40 = .ok (.iload_n 2, 1) := by decide +kernel
theorem dX6_row_41 : decode cX6_row 41 = .ok (.invokevirtual 90, 3) := by decide +kernel
theorem dX6_row_44 : decode cX6_row 44 = .ok (.ifCond .eq 31, 3) := by decide +kernel
theorem dX6_row_47 : decode cX6_row 47 = .ok (.aload_n 0, 1) := by decide +kernel
theorem dX6_row_48 : decode cX6_row 48 = .ok (.aload_n 0, 1) := by decide +kernel
theorem dX6_row_49 : decode cX6_row 49 = .ok (.getfield 31, 3) := by decide +kernel
theorem dX6_row_52 : decode cX6_row 52 = .ok (.iload 4, 2) := by decide +kernel
theorem dX6_row_54 : decode cX6_row 54 = .ok (.iaload, 1) := by decide +kernel
theorem dX6_row_55 : decode cX6_row 55 = .ok (.iload_n 2, 1) := by decide +kernel
theorem dX6_row_56 : decode cX6_row 56 = .ok (.invokestatic 73, 3) := by decide +kernel
theorem dX6_row_59 : decode cX6_row 59 = .ok (.invokevirtual 90, 3) := by decide +kernel
theorem dX6_row_62 : decode cX6_row 62 = .ok (.ifCond .eq 13, 3) := by decide +kernel
theorem dX6_row_65 : decode cX6_row 65 = .ok (.aload_n 0, 1) := by decide +kernel
theorem dX6_row_66 : decode cX6_row 66 = .ok (.iload 5, 2) := by decide +kernel
theorem dX6_row_68 : decode cX6_row 68 = .ok (.iload_n 3, 1) := by decide +kernel
theorem dX6_row_69 : decode cX6_row 69 = .ok (.invokevirtual 108, 3) := by decide +kernel
theorem dX6_row_72 : decode cX6_row 72 = .ok (.goto 4, 3) := by decide +kernel
theorem dX6_row_75 : decode cX6_row 75 = .ok (.iconst 2, 1) := by decide +kernel
theorem dX6_row_76 : decode cX6_row 76 = .ok (.istore 6, 2) := by decide +kernel
theorem dX6_row_78 : decode cX6_row 78 = .ok (.iload 6, 2) := by decide +kernel
theorem dX6_row_80 : decode cX6_row 80 = .ok (.ifCond .eq 9, 3) := by decide +kernel
theorem dX6_row_83 : decode cX6_row 83 = .ok (.iload 6, 2) := by decide +kernel
theorem dX6_row_85 : decode cX6_row 85 = .ok (.invokestatic 65, 3) := by decide +kernel
theorem dX6_row_88 : decode cX6_row 88 = .ok (.ireturn, 1) := by decide +kernel
theorem dX6_row_89 : decode cX6_row 89 = .ok (.aload_n 0, 1) := by decide +kernel
theorem dX6_row_90 : decode cX6_row 90 = .ok (.iload 5, 2) := by decide +kernel
theorem dX6_row_92 : decode cX6_row 92 = .ok (.iload_n 3, 1) := by decide +kernel
theorem dX6_row_93 : decode cX6_row 93 = .ok (.aload_n 0, 1) := by decide +kernel
theorem dX6_row_94 : decode cX6_row 94 = .ok (.getfield 31, 3) := by decide +kernel
theorem dX6_row_97 : decode cX6_row 97 = .ok (.iload 4, 2) := by decide +kernel
theorem dX6_row_99 : decode cX6_row 99 = .ok (.iaload, 1) := by decide +kernel
theorem dX6_row_100 : decode cX6_row 100 = .ok (.i2l, 1) := by decide +kernel
theorem dX6_row_101 : decode cX6_row 101 = .ok (.invokevirtual 76, 3) := by decide +kernel
theorem dX6_row_104 : decode cX6_row 104 = .ok (.iconst 1, 1) := by decide +kernel
theorem dX6_row_105 : decode cX6_row 105 = .ok (.ireturn, 1) := by decide +kernel
theorem dX6_take_0 : decode cX6_take 0 = .ok (.iload_n 1, 1) := by decide +kernel
theorem dX6_take_1 : decode cX6_take 1 = .ok (.invokestatic 53, 3) := by decide +kernel
theorem dX6_take_4 : decode cX6_take 4 = .ok (.ifCond .eq 21, 3) := by decide +kernel
theorem dX6_take_7 : decode cX6_take 7 = .ok (.iload_n 2, 1) := by decide +kernel
theorem dX6_take_8 : decode cX6_take 8 = .ok (.invokestatic 53, 3) := by decide +kernel
theorem dX6_take_11 : decode cX6_take 11 = .ok (.ifCond .eq 14, 3) := by decide +kernel
theorem dX6_take_14 : decode cX6_take 14 = .ok (.iload_n 3, 1) := by decide +kernel
theorem dX6_take_15 : decode cX6_take 15 = .ok (.bipush 10, 2) := by decide +kernel
theorem dX6_take_17 : decode cX6_take 17 = .ok (.bipush 13, 2) := by decide +kernel
theorem dX6_take_19 : decode cX6_take 19 = .ok (.invokestatic 57, 3) := by decide +kernel
theorem dX6_take_22 : decode cX6_take 22 = .ok (.ifCond .ne 6, 3) := by decide +kernel
theorem dX6_take_25 : decode cX6_take 25 = .ok (.bipush (-2), 2) := by decide +kernel
theorem dX6_take_27 : decode cX6_take 27 = .ok (.ireturn, 1) := by decide +kernel
theorem dX6_take_28 : decode cX6_take 28 = .ok (.aload_n 0, 1) := by decide +kernel
theorem dX6_take_29 : decode cX6_take 29 = .ok (.getfield 31, 3) := by decide +kernel
theorem dX6_take_32 : decode cX6_take 32 = .ok (.iload_n 2, 1) := by decide +kernel
theorem dX6_take_33 : decode cX6_take 33 = .ok (.iaload, 1) := by decide +kernel
theorem dX6_take_34 : decode cX6_take 34 = .ok (.istore 5, 2) := by decide +kernel
theorem dX6_take_36 : decode cX6_take 36 = .ok (.aload_n 0, 1) := by decide +kernel
theorem dX6_take_37 : decode cX6_take 37 = .ok (.iload 5, 2) := by decide +kernel
theorem dX6_take_39 : decode cX6_take 39 = .ok (.iload_n 3, 1) := by decide +kernel
theorem dX6_take_40 : decode cX6_take 40 = .ok (.invokevirtual 90, 3) := by decide +kernel
theorem dX6_take_43 : decode cX6_take 43 = .ok (.ifCond .eq 14, 3) := by decide +kernel
theorem dX6_take_46 : decode cX6_take 46 = .ok (.aload_n 0, 1) := by decide +kernel
theorem dX6_take_47 : decode cX6_take 47 = .ok (.iload 5, 2) := by decide +kernel
theorem dX6_take_49 : decode cX6_take 49 = .ok (.iload 4, 2) := by decide +kernel
theorem dX6_take_51 : decode cX6_take 51 = .ok (.invokevirtual 108, 3) := by decide +kernel
theorem dX6_take_54 : decode cX6_take 54 = .ok (.goto 4, 3) := by decide +kernel
theorem dX6_take_57 : decode cX6_take 57 = .ok (.iconst 2, 1) := by decide +kernel
theorem dX6_take_58 : decode cX6_take 58 = .ok (.istore 6, 2) := by decide +kernel
theorem dX6_take_60 : decode cX6_take 60 = .ok (.iload 6, 2) := by decide +kernel
theorem dX6_take_62 : decode cX6_take 62 = .ok (.ifCond .eq 9, 3) := by decide +kernel
theorem dX6_take_65 : decode cX6_take 65 = .ok (.iload 6, 2) := by decide +kernel
theorem dX6_take_67 : decode cX6_take 67 = .ok (.invokestatic 65, 3) := by decide +kernel
theorem dX6_take_70 : decode cX6_take 70 = .ok (.ireturn, 1) := by decide +kernel
theorem dX6_take_71 : decode cX6_take 71 = .ok (.aload_n 0, 1) := by decide +kernel
theorem dX6_take_72 : decode cX6_take 72 = .ok (.getfield 31, 3) := by decide +kernel
theorem dX6_take_75 : decode cX6_take 75 = .ok (.iload_n 1, 1) := by decide +kernel
theorem dX6_take_76 : decode cX6_take 76 = .ok (.aload_n 0, 1) := by decide +kernel
theorem dX6_take_77 : decode cX6_take 77 = .ok (.iload 5, 2) := by decide +kernel
theorem dX6_take_79 : decode cX6_take 79 = .ok (.iload 4, 2) := by decide +kernel
theorem dX6_take_81 : decode cX6_take 81 = .ok (.invokevirtual 80, 3) := by decide +kernel
theorem dX6_take_84 : decode cX6_take 84 = .ok (.l2i, 1) := by decide +kernel
theorem dX6_take_85 : decode cX6_take 85 = .ok (.iastore, 1) := by decide +kernel
theorem dX6_take_86 : decode cX6_take 86 = .ok (.iconst 1, 1) := by decide +kernel
theorem dX6_take_87 : decode cX6_take 87 = .ok (.ireturn, 1) := by decide +kernel
theorem dX6_grow_0 : decode cX6_grow 0 = .ok (.iload_n 1, 1) := by decide +kernel
theorem dX6_grow_1 : decode cX6_grow 1 = .ok (.invokestatic 53, 3) := by decide +kernel
theorem dX6_grow_4 : decode cX6_grow 4 = .ok (.ifCond .eq 9, 3) := by decide +kernel
theorem dX6_grow_7 : decode cX6_grow 7 = .ok (.iload_n 2, 1) := by decide +kernel
theorem dX6_grow_8 : decode cX6_grow 8 = .ok (.bipush 30, 2) := by decide +kernel
theorem dX6_grow_10 : decode cX6_grow 10 = .ok (.if_icmp .le 6, 3) := by decide +kernel
theorem dX6_grow_13 : decode cX6_grow 13 = .ok (.bipush (-2), 2) := by decide +kernel
theorem dX6_grow_15 : decode cX6_grow 15 = .ok (.ireturn, 1) := by decide +kernel
theorem dX6_grow_16 : decode cX6_grow 16 = .ok (.aload_n 0, 1) := by decide +kernel
theorem dX6_grow_17 : decode cX6_grow 17 = .ok (.invokevirtual 61, 3) := by decide +kernel
theorem dX6_grow_20 : decode cX6_grow 20 = .ok (.ifCond .eq 6, 3) := by decide +kernel
theorem dX6_grow_23 : decode cX6_grow 23 = .ok (.bipush (-3), 2) := by decide +kernel
theorem dX6_grow_25 : decode cX6_grow 25 = .ok (.ireturn, 1) := by decide +kernel
theorem dX6_grow_26 : decode cX6_grow 26 = .ok (.aload_n 0, 1) := by decide +kernel
theorem dX6_grow_27 : decode cX6_grow 27 = .ok (.getfield 31, 3) := by decide +kernel
theorem dX6_grow_30 : decode cX6_grow 30 = .ok (.iload_n 1, 1) := by decide +kernel
theorem dX6_grow_31 : decode cX6_grow 31 = .ok (.iaload, 1) := by decide +kernel
theorem dX6_grow_32 : decode cX6_grow 32 = .ok (.istore_n 3, 1) := by decide +kernel
theorem dX6_grow_33 : decode cX6_grow 33 = .ok (.iload_n 3, 1) := by decide +kernel
theorem dX6_grow_34 : decode cX6_grow 34 = .ok (.ifCond .eq 7, 3) := by decide +kernel
theorem dX6_grow_37 : decode cX6_grow 37 = .ok (.iload_n 2, 1) := by decide +kernel
theorem dX6_grow_38 : decode cX6_grow 38 = .ok (.ifCond .ge 16, 3) := by decide +kernel
theorem dX6_grow_41 : decode cX6_grow 41 = .ok (.iload_n 3, 1) := by decide +kernel
theorem dX6_grow_42 : decode cX6_grow 42 = .ok (.ifCond .ne 7, 3) := by decide +kernel
theorem dX6_grow_45 : decode cX6_grow 45 = .ok (.iconst 1, 1) := by decide +kernel
theorem dX6_grow_46 : decode cX6_grow 46 = .ok (.goto 4, 3) := by decide +kernel
theorem dX6_grow_49 : decode cX6_grow 49 = .ok (.iconst 4, 1) := by decide +kernel
theorem dX6_grow_50 : decode cX6_grow 50 = .ok (.invokestatic 65, 3) := by decide +kernel
theorem dX6_grow_53 : decode cX6_grow 53 = .ok (.ireturn, 1) := by decide +kernel
theorem dX6_grow_54 : decode cX6_grow 54 = .ok (.aload_n 0, 1) := by decide +kernel
theorem dX6_grow_55 : decode cX6_grow 55 = .ok (.aload_n 0, 1) := by decide +kernel
theorem dX6_grow_56 : decode cX6_grow 56 = .ok (.getfield 7, 3) := by decide +kernel
theorem dX6_grow_59 : decode cX6_grow 59 = .ok (.iload_n 3, 1) := by decide +kernel
theorem dX6_grow_60 : decode cX6_grow 60 = .ok (.baload, 1) := by decide +kernel
theorem dX6_grow_61 : decode cX6_grow 61 = .ok (.iload_n 2, 1) := by decide +kernel
theorem dX6_grow_62 : decode cX6_grow 62 = .ok (.invokevirtual 69, 3) := by decide +kernel
theorem dX6_grow_65 : decode cX6_grow 65 = .ok (.istore 4, 2) := by decide +kernel
theorem dX6_grow_67 : decode cX6_grow 67 = .ok (.iconst 0, 1) := by decide +kernel
theorem dX6_grow_68 : decode cX6_grow 68 = .ok (.istore 5, 2) := by decide +kernel
theorem dX6_grow_70 : decode cX6_grow 70 = .ok (.iload 5, 2) := by decide +kernel
theorem dX6_grow_72 : decode cX6_grow 72 = .ok (.iload_n 2, 1) := by decide +kernel
theorem dX6_grow_73 : decode cX6_grow 73 = .ok (.if_icmp .ge 35, 3) := by decide +kernel
theorem dX6_grow_76 : decode cX6_grow 76 = .ok (.iload 5, 2) := by decide +kernel
theorem dX6_grow_78 : decode cX6_grow 78 = .ok (.aload_n 0, 1) := by decide +kernel
theorem dX6_grow_79 : decode cX6_grow 79 = .ok (.getfield 13, 3) := by decide +kernel
theorem dX6_grow_82 : decode cX6_grow 82 = .ok (.iload_n 3, 1) := by decide +kernel
theorem dX6_grow_83 : decode cX6_grow 83 = .ok (.baload, 1) := by decide +kernel
theorem dX6_grow_84 : decode cX6_grow 84 = .ok (.if_icmp .ge 24, 3) := by decide +kernel
theorem dX6_grow_87 : decode cX6_grow 87 = .ok (.aload_n 0, 1) := by decide +kernel
theorem dX6_grow_88 : decode cX6_grow 88 = .ok (.iload 4, 2) := by decide +kernel
theorem dX6_grow_90 : decode cX6_grow 90 = .ok (.iload 5, 2) := by decide +kernel
theorem dX6_grow_92 : decode cX6_grow 92 = .ok (.aload_n 0, 1) := by decide +kernel
theorem dX6_grow_93 : decode cX6_grow 93 = .ok (.iload_n 3, 1) := by decide +kernel
theorem dX6_grow_94 : decode cX6_grow 94 = .ok (.iload 5, 2) := by decide +kernel
theorem dX6_grow_96 : decode cX6_grow 96 = .ok (.invokevirtual 80, 3) := by decide +kernel
theorem dX6_grow_99 : decode cX6_grow 99 = .ok (.invokevirtual 76, 3) := by decide +kernel
theorem dX6_grow_102 : decode cX6_grow 102 = .ok (.iinc 5 1, 3) := by decide +kernel
theorem dX6_grow_105 : decode cX6_grow 105 = .ok (.goto (-35), 3) := by decide +kernel
theorem dX6_grow_108 : decode cX6_grow 108 = .ok (.aload_n 0, 1) := by decide +kernel
theorem dX6_grow_109 : decode cX6_grow 109 = .ok (.getfield 31, 3) := by decide +kernel
theorem dX6_grow_112 : decode cX6_grow 112 = .ok (.iload_n 1, 1) := by decide +kernel
theorem dX6_grow_113 : decode cX6_grow 113 = .ok (.iload 4, 2) := by decide +kernel
theorem dX6_grow_115 : decode cX6_grow 115 = .ok (.iastore, 1) := by decide +kernel
theorem dX6_grow_116 : decode cX6_grow 116 = .ok (.iconst 1, 1) := by decide +kernel
theorem dX6_grow_117 : decode cX6_grow 117 = .ok (.ireturn, 1) := by decide +kernel
theorem dX6_areUnlike_0 : decode cX6_areUnlike 0 = .ok (.aload_n 0, 1) := by decide +kernel
theorem dX6_areUnlike_1 : decode cX6_areUnlike 1 = .ok (.getfield 7, 3) := by decide +kernel
theorem dX6_areUnlike_4 : decode cX6_areUnlike 4 = .ok (.iload_n 1, 1) := by decide +kernel
theorem dX6_areUnlike_5 : decode cX6_areUnlike 5 = .ok (.baload, 1) := by decide +kernel
theorem dX6_areUnlike_6 : decode cX6_areUnlike 6 = .ok (.aload_n 0, 1) := by decide +kernel
theorem dX6_areUnlike_7 : decode cX6_areUnlike 7 = .ok (.getfield 7, 3) := by decide +kernel
theorem dX6_areUnlike_10 : decode cX6_areUnlike 10 = .ok (.iload_n 2, 1) := by decide +kernel
theorem dX6_areUnlike_11 : decode cX6_areUnlike 11 = .ok (.baload, 1) := by decide +kernel
theorem dX6_areUnlike_12 : decode cX6_areUnlike 12 = .ok (.if_icmp .eq 29, 3) := by decide +kernel
theorem dX6_areUnlike_15 : decode cX6_areUnlike 15 = .ok (.aload_n 0, 1) := by decide +kernel
theorem dX6_areUnlike_16 : decode cX6_areUnlike 16 = .ok (.getfield 7, 3) := by decide +kernel
theorem dX6_areUnlike_19 : decode cX6_areUnlike 19 = .ok (.iload_n 1, 1) := by decide +kernel
theorem dX6_areUnlike_20 : decode cX6_areUnlike 20 = .ok (.baload, 1) := by decide +kernel
theorem dX6_areUnlike_21 : decode cX6_areUnlike 21 = .ok (.bipush 8, 2) := by decide +kernel
theorem dX6_areUnlike_23 : decode cX6_areUnlike 23 = .ok (.if_icmp .lt 14, 3) := by decide +kernel
theorem dX6_areUnlike_26 : decode cX6_areUnlike 26 = .ok (.aload_n 0, 1) := by decide +kernel
theorem dX6_areUnlike_27 : decode cX6_areUnlike 27 = .ok (.getfield 7, 3) := by decide +kernel
theorem dX6_areUnlike_30 : decode cX6_areUnlike 30 = .ok (.iload_n 2, 1) := by decide +kernel
theorem dX6_areUnlike_31 : decode cX6_areUnlike 31 = .ok (.baload, 1) := by decide +kernel
theorem dX6_areUnlike_32 : decode cX6_areUnlike 32 = .ok (.bipush 8, 2) := by decide +kernel
theorem dX6_areUnlike_34 : decode cX6_areUnlike 34 = .ok (.if_icmp .ge 7, 3) := by decide +kernel
theorem dX6_areUnlike_37 : decode cX6_areUnlike 37 = .ok (.iconst 1, 1) := by decide +kernel
theorem dX6_areUnlike_38 : decode cX6_areUnlike 38 = .ok (.goto 4, 3) := by decide +kernel
theorem dX6_areUnlike_41 : decode cX6_areUnlike 41 = .ok (.iconst 0, 1) := by decide +kernel
theorem dX6_areUnlike_42 : decode cX6_areUnlike 42 = .ok (.ireturn, 1) := by decide +kernel
theorem dX6_canStand_0 : decode cX6_canStand 0 = .ok (.aload_n 0, 1) := by decide +kernel
theorem dX6_canStand_1 : decode cX6_canStand 1 = .ok (.getfield 7, 3) := by decide +kernel
theorem dX6_canStand_4 : decode cX6_canStand 4 = .ok (.iload 4, 2) := by decide +kernel
theorem dX6_canStand_6 : decode cX6_canStand 6 = .ok (.baload, 1) := by decide +kernel
theorem dX6_canStand_7 : decode cX6_canStand 7 = .ok (.istore 5, 2) := by decide +kernel
theorem dX6_canStand_9 : decode cX6_canStand 9 = .ok (.iload 5, 2) := by decide +kernel
theorem dX6_canStand_11 : decode cX6_canStand 11 = .ok (.bipush 8, 2) := by decide +kernel
theorem dX6_canStand_13 : decode cX6_canStand 13 = .ok (.if_icmp .lt 9, 3) := by decide +kernel
theorem dX6_canStand_16 : decode cX6_canStand 16 = .ok (.lload_n 2, 1) := by decide +kernel
theorem dX6_canStand_17 : decode cX6_canStand 17 = .ok (.lconst 0, 1) := by decide +kernel
theorem dX6_canStand_18 : decode cX6_canStand 18 = .ok (.lcmp, 1) := by decide +kernel
theorem dX6_canStand_19 : decode cX6_canStand 19 = .ok (.ifCond .ne 5, 3) := by decide +kernel
theorem dX6_canStand_22 : decode cX6_canStand 22 = .ok (.iconst 1, 1) := by decide +kernel
theorem dX6_canStand_23 : decode cX6_canStand 23 = .ok (.ireturn, 1) := by decide +kernel
theorem dX6_canStand_24 : decode cX6_canStand 24 = .ok (.aload_n 0, 1) := by decide +kernel
theorem dX6_canStand_25 : decode cX6_canStand 25 = .ok (.getfield 7, 3) := by decide +kernel
theorem dX6_canStand_28 : decode cX6_canStand 28 = .ok (.iload_n 1, 1) := by decide +kernel
theorem dX6_canStand_29 : decode cX6_canStand 29 = .ok (.baload, 1) := by decide +kernel
theorem dX6_canStand_30 : decode cX6_canStand 30 = .ok (.bipush 10, 2) := by decide +kernel
theorem dX6_canStand_32 : decode cX6_canStand 32 = .ok (.if_icmp .ge 33, 3) := by decide +kernel
theorem dX6_canStand_35 : decode cX6_canStand 35 = .ok (.iload 5, 2) := by decide +kernel
theorem dX6_canStand_37 : decode cX6_canStand 37 = .ok (.bipush 8, 2) := by decide +kernel
theorem dX6_canStand_39 : decode cX6_canStand 39 = .ok (.if_icmp .eq 20, 3) := by decide +kernel
theorem dX6_canStand_42 : decode cX6_canStand 42 = .ok (.iload 5, 2) := by decide +kernel
theorem dX6_canStand_44 : decode cX6_canStand 44 = .ok (.bipush 9, 2) := by decide +kernel
theorem dX6_canStand_46 : decode cX6_canStand 46 = .ok (.if_icmp .ne 17, 3) := by decide +kernel
theorem dX6_canStand_49 : decode cX6_canStand 49 = .ok (.aload_n 0, 1) := by decide +kernel
theorem dX6_canStand_50 : decode cX6_canStand 50 = .ok (.getfield 27, 3) := by decide +kernel
theorem dX6_canStand_53 : decode cX6_canStand 53 = .ok (.lload_n 2, 1) := by decide +kernel
theorem dX6_canStand_54 : decode cX6_canStand 54 = .ok (.l2i, 1) := by decide +kernel
theorem dX6_canStand_55 : decode cX6_canStand 55 = .ok (.baload, 1) := by decide +kernel
theorem dX6_canStand_56 : decode cX6_canStand 56 = .ok (.ifCond .eq 7, 3) := by decide +kernel
theorem dX6_canStand_59 : decode cX6_canStand 59 = .ok (.iconst 1, 1) := by decide +kernel
theorem dX6_canStand_60 : decode cX6_canStand 60 = .ok (.goto 4, 3) := by decide +kernel
theorem dX6_canStand_63 : decode cX6_canStand 63 = .ok (.iconst 0, 1) := by decide +kernel
theorem dX6_canStand_64 : decode cX6_canStand 64 = .ok (.ireturn, 1) := by decide +kernel
theorem dX6_canStand_65 : decode cX6_canStand 65 = .ok (.iload 5, 2) := by decide +kernel
theorem dX6_canStand_67 : decode cX6_canStand 67 = .ok (.bipush 10, 2) := by decide +kernel
theorem dX6_canStand_69 : decode cX6_canStand 69 = .ok (.if_icmp .lt 21, 3) := by decide +kernel
theorem dX6_canStand_72 : decode cX6_canStand 72 = .ok (.aload_n 0, 1) := by decide +kernel
theorem dX6_canStand_73 : decode cX6_canStand 73 = .ok (.lload_n 2, 1) := by decide +kernel
theorem dX6_canStand_74 : decode cX6_canStand 74 = .ok (.l2i, 1) := by decide +kernel
theorem dX6_canStand_75 : decode cX6_canStand 75 = .ok (.iload 5, 2) := by decide +kernel
theorem dX6_canStand_77 : decode cX6_canStand 77 = .ok (.invokestatic 73, 3) := by decide +kernel
theorem dX6_canStand_80 : decode cX6_canStand 80 = .ok (.invokevirtual 90, 3) := by decide +kernel
theorem dX6_canStand_83 : decode cX6_canStand 83 = .ok (.ifCond .eq 7, 3) := by decide +kernel
theorem dX6_canStand_86 : decode cX6_canStand 86 = .ok (.iconst 1, 1) := by decide +kernel
theorem dX6_canStand_87 : decode cX6_canStand 87 = .ok (.goto 4, 3) := by decide +kernel
theorem dX6_canStand_90 : decode cX6_canStand 90 = .ok (.iconst 0, 1) := by decide +kernel
theorem dX6_canStand_91 : decode cX6_canStand 91 = .ok (.ireturn, 1) := by decide +kernel
theorem dX6_copy_0 : decode cX6_copy 0 = .ok (.iload_n 1, 1) := by decide +kernel
theorem dX6_copy_1 : decode cX6_copy 1 = .ok (.invokestatic 53, 3) := by decide +kernel
theorem dX6_copy_4 : decode cX6_copy 4 = .ok (.ifCond .eq 10, 3) := by decide +kernel
theorem dX6_copy_7 : decode cX6_copy 7 = .ok (.iload_n 3, 1) := by decide +kernel
theorem dX6_copy_8 : decode cX6_copy 8 = .ok (.invokestatic 53, 3) := by decide +kernel
theorem dX6_copy_11 : decode cX6_copy 11 = .ok (.ifCond .ne 6, 3) := by decide +kernel
theorem dX6_copy_14 : decode cX6_copy 14 = .ok (.bipush (-2), 2) := by decide +kernel
theorem dX6_copy_16 : decode cX6_copy 16 = .ok (.ireturn, 1) := by decide +kernel
theorem dX6_copy_17 : decode cX6_copy 17 = .ok (.aload_n 0, 1) := by decide +kernel
theorem dX6_copy_18 : decode cX6_copy 18 = .ok (.getfield 31, 3) := by decide +kernel
theorem dX6_copy_21 : decode cX6_copy 21 = .ok (.iload_n 1, 1) := by decide +kernel
theorem dX6_copy_22 : decode cX6_copy 22 = .ok (.iaload, 1) := by decide +kernel
theorem dX6_copy_23 : decode cX6_copy 23 = .ok (.istore 6, 2) := by decide +kernel
theorem dX6_copy_25 : decode cX6_copy 25 = .ok (.aload_n 0, 1) := by decide +kernel
theorem dX6_copy_26 : decode cX6_copy 26 = .ok (.getfield 31, 3) := by decide +kernel
theorem dX6_copy_29 : decode cX6_copy 29 = .ok (.iload_n 3, 1) := by decide +kernel
theorem dX6_copy_30 : decode cX6_copy 30 = .ok (.iaload, 1) := by decide +kernel
theorem dX6_copy_31 : decode cX6_copy 31 = .ok (.istore 7, 2) := by decide +kernel
theorem dX6_copy_33 : decode cX6_copy 33 = .ok (.iload 6, 2) := by decide +kernel
theorem dX6_copy_35 : decode cX6_copy 35 = .ok (.ifCond .eq 8, 3) := by decide +kernel
theorem dX6_copy_38 : decode cX6_copy 38 = .ok (.iload 7, 2) := by decide +kernel
theorem dX6_copy_40 : decode cX6_copy 40 = .ok (.ifCond .ne 8, 3) := by decide +kernel
theorem dX6_copy_43 : decode cX6_copy 43 = .ok (.iconst 1, 1) := by decide +kernel
theorem dX6_copy_44 : decode cX6_copy 44 = .ok (.invokestatic 65, 3) := by decide +kernel
theorem dX6_copy_47 : decode cX6_copy 47 = .ok (.ireturn, 1) := by decide +kernel
theorem dX6_copy_48 : decode cX6_copy 48 = .ok (.aload_n 0, 1) := by decide +kernel
theorem dX6_copy_49 : decode cX6_copy 49 = .ok (.iload 6, 2) := by decide +kernel
theorem dX6_copy_51 : decode cX6_copy 51 = .ok (.iload 7, 2) := by decide +kernel
theorem dX6_copy_53 : decode cX6_copy 53 = .ok (.invokevirtual 125, 3) := by decide +kernel
theorem dX6_copy_56 : decode cX6_copy 56 = .ok (.ifCond .eq 8, 3) := by decide +kernel
theorem dX6_copy_59 : decode cX6_copy 59 = .ok (.iconst 5, 1) := by decide +kernel
theorem dX6_copy_60 : decode cX6_copy 60 = .ok (.invokestatic 65, 3) := by decide +kernel
theorem dX6_copy_63 : decode cX6_copy 63 = .ok (.ireturn, 1) := by decide +kernel
theorem dX6_copy_64 : decode cX6_copy 64 = .ok (.iload_n 2, 1) := by decide +kernel
theorem dX6_copy_65 : decode cX6_copy 65 = .ok (.ifCond .lt 42, 3) := by decide +kernel
theorem dX6_copy_68 : decode cX6_copy 68 = .ok (.iload 4, 2) := by decide +kernel
theorem dX6_copy_70 : decode cX6_copy 70 = .ok (.ifCond .lt 37, 3) := by decide +kernel
theorem dX6_copy_73 : decode cX6_copy 73 = .ok (.iload 5, 2) := by decide +kernel
theorem dX6_copy_75 : decode cX6_copy 75 = .ok (.ifCond .lt 32, 3) := by decide +kernel
theorem dX6_copy_78 : decode cX6_copy 78 = .ok (.iload 5, 2) := by decide +kernel
theorem dX6_copy_80 : decode cX6_copy 80 = .ok (.aload_n 0, 1) := by decide +kernel
theorem dX6_copy_81 : decode cX6_copy 81 = .ok (.getfield 13, 3) := by decide +kernel
theorem dX6_copy_84 : decode cX6_copy 84 = .ok (.iload 6, 2) := by decide +kernel
theorem dX6_copy_86 : decode cX6_copy 86 = .ok (.baload, 1) := by decide +kernel
theorem dX6_copy_87 : decode cX6_copy 87 = .ok (.iload_n 2, 1) := by decide +kernel
theorem dX6_copy_88 : decode cX6_copy 88 = .ok (.isub, 1) := by decide +kernel
theorem dX6_copy_89 : decode cX6_copy 89 = .ok (.if_icmp .gt 18, 3) := by decide +kernel
theorem dX6_copy_92 : decode cX6_copy 92 = .ok (.iload 5, 2) := by decide +kernel
theorem dX6_copy_94 : decode cX6_copy 94 = .ok (.aload_n 0, 1) := by decide +kernel
theorem dX6_copy_95 : decode cX6_copy 95 = .ok (.getfield 13, 3) := by decide +kernel
theorem dX6_copy_98 : decode cX6_copy 98 = .ok (.iload 7, 2) := by decide +kernel
theorem dX6_copy_100 : decode cX6_copy 100 = .ok (.baload, 1) := by decide +kernel
theorem dX6_copy_101 : decode cX6_copy 101 = .ok (.iload 4, 2) := by decide +kernel
theorem dX6_copy_103 : decode cX6_copy 103 = .ok (.isub, 1) := by decide +kernel
theorem dX6_copy_104 : decode cX6_copy 104 = .ok (.if_icmp .le 8, 3) := by decide +kernel
theorem dX6_copy_107 : decode cX6_copy 107 = .ok (.iconst 3, 1) := by decide +kernel
theorem dX6_copy_108 : decode cX6_copy 108 = .ok (.invokestatic 65, 3) := by decide +kernel
theorem dX6_copy_111 : decode cX6_copy 111 = .ok (.ireturn, 1) := by decide +kernel
theorem dX6_copy_112 : decode cX6_copy 112 = .ok (.iconst 0, 1) := by decide +kernel
theorem dX6_copy_113 : decode cX6_copy 113 = .ok (.istore 8, 2) := by decide +kernel
theorem dX6_copy_115 : decode cX6_copy 115 = .ok (.iload 8, 2) := by decide +kernel
theorem dX6_copy_117 : decode cX6_copy 117 = .ok (.iload 5, 2) := by decide +kernel
theorem dX6_copy_119 : decode cX6_copy 119 = .ok (.if_icmp .ge 26, 3) := by decide +kernel
theorem dX6_copy_122 : decode cX6_copy 122 = .ok (.aload_n 0, 1) := by decide +kernel
theorem dX6_copy_123 : decode cX6_copy 123 = .ok (.getfield 44, 3) := by decide +kernel
theorem dX6_copy_126 : decode cX6_copy 126 = .ok (.iload 8, 2) := by decide +kernel
theorem dX6_copy_128 : decode cX6_copy 128 = .ok (.aload_n 0, 1) := by decide +kernel
theorem dX6_copy_129 : decode cX6_copy 129 = .ok (.iload 6, 2) := by decide +kernel
theorem dX6_copy_131 : decode cX6_copy 131 = .ok (.iload_n 2, 1) := by decide +kernel
theorem dX6_copy_132 : decode cX6_copy 132 = .ok (.iload 8, 2) := by decide +kernel
theorem dX6_copy_134 : decode cX6_copy 134 = .ok (.iadd, 1) := by decide +kernel
theorem dX6_copy_135 : decode cX6_copy 135 = .ok (.invokevirtual 80, 3) := by decide +kernel
theorem dX6_copy_138 : decode cX6_copy 138 = .ok (.lastore, 1) := by decide +kernel
theorem dX6_copy_139 : decode cX6_copy 139 = .ok (.iinc 8 1, 3) := by decide +kernel
theorem dX6_copy_142 : decode cX6_copy 142 = .ok (.goto (-27), 3) := by decide +kernel
theorem dX6_copy_145 : decode cX6_copy 145 = .ok (.iconst 0, 1) := by decide +kernel
theorem dX6_copy_146 : decode cX6_copy 146 = .ok (.istore 8, 2) := by decide +kernel
theorem dX6_copy_148 : decode cX6_copy 148 = .ok (.iload 8, 2) := by decide +kernel
theorem dX6_copy_150 : decode cX6_copy 150 = .ok (.iload 5, 2) := by decide +kernel
theorem dX6_copy_152 : decode cX6_copy 152 = .ok (.if_icmp .ge 50, 3) := by decide +kernel
theorem dX6_copy_155 : decode cX6_copy 155 = .ok (.aload_n 0, 1) := by decide +kernel
theorem dX6_copy_156 : decode cX6_copy 156 = .ok (.iload 6, 2) := by decide +kernel
theorem dX6_copy_158 : decode cX6_copy 158 = .ok (.aload_n 0, 1) := by decide +kernel
theorem dX6_copy_159 : decode cX6_copy 159 = .ok (.getfield 44, 3) := by decide +kernel
theorem dX6_copy_162 : decode cX6_copy 162 = .ok (.iload 8, 2) := by decide +kernel
theorem dX6_copy_164 : decode cX6_copy 164 = .ok (.laload, 1) := by decide +kernel
theorem dX6_copy_165 : decode cX6_copy 165 = .ok (.iload 7, 2) := by decide +kernel
theorem dX6_copy_167 : decode cX6_copy 167 = .ok (.invokevirtual 128, 3) := by decide +kernel
theorem dX6_copy_170 : decode cX6_copy 170 = .ok (.ifCond .ne 8, 3) := by decide +kernel
theorem dX6_copy_173 : decode cX6_copy 173 = .ok (.iconst 5, 1) := by decide +kernel
theorem dX6_copy_174 : decode cX6_copy 174 = .ok (.invokestatic 65, 3) := by decide +kernel
theorem dX6_copy_177 : decode cX6_copy 177 = .ok (.ireturn, 1) := by decide +kernel
theorem dX6_copy_178 : decode cX6_copy 178 = .ok (.aload_n 0, 1) := by decide +kernel
theorem dX6_copy_179 : decode cX6_copy 179 = .ok (.iload 7, 2) := by decide +kernel
theorem dX6_copy_181 : decode cX6_copy 181 = .ok (.iload 4, 2) := by decide +kernel
theorem dX6_copy_183 : decode cX6_copy 183 = .ok (.iload 8, 2) := by decide +kernel
theorem dX6_copy_185 : decode cX6_copy 185 = .ok (.iadd, 1) := by decide +kernel
theorem dX6_copy_186 : decode cX6_copy 186 = .ok (.aload_n 0, 1) := by decide +kernel
theorem dX6_copy_187 : decode cX6_copy 187 = .ok (.getfield 44, 3) := by decide +kernel
theorem dX6_copy_190 : decode cX6_copy 190 = .ok (.iload 8, 2) := by decide +kernel
theorem dX6_copy_192 : decode cX6_copy 192 = .ok (.laload, 1) := by decide +kernel
theorem dX6_copy_193 : decode cX6_copy 193 = .ok (.invokevirtual 76, 3) := by decide +kernel
theorem dX6_copy_196 : decode cX6_copy 196 = .ok (.iinc 8 1, 3) := by decide +kernel
theorem dX6_copy_199 : decode cX6_copy 199 = .ok (.goto (-51), 3) := by decide +kernel
theorem dX6_copy_202 : decode cX6_copy 202 = .ok (.iload 5, 2) := by decide +kernel
theorem dX6_copy_204 : decode cX6_copy 204 = .ok (.ireturn, 1) := by decide +kernel
theorem dX6_fill_0 : decode cX6_fill 0 = .ok (.iload_n 1, 1) := by decide +kernel
theorem dX6_fill_1 : decode cX6_fill 1 = .ok (.invokestatic 53, 3) := by decide +kernel
theorem dX6_fill_4 : decode cX6_fill 4 = .ok (.ifCond .eq 13, 3) := by decide +kernel
theorem dX6_fill_7 : decode cX6_fill 7 = .ok (.iload_n 2, 1) := by decide +kernel
theorem dX6_fill_8 : decode cX6_fill 8 = .ok (.iconst 0, 1) := by decide +kernel
theorem dX6_fill_9 : decode cX6_fill 9 = .ok (.bipush 7, 2) := by decide +kernel
theorem dX6_fill_11 : decode cX6_fill 11 = .ok (.invokestatic 57, 3) := by decide +kernel
theorem dX6_fill_14 : decode cX6_fill 14 = .ok (.ifCond .ne 6, 3) := by decide +kernel
theorem dX6_fill_17 : decode cX6_fill 17 = .ok (.bipush (-2), 2) := by decide +kernel
theorem dX6_fill_19 : decode cX6_fill 19 = .ok (.ireturn, 1) := by decide +kernel
theorem dX6_fill_20 : decode cX6_fill 20 = .ok (.aload_n 0, 1) := by decide +kernel
theorem dX6_fill_21 : decode cX6_fill 21 = .ok (.getfield 31, 3) := by decide +kernel
theorem dX6_fill_24 : decode cX6_fill 24 = .ok (.iload_n 1, 1) := by decide +kernel
theorem dX6_fill_25 : decode cX6_fill 25 = .ok (.iaload, 1) := by decide +kernel
theorem dX6_fill_26 : decode cX6_fill 26 = .ok (.istore 5, 2) := by decide +kernel
theorem dX6_fill_28 : decode cX6_fill 28 = .ok (.aload_n 0, 1) := by decide +kernel
theorem dX6_fill_29 : decode cX6_fill 29 = .ok (.iload 5, 2) := by decide +kernel
theorem dX6_fill_31 : decode cX6_fill 31 = .ok (.iload_n 2, 1) := by decide +kernel
theorem dX6_fill_32 : decode cX6_fill 32 = .ok (.invokevirtual 90, 3) := by decide +kernel
theorem dX6_fill_35 : decode cX6_fill 35 = .ok (.ifCond .eq 8, 3) := by decide +kernel
theorem dX6_fill_38 : decode cX6_fill 38 = .ok (.iload 5, 2) := by decide +kernel
theorem dX6_fill_40 : decode cX6_fill 40 = .ok (.ifCond .ne 22, 3) := by decide +kernel
theorem dX6_fill_43 : decode cX6_fill 43 = .ok (.aload_n 0, 1) := by decide +kernel
theorem dX6_fill_44 : decode cX6_fill 44 = .ok (.iload 5, 2) := by decide +kernel
theorem dX6_fill_46 : decode cX6_fill 46 = .ok (.iload_n 2, 1) := by decide +kernel
theorem dX6_fill_47 : decode cX6_fill 47 = .ok (.invokevirtual 90, 3) := by decide +kernel
theorem dX6_fill_50 : decode cX6_fill 50 = .ok (.ifCond .eq 7, 3) := by decide +kernel
theorem dX6_fill_53 : decode cX6_fill 53 = .ok (.iconst 1, 1) := by decide +kernel
theorem dX6_fill_54 : decode cX6_fill 54 = .ok (.goto 4, 3) := by decide +kernel
theorem dX6_fill_57 : decode cX6_fill 57 = .ok (.iconst 2, 1) := by decide +kernel
theorem dX6_fill_58 : decode cX6_fill 58 = .ok (.invokestatic 65, 3) := by decide +kernel
theorem dX6_fill_61 : decode cX6_fill 61 = .ok (.ireturn, 1) := by decide +kernel
theorem dX6_fill_62 : decode cX6_fill 62 = .ok (.iconst 0, 1) := by decide +kernel
theorem dX6_fill_63 : decode cX6_fill 63 = .ok (.istore 6, 2) := by decide +kernel
theorem dX6_fill_65 : decode cX6_fill 65 = .ok (.iload 6, 2) := by decide +kernel
theorem dX6_fill_67 : decode cX6_fill 67 = .ok (.aload_n 0, 1) := by decide +kernel
theorem dX6_fill_68 : decode cX6_fill 68 = .ok (.getfield 13, 3) := by decide +kernel
theorem dX6_fill_71 : decode cX6_fill 71 = .ok (.iload 5, 2) := by decide +kernel
theorem dX6_fill_73 : decode cX6_fill 73 = .ok (.baload, 1) := by decide +kernel
theorem dX6_fill_74 : decode cX6_fill 74 = .ok (.if_icmp .ge 22, 3) := by decide +kernel
theorem dX6_fill_77 : decode cX6_fill 77 = .ok (.aload_n 0, 1) := by decide +kernel
theorem dX6_fill_78 : decode cX6_fill 78 = .ok (.iload 5, 2) := by decide +kernel
theorem dX6_fill_80 : decode cX6_fill 80 = .ok (.iload 6, 2) := by decide +kernel
theorem dX6_fill_82 : decode cX6_fill 82 = .ok (.iload_n 2, 1) := by decide +kernel
theorem dX6_fill_83 : decode cX6_fill 83 = .ok (.lload_n 3, 1) := by decide +kernel
theorem dX6_fill_84 : decode cX6_fill 84 = .ok (.invokestatic 118, 3) := by decide +kernel
theorem dX6_fill_87 : decode cX6_fill 87 = .ok (.invokevirtual 76, 3) := by decide +kernel
theorem dX6_fill_90 : decode cX6_fill 90 = .ok (.iinc 6 1, 3) := by decide +kernel
theorem dX6_fill_93 : decode cX6_fill 93 = .ok (.goto (-28), 3) := by decide +kernel
theorem dX6_fill_96 : decode cX6_fill 96 = .ok (.aload_n 0, 1) := by decide +kernel
theorem dX6_fill_97 : decode cX6_fill 97 = .ok (.getfield 13, 3) := by decide +kernel
theorem dX6_fill_100 : decode cX6_fill 100 = .ok (.iload 5, 2) := by decide +kernel
theorem dX6_fill_102 : decode cX6_fill 102 = .ok (.baload, 1) := by decide +kernel
theorem dX6_fill_103 : decode cX6_fill 103 = .ok (.ireturn, 1) := by decide +kernel
theorem dX6_flatSize_0 : decode cX6_flatSize 0 = .ok (.iload_n 1, 1) := by decide +kernel
theorem dX6_flatSize_1 : decode cX6_flatSize 1 = .ok (.ifCond .eq 14, 3) := by decide +kernel
theorem dX6_flatSize_4 : decode cX6_flatSize 4 = .ok (.aload_n 0, 1) := by decide +kernel
theorem dX6_flatSize_5 : decode cX6_flatSize 5 = .ok (.getfield 7, 3) := by decide +kernel
theorem dX6_flatSize_8 : decode cX6_flatSize 8 = .ok (.iload_n 1, 1) := by decide +kernel
theorem dX6_flatSize_9 : decode cX6_flatSize 9 = .ok (.baload, 1) := by decide +kernel
theorem dX6_flatSize_10 : decode cX6_flatSize 10 = .ok (.bipush 8, 2) := by decide +kernel
theorem dX6_flatSize_12 : decode cX6_flatSize 12 = .ok (.if_icmp .ge 18, 3) := by decide +kernel
theorem dX6_flatSize_15 : decode cX6_flatSize 15 = .ok (.iload_n 1, 1) := by decide +kernel
theorem dX6_flatSize_16 : decode cX6_flatSize 16 = .ok (.ifCond .ne 7, 3) := by decide +kernel
theorem dX6_flatSize_19 : decode cX6_flatSize 19 = .ok (.iconst 0, 1) := by decide +kernel
theorem dX6_flatSize_20 : decode cX6_flatSize 20 = .ok (.goto 9, 3) := by decide +kernel
theorem dX6_flatSize_23 : decode cX6_flatSize 23 = .ok (.aload_n 0, 1) := by decide +kernel
theorem dX6_flatSize_24 : decode cX6_flatSize 24 = .ok (.getfield 13, 3) := by decide +kernel
theorem dX6_flatSize_27 : decode cX6_flatSize 27 = .ok (.iload_n 1, 1) := by decide +kernel
theorem dX6_flatSize_28 : decode cX6_flatSize 28 = .ok (.baload, 1) := by decide +kernel
theorem dX6_flatSize_29 : decode cX6_flatSize 29 = .ok (.ireturn, 1) := by decide +kernel
theorem dX6_flatSize_30 : decode cX6_flatSize 30 = .ok (.iconst 0, 1) := by decide +kernel
theorem dX6_flatSize_31 : decode cX6_flatSize 31 = .ok (.istore_n 2, 1) := by decide +kernel
theorem dX6_flatSize_32 : decode cX6_flatSize 32 = .ok (.iconst 0, 1) := by decide +kernel
theorem dX6_flatSize_33 : decode cX6_flatSize 33 = .ok (.istore_n 3, 1) := by decide +kernel
theorem dX6_flatSize_34 : decode cX6_flatSize 34 = .ok (.iload_n 3, 1) := by decide +kernel
theorem dX6_flatSize_35 : decode cX6_flatSize 35 = .ok (.aload_n 0, 1) := by decide +kernel
theorem dX6_flatSize_36 : decode cX6_flatSize 36 = .ok (.getfield 13, 3) := by decide +kernel
theorem dX6_flatSize_39 : decode cX6_flatSize 39 = .ok (.iload_n 1, 1) := by decide +kernel
theorem dX6_flatSize_40 : decode cX6_flatSize 40 = .ok (.baload, 1) := by decide +kernel
theorem dX6_flatSize_41 : decode cX6_flatSize 41 = .ok (.if_icmp .ge 28, 3) := by decide +kernel
theorem dX6_flatSize_44 : decode cX6_flatSize 44 = .ok (.iload_n 2, 1) := by decide +kernel
theorem dX6_flatSize_45 : decode cX6_flatSize 45 = .ok (.aload_n 0, 1) := by decide +kernel
theorem dX6_flatSize_46 : decode cX6_flatSize 46 = .ok (.iload_n 1, 1) := by decide +kernel
theorem dX6_flatSize_47 : decode cX6_flatSize 47 = .ok (.iload_n 3, 1) := by decide +kernel
theorem dX6_flatSize_48 : decode cX6_flatSize 48 = .ok (.invokevirtual 80, 3) := by decide +kernel
theorem dX6_flatSize_51 : decode cX6_flatSize 51 = .ok (.lconst 0, 1) := by decide +kernel
theorem dX6_flatSize_52 : decode cX6_flatSize 52 = .ok (.lcmp, 1) := by decide +kernel
theorem dX6_flatSize_53 : decode cX6_flatSize 53 = .ok (.ifCond .eq 7, 3) := by decide +kernel
theorem dX6_flatSize_56 : decode cX6_flatSize 56 = .ok (.iconst 1, 1) := by decide +kernel
theorem dX6_flatSize_57 : decode cX6_flatSize 57 = .ok (.goto 4, 3) := by decide +kernel
theorem dX6_flatSize_60 : decode cX6_flatSize 60 = .ok (.iconst 0, 1) := by decide +kernel
theorem dX6_flatSize_61 : decode cX6_flatSize 61 = .ok (.iadd, 1) := by decide +kernel
theorem dX6_flatSize_62 : decode cX6_flatSize 62 = .ok (.istore_n 2, 1) := by decide +kernel
theorem dX6_flatSize_63 : decode cX6_flatSize 63 = .ok (.iinc 3 1, 3) := by decide +kernel
theorem dX6_flatSize_66 : decode cX6_flatSize 66 = .ok (.goto (-32), 3) := by decide +kernel
theorem dX6_flatSize_69 : decode cX6_flatSize 69 = .ok (.iload_n 2, 1) := by decide +kernel
theorem dX6_flatSize_70 : decode cX6_flatSize 70 = .ok (.ireturn, 1) := by decide +kernel
theorem dX6_middleSize_0 : decode cX6_middleSize 0 = .ok (.iload_n 1, 1) := by decide +kernel
theorem dX6_middleSize_1 : decode cX6_middleSize 1 = .ok (.ifCond .eq 14, 3) := by decide +kernel
theorem dX6_middleSize_4 : decode cX6_middleSize 4 = .ok (.aload_n 0, 1) := by decide +kernel
theorem dX6_middleSize_5 : decode cX6_middleSize 5 = .ok (.getfield 7, 3) := by decide +kernel
theorem dX6_middleSize_8 : decode cX6_middleSize 8 = .ok (.iload_n 1, 1) := by decide +kernel
theorem dX6_middleSize_9 : decode cX6_middleSize 9 = .ok (.baload, 1) := by decide +kernel
theorem dX6_middleSize_10 : decode cX6_middleSize 10 = .ok (.bipush 10, 2) := by decide +kernel
theorem dX6_middleSize_12 : decode cX6_middleSize 12 = .ok (.if_icmp .ge 9, 3) := by decide +kernel
theorem dX6_middleSize_15 : decode cX6_middleSize 15 = .ok (.aload_n 0, 1) := by decide +kernel
theorem dX6_middleSize_16 : decode cX6_middleSize 16 = .ok (.iload_n 1, 1) := by decide +kernel
theorem dX6_middleSize_17 : decode cX6_middleSize 17 = .ok (.invokevirtual 132, 3) := by decide +kernel
theorem dX6_middleSize_20 : decode cX6_middleSize 20 = .ok (.ireturn, 1) := by decide +kernel
theorem dX6_middleSize_21 : decode cX6_middleSize 21 = .ok (.iconst 0, 1) := by decide +kernel
theorem dX6_middleSize_22 : decode cX6_middleSize 22 = .ok (.istore_n 2, 1) := by decide +kernel
theorem dX6_middleSize_23 : decode cX6_middleSize 23 = .ok (.iconst 0, 1) := by decide +kernel
theorem dX6_middleSize_24 : decode cX6_middleSize 24 = .ok (.istore_n 3, 1) := by decide +kernel
theorem dX6_middleSize_25 : decode cX6_middleSize 25 = .ok (.iload_n 3, 1) := by decide +kernel
theorem dX6_middleSize_26 : decode cX6_middleSize 26 = .ok (.aload_n 0, 1) := by decide +kernel
theorem dX6_middleSize_27 : decode cX6_middleSize 27 = .ok (.getfield 13, 3) := by decide +kernel
theorem dX6_middleSize_30 : decode cX6_middleSize 30 = .ok (.iload_n 1, 1) := by decide +kernel
theorem dX6_middleSize_31 : decode cX6_middleSize 31 = .ok (.baload, 1) := by decide +kernel
theorem dX6_middleSize_32 : decode cX6_middleSize 32 = .ok (.if_icmp .ge 23, 3) := by decide +kernel
theorem dX6_middleSize_35 : decode cX6_middleSize 35 = .ok (.iload_n 2, 1) := by decide +kernel
theorem dX6_middleSize_36 : decode cX6_middleSize 36 = .ok (.aload_n 0, 1) := by decide +kernel
theorem dX6_middleSize_37 : decode cX6_middleSize 37 = .ok (.aload_n 0, 1) := by decide +kernel
theorem dX6_middleSize_38 : decode cX6_middleSize 38 = .ok (.iload_n 1, 1) := by decide +kernel
theorem dX6_middleSize_39 : decode cX6_middleSize 39 = .ok (.iload_n 3, 1) := by decide +kernel
theorem dX6_middleSize_40 : decode cX6_middleSize 40 = .ok (.invokevirtual 80, 3) := by decide +kernel
theorem dX6_middleSize_43 : decode cX6_middleSize 43 = .ok (.l2i, 1) := by decide +kernel
theorem dX6_middleSize_44 : decode cX6_middleSize 44 = .ok (.invokevirtual 132, 3) := by decide +kernel
theorem dX6_middleSize_47 : decode cX6_middleSize 47 = .ok (.iadd, 1) := by decide +kernel
theorem dX6_middleSize_48 : decode cX6_middleSize 48 = .ok (.istore_n 2, 1) := by decide +kernel
theorem dX6_middleSize_49 : decode cX6_middleSize 49 = .ok (.iinc 3 1, 3) := by decide +kernel
theorem dX6_middleSize_52 : decode cX6_middleSize 52 = .ok (.goto (-27), 3) := by decide +kernel
theorem dX6_middleSize_55 : decode cX6_middleSize 55 = .ok (.iload_n 2, 1) := by decide +kernel
theorem dX6_middleSize_56 : decode cX6_middleSize 56 = .ok (.ireturn, 1) := by decide +kernel
theorem dX6_size_0 : decode cX6_size 0 = .ok (.iload_n 1, 1) := by decide +kernel
theorem dX6_size_1 : decode cX6_size 1 = .ok (.invokestatic 53, 3) := by decide +kernel
theorem dX6_size_4 : decode cX6_size 4 = .ok (.ifCond .ne 6, 3) := by decide +kernel
theorem dX6_size_7 : decode cX6_size 7 = .ok (.bipush (-2), 2) := by decide +kernel
theorem dX6_size_9 : decode cX6_size 9 = .ok (.ireturn, 1) := by decide +kernel
theorem dX6_size_10 : decode cX6_size 10 = .ok (.aload_n 0, 1) := by decide +kernel
theorem dX6_size_11 : decode cX6_size 11 = .ok (.getfield 31, 3) := by decide +kernel
theorem dX6_size_14 : decode cX6_size 14 = .ok (.iload_n 1, 1) := by decide +kernel
theorem dX6_size_15 : decode cX6_size 15 = .ok (.iaload, 1) := by decide +kernel
theorem dX6_size_16 : decode cX6_size 16 = .ok (.istore_n 2, 1) := by decide +kernel
theorem dX6_size_17 : decode cX6_size 17 = .ok (.iload_n 2, 1) := by decide +kernel
theorem dX6_size_18 : decode cX6_size 18 = .ok (.ifCond .eq 14, 3) := by decide +kernel
theorem dX6_size_21 : decode cX6_size 21 = .ok (.aload_n 0, 1) := by decide +kernel
theorem dX6_size_22 : decode cX6_size 22 = .ok (.getfield 7, 3) := by decide +kernel
theorem dX6_size_25 : decode cX6_size 25 = .ok (.iload_n 2, 1) := by decide +kernel
theorem dX6_size_26 : decode cX6_size 26 = .ok (.baload, 1) := by decide +kernel
theorem dX6_size_27 : decode cX6_size 27 = .ok (.bipush 13, 2) := by decide +kernel
theorem dX6_size_29 : decode cX6_size 29 = .ok (.if_icmp .ge 9, 3) := by decide +kernel
theorem dX6_size_32 : decode cX6_size 32 = .ok (.aload_n 0, 1) := by decide +kernel
theorem dX6_size_33 : decode cX6_size 33 = .ok (.iload_n 2, 1) := by decide +kernel
theorem dX6_size_34 : decode cX6_size 34 = .ok (.invokevirtual 135, 3) := by decide +kernel
theorem dX6_size_37 : decode cX6_size 37 = .ok (.ireturn, 1) := by decide +kernel
theorem dX6_size_38 : decode cX6_size 38 = .ok (.iconst 0, 1) := by decide +kernel
theorem dX6_size_39 : decode cX6_size 39 = .ok (.istore_n 3, 1) := by decide +kernel
theorem dX6_size_40 : decode cX6_size 40 = .ok (.iconst 0, 1) := by decide +kernel
theorem dX6_size_41 : decode cX6_size 41 = .ok (.istore 4, 2) := by decide +kernel
theorem dX6_size_43 : decode cX6_size 43 = .ok (.iload 4, 2) := by decide +kernel
theorem dX6_size_45 : decode cX6_size 45 = .ok (.aload_n 0, 1) := by decide +kernel
theorem dX6_size_46 : decode cX6_size 46 = .ok (.getfield 13, 3) := by decide +kernel
theorem dX6_size_49 : decode cX6_size 49 = .ok (.iload_n 2, 1) := by decide +kernel
theorem dX6_size_50 : decode cX6_size 50 = .ok (.baload, 1) := by decide +kernel
theorem dX6_size_51 : decode cX6_size 51 = .ok (.if_icmp .ge 24, 3) := by decide +kernel
theorem dX6_size_54 : decode cX6_size 54 = .ok (.iload_n 3, 1) := by decide +kernel
theorem dX6_size_55 : decode cX6_size 55 = .ok (.aload_n 0, 1) := by decide +kernel
theorem dX6_size_56 : decode cX6_size 56 = .ok (.aload_n 0, 1) := by decide +kernel
theorem dX6_size_57 : decode cX6_size 57 = .ok (.iload_n 2, 1) := by decide +kernel
theorem dX6_size_58 : decode cX6_size 58 = .ok (.iload 4, 2) := by decide +kernel
theorem dX6_size_60 : decode cX6_size 60 = .ok (.invokevirtual 80, 3) := by decide +kernel
theorem dX6_size_63 : decode cX6_size 63 = .ok (.l2i, 1) := by decide +kernel
theorem dX6_size_64 : decode cX6_size 64 = .ok (.invokevirtual 135, 3) := by decide +kernel
theorem dX6_size_67 : decode cX6_size 67 = .ok (.iadd, 1) := by decide +kernel
theorem dX6_size_68 : decode cX6_size 68 = .ok (.istore_n 3, 1) := by decide +kernel
theorem dX6_size_69 : decode cX6_size 69 = .ok (.iinc 4 1, 3) := by decide +kernel
theorem dX6_size_72 : decode cX6_size 72 = .ok (.goto (-29), 3) := by decide +kernel
theorem dX6_size_75 : decode cX6_size 75 = .ok (.iload_n 3, 1) := by decide +kernel
theorem dX6_size_76 : decode cX6_size 76 = .ok (.ireturn, 1) := by decide +kernel
theorem dX6_areShaped_0 : decode cX6_areShaped 0 = .ok (.iload_n 1, 1) := by decide +kernel
theorem dX6_areShaped_1 : decode cX6_areShaped 1 = .ok (.ifCond .eq 41, 3) := by decide +kernel
theorem dX6_areShaped_4 : decode cX6_areShaped 4 = .ok (.iload_n 2, 1) := by decide +kernel
theorem dX6_areShaped_5 : decode cX6_areShaped 5 = .ok (.ifCond .eq 37, 3) := by decide +kernel
theorem dX6_areShaped_8 : decode cX6_areShaped 8 = .ok (.aload_n 0, 1) := by decide +kernel
theorem dX6_areShaped_9 : decode cX6_areShaped 9 = .ok (.getfield 7, 3) := by decide +kernel
theorem dX6_areShaped_12 : decode cX6_areShaped 12 = .ok (.iload_n 1, 1) := by decide +kernel
theorem dX6_areShaped_13 : decode cX6_areShaped 13 = .ok (.baload, 1) := by decide +kernel
theorem dX6_areShaped_14 : decode cX6_areShaped 14 = .ok (.aload_n 0, 1) := by decide +kernel
theorem dX6_areShaped_15 : decode cX6_areShaped 15 = .ok (.getfield 7, 3) := by decide +kernel
theorem dX6_areShaped_18 : decode cX6_areShaped 18 = .ok (.iload_n 2, 1) := by decide +kernel
theorem dX6_areShaped_19 : decode cX6_areShaped 19 = .ok (.baload, 1) := by decide +kernel
theorem dX6_areShaped_20 : decode cX6_areShaped 20 = .ok (.if_icmp .ne 22, 3) := by decide +kernel
theorem dX6_areShaped_23 : decode cX6_areShaped 23 = .ok (.aload_n 0, 1) := by decide +kernel
theorem dX6_areShaped_24 : decode cX6_areShaped 24 = .ok (.getfield 13, 3) := by decide +kernel
theorem dX6_areShaped_27 : decode cX6_areShaped 27 = .ok (.iload_n 1, 1) := by decide +kernel
theorem dX6_areShaped_28 : decode cX6_areShaped 28 = .ok (.baload, 1) := by decide +kernel
theorem dX6_areShaped_29 : decode cX6_areShaped 29 = .ok (.aload_n 0, 1) := by decide +kernel
theorem dX6_areShaped_30 : decode cX6_areShaped 30 = .ok (.getfield 13, 3) := by decide +kernel
theorem dX6_areShaped_33 : decode cX6_areShaped 33 = .ok (.iload_n 2, 1) := by decide +kernel
theorem dX6_areShaped_34 : decode cX6_areShaped 34 = .ok (.baload, 1) := by decide +kernel
theorem dX6_areShaped_35 : decode cX6_areShaped 35 = .ok (.if_icmp .ne 7, 3) := by decide +kernel
theorem dX6_areShaped_38 : decode cX6_areShaped 38 = .ok (.iconst 1, 1) := by decide +kernel
theorem dX6_areShaped_39 : decode cX6_areShaped 39 = .ok (.goto 4, 3) := by decide +kernel
theorem dX6_areShaped_42 : decode cX6_areShaped 42 = .ok (.iconst 0, 1) := by decide +kernel
theorem dX6_areShaped_43 : decode cX6_areShaped 43 = .ok (.ireturn, 1) := by decide +kernel
theorem dX6_areThingsLike_0 : decode cX6_areThingsLike 0 = .ok (.iload_n 1, 1) := by decide +kernel
theorem dX6_areThingsLike_1 : decode cX6_areThingsLike 1 = .ok (.iload_n 2, 1) := by decide +kernel
theorem dX6_areThingsLike_2 : decode cX6_areThingsLike 2 = .ok (.if_icmp .eq 41, 3) := by decide +kernel
theorem dX6_areThingsLike_5 : decode cX6_areThingsLike 5 = .ok (.iload_n 1, 1) := by decide +kernel
theorem dX6_areThingsLike_6 : decode cX6_areThingsLike 6 = .ok (.ifCond .eq 41, 3) := by decide +kernel
theorem dX6_areThingsLike_9 : decode cX6_areThingsLike 9 = .ok (.iload_n 2, 1) := by decide +kernel
theorem dX6_areThingsLike_10 : decode cX6_areThingsLike 10 = .ok (.ifCond .eq 37, 3) := by decide +kernel
theorem dX6_areThingsLike_13 : decode cX6_areThingsLike 13 = .ok (.aload_n 0, 1) := by decide +kernel
theorem dX6_areThingsLike_14 : decode cX6_areThingsLike 14 = .ok (.getfield 24, 3) := by decide +kernel
theorem dX6_areThingsLike_17 : decode cX6_areThingsLike 17 = .ok (.iload_n 1, 1) := by decide +kernel
theorem dX6_areThingsLike_18 : decode cX6_areThingsLike 18 = .ok (.iaload, 1) := by decide +kernel
theorem dX6_areThingsLike_19 : decode cX6_areThingsLike 19 = .ok (.aload_n 0, 1) := by decide +kernel
theorem dX6_areThingsLike_20 : decode cX6_areThingsLike 20 = .ok (.getfield 24, 3) := by decide +kernel
theorem dX6_areThingsLike_23 : decode cX6_areThingsLike 23 = .ok (.iload_n 2, 1) := by decide +kernel
theorem dX6_areThingsLike_24 : decode cX6_areThingsLike 24 = .ok (.iaload, 1) := by decide +kernel
theorem dX6_areThingsLike_25 : decode cX6_areThingsLike 25 = .ok (.if_icmp .ne 22, 3) := by decide +kernel
theorem dX6_areThingsLike_28 : decode cX6_areThingsLike 28 = .ok (.aload_n 0, 1) := by decide +kernel
theorem dX6_areThingsLike_29 : decode cX6_areThingsLike 29 = .ok (.getfield 27, 3) := by decide +kernel
theorem dX6_areThingsLike_32 : decode cX6_areThingsLike 32 = .ok (.iload_n 1, 1) := by decide +kernel
theorem dX6_areThingsLike_33 : decode cX6_areThingsLike 33 = .ok (.baload, 1) := by decide +kernel
theorem dX6_areThingsLike_34 : decode cX6_areThingsLike 34 = .ok (.aload_n 0, 1) := by decide +kernel
theorem dX6_areThingsLike_35 : decode cX6_areThingsLike 35 = .ok (.getfield 27, 3) := by decide +kernel
theorem dX6_areThingsLike_38 : decode cX6_areThingsLike 38 = .ok (.iload_n 2, 1) := by decide +kernel
theorem dX6_areThingsLike_39 : decode cX6_areThingsLike 39 = .ok (.baload, 1) := by decide +kernel
theorem dX6_areThingsLike_40 : decode cX6_areThingsLike 40 = .ok (.if_icmp .ne 7, 3) := by decide +kernel
theorem dX6_areThingsLike_43 : decode cX6_areThingsLike 43 = .ok (.iconst 1, 1) := by decide +kernel
theorem dX6_areThingsLike_44 : decode cX6_areThingsLike 44 = .ok (.goto 4, 3) := by decide +kernel
theorem dX6_areThingsLike_47 : decode cX6_areThingsLike 47 = .ok (.iconst 0, 1) := by decide +kernel
theorem dX6_areThingsLike_48 : decode cX6_areThingsLike 48 = .ok (.ireturn, 1) := by decide +kernel
theorem dX6_areFlatLike_0 : decode cX6_areFlatLike 0 = .ok (.iload_n 1, 1) := by decide +kernel
theorem dX6_areFlatLike_1 : decode cX6_areFlatLike 1 = .ok (.iload_n 2, 1) := by decide +kernel
theorem dX6_areFlatLike_2 : decode cX6_areFlatLike 2 = .ok (.if_icmp .ne 5, 3) := by decide +kernel
theorem dX6_areFlatLike_5 : decode cX6_areFlatLike 5 = .ok (.iconst 1, 1) := by decide +kernel
theorem dX6_areFlatLike_6 : decode cX6_areFlatLike 6 = .ok (.ireturn, 1) := by decide +kernel
theorem dX6_areFlatLike_7 : decode cX6_areFlatLike 7 = .ok (.aload_n 0, 1) := by decide +kernel
theorem dX6_areFlatLike_8 : decode cX6_areFlatLike 8 = .ok (.iload_n 1, 1) := by decide +kernel
theorem dX6_areFlatLike_9 : decode cX6_areFlatLike 9 = .ok (.iload_n 2, 1) := by decide +kernel
theorem dX6_areFlatLike_10 : decode cX6_areFlatLike 10 = .ok (.invokevirtual 138, 3) := by decide +kernel
theorem dX6_areFlatLike_13 : decode cX6_areFlatLike 13 = .ok (.istore_n 3, 1) := by decide +kernel
theorem dX6_areFlatLike_14 : decode cX6_areFlatLike 14 = .ok (.iconst 0, 1) := by decide +kernel
theorem dX6_areFlatLike_15 : decode cX6_areFlatLike 15 = .ok (.istore 4, 2) := by decide +kernel
theorem dX6_areFlatLike_17 : decode cX6_areFlatLike 17 = .ok (.iload_n 3, 1) := by decide +kernel
theorem dX6_areFlatLike_18 : decode cX6_areFlatLike 18 = .ok (.ifCond .eq 78, 3) := by decide +kernel
theorem dX6_areFlatLike_21 : decode cX6_areFlatLike 21 = .ok (.iload 4, 2) := by decide +kernel
theorem dX6_areFlatLike_23 : decode cX6_areFlatLike 23 = .ok (.aload_n 0, 1) := by decide +kernel
theorem dX6_areFlatLike_24 : decode cX6_areFlatLike 24 = .ok (.getfield 13, 3) := by decide +kernel
theorem dX6_areFlatLike_27 : decode cX6_areFlatLike 27 = .ok (.iload_n 1, 1) := by decide +kernel
theorem dX6_areFlatLike_28 : decode cX6_areFlatLike 28 = .ok (.baload, 1) := by decide +kernel
theorem dX6_areFlatLike_29 : decode cX6_areFlatLike 29 = .ok (.if_icmp .ge 67, 3) := by decide +kernel
theorem dX6_areFlatLike_32 : decode cX6_areFlatLike 32 = .ok (.aload_n 0, 1) := by decide +kernel
theorem dX6_areFlatLike_33 : decode cX6_areFlatLike 33 = .ok (.getfield 7, 3) := by decide +kernel
theorem dX6_areFlatLike_36 : decode cX6_areFlatLike 36 = .ok (.iload_n 1, 1) := by decide +kernel
theorem dX6_areFlatLike_37 : decode cX6_areFlatLike 37 = .ok (.baload, 1) := by decide +kernel
theorem dX6_areFlatLike_38 : decode cX6_areFlatLike 38 = .ok (.bipush 8, 2) := by decide +kernel
theorem dX6_areFlatLike_40 : decode cX6_areFlatLike 40 = .ok (.if_icmp .ge 29, 3) := by decide +kernel
theorem dX6_areFlatLike_43 : decode cX6_areFlatLike 43 = .ok (.aload_n 0, 1) := by decide +kernel
theorem dX6_areFlatLike_44 : decode cX6_areFlatLike 44 = .ok (.iload_n 1, 1) := by decide +kernel
theorem dX6_areFlatLike_45 : decode cX6_areFlatLike 45 = .ok (.iload 4, 2) := by decide +kernel
theorem dX6_areFlatLike_47 : decode cX6_areFlatLike 47 = .ok (.invokevirtual 80, 3) := by decide +kernel
theorem dX6_areFlatLike_50 : decode cX6_areFlatLike 50 = .ok (.aload_n 0, 1) := by decide +kernel
theorem dX6_areFlatLike_51 : decode cX6_areFlatLike 51 = .ok (.iload_n 2, 1) := by decide +kernel
theorem dX6_areFlatLike_52 : decode cX6_areFlatLike 52 = .ok (.iload 4, 2) := by decide +kernel
theorem dX6_areFlatLike_54 : decode cX6_areFlatLike 54 = .ok (.invokevirtual 80, 3) := by decide +kernel
theorem dX6_areFlatLike_57 : decode cX6_areFlatLike 57 = .ok (.lcmp, 1) := by decide +kernel
theorem dX6_areFlatLike_58 : decode cX6_areFlatLike 58 = .ok (.ifCond .ne 7, 3) := by decide +kernel
theorem dX6_areFlatLike_61 : decode cX6_areFlatLike 61 = .ok (.iconst 1, 1) := by decide +kernel
theorem dX6_areFlatLike_62 : decode cX6_areFlatLike 62 = .ok (.goto 27, 3) := by decide +kernel
theorem dX6_areFlatLike_65 : decode cX6_areFlatLike 65 = .ok (.iconst 0, 1) := by decide +kernel
theorem dX6_areFlatLike_66 : decode cX6_areFlatLike 66 = .ok (.goto 23, 3) := by decide +kernel
theorem dX6_areFlatLike_69 : decode cX6_areFlatLike 69 = .ok (.aload_n 0, 1) := by decide +kernel
theorem dX6_areFlatLike_70 : decode cX6_areFlatLike 70 = .ok (.aload_n 0, 1) := by decide +kernel
theorem dX6_areFlatLike_71 : decode cX6_areFlatLike 71 = .ok (.iload_n 1, 1) := by decide +kernel
theorem dX6_areFlatLike_72 : decode cX6_areFlatLike 72 = .ok (.iload 4, 2) := by decide +kernel
theorem dX6_areFlatLike_74 : decode cX6_areFlatLike 74 = .ok (.invokevirtual 80, 3) := by decide +kernel
theorem dX6_areFlatLike_77 : decode cX6_areFlatLike 77 = .ok (.l2i, 1) := by decide +kernel
theorem dX6_areFlatLike_78 : decode cX6_areFlatLike 78 = .ok (.aload_n 0, 1) := by decide +kernel
theorem dX6_areFlatLike_79 : decode cX6_areFlatLike 79 = .ok (.iload_n 2, 1) := by decide +kernel
theorem dX6_areFlatLike_80 : decode cX6_areFlatLike 80 = .ok (.iload 4, 2) := by decide +kernel
theorem dX6_areFlatLike_82 : decode cX6_areFlatLike 82 = .ok (.invokevirtual 80, 3) := by decide +kernel
theorem dX6_areFlatLike_85 : decode cX6_areFlatLike 85 = .ok (.l2i, 1) := by decide +kernel
theorem dX6_areFlatLike_86 : decode cX6_areFlatLike 86 = .ok (.invokevirtual 141, 3) := by decide +kernel
theorem dX6_areFlatLike_89 : decode cX6_areFlatLike 89 = .ok (.istore_n 3, 1) := by decide +kernel
theorem dX6_areFlatLike_90 : decode cX6_areFlatLike 90 = .ok (.iinc 4 1, 3) := by decide +kernel
theorem dX6_areFlatLike_93 : decode cX6_areFlatLike 93 = .ok (.goto (-76), 3) := by decide +kernel
theorem dX6_areFlatLike_96 : decode cX6_areFlatLike 96 = .ok (.iload_n 3, 1) := by decide +kernel
theorem dX6_areFlatLike_97 : decode cX6_areFlatLike 97 = .ok (.ireturn, 1) := by decide +kernel
theorem dX6_areMiddleLike_0 : decode cX6_areMiddleLike 0 = .ok (.iload_n 1, 1) := by decide +kernel
theorem dX6_areMiddleLike_1 : decode cX6_areMiddleLike 1 = .ok (.iload_n 2, 1) := by decide +kernel
theorem dX6_areMiddleLike_2 : decode cX6_areMiddleLike 2 = .ok (.if_icmp .ne 5, 3) := by decide +kernel
theorem dX6_areMiddleLike_5 : decode cX6_areMiddleLike 5 = .ok (.iconst 1, 1) := by decide +kernel
theorem dX6_areMiddleLike_6 : decode cX6_areMiddleLike 6 = .ok (.ireturn, 1) := by decide +kernel
theorem dX6_areMiddleLike_7 : decode cX6_areMiddleLike 7 = .ok (.iload_n 1, 1) := by decide +kernel
theorem dX6_areMiddleLike_8 : decode cX6_areMiddleLike 8 = .ok (.ifCond .eq 18, 3) := by decide +kernel
theorem dX6_areMiddleLike_11 : decode cX6_areMiddleLike 11 = .ok (.iload_n 2, 1) := by decide +kernel
theorem dX6_areMiddleLike_12 : decode cX6_areMiddleLike 12 = .ok (.ifCond .eq 14, 3) := by decide +kernel
theorem dX6_areMiddleLike_15 : decode cX6_areMiddleLike 15 = .ok (.aload_n 0, 1) := by decide +kernel
theorem dX6_areMiddleLike_16 : decode cX6_areMiddleLike 16 = .ok (.getfield 7, 3) := by decide +kernel
theorem dX6_areMiddleLike_19 : decode cX6_areMiddleLike 19 = .ok (.iload_n 1, 1) := by decide +kernel
theorem dX6_areMiddleLike_20 : decode cX6_areMiddleLike 20 = .ok (.baload, 1) := by decide +kernel
theorem dX6_areMiddleLike_21 : decode cX6_areMiddleLike 21 = .ok (.bipush 10, 2) := by decide +kernel
theorem dX6_areMiddleLike_23 : decode cX6_areMiddleLike 23 = .ok (.if_icmp .ge 10, 3) := by decide +kernel
theorem dX6_areMiddleLike_26 : decode cX6_areMiddleLike 26 = .ok (.aload_n 0, 1) := by decide +kernel
theorem dX6_areMiddleLike_27 : decode cX6_areMiddleLike 27 = .ok (.iload_n 1, 1) := by decide +kernel
theorem dX6_areMiddleLike_28 : decode cX6_areMiddleLike 28 = .ok (.iload_n 2, 1) := by decide +kernel
theorem dX6_areMiddleLike_29 : decode cX6_areMiddleLike 29 = .ok (.invokevirtual 144, 3) := by decide +kernel
theorem dX6_areMiddleLike_32 : decode cX6_areMiddleLike 32 = .ok (.ireturn, 1) := by decide +kernel
theorem dX6_areMiddleLike_33 : decode cX6_areMiddleLike 33 = .ok (.aload_n 0, 1) := by decide +kernel
theorem dX6_areMiddleLike_34 : decode cX6_areMiddleLike 34 = .ok (.iload_n 1, 1) := by decide +kernel
theorem dX6_areMiddleLike_35 : decode cX6_areMiddleLike 35 = .ok (.iload_n 2, 1) := by decide +kernel
theorem dX6_areMiddleLike_36 : decode cX6_areMiddleLike 36 = .ok (.invokevirtual 138, 3) := by decide +kernel
theorem dX6_areMiddleLike_39 : decode cX6_areMiddleLike 39 = .ok (.istore_n 3, 1) := by decide +kernel
theorem dX6_areMiddleLike_40 : decode cX6_areMiddleLike 40 = .ok (.iconst 0, 1) := by decide +kernel
theorem dX6_areMiddleLike_41 : decode cX6_areMiddleLike 41 = .ok (.istore 4, 2) := by decide +kernel
theorem dX6_areMiddleLike_43 : decode cX6_areMiddleLike 43 = .ok (.iload_n 3, 1) := by decide +kernel
theorem dX6_areMiddleLike_44 : decode cX6_areMiddleLike 44 = .ok (.ifCond .eq 41, 3) := by decide +kernel
theorem dX6_areMiddleLike_47 : decode cX6_areMiddleLike 47 = .ok (.iload 4, 2) := by decide +kernel
theorem dX6_areMiddleLike_49 : decode cX6_areMiddleLike 49 = .ok (.aload_n 0, 1) := by decide +kernel
theorem dX6_areMiddleLike_50 : decode cX6_areMiddleLike 50 = .ok (.getfield 13, 3) := by decide +kernel
theorem dX6_areMiddleLike_53 : decode cX6_areMiddleLike 53 = .ok (.iload_n 1, 1) := by decide +kernel
theorem dX6_areMiddleLike_54 : decode cX6_areMiddleLike 54 = .ok (.baload, 1) := by decide +kernel
theorem dX6_areMiddleLike_55 : decode cX6_areMiddleLike 55 = .ok (.if_icmp .ge 30, 3) := by decide +kernel
theorem dX6_areMiddleLike_58 : decode cX6_areMiddleLike 58 = .ok (.aload_n 0, 1) := by decide +kernel
theorem dX6_areMiddleLike_59 : decode cX6_areMiddleLike 59 = .ok (.aload_n 0, 1) := by decide +kernel
theorem dX6_areMiddleLike_60 : decode cX6_areMiddleLike 60 = .ok (.iload_n 1, 1) := by decide +kernel
theorem dX6_areMiddleLike_61 : decode cX6_areMiddleLike 61 = .ok (.iload 4, 2) := by decide +kernel
theorem dX6_areMiddleLike_63 : decode cX6_areMiddleLike 63 = .ok (.invokevirtual 80, 3) := by decide +kernel
theorem dX6_areMiddleLike_66 : decode cX6_areMiddleLike 66 = .ok (.l2i, 1) := by decide +kernel
theorem dX6_areMiddleLike_67 : decode cX6_areMiddleLike 67 = .ok (.aload_n 0, 1) := by decide +kernel
theorem dX6_areMiddleLike_68 : decode cX6_areMiddleLike 68 = .ok (.iload_n 2, 1) := by decide +kernel
theorem dX6_areMiddleLike_69 : decode cX6_areMiddleLike 69 = .ok (.iload 4, 2) := by decide +kernel
theorem dX6_areMiddleLike_71 : decode cX6_areMiddleLike 71 = .ok (.invokevirtual 80, 3) := by decide +kernel
theorem dX6_areMiddleLike_74 : decode cX6_areMiddleLike 74 = .ok (.l2i, 1) := by decide +kernel
theorem dX6_areMiddleLike_75 : decode cX6_areMiddleLike 75 = .ok (.invokevirtual 144, 3) := by decide +kernel
theorem dX6_areMiddleLike_78 : decode cX6_areMiddleLike 78 = .ok (.istore_n 3, 1) := by decide +kernel
theorem dX6_areMiddleLike_79 : decode cX6_areMiddleLike 79 = .ok (.iinc 4 1, 3) := by decide +kernel
theorem dX6_areMiddleLike_82 : decode cX6_areMiddleLike 82 = .ok (.goto (-39), 3) := by decide +kernel
theorem dX6_areMiddleLike_85 : decode cX6_areMiddleLike 85 = .ok (.iload_n 3, 1) := by decide +kernel
theorem dX6_areMiddleLike_86 : decode cX6_areMiddleLike 86 = .ok (.ireturn, 1) := by decide +kernel
theorem dX6_alike_0 : decode cX6_alike 0 = .ok (.iload_n 1, 1) := by decide +kernel
theorem dX6_alike_1 : decode cX6_alike 1 = .ok (.invokestatic 53, 3) := by decide +kernel
theorem dX6_alike_4 : decode cX6_alike 4 = .ok (.ifCond .eq 10, 3) := by decide +kernel
theorem dX6_alike_7 : decode cX6_alike 7 = .ok (.iload_n 2, 1) := by decide +kernel
theorem dX6_alike_8 : decode cX6_alike 8 = .ok (.invokestatic 53, 3) := by decide +kernel
theorem dX6_alike_11 : decode cX6_alike 11 = .ok (.ifCond .ne 6, 3) := by decide +kernel
theorem dX6_alike_14 : decode cX6_alike 14 = .ok (.bipush (-2), 2) := by decide +kernel
theorem dX6_alike_16 : decode cX6_alike 16 = .ok (.ireturn, 1) := by decide +kernel
theorem dX6_alike_17 : decode cX6_alike 17 = .ok (.aload_n 0, 1) := by decide +kernel
theorem dX6_alike_18 : decode cX6_alike 18 = .ok (.getfield 31, 3) := by decide +kernel
theorem dX6_alike_21 : decode cX6_alike 21 = .ok (.iload_n 1, 1) := by decide +kernel
theorem dX6_alike_22 : decode cX6_alike 22 = .ok (.iaload, 1) := by decide +kernel
theorem dX6_alike_23 : decode cX6_alike 23 = .ok (.istore_n 3, 1) := by decide +kernel
theorem dX6_alike_24 : decode cX6_alike 24 = .ok (.aload_n 0, 1) := by decide +kernel
theorem dX6_alike_25 : decode cX6_alike 25 = .ok (.getfield 31, 3) := by decide +kernel
theorem dX6_alike_28 : decode cX6_alike 28 = .ok (.iload_n 2, 1) := by decide +kernel
theorem dX6_alike_29 : decode cX6_alike 29 = .ok (.iaload, 1) := by decide +kernel
theorem dX6_alike_30 : decode cX6_alike 30 = .ok (.istore 4, 2) := by decide +kernel
theorem dX6_alike_32 : decode cX6_alike 32 = .ok (.iload_n 3, 1) := by decide +kernel
theorem dX6_alike_33 : decode cX6_alike 33 = .ok (.iload 4, 2) := by decide +kernel
theorem dX6_alike_35 : decode cX6_alike 35 = .ok (.if_icmp .ne 5, 3) := by decide +kernel
theorem dX6_alike_38 : decode cX6_alike 38 = .ok (.iconst 2, 1) := by decide +kernel
theorem dX6_alike_39 : decode cX6_alike 39 = .ok (.ireturn, 1) := by decide +kernel
theorem dX6_alike_40 : decode cX6_alike 40 = .ok (.iload_n 3, 1) := by decide +kernel
theorem dX6_alike_41 : decode cX6_alike 41 = .ok (.ifCond .eq 19, 3) := by decide +kernel
theorem dX6_alike_44 : decode cX6_alike 44 = .ok (.iload 4, 2) := by decide +kernel
theorem dX6_alike_46 : decode cX6_alike 46 = .ok (.ifCond .eq 14, 3) := by decide +kernel
theorem dX6_alike_49 : decode cX6_alike 49 = .ok (.aload_n 0, 1) := by decide +kernel
theorem dX6_alike_50 : decode cX6_alike 50 = .ok (.getfield 7, 3) := by decide +kernel
theorem dX6_alike_53 : decode cX6_alike 53 = .ok (.iload_n 3, 1) := by decide +kernel
theorem dX6_alike_54 : decode cX6_alike 54 = .ok (.baload, 1) := by decide +kernel
theorem dX6_alike_55 : decode cX6_alike 55 = .ok (.bipush 13, 2) := by decide +kernel
theorem dX6_alike_57 : decode cX6_alike 57 = .ok (.if_icmp .ge 19, 3) := by decide +kernel
theorem dX6_alike_60 : decode cX6_alike 60 = .ok (.aload_n 0, 1) := by decide +kernel
theorem dX6_alike_61 : decode cX6_alike 61 = .ok (.iload_n 3, 1) := by decide +kernel
theorem dX6_alike_62 : decode cX6_alike 62 = .ok (.iload 4, 2) := by decide +kernel
theorem dX6_alike_64 : decode cX6_alike 64 = .ok (.invokevirtual 147, 3) := by decide +kernel
theorem dX6_alike_67 : decode cX6_alike 67 = .ok (.ifCond .eq 7, 3) := by decide +kernel
theorem dX6_alike_70 : decode cX6_alike 70 = .ok (.iconst 1, 1) := by decide +kernel
theorem dX6_alike_71 : decode cX6_alike 71 = .ok (.goto 4, 3) := by decide +kernel
theorem dX6_alike_74 : decode cX6_alike 74 = .ok (.iconst 0, 1) := by decide +kernel
theorem dX6_alike_75 : decode cX6_alike 75 = .ok (.ireturn, 1) := by decide +kernel
theorem dX6_alike_76 : decode cX6_alike 76 = .ok (.aload_n 0, 1) := by decide +kernel
theorem dX6_alike_77 : decode cX6_alike 77 = .ok (.iload_n 3, 1) := by decide +kernel
theorem dX6_alike_78 : decode cX6_alike 78 = .ok (.iload 4, 2) := by decide +kernel
theorem dX6_alike_80 : decode cX6_alike 80 = .ok (.invokevirtual 138, 3) := by decide +kernel
theorem dX6_alike_83 : decode cX6_alike 83 = .ok (.istore 5, 2) := by decide +kernel
theorem dX6_alike_85 : decode cX6_alike 85 = .ok (.iconst 0, 1) := by decide +kernel
theorem dX6_alike_86 : decode cX6_alike 86 = .ok (.istore 6, 2) := by decide +kernel
theorem dX6_alike_88 : decode cX6_alike 88 = .ok (.iload 5, 2) := by decide +kernel
theorem dX6_alike_90 : decode cX6_alike 90 = .ok (.ifCond .eq 43, 3) := by decide +kernel
theorem dX6_alike_93 : decode cX6_alike 93 = .ok (.iload 6, 2) := by decide +kernel
theorem dX6_alike_95 : decode cX6_alike 95 = .ok (.aload_n 0, 1) := by decide +kernel
theorem dX6_alike_96 : decode cX6_alike 96 = .ok (.getfield 13, 3) := by decide +kernel
theorem dX6_alike_99 : decode cX6_alike 99 = .ok (.iload_n 3, 1) := by decide +kernel
theorem dX6_alike_100 : decode cX6_alike 100 = .ok (.baload, 1) := by decide +kernel
theorem dX6_alike_101 : decode cX6_alike 101 = .ok (.if_icmp .ge 32, 3) := by decide +kernel
theorem dX6_alike_104 : decode cX6_alike 104 = .ok (.aload_n 0, 1) := by decide +kernel
theorem dX6_alike_105 : decode cX6_alike 105 = .ok (.aload_n 0, 1) := by decide +kernel
theorem dX6_alike_106 : decode cX6_alike 106 = .ok (.iload_n 3, 1) := by decide +kernel
theorem dX6_alike_107 : decode cX6_alike 107 = .ok (.iload 6, 2) := by decide +kernel
theorem dX6_alike_109 : decode cX6_alike 109 = .ok (.invokevirtual 80, 3) := by decide +kernel
theorem dX6_alike_112 : decode cX6_alike 112 = .ok (.l2i, 1) := by decide +kernel
theorem dX6_alike_113 : decode cX6_alike 113 = .ok (.aload_n 0, 1) := by decide +kernel
theorem dX6_alike_114 : decode cX6_alike 114 = .ok (.iload 4, 2) := by decide +kernel
theorem dX6_alike_116 : decode cX6_alike 116 = .ok (.iload 6, 2) := by decide +kernel
theorem dX6_alike_118 : decode cX6_alike 118 = .ok (.invokevirtual 80, 3) := by decide +kernel
theorem dX6_alike_121 : decode cX6_alike 121 = .ok (.l2i, 1) := by decide +kernel
theorem dX6_alike_122 : decode cX6_alike 122 = .ok (.invokevirtual 147, 3) := by decide +kernel
theorem dX6_alike_125 : decode cX6_alike 125 = .ok (.istore 5, 2) := by decide +kernel
theorem dX6_alike_127 : decode cX6_alike 127 = .ok (.iinc 6 1, 3) := by decide +kernel
theorem dX6_alike_130 : decode cX6_alike 130 = .ok (.goto (-42), 3) := by decide +kernel
theorem dX6_alike_133 : decode cX6_alike 133 = .ok (.iload 5, 2) := by decide +kernel
theorem dX6_alike_135 : decode cX6_alike 135 = .ok (.ifCond .eq 7, 3) := by decide +kernel
theorem dX6_alike_138 : decode cX6_alike 138 = .ok (.iconst 1, 1) := by decide +kernel
theorem dX6_alike_139 : decode cX6_alike 139 = .ok (.goto 4, 3) := by decide +kernel
theorem dX6_alike_142 : decode cX6_alike 142 = .ok (.iconst 0, 1) := by decide +kernel
theorem dX6_alike_143 : decode cX6_alike 143 = .ok (.ireturn, 1) := by decide +kernel
theorem dX6_trouble_0 : decode cX6_trouble 0 = .ok (.iload_n 1, 1) := by decide +kernel
theorem dX6_trouble_1 : decode cX6_trouble 1 = .ok (.iconst 0, 1) := by decide +kernel
theorem dX6_trouble_2 : decode cX6_trouble 2 = .ok (.bipush 7, 2) := by decide +kernel
theorem dX6_trouble_4 : decode cX6_trouble 4 = .ok (.invokestatic 57, 3) := by decide +kernel
theorem dX6_trouble_7 : decode cX6_trouble 7 = .ok (.ifCond .eq 8, 3) := by decide +kernel
theorem dX6_trouble_10 : decode cX6_trouble 10 = .ok (.iload_n 2, 1) := by decide +kernel
theorem dX6_trouble_11 : decode cX6_trouble 11 = .ok (.iconst (-1), 1) := by decide +kernel
theorem dX6_trouble_12 : decode cX6_trouble 12 = .ok (.if_icmp .ge 6, 3) := by decide +kernel
theorem dX6_trouble_15 : decode cX6_trouble 15 = .ok (.bipush (-2), 2) := by decide +kernel
theorem dX6_trouble_17 : decode cX6_trouble 17 = .ok (.ireturn, 1) := by decide +kernel
theorem dX6_trouble_18 : decode cX6_trouble 18 = .ok (.aload_n 0, 1) := by decide +kernel
theorem dX6_trouble_19 : decode cX6_trouble 19 = .ok (.getfield 34, 3) := by decide +kernel
theorem dX6_trouble_22 : decode cX6_trouble 22 = .ok (.iload_n 1, 1) := by decide +kernel
theorem dX6_trouble_23 : decode cX6_trouble 23 = .ok (.iaload, 1) := by decide +kernel
theorem dX6_trouble_24 : decode cX6_trouble 24 = .ok (.istore_n 3, 1) := by decide +kernel
theorem dX6_trouble_25 : decode cX6_trouble 25 = .ok (.aload_n 0, 1) := by decide +kernel
theorem dX6_trouble_26 : decode cX6_trouble 26 = .ok (.getfield 34, 3) := by decide +kernel
theorem dX6_trouble_29 : decode cX6_trouble 29 = .ok (.iload_n 1, 1) := by decide +kernel
theorem dX6_trouble_30 : decode cX6_trouble 30 = .ok (.iload_n 2, 1) := by decide +kernel
theorem dX6_trouble_31 : decode cX6_trouble 31 = .ok (.iastore, 1) := by decide +kernel
theorem dX6_trouble_32 : decode cX6_trouble 32 = .ok (.iload_n 3, 1) := by decide +kernel
theorem dX6_trouble_33 : decode cX6_trouble 33 = .ok (.ireturn, 1) := by decide +kernel
theorem dX6_raise_0 : decode cX6_raise 0 = .ok (.iload_n 1, 1) := by decide +kernel
theorem dX6_raise_1 : decode cX6_raise 1 = .ok (.iconst 0, 1) := by decide +kernel
theorem dX6_raise_2 : decode cX6_raise 2 = .ok (.bipush 7, 2) := by decide +kernel
theorem dX6_raise_4 : decode cX6_raise 4 = .ok (.invokestatic 57, 3) := by decide +kernel
theorem dX6_raise_7 : decode cX6_raise 7 = .ok (.ifCond .eq 13, 3) := by decide +kernel
theorem dX6_raise_10 : decode cX6_raise 10 = .ok (.iload_n 2, 1) := by decide +kernel
theorem dX6_raise_11 : decode cX6_raise 11 = .ok (.iconst 1, 1) := by decide +kernel
theorem dX6_raise_12 : decode cX6_raise 12 = .ok (.bipush 8, 2) := by decide +kernel
theorem dX6_raise_14 : decode cX6_raise 14 = .ok (.invokestatic 57, 3) := by decide +kernel
theorem dX6_raise_17 : decode cX6_raise 17 = .ok (.ifCond .ne 6, 3) := by decide +kernel
theorem dX6_raise_20 : decode cX6_raise 20 = .ok (.bipush (-2), 2) := by decide +kernel
theorem dX6_raise_22 : decode cX6_raise 22 = .ok (.ireturn, 1) := by decide +kernel
theorem dX6_raise_23 : decode cX6_raise 23 = .ok (.aload_n 0, 1) := by decide +kernel
theorem dX6_raise_24 : decode cX6_raise 24 = .ok (.iconst 0, 1) := by decide +kernel
theorem dX6_raise_25 : decode cX6_raise 25 = .ok (.putfield 150, 3) := by decide +kernel
theorem dX6_raise_28 : decode cX6_raise 28 = .ok (.iload_n 2, 1) := by decide +kernel
theorem dX6_raise_29 : decode cX6_raise 29 = .ok (.istore_n 3, 1) := by decide +kernel
theorem dX6_raise_30 : decode cX6_raise 30 = .ok (.iload_n 3, 1) := by decide +kernel
theorem dX6_raise_31 : decode cX6_raise 31 = .ok (.ifCond .le 22, 3) := by decide +kernel
theorem dX6_raise_34 : decode cX6_raise 34 = .ok (.aload_n 0, 1) := by decide +kernel
theorem dX6_raise_35 : decode cX6_raise 35 = .ok (.bipush 10, 2) := by decide +kernel
theorem dX6_raise_37 : decode cX6_raise 37 = .ok (.aload_n 0, 1) := by decide +kernel
theorem dX6_raise_38 : decode cX6_raise 38 = .ok (.getfield 150, 3) := by decide +kernel
theorem dX6_raise_41 : decode cX6_raise 41 = .ok (.imul, 1) := by decide +kernel
theorem dX6_raise_42 : decode cX6_raise 42 = .ok (.iload_n 3, 1) := by decide +kernel
theorem dX6_raise_43 : decode cX6_raise 43 = .ok (.iadd, 1) := by decide +kernel
theorem dX6_raise_44 : decode cX6_raise 44 = .ok (.putfield 150, 3) := by decide +kernel
theorem dX6_raise_47 : decode cX6_raise 47 = .ok (.iinc 3 (-1), 3) := by decide +kernel
theorem dX6_raise_50 : decode cX6_raise 50 = .ok (.goto (-20), 3) := by decide +kernel
theorem dX6_raise_53 : decode cX6_raise 53 = .ok (.aload_n 0, 1) := by decide +kernel
theorem dX6_raise_54 : decode cX6_raise 54 = .ok (.aload_n 0, 1) := by decide +kernel
theorem dX6_raise_55 : decode cX6_raise 55 = .ok (.getfield 34, 3) := by decide +kernel
theorem dX6_raise_58 : decode cX6_raise 58 = .ok (.iload_n 1, 1) := by decide +kernel
theorem dX6_raise_59 : decode cX6_raise 59 = .ok (.iaload, 1) := by decide +kernel
theorem dX6_raise_60 : decode cX6_raise 60 = .ok (.putfield 37, 3) := by decide +kernel
theorem dX6_raise_63 : decode cX6_raise 63 = .ok (.aload_n 0, 1) := by decide +kernel
theorem dX6_raise_64 : decode cX6_raise 64 = .ok (.getfield 37, 3) := by decide +kernel
theorem dX6_raise_67 : decode cX6_raise 67 = .ok (.iconst (-1), 1) := by decide +kernel
theorem dX6_raise_68 : decode cX6_raise 68 = .ok (.if_icmp .ne 7, 3) := by decide +kernel
theorem dX6_raise_71 : decode cX6_raise 71 = .ok (.iconst 1, 1) := by decide +kernel
theorem dX6_raise_72 : decode cX6_raise 72 = .ok (.goto 5, 3) := by decide +kernel
theorem dX6_raise_75 : decode cX6_raise 75 = .ok (.bipush 6, 2) := by decide +kernel
theorem dX6_raise_77 : decode cX6_raise 77 = .ok (.invokestatic 65, 3) := by decide +kernel
theorem dX6_raise_80 : decode cX6_raise 80 = .ok (.ireturn, 1) := by decide +kernel
theorem dX6_passed_0 : decode cX6_passed 0 = .ok (.aload_n 0, 1) := by decide +kernel
theorem dX6_passed_1 : decode cX6_passed 1 = .ok (.getfield 150, 3) := by decide +kernel
theorem dX6_passed_4 : decode cX6_passed 4 = .ok (.ireturn, 1) := by decide +kernel
theorem dX6_number_0 : decode cX6_number 0 = .ok (.aload_n 0, 1) := by decide +kernel
theorem dX6_number_1 : decode cX6_number 1 = .ok (.getfield 37, 3) := by decide +kernel
theorem dX6_number_4 : decode cX6_number 4 = .ok (.ireturn, 1) := by decide +kernel
theorem dX6_fault_0 : decode cX6_fault 0 = .ok (.aload_n 0, 1) := by decide +kernel
theorem dX6_fault_1 : decode cX6_fault 1 = .ok (.getfield 111, 3) := by decide +kernel
theorem dX6_fault_4 : decode cX6_fault 4 = .ok (.ireturn, 1) := by decide +kernel
theorem dX6_clear_0 : decode cX6_clear 0 = .ok (.iconst 0, 1) := by decide +kernel
theorem dX6_clear_1 : decode cX6_clear 1 = .ok (.istore_n 1, 1) := by decide +kernel
theorem dX6_clear_2 : decode cX6_clear 2 = .ok (.iconst 0, 1) := by decide +kernel
theorem dX6_clear_3 : decode cX6_clear 3 = .ok (.istore_n 2, 1) := by decide +kernel
theorem dX6_clear_4 : decode cX6_clear 4 = .ok (.iload_n 2, 1) := by decide +kernel
theorem dX6_clear_5 : decode cX6_clear 5 = .ok (.bipush 16, 2) := by decide +kernel
theorem dX6_clear_7 : decode cX6_clear 7 = .ok (.if_icmp .ge 33, 3) := by decide +kernel
theorem dX6_clear_10 : decode cX6_clear 10 = .ok (.iload_n 1, 1) := by decide +kernel
theorem dX6_clear_11 : decode cX6_clear 11 = .ok (.aload_n 0, 1) := by decide +kernel
theorem dX6_clear_12 : decode cX6_clear 12 = .ok (.getfield 31, 3) := by decide +kernel
theorem dX6_clear_15 : decode cX6_clear 15 = .ok (.iload_n 2, 1) := by decide +kernel
theorem dX6_clear_16 : decode cX6_clear 16 = .ok (.iaload, 1) := by decide +kernel
theorem dX6_clear_17 : decode cX6_clear 17 = .ok (.ifCond .eq 7, 3) := by decide +kernel
theorem dX6_clear_20 : decode cX6_clear 20 = .ok (.iconst 1, 1) := by decide +kernel
theorem dX6_clear_21 : decode cX6_clear 21 = .ok (.goto 4, 3) := by decide +kernel
theorem dX6_clear_24 : decode cX6_clear 24 = .ok (.iconst 0, 1) := by decide +kernel
theorem dX6_clear_25 : decode cX6_clear 25 = .ok (.iadd, 1) := by decide +kernel
theorem dX6_clear_26 : decode cX6_clear 26 = .ok (.istore_n 1, 1) := by decide +kernel
theorem dX6_clear_27 : decode cX6_clear 27 = .ok (.aload_n 0, 1) := by decide +kernel
theorem dX6_clear_28 : decode cX6_clear 28 = .ok (.getfield 31, 3) := by decide +kernel
theorem dX6_clear_31 : decode cX6_clear 31 = .ok (.iload_n 2, 1) := by decide +kernel
theorem dX6_clear_32 : decode cX6_clear 32 = .ok (.iconst 0, 1) := by decide +kernel
theorem dX6_clear_33 : decode cX6_clear 33 = .ok (.iastore, 1) := by decide +kernel
theorem dX6_clear_34 : decode cX6_clear 34 = .ok (.iinc 2 1, 3) := by decide +kernel
theorem dX6_clear_37 : decode cX6_clear 37 = .ok (.goto (-33), 3) := by decide +kernel
theorem dX6_clear_40 : decode cX6_clear 40 = .ok (.iconst 0, 1) := by decide +kernel
theorem dX6_clear_41 : decode cX6_clear 41 = .ok (.istore_n 2, 1) := by decide +kernel
theorem dX6_clear_42 : decode cX6_clear 42 = .ok (.iload_n 2, 1) := by decide +kernel
theorem dX6_clear_43 : decode cX6_clear 43 = .ok (.bipush 8, 2) := by decide +kernel
theorem dX6_clear_45 : decode cX6_clear 45 = .ok (.if_icmp .ge 16, 3) := by decide +kernel
theorem dX6_clear_48 : decode cX6_clear 48 = .ok (.aload_n 0, 1) := by decide +kernel
theorem dX6_clear_49 : decode cX6_clear 49 = .ok (.getfield 34, 3) := by decide +kernel
theorem dX6_clear_52 : decode cX6_clear 52 = .ok (.iload_n 2, 1) := by decide +kernel
theorem dX6_clear_53 : decode cX6_clear 53 = .ok (.iconst (-1), 1) := by decide +kernel
theorem dX6_clear_54 : decode cX6_clear 54 = .ok (.iastore, 1) := by decide +kernel
theorem dX6_clear_55 : decode cX6_clear 55 = .ok (.iinc 2 1, 3) := by decide +kernel
theorem dX6_clear_58 : decode cX6_clear 58 = .ok (.goto (-16), 3) := by decide +kernel
theorem dX6_clear_61 : decode cX6_clear 61 = .ok (.aload_n 0, 1) := by decide +kernel
theorem dX6_clear_62 : decode cX6_clear 62 = .ok (.iconst 0, 1) := by decide +kernel
theorem dX6_clear_63 : decode cX6_clear 63 = .ok (.putfield 150, 3) := by decide +kernel
theorem dX6_clear_66 : decode cX6_clear 66 = .ok (.aload_n 0, 1) := by decide +kernel
theorem dX6_clear_67 : decode cX6_clear 67 = .ok (.iconst (-1), 1) := by decide +kernel
theorem dX6_clear_68 : decode cX6_clear 68 = .ok (.putfield 37, 3) := by decide +kernel
theorem dX6_clear_71 : decode cX6_clear 71 = .ok (.aload_n 0, 1) := by decide +kernel
theorem dX6_clear_72 : decode cX6_clear 72 = .ok (.iconst 0, 1) := by decide +kernel
theorem dX6_clear_73 : decode cX6_clear 73 = .ok (.putfield 111, 3) := by decide +kernel
theorem dX6_clear_76 : decode cX6_clear 76 = .ok (.iload_n 1, 1) := by decide +kernel
theorem dX6_clear_77 : decode cX6_clear 77 = .ok (.ireturn, 1) := by decide +kernel
theorem dX6_told_0 : decode cX6_told 0 = .ok (.iconst 0, 1) := by decide +kernel
theorem dX6_told_1 : decode cX6_told 1 = .ok (.istore_n 2, 1) := by decide +kernel
theorem dX6_told_2 : decode cX6_told 2 = .ok (.iconst 0, 1) := by decide +kernel
theorem dX6_told_3 : decode cX6_told 3 = .ok (.istore_n 3, 1) := by decide +kernel
theorem dX6_told_4 : decode cX6_told 4 = .ok (.iload_n 3, 1) := by decide +kernel
theorem dX6_told_5 : decode cX6_told 5 = .ok (.bipush 16, 2) := by decide +kernel
theorem dX6_told_7 : decode cX6_told 7 = .ok (.if_icmp .ge 26, 3) := by decide +kernel
theorem dX6_told_10 : decode cX6_told 10 = .ok (.iload_n 2, 1) := by decide +kernel
theorem dX6_told_11 : decode cX6_told 11 = .ok (.aload_n 0, 1) := by decide +kernel
theorem dX6_told_12 : decode cX6_told 12 = .ok (.getfield 31, 3) := by decide +kernel
theorem dX6_told_15 : decode cX6_told 15 = .ok (.iload_n 3, 1) := by decide +kernel
theorem dX6_told_16 : decode cX6_told 16 = .ok (.iaload, 1) := by decide +kernel
theorem dX6_told_17 : decode cX6_told 17 = .ok (.ifCond .eq 7, 3) := by decide +kernel
theorem dX6_told_20 : decode cX6_told 20 = .ok (.iconst 1, 1) := by decide +kernel
theorem dX6_told_21 : decode cX6_told 21 = .ok (.goto 4, 3) := by decide +kernel
theorem dX6_told_24 : decode cX6_told 24 = .ok (.iconst 0, 1) := by decide +kernel
theorem dX6_told_25 : decode cX6_told 25 = .ok (.iadd, 1) := by decide +kernel
theorem dX6_told_26 : decode cX6_told 26 = .ok (.istore_n 2, 1) := by decide +kernel
theorem dX6_told_27 : decode cX6_told 27 = .ok (.iinc 3 1, 3) := by decide +kernel
theorem dX6_told_30 : decode cX6_told 30 = .ok (.goto (-26), 3) := by decide +kernel
theorem dX6_told_33 : decode cX6_told 33 = .ok (.iload_n 1, 1) := by decide +kernel
theorem dX6_told_34 : decode cX6_told 34 = .ok (.ifCond .ne 7, 3) := by decide +kernel
theorem dX6_told_37 : decode cX6_told 37 = .ok (.iload_n 2, 1) := by decide +kernel
theorem dX6_told_38 : decode cX6_told 38 = .ok (.goto 29, 3) := by decide +kernel
theorem dX6_told_41 : decode cX6_told 41 = .ok (.iload_n 1, 1) := by decide +kernel
theorem dX6_told_42 : decode cX6_told 42 = .ok (.iconst 1, 1) := by decide +kernel
theorem dX6_told_43 : decode cX6_told 43 = .ok (.if_icmp .ne 10, 3) := by decide +kernel
theorem dX6_told_46 : decode cX6_told 46 = .ok (.aload_n 0, 1) := by decide +kernel
theorem dX6_told_47 : decode cX6_told 47 = .ok (.getfield 50, 3) := by decide +kernel
theorem dX6_told_50 : decode cX6_told 50 = .ok (.goto 17, 3) := by decide +kernel
theorem dX6_told_53 : decode cX6_told 53 = .ok (.iload_n 1, 1) := by decide +kernel
theorem dX6_told_54 : decode cX6_told 54 = .ok (.iconst 2, 1) := by decide +kernel
theorem dX6_told_55 : decode cX6_told 55 = .ok (.if_icmp .ne 10, 3) := by decide +kernel
theorem dX6_told_58 : decode cX6_told 58 = .ok (.aload_n 0, 1) := by decide +kernel
theorem dX6_told_59 : decode cX6_told 59 = .ok (.getfield 122, 3) := by decide +kernel
theorem dX6_told_62 : decode cX6_told 62 = .ok (.goto 5, 3) := by decide +kernel
theorem dX6_told_65 : decode cX6_told 65 = .ok (.bipush (-2), 2) := by decide +kernel
theorem dX6_told_67 : decode cX6_told 67 = .ok (.ireturn, 1) := by decide +kernel
