theorem dX5_init_0 : decode cX5_init 0 = .ok (.aload_n 0, 1) := by decide +kernel
theorem dX5_init_1 : decode cX5_init 1 = .ok (.invokespecial 1, 3) := by decide +kernel
theorem dX5_init_4 : decode cX5_init 4 = .ok (.aload_n 0, 1) := by decide +kernel
theorem dX5_init_5 : decode cX5_init 5 = .ok (.new 7, 3) := by decide +kernel
theorem dX5_init_8 : decode cX5_init 8 = .ok (.dup, 1) := by decide +kernel
theorem dX5_init_9 : decode cX5_init 9 = .ok (.invokespecial 9, 3) := by decide +kernel
theorem dX5_init_12 : decode cX5_init 12 = .ok (.putfield 10, 3) := by decide +kernel
theorem dX5_init_15 : decode cX5_init 15 = .ok (.aload_n 0, 1) := by decide +kernel
theorem dX5_init_16 : decode cX5_init 16 = .ok (.new 7, 3) := by decide +kernel
theorem dX5_init_19 : decode cX5_init 19 = .ok (.dup, 1) := by decide +kernel
theorem dX5_init_20 : decode cX5_init 20 = .ok (.invokespecial 9, 3) := by decide +kernel
theorem dX5_init_23 : decode cX5_init 23 = .ok (.putfield 16, 3) := by decide +kernel
theorem dX5_init_26 : decode cX5_init 26 = .ok (.aload_n 0, 1) := by decide +kernel
theorem dX5_init_27 : decode cX5_init 27 = .ok (.new 7, 3) := by decide +kernel
theorem dX5_init_30 : decode cX5_init 30 = .ok (.dup, 1) := by decide +kernel
theorem dX5_init_31 : decode cX5_init 31 = .ok (.invokespecial 9, 3) := by decide +kernel
theorem dX5_init_34 : decode cX5_init 34 = .ok (.putfield 19, 3) := by decide +kernel
theorem dX5_init_37 : decode cX5_init 37 = .ok (.aload_n 0, 1) := by decide +kernel
theorem dX5_init_38 : decode cX5_init 38 = .ok (.new 22, 3) := by decide +kernel
theorem dX5_init_41 : decode cX5_init 41 = .ok (.dup, 1) := by decide +kernel
theorem dX5_init_42 : decode cX5_init 42 = .ok (.invokespecial 24, 3) := by decide +kernel
theorem dX5_init_45 : decode cX5_init 45 = .ok (.putfield 25, 3) := by decide +kernel
theorem dX5_init_48 : decode cX5_init 48 = .ok (.aload_n 0, 1) := by decide +kernel
theorem dX5_init_49 : decode cX5_init 49 = .ok (.new 29, 3) := by decide +kernel
theorem dX5_init_52 : decode cX5_init 52 = .ok (.dup, 1) := by decide +kernel
theorem dX5_init_53 : decode cX5_init 53 = .ok (.invokespecial 31, 3) := by decide +kernel
theorem dX5_init_56 : decode cX5_init 56 = .ok (.putfield 32, 3) := by decide +kernel
theorem dX5_init_59 : decode cX5_init 59 = .ok (.aload_n 0, 1) := by decide +kernel
theorem dX5_init_60 : decode cX5_init 60 = .ok (.bipush 28, 2) := by decide +kernel
theorem dX5_init_62 : decode cX5_init 62 = .ok (.newarray .int, 2) := by decide +kernel
theorem dX5_init_64 : decode cX5_init 64 = .ok (.putfield 36, 3) := by decide +kernel
theorem dX5_init_67 : decode cX5_init 67 = .ok (.aload_n 0, 1) := by decide +kernel
theorem dX5_init_68 : decode cX5_init 68 = .ok (.bipush 7, 2) := by decide +kernel
theorem dX5_init_70 : decode cX5_init 70 = .ok (.newarray .int, 2) := by decide +kernel
theorem dX5_init_72 : decode cX5_init 72 = .ok (.putfield 40, 3) := by decide +kernel
theorem dX5_init_75 : decode cX5_init 75 = .ok (.aload_n 0, 1) := by decide +kernel
theorem dX5_init_76 : decode cX5_init 76 = .ok (.bipush 7, 2) := by decide +kernel
theorem dX5_init_78 : decode cX5_init 78 = .ok (.newarray .int, 2) := by decide +kernel
theorem dX5_init_80 : decode cX5_init 80 = .ok (.putfield 43, 3) := by decide +kernel
theorem dX5_init_83 : decode cX5_init 83 = .ok (.aload_n 0, 1) := by decide +kernel
theorem dX5_init_84 : decode cX5_init 84 = .ok (.lconst 0, 1) := by decide +kernel
theorem dX5_init_85 : decode cX5_init 85 = .ok (.putfield 46, 3) := by decide +kernel
theorem dX5_init_88 : decode cX5_init 88 = .ok (.aload_n 0, 1) := by decide +kernel
theorem dX5_init_89 : decode cX5_init 89 = .ok (.lconst 1, 1) := by decide +kernel
theorem dX5_init_90 : decode cX5_init 90 = .ok (.putfield 50, 3) := by decide +kernel
theorem dX5_init_93 : decode cX5_init 93 = .ok (.aload_n 0, 1) := by decide +kernel
theorem dX5_init_94 : decode cX5_init 94 = .ok (.iconst 0, 1) := by decide +kernel
theorem dX5_init_95 : decode cX5_init 95 = .ok (.putfield 53, 3) := by decide +kernel
theorem dX5_init_98 : decode cX5_init 98 = .ok (.aload_n 0, 1) := by decide +kernel
theorem dX5_init_99 : decode cX5_init 99 = .ok (.iconst 0, 1) := by decide +kernel
theorem dX5_init_100 : decode cX5_init 100 = .ok (.putfield 57, 3) := by decide +kernel
theorem dX5_init_103 : decode cX5_init 103 = .ok (.aload_n 0, 1) := by decide +kernel
theorem dX5_init_104 : decode cX5_init 104 = .ok (.iconst 0, 1) := by decide +kernel
theorem dX5_init_105 : decode cX5_init 105 = .ok (.putfield 60, 3) := by decide +kernel
theorem dX5_init_108 : decode cX5_init 108 = .ok (.return_, 1) := by decide +kernel
theorem dX5_at_0 : decode cX5_at 0 = .ok (.aload_n 0, 1) := by decide +kernel
theorem dX5_at_1 : decode cX5_at 1 = .ok (.ifnull 19, 3) := by decide +kernel
theorem dX5_at_4 : decode cX5_at 4 = .ok (.iload_n 1, 1) := by decide +kernel
theorem dX5_at_5 : decode cX5_at 5 = .ok (.ifCond .lt 15, 3) := by decide +kernel
theorem dX5_at_8 : decode cX5_at 8 = .ok (.iload_n 1, 1) := by decide +kernel
theorem dX5_at_9 : decode cX5_at 9 = .ok (.aload_n 0, 1) := by decide +kernel
theorem dX5_at_10 : decode cX5_at 10 = .ok (.arraylength, 1) := by decide +kernel
theorem dX5_at_11 : decode cX5_at 11 = .ok (.if_icmp .ge 9, 3) := by decide +kernel
theorem dX5_at_14 : decode cX5_at 14 = .ok (.aload_n 0, 1) := by decide +kernel
theorem dX5_at_15 : decode cX5_at 15 = .ok (.iload_n 1, 1) := by decide +kernel
theorem dX5_at_16 : decode cX5_at 16 = .ok (.iaload, 1) := by decide +kernel
theorem dX5_at_17 : decode cX5_at 17 = .ok (.goto 4, 3) := by decide +kernel
theorem dX5_at_20 : decode cX5_at 20 = .ok (.iconst 0, 1) := by decide +kernel
theorem dX5_at_21 : decode cX5_at 21 = .ok (.ireturn, 1) := by decide +kernel
theorem dX5_put_0 : decode cX5_put 0 = .ok (.aload_n 0, 1) := by decide +kernel
theorem dX5_put_1 : decode cX5_put 1 = .ok (.ifnull 17, 3) := by decide +kernel
theorem dX5_put_4 : decode cX5_put 4 = .ok (.iload_n 1, 1) := by decide +kernel
theorem dX5_put_5 : decode cX5_put 5 = .ok (.ifCond .lt 13, 3) := by decide +kernel
theorem dX5_put_8 : decode cX5_put 8 = .ok (.iload_n 1, 1) := by decide +kernel
theorem dX5_put_9 : decode cX5_put 9 = .ok (.aload_n 0, 1) := by decide +kernel
theorem dX5_put_10 : decode cX5_put 10 = .ok (.arraylength, 1) := by decide +kernel
theorem dX5_put_11 : decode cX5_put 11 = .ok (.if_icmp .ge 7, 3) := by decide +kernel
theorem dX5_put_14 : decode cX5_put 14 = .ok (.aload_n 0, 1) := by decide +kernel
theorem dX5_put_15 : decode cX5_put 15 = .ok (.iload_n 1, 1) := by decide +kernel
theorem dX5_put_16 : decode cX5_put 16 = .ok (.iload_n 2, 1) := by decide +kernel
theorem dX5_put_17 : decode cX5_put 17 = .ok (.iastore, 1) := by decide +kernel
theorem dX5_put_18 : decode cX5_put 18 = .ok (.return_, 1) := by decide +kernel
theorem dX5_copyCells_0 : decode cX5_copyCells 0 = .ok (.aload_n 0, 1) := by decide +kernel
theorem dX5_copyCells_1 : decode cX5_copyCells 1 = .ok (.ifnull 20, 3) := by decide +kernel
theorem dX5_copyCells_4 : decode cX5_copyCells 4 = .ok (.aload_n 2, 1) := by decide +kernel
theorem dX5_copyCells_5 : decode cX5_copyCells 5 = .ok (.ifnull 16, 3) := by decide +kernel
theorem dX5_copyCells_8 : decode cX5_copyCells 8 = .ok (.iload 4, 2) := by decide +kernel
theorem dX5_copyCells_10 : decode cX5_copyCells 10 = .ok (.ifCond .lt 11, 3) := by decide +kernel
theorem dX5_copyCells_13 : decode cX5_copyCells 13 = .ok (.iload_n 1, 1) := by decide +kernel
theorem dX5_copyCells_14 : decode cX5_copyCells 14 = .ok (.ifCond .lt 7, 3) := by decide +kernel
theorem dX5_copyCells_17 : decode cX5_copyCells 17 = .ok (.iload_n 3, 1) := by decide +kernel
theorem dX5_copyCells_18 : decode cX5_copyCells 18 = .ok (.ifCond .ge 4, 3) := by decide +kernel
theorem dX5_copyCells_21 : decode cX5_copyCells 21 = .ok (.return_, 1) := by decide +kernel
theorem dX5_copyCells_22 : decode cX5_copyCells 22 = .ok (.iload_n 1, 1) := by decide +kernel
theorem dX5_copyCells_23 : decode cX5_copyCells 23 = .ok (.aload_n 0, 1) := by decide +kernel
theorem dX5_copyCells_24 : decode cX5_copyCells 24 = .ok (.arraylength, 1) := by decide +kernel
theorem dX5_copyCells_25 : decode cX5_copyCells 25 = .ok (.iload 4, 2) := by decide +kernel
theorem dX5_copyCells_27 : decode cX5_copyCells 27 = .ok (.isub, 1) := by decide +kernel
theorem dX5_copyCells_28 : decode cX5_copyCells 28 = .ok (.if_icmp .gt 21, 3) := by decide +kernel
theorem dX5_copyCells_31 : decode cX5_copyCells 31 = .ok (.iload_n 3, 1) := by decide +kernel
theorem dX5_copyCells_32 : decode cX5_copyCells 32 = .ok (.aload_n 2, 1) := by decide +kernel
theorem dX5_copyCells_33 : decode cX5_copyCells 33 = .ok (.arraylength, 1) := by decide +kernel
theorem dX5_copyCells_34 : decode cX5_copyCells 34 = .ok (.iload 4, 2) := by decide +kernel
theorem dX5_copyCells_36 : decode cX5_copyCells 36 = .ok (.isub, 1) := by decide +kernel
theorem dX5_copyCells_37 : decode cX5_copyCells 37 = .ok (.if_icmp .gt 12, 3) := by decide +kernel
theorem dX5_copyCells_40 : decode cX5_copyCells 40 = .ok (.aload_n 0, 1) := by decide +kernel
theorem dX5_copyCells_41 : decode cX5_copyCells 41 = .ok (.iload_n 1, 1) := by decide +kernel
theorem dX5_copyCells_42 : decode cX5_copyCells 42 = .ok (.aload_n 2, 1) := by decide +kernel
theorem dX5_copyCells_43 : decode cX5_copyCells 43 = .ok (.iload_n 3, 1) := by decide +kernel
theorem dX5_copyCells_44 : decode cX5_copyCells 44 = .ok (.iload 4, 2) := by decide +kernel
theorem dX5_copyCells_46 : decode cX5_copyCells 46 = .ok (.invokestatic 63, 3) := by decide +kernel
theorem dX5_copyCells_49 : decode cX5_copyCells 49 = .ok (.return_, 1) := by decide +kernel
theorem dX5_copyRow_0 : decode cX5_copyRow 0 = .ok (.aload_n 0, 1) := by decide +kernel
theorem dX5_copyRow_1 : decode cX5_copyRow 1 = .ok (.ifnull 12, 3) := by decide +kernel
theorem dX5_copyRow_4 : decode cX5_copyRow 4 = .ok (.aload_n 0, 1) := by decide +kernel
theorem dX5_copyRow_5 : decode cX5_copyRow 5 = .ok (.iconst 0, 1) := by decide +kernel
theorem dX5_copyRow_6 : decode cX5_copyRow 6 = .ok (.aload_n 1, 1) := by decide +kernel
theorem dX5_copyRow_7 : decode cX5_copyRow 7 = .ok (.iconst 0, 1) := by decide +kernel
theorem dX5_copyRow_8 : decode cX5_copyRow 8 = .ok (.aload_n 0, 1) := by decide +kernel
theorem dX5_copyRow_9 : decode cX5_copyRow 9 = .ok (.arraylength, 1) := by decide +kernel
theorem dX5_copyRow_10 : decode cX5_copyRow 10 = .ok (.invokestatic 69, 3) := by decide +kernel
theorem dX5_copyRow_13 : decode cX5_copyRow 13 = .ok (.return_, 1) := by decide +kernel
theorem dX5_between_0 : decode cX5_between 0 = .ok (.iload_n 0, 1) := by decide +kernel
theorem dX5_between_1 : decode cX5_between 1 = .ok (.iload_n 1, 1) := by decide +kernel
theorem dX5_between_2 : decode cX5_between 2 = .ok (.if_icmp .lt 12, 3) := by decide +kernel
theorem dX5_between_5 : decode cX5_between 5 = .ok (.iload_n 0, 1) := by decide +kernel
theorem dX5_between_6 : decode cX5_between 6 = .ok (.iload_n 2, 1) := by decide +kernel
theorem dX5_between_7 : decode cX5_between 7 = .ok (.if_icmp .gt 7, 3) := by decide +kernel
theorem dX5_between_10 : decode cX5_between 10 = .ok (.iconst 1, 1) := by decide +kernel
theorem dX5_between_11 : decode cX5_between 11 = .ok (.goto 4, 3) := by decide +kernel
theorem dX5_between_14 : decode cX5_between 14 = .ok (.iconst 0, 1) := by decide +kernel
theorem dX5_between_15 : decode cX5_between 15 = .ok (.ireturn, 1) := by decide +kernel
theorem dX5_has_0 : decode cX5_has 0 = .ok (.iload_n 0, 1) := by decide +kernel
theorem dX5_has_1 : decode cX5_has 1 = .ok (.iload_n 1, 1) := by decide +kernel
theorem dX5_has_2 : decode cX5_has 2 = .ok (.ishr, 1) := by decide +kernel
theorem dX5_has_3 : decode cX5_has 3 = .ok (.iconst 1, 1) := by decide +kernel
theorem dX5_has_4 : decode cX5_has 4 = .ok (.iand, 1) := by decide +kernel
theorem dX5_has_5 : decode cX5_has 5 = .ok (.iconst 1, 1) := by decide +kernel
theorem dX5_has_6 : decode cX5_has 6 = .ok (.if_icmp .ne 7, 3) := by decide +kernel
theorem dX5_has_9 : decode cX5_has 9 = .ok (.iconst 1, 1) := by decide +kernel
theorem dX5_has_10 : decode cX5_has 10 = .ok (.goto 4, 3) := by decide +kernel
theorem dX5_has_13 : decode cX5_has 13 = .ok (.iconst 0, 1) := by decide +kernel
theorem dX5_has_14 : decode cX5_has 14 = .ok (.ireturn, 1) := by decide +kernel
theorem dX5_without_0 : decode cX5_without 0 = .ok (.iload_n 0, 1) := by decide +kernel
theorem dX5_without_1 : decode cX5_without 1 = .ok (.iconst 1, 1) := by decide +kernel
theorem dX5_without_2 : decode cX5_without 2 = .ok (.iload_n 1, 1) := by decide +kernel
theorem dX5_without_3 : decode cX5_without 3 = .ok (.ishl, 1) := by decide +kernel
theorem dX5_without_4 : decode cX5_without 4 = .ok (.iconst (-1), 1) := by decide +kernel
theorem dX5_without_5 : decode cX5_without 5 = .ok (.ixor, 1) := by decide +kernel
theorem dX5_without_6 : decode cX5_without 6 = .ok (.iand, 1) := by decide +kernel
theorem dX5_without_7 : decode cX5_without 7 = .ok (.ireturn, 1) := by decide +kernel
theorem dX5_bad_0 : decode cX5_bad 0 = .ok (.aload_n 0, 1) := by decide +kernel
theorem dX5_bad_1 : decode cX5_bad 1 = .ok (.bipush (-2), 2) := by decide +kernel
theorem dX5_bad_3 : decode cX5_bad 3 = .ok (.invokevirtual 73, 3) := by decide +kernel
theorem dX5_bad_6 : decode cX5_bad 6 = .ok (.ireturn, 1) := by decide +kernel
theorem dX5_bad__0 : decode cX5_bad_ 0 = .ok (.aload_n 0, 1) := by decide +kernel
theorem dX5_bad__1 : decode cX5_bad_ 1 = .ok (.dup, 1) := by decide +kernel
theorem dX5_bad__2 : decode cX5_bad_ 2 = .ok (.getfield 53, 3) := by decide +kernel
theorem dX5_bad__5 : decode cX5_bad_ 5 = .ok (.iconst 1, 1) := by decide +kernel
theorem dX5_bad__6 : decode cX5_bad_ 6 = .ok (.iadd, 1) := by decide +kernel
theorem dX5_bad__7 : decode cX5_bad_ 7 = .ok (.putfield 53, 3) := by decide +kernel
theorem dX5_bad__10 : decode cX5_bad_ 10 = .ok (.iload_n 1, 1) := by decide +kernel
theorem dX5_bad__11 : decode cX5_bad_ 11 = .ok (.ireturn, 1) := by decide +kernel
theorem dX5_no_0 : decode cX5_no 0 = .ok (.aload_n 0, 1) := by decide +kernel
theorem dX5_no_1 : decode cX5_no 1 = .ok (.dup, 1) := by decide +kernel
theorem dX5_no_2 : decode cX5_no 2 = .ok (.getfield 57, 3) := by decide +kernel
theorem dX5_no_5 : decode cX5_no 5 = .ok (.iconst 1, 1) := by decide +kernel
theorem dX5_no_6 : decode cX5_no 6 = .ok (.iadd, 1) := by decide +kernel
theorem dX5_no_7 : decode cX5_no 7 = .ok (.putfield 57, 3) := by decide +kernel
theorem dX5_no_10 : decode cX5_no 10 = .ok (.bipush (-3), 2) := by decide +kernel
theorem dX5_no_12 : decode cX5_no 12 = .ok (.ireturn, 1) := by decide +kernel
theorem dX5_full_0 : decode cX5_full 0 = .ok (.aload_n 0, 1) := by decide +kernel
theorem dX5_full_1 : decode cX5_full 1 = .ok (.dup, 1) := by decide +kernel
theorem dX5_full_2 : decode cX5_full 2 = .ok (.getfield 60, 3) := by decide +kernel
theorem dX5_full_5 : decode cX5_full 5 = .ok (.iconst 1, 1) := by decide +kernel
theorem dX5_full_6 : decode cX5_full 6 = .ok (.iadd, 1) := by decide +kernel
theorem dX5_full_7 : decode cX5_full 7 = .ok (.putfield 60, 3) := by decide +kernel
theorem dX5_full_10 : decode cX5_full 10 = .ok (.bipush (-4), 2) := by decide +kernel
theorem dX5_full_12 : decode cX5_full 12 = .ok (.ireturn, 1) := by decide +kernel
theorem dX5_goodOf_0 : decode cX5_goodOf 0 = .ok (.iload_n 1, 1) := by decide +kernel
theorem dX5_goodOf_1 : decode cX5_goodOf 1 = .ok (.iconst 5, 1) := by decide +kernel
theorem dX5_goodOf_2 : decode cX5_goodOf 2 = .ok (.iload_n 2, 1) := by decide +kernel
theorem dX5_goodOf_3 : decode cX5_goodOf 3 = .ok (.bipush 10, 2) := by decide +kernel
theorem dX5_goodOf_5 : decode cX5_goodOf 5 = .ok (.idiv, 1) := by decide +kernel
theorem dX5_goodOf_6 : decode cX5_goodOf 6 = .ok (.invokestatic 77, 3) := by decide +kernel
theorem dX5_goodOf_9 : decode cX5_goodOf 9 = .ok (.iadd, 1) := by decide +kernel
theorem dX5_goodOf_10 : decode cX5_goodOf 10 = .ok (.istore_n 3, 1) := by decide +kernel
theorem dX5_goodOf_11 : decode cX5_goodOf 11 = .ok (.iconst 0, 1) := by decide +kernel
theorem dX5_goodOf_12 : decode cX5_goodOf 12 = .ok (.iload_n 1, 1) := by decide +kernel
theorem dX5_goodOf_13 : decode cX5_goodOf 13 = .ok (.iload_n 2, 1) := by decide +kernel
theorem dX5_goodOf_14 : decode cX5_goodOf 14 = .ok (.iconst 5, 1) := by decide +kernel
theorem dX5_goodOf_15 : decode cX5_goodOf 15 = .ok (.idiv, 1) := by decide +kernel
theorem dX5_goodOf_16 : decode cX5_goodOf 16 = .ok (.isub, 1) := by decide +kernel
theorem dX5_goodOf_17 : decode cX5_goodOf 17 = .ok (.invokestatic 83, 3) := by decide +kernel
theorem dX5_goodOf_20 : decode cX5_goodOf 20 = .ok (.istore 4, 2) := by decide +kernel
theorem dX5_goodOf_22 : decode cX5_goodOf 22 = .ok (.iload_n 0, 1) := by decide +kernel
theorem dX5_goodOf_23 : decode cX5_goodOf 23 = .ok (.tableswitch 68 1 5 #[33, 35, 38, 45, 59], 33) := by decide +kernel
theorem dX5_goodOf_56 : decode cX5_goodOf 56 = .ok (.iload_n 3, 1) := by decide +kernel
theorem dX5_goodOf_57 : decode cX5_goodOf 57 = .ok (.ireturn, 1) := by decide +kernel
theorem dX5_goodOf_58 : decode cX5_goodOf 58 = .ok (.iload 4, 2) := by decide +kernel
theorem dX5_goodOf_60 : decode cX5_goodOf 60 = .ok (.ireturn, 1) := by decide +kernel
theorem dX5_goodOf_61 : decode cX5_goodOf 61 = .ok (.iconst 2, 1) := by decide +kernel
theorem dX5_goodOf_62 : decode cX5_goodOf 62 = .ok (.iload 4, 2) := by decide +kernel
theorem dX5_goodOf_64 : decode cX5_goodOf 64 = .ok (.invokestatic 83, 3) := by decide +kernel
theorem dX5_goodOf_67 : decode cX5_goodOf 67 = .ok (.ireturn, 1) := by decide +kernel
theorem dX5_goodOf_68 : decode cX5_goodOf 68 = .ok (.iload_n 2, 1) := by decide +kernel
theorem dX5_goodOf_69 : decode cX5_goodOf 69 = .ok (.bipush 7, 2) := by decide +kernel
theorem dX5_goodOf_71 : decode cX5_goodOf 71 = .ok (.if_icmp .ge 7, 3) := by decide +kernel
theorem dX5_goodOf_74 : decode cX5_goodOf 74 = .ok (.iconst 0, 1) := by decide +kernel
theorem dX5_goodOf_75 : decode cX5_goodOf 75 = .ok (.goto 6, 3) := by decide +kernel
theorem dX5_goodOf_78 : decode cX5_goodOf 78 = .ok (.iload_n 1, 1) := by decide +kernel
theorem dX5_goodOf_79 : decode cX5_goodOf 79 = .ok (.iconst 3, 1) := by decide +kernel
theorem dX5_goodOf_80 : decode cX5_goodOf 80 = .ok (.iadd, 1) := by decide +kernel
theorem dX5_goodOf_81 : decode cX5_goodOf 81 = .ok (.ireturn, 1) := by decide +kernel
theorem dX5_goodOf_82 : decode cX5_goodOf 82 = .ok (.bipush 25, 2) := by decide +kernel
theorem dX5_goodOf_84 : decode cX5_goodOf 84 = .ok (.iconst 2, 1) := by decide +kernel
theorem dX5_goodOf_85 : decode cX5_goodOf 85 = .ok (.iload_n 3, 1) := by decide +kernel
theorem dX5_goodOf_86 : decode cX5_goodOf 86 = .ok (.imul, 1) := by decide +kernel
theorem dX5_goodOf_87 : decode cX5_goodOf 87 = .ok (.invokestatic 77, 3) := by decide +kernel
theorem dX5_goodOf_90 : decode cX5_goodOf 90 = .ok (.ireturn, 1) := by decide +kernel
theorem dX5_goodOf_91 : decode cX5_goodOf 91 = .ok (.iload_n 1, 1) := by decide +kernel
theorem dX5_goodOf_92 : decode cX5_goodOf 92 = .ok (.ireturn, 1) := by decide +kernel
theorem dX5_joyOf_0 : decode cX5_joyOf 0 = .ok (.iconst 0, 1) := by decide +kernel
theorem dX5_joyOf_1 : decode cX5_joyOf 1 = .ok (.bipush 6, 2) := by decide +kernel
theorem dX5_joyOf_3 : decode cX5_joyOf 3 = .ok (.iload_n 2, 1) := by decide +kernel
theorem dX5_joyOf_4 : decode cX5_joyOf 4 = .ok (.iload_n 1, 1) := by decide +kernel
theorem dX5_joyOf_5 : decode cX5_joyOf 5 = .ok (.isub, 1) := by decide +kernel
theorem dX5_joyOf_6 : decode cX5_joyOf 6 = .ok (.invokestatic 86, 3) := by decide +kernel
theorem dX5_joyOf_9 : decode cX5_joyOf 9 = .ok (.isub, 1) := by decide +kernel
theorem dX5_joyOf_10 : decode cX5_joyOf 10 = .ok (.invokestatic 83, 3) := by decide +kernel
theorem dX5_joyOf_13 : decode cX5_joyOf 13 = .ok (.istore_n 3, 1) := by decide +kernel
theorem dX5_joyOf_14 : decode cX5_joyOf 14 = .ok (.iload_n 2, 1) := by decide +kernel
theorem dX5_joyOf_15 : decode cX5_joyOf 15 = .ok (.iload_n 1, 1) := by decide +kernel
theorem dX5_joyOf_16 : decode cX5_joyOf 16 = .ok (.if_icmp .lt 9, 3) := by decide +kernel
theorem dX5_joyOf_19 : decode cX5_joyOf 19 = .ok (.iload_n 3, 1) := by decide +kernel
theorem dX5_joyOf_20 : decode cX5_joyOf 20 = .ok (.iconst 2, 1) := by decide +kernel
theorem dX5_joyOf_21 : decode cX5_joyOf 21 = .ok (.iadd, 1) := by decide +kernel
theorem dX5_joyOf_22 : decode cX5_joyOf 22 = .ok (.goto 4, 3) := by decide +kernel
theorem dX5_joyOf_25 : decode cX5_joyOf 25 = .ok (.iload_n 3, 1) := by decide +kernel
theorem dX5_joyOf_26 : decode cX5_joyOf 26 = .ok (.istore 4, 2) := by decide +kernel
theorem dX5_joyOf_28 : decode cX5_joyOf 28 = .ok (.iconst 3, 1) := by decide +kernel
theorem dX5_joyOf_29 : decode cX5_joyOf 29 = .ok (.iload_n 3, 1) := by decide +kernel
theorem dX5_joyOf_30 : decode cX5_joyOf 30 = .ok (.invokestatic 83, 3) := by decide +kernel
theorem dX5_joyOf_33 : decode cX5_joyOf 33 = .ok (.istore 5, 2) := by decide +kernel
theorem dX5_joyOf_35 : decode cX5_joyOf 35 = .ok (.iload_n 0, 1) := by decide +kernel
theorem dX5_joyOf_36 : decode cX5_joyOf 36 = .ok (.tableswitch 65 1 5 #[36, 39, 42, 49, 60], 36) := by decide +kernel
theorem dX5_joyOf_72 : decode cX5_joyOf 72 = .ok (.iload 4, 2) := by decide +kernel
theorem dX5_joyOf_74 : decode cX5_joyOf 74 = .ok (.ireturn, 1) := by decide +kernel
theorem dX5_joyOf_75 : decode cX5_joyOf 75 = .ok (.iload 5, 2) := by decide +kernel
theorem dX5_joyOf_77 : decode cX5_joyOf 77 = .ok (.ireturn, 1) := by decide +kernel
theorem dX5_joyOf_78 : decode cX5_joyOf 78 = .ok (.iload 4, 2) := by decide +kernel
theorem dX5_joyOf_80 : decode cX5_joyOf 80 = .ok (.iconst 1, 1) := by decide +kernel
theorem dX5_joyOf_81 : decode cX5_joyOf 81 = .ok (.iadd, 1) := by decide +kernel
theorem dX5_joyOf_82 : decode cX5_joyOf 82 = .ok (.iconst 2, 1) := by decide +kernel
theorem dX5_joyOf_83 : decode cX5_joyOf 83 = .ok (.idiv, 1) := by decide +kernel
theorem dX5_joyOf_84 : decode cX5_joyOf 84 = .ok (.ireturn, 1) := by decide +kernel
theorem dX5_joyOf_85 : decode cX5_joyOf 85 = .ok (.iload_n 2, 1) := by decide +kernel
theorem dX5_joyOf_86 : decode cX5_joyOf 86 = .ok (.iconst 4, 1) := by decide +kernel
theorem dX5_joyOf_87 : decode cX5_joyOf 87 = .ok (.if_icmp .ge 7, 3) := by decide +kernel
theorem dX5_joyOf_90 : decode cX5_joyOf 90 = .ok (.iconst 0, 1) := by decide +kernel
theorem dX5_joyOf_91 : decode cX5_joyOf 91 = .ok (.goto 4, 3) := by decide +kernel
theorem dX5_joyOf_94 : decode cX5_joyOf 94 = .ok (.iload_n 3, 1) := by decide +kernel
theorem dX5_joyOf_95 : decode cX5_joyOf 95 = .ok (.ireturn, 1) := by decide +kernel
theorem dX5_joyOf_96 : decode cX5_joyOf 96 = .ok (.iconst 2, 1) := by decide +kernel
theorem dX5_joyOf_97 : decode cX5_joyOf 97 = .ok (.iload 5, 2) := by decide +kernel
theorem dX5_joyOf_99 : decode cX5_joyOf 99 = .ok (.imul, 1) := by decide +kernel
theorem dX5_joyOf_100 : decode cX5_joyOf 100 = .ok (.ireturn, 1) := by decide +kernel
theorem dX5_joyOf_101 : decode cX5_joyOf 101 = .ok (.iload_n 3, 1) := by decide +kernel
theorem dX5_joyOf_102 : decode cX5_joyOf 102 = .ok (.ireturn, 1) := by decide +kernel
theorem dX5_town_0 : decode cX5_town 0 = .ok (.aload_n 0, 1) := by decide +kernel
theorem dX5_town_1 : decode cX5_town 1 = .ok (.getfield 10, 3) := by decide +kernel
theorem dX5_town_4 : decode cX5_town 4 = .ok (.getfield 89, 3) := by decide +kernel
theorem dX5_town_7 : decode cX5_town 7 = .ok (.getfield 92, 3) := by decide +kernel
theorem dX5_town_10 : decode cX5_town 10 = .ok (.istore_n 1, 1) := by decide +kernel
theorem dX5_town_11 : decode cX5_town 11 = .ok (.aload_n 0, 1) := by decide +kernel
theorem dX5_town_12 : decode cX5_town 12 = .ok (.getfield 10, 3) := by decide +kernel
theorem dX5_town_15 : decode cX5_town 15 = .ok (.invokevirtual 95, 3) := by decide +kernel
theorem dX5_town_18 : decode cX5_town 18 = .ok (.iload_n 1, 1) := by decide +kernel
theorem dX5_town_19 : decode cX5_town 19 = .ok (.ireturn, 1) := by decide +kernel
theorem dX5_promise_0 : decode cX5_promise 0 = .ok (.iload_n 1, 1) := by decide +kernel
theorem dX5_promise_1 : decode cX5_promise 1 = .ok (.iconst 0, 1) := by decide +kernel
theorem dX5_promise_2 : decode cX5_promise 2 = .ok (.iconst 5, 1) := by decide +kernel
theorem dX5_promise_3 : decode cX5_promise 3 = .ok (.invokestatic 98, 3) := by decide +kernel
theorem dX5_promise_6 : decode cX5_promise 6 = .ok (.ifCond .eq 13, 3) := by decide +kernel
theorem dX5_promise_9 : decode cX5_promise 9 = .ok (.iload_n 2, 1) := by decide +kernel
theorem dX5_promise_10 : decode cX5_promise 10 = .ok (.iconst 1, 1) := by decide +kernel
theorem dX5_promise_11 : decode cX5_promise 11 = .ok (.bipush 9, 2) := by decide +kernel
theorem dX5_promise_13 : decode cX5_promise 13 = .ok (.invokestatic 98, 3) := by decide +kernel
theorem dX5_promise_16 : decode cX5_promise 16 = .ok (.ifCond .ne 8, 3) := by decide +kernel
theorem dX5_promise_19 : decode cX5_promise 19 = .ok (.aload_n 0, 1) := by decide +kernel
theorem dX5_promise_20 : decode cX5_promise 20 = .ok (.invokevirtual 102, 3) := by decide +kernel
theorem dX5_promise_23 : decode cX5_promise 23 = .ok (.ireturn, 1) := by decide +kernel
theorem dX5_promise_24 : decode cX5_promise 24 = .ok (.aload_n 0, 1) := by decide +kernel
theorem dX5_promise_25 : decode cX5_promise 25 = .ok (.getfield 10, 3) := by decide +kernel
theorem dX5_promise_28 : decode cX5_promise 28 = .ok (.getfield 89, 3) := by decide +kernel
theorem dX5_promise_31 : decode cX5_promise 31 = .ok (.getfield 92, 3) := by decide +kernel
theorem dX5_promise_34 : decode cX5_promise 34 = .ok (.bipush 7, 2) := by decide +kernel
theorem dX5_promise_36 : decode cX5_promise 36 = .ok (.if_icmp .lt 8, 3) := by decide +kernel
theorem dX5_promise_39 : decode cX5_promise 39 = .ok (.aload_n 0, 1) := by decide +kernel
theorem dX5_promise_40 : decode cX5_promise 40 = .ok (.invokevirtual 105, 3) := by decide +kernel
theorem dX5_promise_43 : decode cX5_promise 43 = .ok (.ireturn, 1) := by decide +kernel
theorem dX5_promise_44 : decode cX5_promise 44 = .ok (.aload_n 0, 1) := by decide +kernel
theorem dX5_promise_45 : decode cX5_promise 45 = .ok (.getfield 10, 3) := by decide +kernel
theorem dX5_promise_48 : decode cX5_promise 48 = .ok (.getfield 108, 3) := by decide +kernel
theorem dX5_promise_51 : decode cX5_promise 51 = .ok (.iconst 0, 1) := by decide +kernel
theorem dX5_promise_52 : decode cX5_promise 52 = .ok (.putfield 112, 3) := by decide +kernel
theorem dX5_promise_55 : decode cX5_promise 55 = .ok (.aload_n 0, 1) := by decide +kernel
theorem dX5_promise_56 : decode cX5_promise 56 = .ok (.getfield 10, 3) := by decide +kernel
theorem dX5_promise_59 : decode cX5_promise 59 = .ok (.getfield 89, 3) := by decide +kernel
theorem dX5_promise_62 : decode cX5_promise 62 = .ok (.iload_n 1, 1) := by decide +kernel
theorem dX5_promise_63 : decode cX5_promise 63 = .ok (.iload_n 2, 1) := by decide +kernel
theorem dX5_promise_64 : decode cX5_promise 64 = .ok (.invokevirtual 117, 3) := by decide +kernel
theorem dX5_promise_67 : decode cX5_promise 67 = .ok (.ireturn, 1) := by decide +kernel
theorem dX5_hearer_0 : decode cX5_hearer 0 = .ok (.iload_n 1, 1) := by decide +kernel
theorem dX5_hearer_1 : decode cX5_hearer 1 = .ok (.iconst 0, 1) := by decide +kernel
theorem dX5_hearer_2 : decode cX5_hearer 2 = .ok (.iconst 5, 1) := by decide +kernel
theorem dX5_hearer_3 : decode cX5_hearer 3 = .ok (.invokestatic 98, 3) := by decide +kernel
theorem dX5_hearer_6 : decode cX5_hearer 6 = .ok (.ifCond .eq 13, 3) := by decide +kernel
theorem dX5_hearer_9 : decode cX5_hearer 9 = .ok (.iload_n 2, 1) := by decide +kernel
theorem dX5_hearer_10 : decode cX5_hearer 10 = .ok (.iconst 1, 1) := by decide +kernel
theorem dX5_hearer_11 : decode cX5_hearer 11 = .ok (.bipush 9, 2) := by decide +kernel
theorem dX5_hearer_13 : decode cX5_hearer 13 = .ok (.invokestatic 98, 3) := by decide +kernel
theorem dX5_hearer_16 : decode cX5_hearer 16 = .ok (.ifCond .ne 8, 3) := by decide +kernel
theorem dX5_hearer_19 : decode cX5_hearer 19 = .ok (.aload_n 0, 1) := by decide +kernel
theorem dX5_hearer_20 : decode cX5_hearer 20 = .ok (.invokevirtual 102, 3) := by decide +kernel
theorem dX5_hearer_23 : decode cX5_hearer 23 = .ok (.ireturn, 1) := by decide +kernel
theorem dX5_hearer_24 : decode cX5_hearer 24 = .ok (.aload_n 0, 1) := by decide +kernel
theorem dX5_hearer_25 : decode cX5_hearer 25 = .ok (.getfield 10, 3) := by decide +kernel
theorem dX5_hearer_28 : decode cX5_hearer 28 = .ok (.getfield 89, 3) := by decide +kernel
theorem dX5_hearer_31 : decode cX5_hearer 31 = .ok (.getfield 120, 3) := by decide +kernel
theorem dX5_hearer_34 : decode cX5_hearer 34 = .ok (.iconst 4, 1) := by decide +kernel
theorem dX5_hearer_35 : decode cX5_hearer 35 = .ok (.if_icmp .lt 8, 3) := by decide +kernel
theorem dX5_hearer_38 : decode cX5_hearer 38 = .ok (.aload_n 0, 1) := by decide +kernel
theorem dX5_hearer_39 : decode cX5_hearer 39 = .ok (.invokevirtual 105, 3) := by decide +kernel
theorem dX5_hearer_42 : decode cX5_hearer 42 = .ok (.ireturn, 1) := by decide +kernel
theorem dX5_hearer_43 : decode cX5_hearer 43 = .ok (.aload_n 0, 1) := by decide +kernel
theorem dX5_hearer_44 : decode cX5_hearer 44 = .ok (.getfield 10, 3) := by decide +kernel
theorem dX5_hearer_47 : decode cX5_hearer 47 = .ok (.getfield 108, 3) := by decide +kernel
theorem dX5_hearer_50 : decode cX5_hearer 50 = .ok (.iconst 0, 1) := by decide +kernel
theorem dX5_hearer_51 : decode cX5_hearer 51 = .ok (.putfield 112, 3) := by decide +kernel
theorem dX5_hearer_54 : decode cX5_hearer 54 = .ok (.aload_n 0, 1) := by decide +kernel
theorem dX5_hearer_55 : decode cX5_hearer 55 = .ok (.getfield 10, 3) := by decide +kernel
theorem dX5_hearer_58 : decode cX5_hearer 58 = .ok (.getfield 89, 3) := by decide +kernel
theorem dX5_hearer_61 : decode cX5_hearer 61 = .ok (.iload_n 1, 1) := by decide +kernel
theorem dX5_hearer_62 : decode cX5_hearer 62 = .ok (.iload_n 2, 1) := by decide +kernel
theorem dX5_hearer_63 : decode cX5_hearer 63 = .ok (.invokevirtual 123, 3) := by decide +kernel
theorem dX5_hearer_66 : decode cX5_hearer 66 = .ok (.ireturn, 1) := by decide +kernel
theorem dX5_buyer_0 : decode cX5_buyer 0 = .ok (.iload_n 1, 1) := by decide +kernel
theorem dX5_buyer_1 : decode cX5_buyer 1 = .ok (.iconst 0, 1) := by decide +kernel
theorem dX5_buyer_2 : decode cX5_buyer 2 = .ok (.sipush 999, 3) := by decide +kernel
theorem dX5_buyer_5 : decode cX5_buyer 5 = .ok (.invokestatic 98, 3) := by decide +kernel
theorem dX5_buyer_8 : decode cX5_buyer 8 = .ok (.ifCond .ne 8, 3) := by decide +kernel
theorem dX5_buyer_11 : decode cX5_buyer 11 = .ok (.aload_n 0, 1) := by decide +kernel
theorem dX5_buyer_12 : decode cX5_buyer 12 = .ok (.invokevirtual 102, 3) := by decide +kernel
theorem dX5_buyer_15 : decode cX5_buyer 15 = .ok (.ireturn, 1) := by decide +kernel
theorem dX5_buyer_16 : decode cX5_buyer 16 = .ok (.aload_n 0, 1) := by decide +kernel
theorem dX5_buyer_17 : decode cX5_buyer 17 = .ok (.getfield 10, 3) := by decide +kernel
theorem dX5_buyer_20 : decode cX5_buyer 20 = .ok (.getfield 89, 3) := by decide +kernel
theorem dX5_buyer_23 : decode cX5_buyer 23 = .ok (.getfield 126, 3) := by decide +kernel
theorem dX5_buyer_26 : decode cX5_buyer 26 = .ok (.iconst 3, 1) := by decide +kernel
theorem dX5_buyer_27 : decode cX5_buyer 27 = .ok (.if_icmp .lt 8, 3) := by decide +kernel
theorem dX5_buyer_30 : decode cX5_buyer 30 = .ok (.aload_n 0, 1) := by decide +kernel
theorem dX5_buyer_31 : decode cX5_buyer 31 = .ok (.invokevirtual 105, 3) := by decide +kernel
theorem dX5_buyer_34 : decode cX5_buyer 34 = .ok (.ireturn, 1) := by decide +kernel
theorem dX5_buyer_35 : decode cX5_buyer 35 = .ok (.aload_n 0, 1) := by decide +kernel
theorem dX5_buyer_36 : decode cX5_buyer 36 = .ok (.getfield 10, 3) := by decide +kernel
theorem dX5_buyer_39 : decode cX5_buyer 39 = .ok (.getfield 108, 3) := by decide +kernel
theorem dX5_buyer_42 : decode cX5_buyer 42 = .ok (.iconst 0, 1) := by decide +kernel
theorem dX5_buyer_43 : decode cX5_buyer 43 = .ok (.putfield 112, 3) := by decide +kernel
theorem dX5_buyer_46 : decode cX5_buyer 46 = .ok (.aload_n 0, 1) := by decide +kernel
theorem dX5_buyer_47 : decode cX5_buyer 47 = .ok (.getfield 10, 3) := by decide +kernel
theorem dX5_buyer_50 : decode cX5_buyer 50 = .ok (.getfield 89, 3) := by decide +kernel
theorem dX5_buyer_53 : decode cX5_buyer 53 = .ok (.iload_n 1, 1) := by decide +kernel
theorem dX5_buyer_54 : decode cX5_buyer 54 = .ok (.invokevirtual 129, 3) := by decide +kernel
theorem dX5_buyer_57 : decode cX5_buyer 57 = .ok (.ireturn, 1) := by decide +kernel
theorem dX5_type_0 : decode cX5_type 0 = .ok (.iload_n 1, 1) := by decide +kernel
theorem dX5_type_1 : decode cX5_type 1 = .ok (.iconst 0, 1) := by decide +kernel
theorem dX5_type_2 : decode cX5_type 2 = .ok (.bipush 127, 2) := by decide +kernel
theorem dX5_type_4 : decode cX5_type 4 = .ok (.invokestatic 98, 3) := by decide +kernel
theorem dX5_type_7 : decode cX5_type 7 = .ok (.ifCond .ne 8, 3) := by decide +kernel
theorem dX5_type_10 : decode cX5_type 10 = .ok (.aload_n 0, 1) := by decide +kernel
theorem dX5_type_11 : decode cX5_type 11 = .ok (.invokevirtual 102, 3) := by decide +kernel
theorem dX5_type_14 : decode cX5_type 14 = .ok (.ireturn, 1) := by decide +kernel
theorem dX5_type_15 : decode cX5_type 15 = .ok (.aload_n 0, 1) := by decide +kernel
theorem dX5_type_16 : decode cX5_type 16 = .ok (.getfield 25, 3) := by decide +kernel
theorem dX5_type_19 : decode cX5_type 19 = .ok (.getfield 132, 3) := by decide +kernel
theorem dX5_type_22 : decode cX5_type 22 = .ok (.sipush 150, 3) := by decide +kernel
theorem dX5_type_25 : decode cX5_type 25 = .ok (.if_icmp .lt 8, 3) := by decide +kernel
theorem dX5_type_28 : decode cX5_type 28 = .ok (.aload_n 0, 1) := by decide +kernel
theorem dX5_type_29 : decode cX5_type 29 = .ok (.invokevirtual 105, 3) := by decide +kernel
theorem dX5_type_32 : decode cX5_type 32 = .ok (.ireturn, 1) := by decide +kernel
theorem dX5_type_33 : decode cX5_type 33 = .ok (.aload_n 0, 1) := by decide +kernel
theorem dX5_type_34 : decode cX5_type 34 = .ok (.getfield 25, 3) := by decide +kernel
theorem dX5_type_37 : decode cX5_type 37 = .ok (.getfield 135, 3) := by decide +kernel
theorem dX5_type_40 : decode cX5_type 40 = .ok (.aload_n 0, 1) := by decide +kernel
theorem dX5_type_41 : decode cX5_type 41 = .ok (.getfield 25, 3) := by decide +kernel
theorem dX5_type_44 : decode cX5_type 44 = .ok (.getfield 132, 3) := by decide +kernel
theorem dX5_type_47 : decode cX5_type 47 = .ok (.iload_n 1, 1) := by decide +kernel
theorem dX5_type_48 : decode cX5_type 48 = .ok (.invokestatic 138, 3) := by decide +kernel
theorem dX5_type_51 : decode cX5_type 51 = .ok (.aload_n 0, 1) := by decide +kernel
theorem dX5_type_52 : decode cX5_type 52 = .ok (.getfield 25, 3) := by decide +kernel
theorem dX5_type_55 : decode cX5_type 55 = .ok (.dup, 1) := by decide +kernel
theorem dX5_type_56 : decode cX5_type 56 = .ok (.getfield 132, 3) := by decide +kernel
theorem dX5_type_59 : decode cX5_type 59 = .ok (.iconst 1, 1) := by decide +kernel
theorem dX5_type_60 : decode cX5_type 60 = .ok (.iadd, 1) := by decide +kernel
theorem dX5_type_61 : decode cX5_type 61 = .ok (.putfield 132, 3) := by decide +kernel
theorem dX5_type_64 : decode cX5_type 64 = .ok (.aload_n 0, 1) := by decide +kernel
theorem dX5_type_65 : decode cX5_type 65 = .ok (.getfield 25, 3) := by decide +kernel
theorem dX5_type_68 : decode cX5_type 68 = .ok (.getfield 132, 3) := by decide +kernel
theorem dX5_type_71 : decode cX5_type 71 = .ok (.ireturn, 1) := by decide +kernel
theorem dX5_clear_0 : decode cX5_clear 0 = .ok (.aload_n 0, 1) := by decide +kernel
theorem dX5_clear_1 : decode cX5_clear 1 = .ok (.getfield 25, 3) := by decide +kernel
theorem dX5_clear_4 : decode cX5_clear 4 = .ok (.getfield 132, 3) := by decide +kernel
theorem dX5_clear_7 : decode cX5_clear 7 = .ok (.istore_n 1, 1) := by decide +kernel
theorem dX5_clear_8 : decode cX5_clear 8 = .ok (.aload_n 0, 1) := by decide +kernel
theorem dX5_clear_9 : decode cX5_clear 9 = .ok (.getfield 25, 3) := by decide +kernel
theorem dX5_clear_12 : decode cX5_clear 12 = .ok (.iconst 0, 1) := by decide +kernel
theorem dX5_clear_13 : decode cX5_clear 13 = .ok (.putfield 132, 3) := by decide +kernel
theorem dX5_clear_16 : decode cX5_clear 16 = .ok (.iload_n 1, 1) := by decide +kernel
theorem dX5_clear_17 : decode cX5_clear 17 = .ok (.ireturn, 1) := by decide +kernel
theorem dX5_read_0 : decode cX5_read 0 = .ok (.aload_n 0, 1) := by decide +kernel
theorem dX5_read_1 : decode cX5_read 1 = .ok (.getfield 25, 3) := by decide +kernel
theorem dX5_read_4 : decode cX5_read 4 = .ok (.invokevirtual 142, 3) := by decide +kernel
theorem dX5_read_7 : decode cX5_read 7 = .ok (.iconst 0, 1) := by decide +kernel
theorem dX5_read_8 : decode cX5_read 8 = .ok (.istore_n 1, 1) := by decide +kernel
theorem dX5_read_9 : decode cX5_read 9 = .ok (.iload_n 1, 1) := by decide +kernel
theorem dX5_read_10 : decode cX5_read 10 = .ok (.sipush 150, 3) := by decide +kernel
theorem dX5_read_13 : decode cX5_read 13 = .ok (.if_icmp .gt 26, 3) := by decide +kernel
theorem dX5_read_16 : decode cX5_read 16 = .ok (.aload_n 0, 1) := by decide +kernel
theorem dX5_read_17 : decode cX5_read 17 = .ok (.getfield 25, 3) := by decide +kernel
theorem dX5_read_20 : decode cX5_read 20 = .ok (.invokevirtual 145, 3) := by decide +kernel
theorem dX5_read_23 : decode cX5_read 23 = .ok (.ifCond .eq 16, 3) := by decide +kernel
theorem dX5_read_26 : decode cX5_read 26 = .ok (.aload_n 0, 1) := by decide +kernel
theorem dX5_read_27 : decode cX5_read 27 = .ok (.getfield 25, 3) := by decide +kernel
theorem dX5_read_30 : decode cX5_read 30 = .ok (.invokevirtual 149, 3) := by decide +kernel
theorem dX5_read_33 : decode cX5_read 33 = .ok (.iinc 1 1, 3) := by decide +kernel
theorem dX5_read_36 : decode cX5_read 36 = .ok (.goto (-27), 3) := by decide +kernel
theorem dX5_read_39 : decode cX5_read 39 = .ok (.aload_n 0, 1) := by decide +kernel
theorem dX5_read_40 : decode cX5_read 40 = .ok (.getfield 25, 3) := by decide +kernel
theorem dX5_read_43 : decode cX5_read 43 = .ok (.getfield 152, 3) := by decide +kernel
theorem dX5_read_46 : decode cX5_read 46 = .ok (.iconst (-1), 1) := by decide +kernel
theorem dX5_read_47 : decode cX5_read 47 = .ok (.if_icmp .eq 14, 3) := by decide +kernel
theorem dX5_read_50 : decode cX5_read 50 = .ok (.bipush (-10), 2) := by decide +kernel
theorem dX5_read_52 : decode cX5_read 52 = .ok (.aload_n 0, 1) := by decide +kernel
theorem dX5_read_53 : decode cX5_read 53 = .ok (.getfield 25, 3) := by decide +kernel
theorem dX5_read_56 : decode cX5_read 56 = .ok (.getfield 152, 3) := by decide +kernel
theorem dX5_read_59 : decode cX5_read 59 = .ok (.isub, 1) := by decide +kernel
theorem dX5_read_60 : decode cX5_read 60 = .ok (.ireturn, 1) := by decide +kernel
theorem dX5_read_61 : decode cX5_read 61 = .ok (.aload_n 0, 1) := by decide +kernel
theorem dX5_read_62 : decode cX5_read 62 = .ok (.getfield 10, 3) := by decide +kernel
theorem dX5_read_65 : decode cX5_read 65 = .ok (.invokevirtual 95, 3) := by decide +kernel
theorem dX5_read_68 : decode cX5_read 68 = .ok (.aload_n 0, 1) := by decide +kernel
theorem dX5_read_69 : decode cX5_read 69 = .ok (.getfield 10, 3) := by decide +kernel
theorem dX5_read_72 : decode cX5_read 72 = .ok (.getfield 89, 3) := by decide +kernel
theorem dX5_read_75 : decode cX5_read 75 = .ok (.aload_n 0, 1) := by decide +kernel
theorem dX5_read_76 : decode cX5_read 76 = .ok (.getfield 25, 3) := by decide +kernel
theorem dX5_read_79 : decode cX5_read 79 = .ok (.getfield 155, 3) := by decide +kernel
theorem dX5_read_82 : decode cX5_read 82 = .ok (.invokevirtual 158, 3) := by decide +kernel
theorem dX5_read_85 : decode cX5_read 85 = .ok (.aload_n 0, 1) := by decide +kernel
theorem dX5_read_86 : decode cX5_read 86 = .ok (.getfield 25, 3) := by decide +kernel
theorem dX5_read_89 : decode cX5_read 89 = .ok (.getfield 162, 3) := by decide +kernel
theorem dX5_read_92 : decode cX5_read 92 = .ok (.ireturn, 1) := by decide +kernel
theorem dX5_days_0 : decode cX5_days 0 = .ok (.iload_n 1, 1) := by decide +kernel
theorem dX5_days_1 : decode cX5_days 1 = .ok (.iconst 1, 1) := by decide +kernel
theorem dX5_days_2 : decode cX5_days 2 = .ok (.bipush 99, 2) := by decide +kernel
theorem dX5_days_4 : decode cX5_days 4 = .ok (.invokestatic 98, 3) := by decide +kernel
theorem dX5_days_7 : decode cX5_days 7 = .ok (.ifCond .ne 8, 3) := by decide +kernel
theorem dX5_days_10 : decode cX5_days 10 = .ok (.aload_n 0, 1) := by decide +kernel
theorem dX5_days_11 : decode cX5_days 11 = .ok (.invokevirtual 102, 3) := by decide +kernel
theorem dX5_days_14 : decode cX5_days 14 = .ok (.ireturn, 1) := by decide +kernel
theorem dX5_days_15 : decode cX5_days 15 = .ok (.aload_n 0, 1) := by decide +kernel
theorem dX5_days_16 : decode cX5_days 16 = .ok (.getfield 10, 3) := by decide +kernel
theorem dX5_days_19 : decode cX5_days 19 = .ok (.getfield 108, 3) := by decide +kernel
theorem dX5_days_22 : decode cX5_days 22 = .ok (.aload_n 0, 1) := by decide +kernel
theorem dX5_days_23 : decode cX5_days 23 = .ok (.getfield 10, 3) := by decide +kernel
theorem dX5_days_26 : decode cX5_days 26 = .ok (.getfield 89, 3) := by decide +kernel
theorem dX5_days_29 : decode cX5_days 29 = .ok (.invokevirtual 165, 3) := by decide +kernel
theorem dX5_days_32 : decode cX5_days 32 = .ok (.aload_n 0, 1) := by decide +kernel
theorem dX5_days_33 : decode cX5_days 33 = .ok (.getfield 10, 3) := by decide +kernel
theorem dX5_days_36 : decode cX5_days 36 = .ok (.getfield 89, 3) := by decide +kernel
theorem dX5_days_39 : decode cX5_days 39 = .ok (.iload_n 1, 1) := by decide +kernel
theorem dX5_days_40 : decode cX5_days 40 = .ok (.sipush 9999, 3) := by decide +kernel
theorem dX5_days_43 : decode cX5_days 43 = .ok (.aload_n 0, 1) := by decide +kernel
theorem dX5_days_44 : decode cX5_days 44 = .ok (.getfield 10, 3) := by decide +kernel
theorem dX5_days_47 : decode cX5_days 47 = .ok (.getfield 89, 3) := by decide +kernel
theorem dX5_days_50 : decode cX5_days 50 = .ok (.getfield 168, 3) := by decide +kernel
theorem dX5_days_53 : decode cX5_days 53 = .ok (.isub, 1) := by decide +kernel
theorem dX5_days_54 : decode cX5_days 54 = .ok (.invokestatic 77, 3) := by decide +kernel
theorem dX5_days_57 : decode cX5_days 57 = .ok (.invokevirtual 171, 3) := by decide +kernel
theorem dX5_days_60 : decode cX5_days 60 = .ok (.aload_n 0, 1) := by decide +kernel
theorem dX5_days_61 : decode cX5_days 61 = .ok (.getfield 10, 3) := by decide +kernel
theorem dX5_days_64 : decode cX5_days 64 = .ok (.getfield 89, 3) := by decide +kernel
theorem dX5_days_67 : decode cX5_days 67 = .ok (.getfield 168, 3) := by decide +kernel
theorem dX5_days_70 : decode cX5_days 70 = .ok (.ireturn, 1) := by decide +kernel
theorem dX5_buys_0 : decode cX5_buys 0 = .ok (.aload_n 0, 1) := by decide +kernel
theorem dX5_buys_1 : decode cX5_buys 1 = .ok (.getfield 10, 3) := by decide +kernel
theorem dX5_buys_4 : decode cX5_buys 4 = .ok (.getfield 89, 3) := by decide +kernel
theorem dX5_buys_7 : decode cX5_buys 7 = .ok (.astore_n 3, 1) := by decide +kernel
theorem dX5_buys_8 : decode cX5_buys 8 = .ok (.aload_n 3, 1) := by decide +kernel
theorem dX5_buys_9 : decode cX5_buys 9 = .ok (.iload_n 1, 1) := by decide +kernel
theorem dX5_buys_10 : decode cX5_buys 10 = .ok (.invokevirtual 175, 3) := by decide +kernel
theorem dX5_buys_13 : decode cX5_buys 13 = .ok (.ifCond .eq 11, 3) := by decide +kernel
theorem dX5_buys_16 : decode cX5_buys 16 = .ok (.aload_n 3, 1) := by decide +kernel
theorem dX5_buys_17 : decode cX5_buys 17 = .ok (.iload_n 2, 1) := by decide +kernel
theorem dX5_buys_18 : decode cX5_buys 18 = .ok (.invokevirtual 179, 3) := by decide +kernel
theorem dX5_buys_21 : decode cX5_buys 21 = .ok (.ifCond .ne 8, 3) := by decide +kernel
theorem dX5_buys_24 : decode cX5_buys 24 = .ok (.aload_n 0, 1) := by decide +kernel
theorem dX5_buys_25 : decode cX5_buys 25 = .ok (.invokevirtual 102, 3) := by decide +kernel
theorem dX5_buys_28 : decode cX5_buys 28 = .ok (.ireturn, 1) := by decide +kernel
theorem dX5_buys_29 : decode cX5_buys 29 = .ok (.aload_n 3, 1) := by decide +kernel
theorem dX5_buys_30 : decode cX5_buys 30 = .ok (.iload_n 1, 1) := by decide +kernel
theorem dX5_buys_31 : decode cX5_buys 31 = .ok (.iload_n 2, 1) := by decide +kernel
theorem dX5_buys_32 : decode cX5_buys 32 = .ok (.invokevirtual 182, 3) := by decide +kernel
theorem dX5_buys_35 : decode cX5_buys 35 = .ok (.ifCond .ne 8, 3) := by decide +kernel
theorem dX5_buys_38 : decode cX5_buys 38 = .ok (.aload_n 0, 1) := by decide +kernel
theorem dX5_buys_39 : decode cX5_buys 39 = .ok (.invokevirtual 186, 3) := by decide +kernel
theorem dX5_buys_42 : decode cX5_buys 42 = .ok (.ireturn, 1) := by decide +kernel
theorem dX5_buys_43 : decode cX5_buys 43 = .ok (.aload_n 0, 1) := by decide +kernel
theorem dX5_buys_44 : decode cX5_buys 44 = .ok (.getfield 10, 3) := by decide +kernel
theorem dX5_buys_47 : decode cX5_buys 47 = .ok (.getfield 108, 3) := by decide +kernel
theorem dX5_buys_50 : decode cX5_buys 50 = .ok (.aload_n 3, 1) := by decide +kernel
theorem dX5_buys_51 : decode cX5_buys 51 = .ok (.invokevirtual 165, 3) := by decide +kernel
theorem dX5_buys_54 : decode cX5_buys 54 = .ok (.aload_n 3, 1) := by decide +kernel
theorem dX5_buys_55 : decode cX5_buys 55 = .ok (.iload_n 1, 1) := by decide +kernel
theorem dX5_buys_56 : decode cX5_buys 56 = .ok (.iload_n 2, 1) := by decide +kernel
theorem dX5_buys_57 : decode cX5_buys 57 = .ok (.invokevirtual 189, 3) := by decide +kernel
theorem dX5_buys_60 : decode cX5_buys 60 = .ok (.aload_n 3, 1) := by decide +kernel
theorem dX5_buys_61 : decode cX5_buys 61 = .ok (.getfield 193, 3) := by decide +kernel
theorem dX5_buys_64 : decode cX5_buys 64 = .ok (.iload_n 1, 1) := by decide +kernel
theorem dX5_buys_65 : decode cX5_buys 65 = .ok (.invokestatic 196, 3) := by decide +kernel
theorem dX5_buys_68 : decode cX5_buys 68 = .ok (.ireturn, 1) := by decide +kernel
theorem dX5_keeps_0 : decode cX5_keeps 0 = .ok (.aload_n 0, 1) := by decide +kernel
theorem dX5_keeps_1 : decode cX5_keeps 1 = .ok (.getfield 10, 3) := by decide +kernel
theorem dX5_keeps_4 : decode cX5_keeps 4 = .ok (.getfield 89, 3) := by decide +kernel
theorem dX5_keeps_7 : decode cX5_keeps 7 = .ok (.astore_n 3, 1) := by decide +kernel
theorem dX5_keeps_8 : decode cX5_keeps 8 = .ok (.aload_n 3, 1) := by decide +kernel
theorem dX5_keeps_9 : decode cX5_keeps 9 = .ok (.iload_n 1, 1) := by decide +kernel
theorem dX5_keeps_10 : decode cX5_keeps 10 = .ok (.invokevirtual 179, 3) := by decide +kernel
theorem dX5_keeps_13 : decode cX5_keeps 13 = .ok (.ifCond .eq 11, 3) := by decide +kernel
theorem dX5_keeps_16 : decode cX5_keeps 16 = .ok (.aload_n 3, 1) := by decide +kernel
theorem dX5_keeps_17 : decode cX5_keeps 17 = .ok (.iload_n 2, 1) := by decide +kernel
theorem dX5_keeps_18 : decode cX5_keeps 18 = .ok (.invokevirtual 200, 3) := by decide +kernel
theorem dX5_keeps_21 : decode cX5_keeps 21 = .ok (.ifCond .ne 8, 3) := by decide +kernel
theorem dX5_keeps_24 : decode cX5_keeps 24 = .ok (.aload_n 0, 1) := by decide +kernel
theorem dX5_keeps_25 : decode cX5_keeps 25 = .ok (.invokevirtual 102, 3) := by decide +kernel
theorem dX5_keeps_28 : decode cX5_keeps 28 = .ok (.ireturn, 1) := by decide +kernel
theorem dX5_keeps_29 : decode cX5_keeps 29 = .ok (.aload_n 3, 1) := by decide +kernel
theorem dX5_keeps_30 : decode cX5_keeps 30 = .ok (.iload_n 1, 1) := by decide +kernel
theorem dX5_keeps_31 : decode cX5_keeps 31 = .ok (.invokevirtual 203, 3) := by decide +kernel
theorem dX5_keeps_34 : decode cX5_keeps 34 = .ok (.ifCond .ne 8, 3) := by decide +kernel
theorem dX5_keeps_37 : decode cX5_keeps 37 = .ok (.aload_n 0, 1) := by decide +kernel
theorem dX5_keeps_38 : decode cX5_keeps 38 = .ok (.invokevirtual 186, 3) := by decide +kernel
theorem dX5_keeps_41 : decode cX5_keeps 41 = .ok (.ireturn, 1) := by decide +kernel
theorem dX5_keeps_42 : decode cX5_keeps 42 = .ok (.aload_n 0, 1) := by decide +kernel
theorem dX5_keeps_43 : decode cX5_keeps 43 = .ok (.getfield 10, 3) := by decide +kernel
theorem dX5_keeps_46 : decode cX5_keeps 46 = .ok (.getfield 108, 3) := by decide +kernel
theorem dX5_keeps_49 : decode cX5_keeps 49 = .ok (.aload_n 3, 1) := by decide +kernel
theorem dX5_keeps_50 : decode cX5_keeps 50 = .ok (.invokevirtual 165, 3) := by decide +kernel
theorem dX5_keeps_53 : decode cX5_keeps 53 = .ok (.aload_n 3, 1) := by decide +kernel
theorem dX5_keeps_54 : decode cX5_keeps 54 = .ok (.iload_n 1, 1) := by decide +kernel
theorem dX5_keeps_55 : decode cX5_keeps 55 = .ok (.iload_n 2, 1) := by decide +kernel
theorem dX5_keeps_56 : decode cX5_keeps 56 = .ok (.invokevirtual 206, 3) := by decide +kernel
theorem dX5_keeps_59 : decode cX5_keeps 59 = .ok (.ireturn, 1) := by decide +kernel
theorem dX5_undo_0 : decode cX5_undo 0 = .ok (.aload_n 0, 1) := by decide +kernel
theorem dX5_undo_1 : decode cX5_undo 1 = .ok (.getfield 10, 3) := by decide +kernel
theorem dX5_undo_4 : decode cX5_undo 4 = .ok (.getfield 108, 3) := by decide +kernel
theorem dX5_undo_7 : decode cX5_undo 7 = .ok (.getfield 112, 3) := by decide +kernel
theorem dX5_undo_10 : decode cX5_undo 10 = .ok (.ifCond .ne 8, 3) := by decide +kernel
theorem dX5_undo_13 : decode cX5_undo 13 = .ok (.aload_n 0, 1) := by decide +kernel
theorem dX5_undo_14 : decode cX5_undo 14 = .ok (.invokevirtual 186, 3) := by decide +kernel
theorem dX5_undo_17 : decode cX5_undo 17 = .ok (.ireturn, 1) := by decide +kernel
theorem dX5_undo_18 : decode cX5_undo 18 = .ok (.aload_n 0, 1) := by decide +kernel
theorem dX5_undo_19 : decode cX5_undo 19 = .ok (.getfield 10, 3) := by decide +kernel
theorem dX5_undo_22 : decode cX5_undo 22 = .ok (.getfield 108, 3) := by decide +kernel
theorem dX5_undo_25 : decode cX5_undo 25 = .ok (.aload_n 0, 1) := by decide +kernel
theorem dX5_undo_26 : decode cX5_undo 26 = .ok (.getfield 10, 3) := by decide +kernel
theorem dX5_undo_29 : decode cX5_undo 29 = .ok (.getfield 89, 3) := by decide +kernel
theorem dX5_undo_32 : decode cX5_undo 32 = .ok (.invokevirtual 209, 3) := by decide +kernel
theorem dX5_undo_35 : decode cX5_undo 35 = .ok (.aload_n 0, 1) := by decide +kernel
theorem dX5_undo_36 : decode cX5_undo 36 = .ok (.getfield 10, 3) := by decide +kernel
theorem dX5_undo_39 : decode cX5_undo 39 = .ok (.getfield 89, 3) := by decide +kernel
theorem dX5_undo_42 : decode cX5_undo 42 = .ok (.getfield 168, 3) := by decide +kernel
theorem dX5_undo_45 : decode cX5_undo 45 = .ok (.ireturn, 1) := by decide +kernel
theorem dX5_of_0 : decode cX5_of 0 = .ok (.aload_n 0, 1) := by decide +kernel
theorem dX5_of_1 : decode cX5_of 1 = .ok (.getfield 10, 3) := by decide +kernel
theorem dX5_of_4 : decode cX5_of 4 = .ok (.getfield 89, 3) := by decide +kernel
theorem dX5_of_7 : decode cX5_of 7 = .ok (.astore_n 3, 1) := by decide +kernel
theorem dX5_of_8 : decode cX5_of 8 = .ok (.aload_n 3, 1) := by decide +kernel
theorem dX5_of_9 : decode cX5_of 9 = .ok (.iload_n 1, 1) := by decide +kernel
theorem dX5_of_10 : decode cX5_of 10 = .ok (.invokevirtual 179, 3) := by decide +kernel
theorem dX5_of_13 : decode cX5_of 13 = .ok (.ifCond .ne 8, 3) := by decide +kernel
theorem dX5_of_16 : decode cX5_of 16 = .ok (.aload_n 0, 1) := by decide +kernel
theorem dX5_of_17 : decode cX5_of 17 = .ok (.invokevirtual 102, 3) := by decide +kernel
theorem dX5_of_20 : decode cX5_of 20 = .ok (.ireturn, 1) := by decide +kernel
theorem dX5_of_21 : decode cX5_of 21 = .ok (.iload_n 2, 1) := by decide +kernel
theorem dX5_of_22 : decode cX5_of 22 = .ok (.tableswitch 87 0 5 #[38, 47, 56, 65, 74, 81], 38) := by decide +kernel
theorem dX5_of_60 : decode cX5_of 60 = .ok (.aload_n 3, 1) := by decide +kernel
theorem dX5_of_61 : decode cX5_of 61 = .ok (.getfield 212, 3) := by decide +kernel
theorem dX5_of_64 : decode cX5_of 64 = .ok (.iload_n 1, 1) := by decide +kernel
theorem dX5_of_65 : decode cX5_of 65 = .ok (.invokestatic 196, 3) := by decide +kernel
theorem dX5_of_68 : decode cX5_of 68 = .ok (.ireturn, 1) := by decide +kernel
theorem dX5_of_69 : decode cX5_of 69 = .ok (.aload_n 3, 1) := by decide +kernel
theorem dX5_of_70 : decode cX5_of 70 = .ok (.getfield 215, 3) := by decide +kernel
theorem dX5_of_73 : decode cX5_of 73 = .ok (.iload_n 1, 1) := by decide +kernel
theorem dX5_of_74 : decode cX5_of 74 = .ok (.invokestatic 196, 3) := by decide +kernel
theorem dX5_of_77 : decode cX5_of 77 = .ok (.ireturn, 1) := by decide +kernel
theorem dX5_of_78 : decode cX5_of 78 = .ok (.aload_n 3, 1) := by decide +kernel
theorem dX5_of_79 : decode cX5_of 79 = .ok (.getfield 218, 3) := by decide +kernel
theorem dX5_of_82 : decode cX5_of 82 = .ok (.iload_n 1, 1) := by decide +kernel
theorem dX5_of_83 : decode cX5_of 83 = .ok (.invokestatic 196, 3) := by decide +kernel
theorem dX5_of_86 : decode cX5_of 86 = .ok (.ireturn, 1) := by decide +kernel
theorem dX5_of_87 : decode cX5_of 87 = .ok (.aload_n 3, 1) := by decide +kernel
theorem dX5_of_88 : decode cX5_of 88 = .ok (.getfield 221, 3) := by decide +kernel
theorem dX5_of_91 : decode cX5_of 91 = .ok (.iload_n 1, 1) := by decide +kernel
theorem dX5_of_92 : decode cX5_of 92 = .ok (.invokestatic 196, 3) := by decide +kernel
theorem dX5_of_95 : decode cX5_of 95 = .ok (.ireturn, 1) := by decide +kernel
theorem dX5_of_96 : decode cX5_of 96 = .ok (.aload_n 3, 1) := by decide +kernel
theorem dX5_of_97 : decode cX5_of 97 = .ok (.iload_n 1, 1) := by decide +kernel
theorem dX5_of_98 : decode cX5_of 98 = .ok (.iconst 0, 1) := by decide +kernel
theorem dX5_of_99 : decode cX5_of 99 = .ok (.invokevirtual 224, 3) := by decide +kernel
theorem dX5_of_102 : decode cX5_of 102 = .ok (.ireturn, 1) := by decide +kernel
theorem dX5_of_103 : decode cX5_of 103 = .ok (.aload_n 3, 1) := by decide +kernel
theorem dX5_of_104 : decode cX5_of 104 = .ok (.iload_n 1, 1) := by decide +kernel
theorem dX5_of_105 : decode cX5_of 105 = .ok (.invokevirtual 227, 3) := by decide +kernel
theorem dX5_of_108 : decode cX5_of 108 = .ok (.ireturn, 1) := by decide +kernel
theorem dX5_of_109 : decode cX5_of 109 = .ok (.aload_n 0, 1) := by decide +kernel
theorem dX5_of_110 : decode cX5_of 110 = .ok (.invokevirtual 102, 3) := by decide +kernel
theorem dX5_of_113 : decode cX5_of 113 = .ok (.ireturn, 1) := by decide +kernel
theorem dX5_about_0 : decode cX5_about 0 = .ok (.aload_n 0, 1) := by decide +kernel
theorem dX5_about_1 : decode cX5_about 1 = .ok (.getfield 10, 3) := by decide +kernel
theorem dX5_about_4 : decode cX5_about 4 = .ok (.getfield 89, 3) := by decide +kernel
theorem dX5_about_7 : decode cX5_about 7 = .ok (.astore_n 3, 1) := by decide +kernel
theorem dX5_about_8 : decode cX5_about 8 = .ok (.aload_n 3, 1) := by decide +kernel
theorem dX5_about_9 : decode cX5_about 9 = .ok (.iload_n 1, 1) := by decide +kernel
theorem dX5_about_10 : decode cX5_about 10 = .ok (.invokevirtual 200, 3) := by decide +kernel
theorem dX5_about_13 : decode cX5_about 13 = .ok (.ifCond .ne 8, 3) := by decide +kernel
theorem dX5_about_16 : decode cX5_about 16 = .ok (.aload_n 0, 1) := by decide +kernel
theorem dX5_about_17 : decode cX5_about 17 = .ok (.invokevirtual 102, 3) := by decide +kernel
theorem dX5_about_20 : decode cX5_about 20 = .ok (.ireturn, 1) := by decide +kernel
theorem dX5_about_21 : decode cX5_about 21 = .ok (.iload_n 2, 1) := by decide +kernel
theorem dX5_about_22 : decode cX5_about 22 = .ok (.tableswitch 53 0 2 #[26, 35, 44], 26) := by decide +kernel
theorem dX5_about_48 : decode cX5_about 48 = .ok (.aload_n 3, 1) := by decide +kernel
theorem dX5_about_49 : decode cX5_about 49 = .ok (.getfield 230, 3) := by decide +kernel
theorem dX5_about_52 : decode cX5_about 52 = .ok (.iload_n 1, 1) := by decide +kernel
theorem dX5_about_53 : decode cX5_about 53 = .ok (.invokestatic 196, 3) := by decide +kernel
theorem dX5_about_56 : decode cX5_about 56 = .ok (.ireturn, 1) := by decide +kernel
theorem dX5_about_57 : decode cX5_about 57 = .ok (.aload_n 3, 1) := by decide +kernel
theorem dX5_about_58 : decode cX5_about 58 = .ok (.getfield 233, 3) := by decide +kernel
theorem dX5_about_61 : decode cX5_about 61 = .ok (.iload_n 1, 1) := by decide +kernel
theorem dX5_about_62 : decode cX5_about 62 = .ok (.invokestatic 196, 3) := by decide +kernel
theorem dX5_about_65 : decode cX5_about 65 = .ok (.ireturn, 1) := by decide +kernel
theorem dX5_about_66 : decode cX5_about 66 = .ok (.aload_n 3, 1) := by decide +kernel
theorem dX5_about_67 : decode cX5_about 67 = .ok (.bipush 10, 2) := by decide +kernel
theorem dX5_about_69 : decode cX5_about 69 = .ok (.iload_n 1, 1) := by decide +kernel
theorem dX5_about_70 : decode cX5_about 70 = .ok (.iadd, 1) := by decide +kernel
theorem dX5_about_71 : decode cX5_about 71 = .ok (.invokevirtual 236, 3) := by decide +kernel
theorem dX5_about_74 : decode cX5_about 74 = .ok (.ireturn, 1) := by decide +kernel
theorem dX5_about_75 : decode cX5_about 75 = .ok (.aload_n 0, 1) := by decide +kernel
theorem dX5_about_76 : decode cX5_about 76 = .ok (.invokevirtual 102, 3) := by decide +kernel
theorem dX5_about_79 : decode cX5_about 79 = .ok (.ireturn, 1) := by decide +kernel
theorem dX5_purse_0 : decode cX5_purse 0 = .ok (.aload_n 0, 1) := by decide +kernel
theorem dX5_purse_1 : decode cX5_purse 1 = .ok (.getfield 10, 3) := by decide +kernel
theorem dX5_purse_4 : decode cX5_purse 4 = .ok (.getfield 89, 3) := by decide +kernel
theorem dX5_purse_7 : decode cX5_purse 7 = .ok (.astore_n 3, 1) := by decide +kernel
theorem dX5_purse_8 : decode cX5_purse 8 = .ok (.aload_n 3, 1) := by decide +kernel
theorem dX5_purse_9 : decode cX5_purse 9 = .ok (.iload_n 1, 1) := by decide +kernel
theorem dX5_purse_10 : decode cX5_purse 10 = .ok (.invokevirtual 175, 3) := by decide +kernel
theorem dX5_purse_13 : decode cX5_purse 13 = .ok (.ifCond .ne 8, 3) := by decide +kernel
theorem dX5_purse_16 : decode cX5_purse 16 = .ok (.aload_n 0, 1) := by decide +kernel
theorem dX5_purse_17 : decode cX5_purse 17 = .ok (.invokevirtual 102, 3) := by decide +kernel
theorem dX5_purse_20 : decode cX5_purse 20 = .ok (.ireturn, 1) := by decide +kernel
theorem dX5_purse_21 : decode cX5_purse 21 = .ok (.iload_n 2, 1) := by decide +kernel
theorem dX5_purse_22 : decode cX5_purse 22 = .ok (.lookupswitch 43 #[(0, 26), (1, 35)], 26) := by decide +kernel
theorem dX5_purse_48 : decode cX5_purse 48 = .ok (.aload_n 3, 1) := by decide +kernel
theorem dX5_purse_49 : decode cX5_purse 49 = .ok (.getfield 193, 3) := by decide +kernel
theorem dX5_purse_52 : decode cX5_purse 52 = .ok (.iload_n 1, 1) := by decide +kernel
theorem dX5_purse_53 : decode cX5_purse 53 = .ok (.invokestatic 196, 3) := by decide +kernel
theorem dX5_purse_56 : decode cX5_purse 56 = .ok (.ireturn, 1) := by decide +kernel
theorem dX5_purse_57 : decode cX5_purse 57 = .ok (.aload_n 3, 1) := by decide +kernel
theorem dX5_purse_58 : decode cX5_purse 58 = .ok (.iconst 1, 1) := by decide +kernel
theorem dX5_purse_59 : decode cX5_purse 59 = .ok (.iload_n 1, 1) := by decide +kernel
theorem dX5_purse_60 : decode cX5_purse 60 = .ok (.iadd, 1) := by decide +kernel
theorem dX5_purse_61 : decode cX5_purse 61 = .ok (.invokevirtual 236, 3) := by decide +kernel
theorem dX5_purse_64 : decode cX5_purse 64 = .ok (.ireturn, 1) := by decide +kernel
theorem dX5_purse_65 : decode cX5_purse 65 = .ok (.aload_n 0, 1) := by decide +kernel
theorem dX5_purse_66 : decode cX5_purse 66 = .ok (.invokevirtual 102, 3) := by decide +kernel
theorem dX5_purse_69 : decode cX5_purse 69 = .ok (.ireturn, 1) := by decide +kernel
theorem dX5_good_0 : decode cX5_good 0 = .ok (.aload_n 0, 1) := by decide +kernel
theorem dX5_good_1 : decode cX5_good 1 = .ok (.getfield 10, 3) := by decide +kernel
theorem dX5_good_4 : decode cX5_good 4 = .ok (.getfield 89, 3) := by decide +kernel
theorem dX5_good_7 : decode cX5_good 7 = .ok (.iload_n 1, 1) := by decide +kernel
theorem dX5_good_8 : decode cX5_good 8 = .ok (.invokevirtual 179, 3) := by decide +kernel
theorem dX5_good_11 : decode cX5_good 11 = .ok (.ifCond .eq 13, 3) := by decide +kernel
theorem dX5_good_14 : decode cX5_good 14 = .ok (.iload_n 2, 1) := by decide +kernel
theorem dX5_good_15 : decode cX5_good 15 = .ok (.iconst 0, 1) := by decide +kernel
theorem dX5_good_16 : decode cX5_good 16 = .ok (.bipush 60, 2) := by decide +kernel
theorem dX5_good_18 : decode cX5_good 18 = .ok (.invokestatic 98, 3) := by decide +kernel
theorem dX5_good_21 : decode cX5_good 21 = .ok (.ifCond .ne 8, 3) := by decide +kernel
theorem dX5_good_24 : decode cX5_good 24 = .ok (.aload_n 0, 1) := by decide +kernel
theorem dX5_good_25 : decode cX5_good 25 = .ok (.invokevirtual 102, 3) := by decide +kernel
theorem dX5_good_28 : decode cX5_good 28 = .ok (.ireturn, 1) := by decide +kernel
theorem dX5_good_29 : decode cX5_good 29 = .ok (.aload_n 0, 1) := by decide +kernel
theorem dX5_good_30 : decode cX5_good 30 = .ok (.getfield 10, 3) := by decide +kernel
theorem dX5_good_33 : decode cX5_good 33 = .ok (.getfield 89, 3) := by decide +kernel
theorem dX5_good_36 : decode cX5_good 36 = .ok (.iload_n 1, 1) := by decide +kernel
theorem dX5_good_37 : decode cX5_good 37 = .ok (.iload_n 2, 1) := by decide +kernel
theorem dX5_good_38 : decode cX5_good 38 = .ok (.invokevirtual 224, 3) := by decide +kernel
theorem dX5_good_41 : decode cX5_good 41 = .ok (.ireturn, 1) := by decide +kernel
theorem dX5_joy_0 : decode cX5_joy 0 = .ok (.aload_n 0, 1) := by decide +kernel
theorem dX5_joy_1 : decode cX5_joy 1 = .ok (.getfield 10, 3) := by decide +kernel
theorem dX5_joy_4 : decode cX5_joy 4 = .ok (.getfield 89, 3) := by decide +kernel
theorem dX5_joy_7 : decode cX5_joy 7 = .ok (.iload_n 1, 1) := by decide +kernel
theorem dX5_joy_8 : decode cX5_joy 8 = .ok (.invokevirtual 179, 3) := by decide +kernel
theorem dX5_joy_11 : decode cX5_joy 11 = .ok (.ifCond .eq 17, 3) := by decide +kernel
theorem dX5_joy_14 : decode cX5_joy 14 = .ok (.aload_n 0, 1) := by decide +kernel
theorem dX5_joy_15 : decode cX5_joy 15 = .ok (.getfield 10, 3) := by decide +kernel
theorem dX5_joy_18 : decode cX5_joy 18 = .ok (.getfield 89, 3) := by decide +kernel
theorem dX5_joy_21 : decode cX5_joy 21 = .ok (.iload_n 2, 1) := by decide +kernel
theorem dX5_joy_22 : decode cX5_joy 22 = .ok (.invokevirtual 200, 3) := by decide +kernel
theorem dX5_joy_25 : decode cX5_joy 25 = .ok (.ifCond .ne 8, 3) := by decide +kernel
theorem dX5_joy_28 : decode cX5_joy 28 = .ok (.aload_n 0, 1) := by decide +kernel
theorem dX5_joy_29 : decode cX5_joy 29 = .ok (.invokevirtual 102, 3) := by decide +kernel
theorem dX5_joy_32 : decode cX5_joy 32 = .ok (.ireturn, 1) := by decide +kernel
theorem dX5_joy_33 : decode cX5_joy 33 = .ok (.aload_n 0, 1) := by decide +kernel
theorem dX5_joy_34 : decode cX5_joy 34 = .ok (.getfield 10, 3) := by decide +kernel
theorem dX5_joy_37 : decode cX5_joy 37 = .ok (.getfield 89, 3) := by decide +kernel
theorem dX5_joy_40 : decode cX5_joy 40 = .ok (.iload_n 1, 1) := by decide +kernel
theorem dX5_joy_41 : decode cX5_joy 41 = .ok (.iload_n 2, 1) := by decide +kernel
theorem dX5_joy_42 : decode cX5_joy 42 = .ok (.invokevirtual 239, 3) := by decide +kernel
theorem dX5_joy_45 : decode cX5_joy 45 = .ok (.ireturn, 1) := by decide +kernel
theorem dX5_when_0 : decode cX5_when 0 = .ok (.aload_n 0, 1) := by decide +kernel
theorem dX5_when_1 : decode cX5_when 1 = .ok (.getfield 10, 3) := by decide +kernel
theorem dX5_when_4 : decode cX5_when 4 = .ok (.getfield 89, 3) := by decide +kernel
theorem dX5_when_7 : decode cX5_when 7 = .ok (.iload_n 1, 1) := by decide +kernel
theorem dX5_when_8 : decode cX5_when 8 = .ok (.invokevirtual 179, 3) := by decide +kernel
theorem dX5_when_11 : decode cX5_when 11 = .ok (.ifCond .eq 13, 3) := by decide +kernel
theorem dX5_when_14 : decode cX5_when 14 = .ok (.iload_n 2, 1) := by decide +kernel
theorem dX5_when_15 : decode cX5_when 15 = .ok (.iconst 1, 1) := by decide +kernel
theorem dX5_when_16 : decode cX5_when 16 = .ok (.bipush 30, 2) := by decide +kernel
theorem dX5_when_18 : decode cX5_when 18 = .ok (.invokestatic 98, 3) := by decide +kernel
theorem dX5_when_21 : decode cX5_when 21 = .ok (.ifCond .ne 8, 3) := by decide +kernel
theorem dX5_when_24 : decode cX5_when 24 = .ok (.aload_n 0, 1) := by decide +kernel
theorem dX5_when_25 : decode cX5_when 25 = .ok (.invokevirtual 102, 3) := by decide +kernel
theorem dX5_when_28 : decode cX5_when 28 = .ok (.ireturn, 1) := by decide +kernel
theorem dX5_when_29 : decode cX5_when 29 = .ok (.iconst 0, 1) := by decide +kernel
theorem dX5_when_30 : decode cX5_when 30 = .ok (.istore_n 3, 1) := by decide +kernel
theorem dX5_when_31 : decode cX5_when 31 = .ok (.iload_n 3, 1) := by decide +kernel
theorem dX5_when_32 : decode cX5_when 32 = .ok (.bipush 60, 2) := by decide +kernel
theorem dX5_when_34 : decode cX5_when 34 = .ok (.if_icmp .gt 27, 3) := by decide +kernel
theorem dX5_when_37 : decode cX5_when 37 = .ok (.aload_n 0, 1) := by decide +kernel
theorem dX5_when_38 : decode cX5_when 38 = .ok (.getfield 10, 3) := by decide +kernel
theorem dX5_when_41 : decode cX5_when 41 = .ok (.getfield 89, 3) := by decide +kernel
theorem dX5_when_44 : decode cX5_when 44 = .ok (.iload_n 1, 1) := by decide +kernel
theorem dX5_when_45 : decode cX5_when 45 = .ok (.iload_n 3, 1) := by decide +kernel
theorem dX5_when_46 : decode cX5_when 46 = .ok (.invokevirtual 224, 3) := by decide +kernel
theorem dX5_when_49 : decode cX5_when 49 = .ok (.iload_n 2, 1) := by decide +kernel
theorem dX5_when_50 : decode cX5_when 50 = .ok (.if_icmp .lt 5, 3) := by decide +kernel
theorem dX5_when_53 : decode cX5_when 53 = .ok (.iload_n 3, 1) := by decide +kernel
theorem dX5_when_54 : decode cX5_when 54 = .ok (.ireturn, 1) := by decide +kernel
theorem dX5_when_55 : decode cX5_when 55 = .ok (.iinc 3 1, 3) := by decide +kernel
theorem dX5_when_58 : decode cX5_when 58 = .ok (.goto (-27), 3) := by decide +kernel
theorem dX5_when_61 : decode cX5_when 61 = .ok (.iconst (-1), 1) := by decide +kernel
theorem dX5_when_62 : decode cX5_when 62 = .ok (.ireturn, 1) := by decide +kernel
theorem dX5_waits_0 : decode cX5_waits 0 = .ok (.aload_n 0, 1) := by decide +kernel
theorem dX5_waits_1 : decode cX5_waits 1 = .ok (.getfield 10, 3) := by decide +kernel
theorem dX5_waits_4 : decode cX5_waits 4 = .ok (.getfield 89, 3) := by decide +kernel
theorem dX5_waits_7 : decode cX5_waits 7 = .ok (.invokevirtual 242, 3) := by decide +kernel
theorem dX5_waits_10 : decode cX5_waits 10 = .ok (.ireturn, 1) := by decide +kernel
theorem dX5_fit_0 : decode cX5_fit 0 = .ok (.aload_n 0, 1) := by decide +kernel
theorem dX5_fit_1 : decode cX5_fit 1 = .ok (.getfield 10, 3) := by decide +kernel
theorem dX5_fit_4 : decode cX5_fit 4 = .ok (.getfield 89, 3) := by decide +kernel
theorem dX5_fit_7 : decode cX5_fit 7 = .ok (.astore_n 2, 1) := by decide +kernel
theorem dX5_fit_8 : decode cX5_fit 8 = .ok (.iload_n 1, 1) := by decide +kernel
theorem dX5_fit_9 : decode cX5_fit 9 = .ok (.iconst (-1), 1) := by decide +kernel
theorem dX5_fit_10 : decode cX5_fit 10 = .ok (.if_icmp .eq 18, 3) := by decide +kernel
theorem dX5_fit_13 : decode cX5_fit 13 = .ok (.aload_n 2, 1) := by decide +kernel
theorem dX5_fit_14 : decode cX5_fit 14 = .ok (.iload_n 1, 1) := by decide +kernel
theorem dX5_fit_15 : decode cX5_fit 15 = .ok (.invokevirtual 200, 3) := by decide +kernel
theorem dX5_fit_18 : decode cX5_fit 18 = .ok (.ifCond .ne 10, 3) := by decide +kernel
theorem dX5_fit_21 : decode cX5_fit 21 = .ok (.aload_n 0, 1) := by decide +kernel
theorem dX5_fit_22 : decode cX5_fit 22 = .ok (.bipush (-10), 2) := by decide +kernel
theorem dX5_fit_24 : decode cX5_fit 24 = .ok (.invokevirtual 73, 3) := by decide +kernel
theorem dX5_fit_27 : decode cX5_fit 27 = .ok (.ireturn, 1) := by decide +kernel
theorem dX5_fit_28 : decode cX5_fit 28 = .ok (.aload_n 0, 1) := by decide +kernel
theorem dX5_fit_29 : decode cX5_fit 29 = .ok (.invokevirtual 245, 3) := by decide +kernel
theorem dX5_fit_32 : decode cX5_fit 32 = .ok (.aload_n 2, 1) := by decide +kernel
theorem dX5_fit_33 : decode cX5_fit 33 = .ok (.iconst 0, 1) := by decide +kernel
theorem dX5_fit_34 : decode cX5_fit 34 = .ok (.invokevirtual 236, 3) := by decide +kernel
theorem dX5_fit_37 : decode cX5_fit 37 = .ok (.istore_n 3, 1) := by decide +kernel
theorem dX5_fit_38 : decode cX5_fit 38 = .ok (.iload_n 1, 1) := by decide +kernel
theorem dX5_fit_39 : decode cX5_fit 39 = .ok (.iconst (-1), 1) := by decide +kernel
theorem dX5_fit_40 : decode cX5_fit 40 = .ok (.if_icmp .ne 17, 3) := by decide +kernel
theorem dX5_fit_43 : decode cX5_fit 43 = .ok (.aload_n 0, 1) := by decide +kernel
theorem dX5_fit_44 : decode cX5_fit 44 = .ok (.getfield 36, 3) := by decide +kernel
theorem dX5_fit_47 : decode cX5_fit 47 = .ok (.aload_n 2, 1) := by decide +kernel
theorem dX5_fit_48 : decode cX5_fit 48 = .ok (.getfield 120, 3) := by decide +kernel
theorem dX5_fit_51 : decode cX5_fit 51 = .ok (.iconst 0, 1) := by decide +kernel
theorem dX5_fit_52 : decode cX5_fit 52 = .ok (.iload_n 3, 1) := by decide +kernel
theorem dX5_fit_53 : decode cX5_fit 53 = .ok (.invokestatic 248, 3) := by decide +kernel
theorem dX5_fit_56 : decode cX5_fit 56 = .ok (.ireturn, 1) := by decide +kernel
theorem dX5_fit_57 : decode cX5_fit 57 = .ok (.iconst (-1), 1) := by decide +kernel
theorem dX5_fit_58 : decode cX5_fit 58 = .ok (.istore 4, 2) := by decide +kernel
theorem dX5_fit_60 : decode cX5_fit 60 = .ok (.iconst 0, 1) := by decide +kernel
theorem dX5_fit_61 : decode cX5_fit 61 = .ok (.istore 5, 2) := by decide +kernel
theorem dX5_fit_63 : decode cX5_fit 63 = .ok (.iload 5, 2) := by decide +kernel
theorem dX5_fit_65 : decode cX5_fit 65 = .ok (.iload_n 1, 1) := by decide +kernel
theorem dX5_fit_66 : decode cX5_fit 66 = .ok (.if_icmp .gt 31, 3) := by decide +kernel
theorem dX5_fit_69 : decode cX5_fit 69 = .ok (.aload_n 0, 1) := by decide +kernel
theorem dX5_fit_70 : decode cX5_fit 70 = .ok (.iload 5, 2) := by decide +kernel
theorem dX5_fit_72 : decode cX5_fit 72 = .ok (.iload_n 3, 1) := by decide +kernel
theorem dX5_fit_73 : decode cX5_fit 73 = .ok (.invokevirtual 252, 3) := by decide +kernel
theorem dX5_fit_76 : decode cX5_fit 76 = .ok (.istore 4, 2) := by decide +kernel
theorem dX5_fit_78 : decode cX5_fit 78 = .ok (.iload 4, 2) := by decide +kernel
theorem dX5_fit_80 : decode cX5_fit 80 = .ok (.iconst (-1), 1) := by decide +kernel
theorem dX5_fit_81 : decode cX5_fit 81 = .ok (.if_icmp .eq 10, 3) := by decide +kernel
theorem dX5_fit_84 : decode cX5_fit 84 = .ok (.iload_n 3, 1) := by decide +kernel
theorem dX5_fit_85 : decode cX5_fit 85 = .ok (.iload 4, 2) := by decide +kernel
theorem dX5_fit_87 : decode cX5_fit 87 = .ok (.invokestatic 255, 3) := by decide +kernel
theorem dX5_fit_90 : decode cX5_fit 90 = .ok (.istore_n 3, 1) := by decide +kernel
theorem dX5_fit_91 : decode cX5_fit 91 = .ok (.iinc 5 1, 3) := by decide +kernel
theorem dX5_fit_94 : decode cX5_fit 94 = .ok (.goto (-31), 3) := by decide +kernel
theorem dX5_fit_97 : decode cX5_fit 97 = .ok (.iload 4, 2) := by decide +kernel
theorem dX5_fit_99 : decode cX5_fit 99 = .ok (.ireturn, 1) := by decide +kernel
theorem dX5_buy_0 : decode cX5_buy 0 = .ok (.aload_n 0, 1) := by decide +kernel
theorem dX5_buy_1 : decode cX5_buy 1 = .ok (.getfield 10, 3) := by decide +kernel
theorem dX5_buy_4 : decode cX5_buy 4 = .ok (.getfield 89, 3) := by decide +kernel
theorem dX5_buy_7 : decode cX5_buy 7 = .ok (.astore 4, 2) := by decide +kernel
theorem dX5_buy_9 : decode cX5_buy 9 = .ok (.aload 4, 2) := by decide +kernel
theorem dX5_buy_11 : decode cX5_buy 11 = .ok (.iload_n 1, 1) := by decide +kernel
theorem dX5_buy_12 : decode cX5_buy 12 = .ok (.invokevirtual 175, 3) := by decide +kernel
theorem dX5_buy_15 : decode cX5_buy 15 = .ok (.ifCond .eq 21, 3) := by decide +kernel
theorem dX5_buy_18 : decode cX5_buy 18 = .ok (.aload 4, 2) := by decide +kernel
theorem dX5_buy_20 : decode cX5_buy 20 = .ok (.iload_n 2, 1) := by decide +kernel
theorem dX5_buy_21 : decode cX5_buy 21 = .ok (.invokevirtual 200, 3) := by decide +kernel
theorem dX5_buy_24 : decode cX5_buy 24 = .ok (.ifCond .eq 12, 3) := by decide +kernel
theorem dX5_buy_27 : decode cX5_buy 27 = .ok (.iload_n 3, 1) := by decide +kernel
theorem dX5_buy_28 : decode cX5_buy 28 = .ok (.iconst 0, 1) := by decide +kernel
theorem dX5_buy_29 : decode cX5_buy 29 = .ok (.iconst 1, 1) := by decide +kernel
theorem dX5_buy_30 : decode cX5_buy 30 = .ok (.invokestatic 98, 3) := by decide +kernel
theorem dX5_buy_33 : decode cX5_buy 33 = .ok (.ifCond .ne 8, 3) := by decide +kernel
theorem dX5_buy_36 : decode cX5_buy 36 = .ok (.aload_n 0, 1) := by decide +kernel
theorem dX5_buy_37 : decode cX5_buy 37 = .ok (.invokevirtual 102, 3) := by decide +kernel
theorem dX5_buy_40 : decode cX5_buy 40 = .ok (.ireturn, 1) := by decide +kernel
theorem dX5_buy_41 : decode cX5_buy 41 = .ok (.aload_n 0, 1) := by decide +kernel
theorem dX5_buy_42 : decode cX5_buy 42 = .ok (.invokevirtual 245, 3) := by decide +kernel
theorem dX5_buy_45 : decode cX5_buy 45 = .ok (.aload_n 0, 1) := by decide +kernel
theorem dX5_buy_46 : decode cX5_buy 46 = .ok (.aload 4, 2) := by decide +kernel
theorem dX5_buy_48 : decode cX5_buy 48 = .ok (.getfield 193, 3) := by decide +kernel
theorem dX5_buy_51 : decode cX5_buy 51 = .ok (.iload_n 1, 1) := by decide +kernel
theorem dX5_buy_52 : decode cX5_buy 52 = .ok (.invokestatic 196, 3) := by decide +kernel
theorem dX5_buy_55 : decode cX5_buy 55 = .ok (.iload_n 2, 1) := by decide +kernel
theorem dX5_buy_56 : decode cX5_buy 56 = .ok (.aload 4, 2) := by decide +kernel
theorem dX5_buy_58 : decode cX5_buy 58 = .ok (.iconst 0, 1) := by decide +kernel
theorem dX5_buy_59 : decode cX5_buy 59 = .ok (.invokevirtual 236, 3) := by decide +kernel
theorem dX5_buy_62 : decode cX5_buy 62 = .ok (.invokevirtual 258, 3) := by decide +kernel
theorem dX5_buy_65 : decode cX5_buy 65 = .ok (.istore 5, 2) := by decide +kernel
theorem dX5_buy_67 : decode cX5_buy 67 = .ok (.iload_n 3, 1) := by decide +kernel
theorem dX5_buy_68 : decode cX5_buy 68 = .ok (.iconst 1, 1) := by decide +kernel
theorem dX5_buy_69 : decode cX5_buy 69 = .ok (.if_icmp .ne 8, 3) := by decide +kernel
theorem dX5_buy_72 : decode cX5_buy 72 = .ok (.iload 5, 2) := by decide +kernel
theorem dX5_buy_74 : decode cX5_buy 74 = .ok (.goto 16, 3) := by decide +kernel
theorem dX5_buy_77 : decode cX5_buy 77 = .ok (.aload_n 0, 1) := by decide +kernel
theorem dX5_buy_78 : decode cX5_buy 78 = .ok (.getfield 36, 3) := by decide +kernel
theorem dX5_buy_81 : decode cX5_buy 81 = .ok (.iload_n 2, 1) := by decide +kernel
theorem dX5_buy_82 : decode cX5_buy 82 = .ok (.bipush 7, 2) := by decide +kernel
theorem dX5_buy_84 : decode cX5_buy 84 = .ok (.imul, 1) := by decide +kernel
theorem dX5_buy_85 : decode cX5_buy 85 = .ok (.iload 5, 2) := by decide +kernel
theorem dX5_buy_87 : decode cX5_buy 87 = .ok (.invokestatic 262, 3) := by decide +kernel
theorem dX5_buy_90 : decode cX5_buy 90 = .ok (.ireturn, 1) := by decide +kernel
theorem dX5_cheap_0 : decode cX5_cheap 0 = .ok (.aload_n 0, 1) := by decide +kernel
theorem dX5_cheap_1 : decode cX5_cheap 1 = .ok (.invokevirtual 245, 3) := by decide +kernel
theorem dX5_cheap_4 : decode cX5_cheap 4 = .ok (.aload_n 0, 1) := by decide +kernel
theorem dX5_cheap_5 : decode cX5_cheap 5 = .ok (.getfield 36, 3) := by decide +kernel
theorem dX5_cheap_8 : decode cX5_cheap 8 = .ok (.aload_n 0, 1) := by decide +kernel
theorem dX5_cheap_9 : decode cX5_cheap 9 = .ok (.getfield 40, 3) := by decide +kernel
theorem dX5_cheap_12 : decode cX5_cheap 12 = .ok (.aload_n 0, 1) := by decide +kernel
theorem dX5_cheap_13 : decode cX5_cheap 13 = .ok (.getfield 10, 3) := by decide +kernel
theorem dX5_cheap_16 : decode cX5_cheap 16 = .ok (.getfield 89, 3) := by decide +kernel
theorem dX5_cheap_19 : decode cX5_cheap 19 = .ok (.invokevirtual 242, 3) := by decide +kernel
theorem dX5_cheap_22 : decode cX5_cheap 22 = .ok (.iconst 0, 1) := by decide +kernel
theorem dX5_cheap_23 : decode cX5_cheap 23 = .ok (.aload_n 0, 1) := by decide +kernel
theorem dX5_cheap_24 : decode cX5_cheap 24 = .ok (.getfield 10, 3) := by decide +kernel
theorem dX5_cheap_27 : decode cX5_cheap 27 = .ok (.getfield 89, 3) := by decide +kernel
theorem dX5_cheap_30 : decode cX5_cheap 30 = .ok (.iconst 0, 1) := by decide +kernel
theorem dX5_cheap_31 : decode cX5_cheap 31 = .ok (.invokevirtual 236, 3) := by decide +kernel
theorem dX5_cheap_34 : decode cX5_cheap 34 = .ok (.invokestatic 266, 3) := by decide +kernel
theorem dX5_cheap_37 : decode cX5_cheap 37 = .ok (.ireturn, 1) := by decide +kernel
theorem dX5_weigh_0 : decode cX5_weigh 0 = .ok (.aload_n 0, 1) := by decide +kernel
theorem dX5_weigh_1 : decode cX5_weigh 1 = .ok (.getfield 10, 3) := by decide +kernel
theorem dX5_weigh_4 : decode cX5_weigh 4 = .ok (.getfield 89, 3) := by decide +kernel
theorem dX5_weigh_7 : decode cX5_weigh 7 = .ok (.astore_n 1, 1) := by decide +kernel
theorem dX5_weigh_8 : decode cX5_weigh 8 = .ok (.iconst 0, 1) := by decide +kernel
theorem dX5_weigh_9 : decode cX5_weigh 9 = .ok (.istore_n 2, 1) := by decide +kernel
theorem dX5_weigh_10 : decode cX5_weigh 10 = .ok (.iload_n 2, 1) := by decide +kernel
theorem dX5_weigh_11 : decode cX5_weigh 11 = .ok (.aload_n 1, 1) := by decide +kernel
theorem dX5_weigh_12 : decode cX5_weigh 12 = .ok (.getfield 92, 3) := by decide +kernel
theorem dX5_weigh_15 : decode cX5_weigh 15 = .ok (.if_icmp .ge 57, 3) := by decide +kernel
theorem dX5_weigh_18 : decode cX5_weigh 18 = .ok (.aload_n 0, 1) := by decide +kernel
theorem dX5_weigh_19 : decode cX5_weigh 19 = .ok (.getfield 40, 3) := by decide +kernel
theorem dX5_weigh_22 : decode cX5_weigh 22 = .ok (.iload_n 2, 1) := by decide +kernel
theorem dX5_weigh_23 : decode cX5_weigh 23 = .ok (.aload_n 1, 1) := by decide +kernel
theorem dX5_weigh_24 : decode cX5_weigh 24 = .ok (.iload_n 2, 1) := by decide +kernel
theorem dX5_weigh_25 : decode cX5_weigh 25 = .ok (.invokevirtual 227, 3) := by decide +kernel
theorem dX5_weigh_28 : decode cX5_weigh 28 = .ok (.invokestatic 138, 3) := by decide +kernel
theorem dX5_weigh_31 : decode cX5_weigh 31 = .ok (.iconst 0, 1) := by decide +kernel
theorem dX5_weigh_32 : decode cX5_weigh 32 = .ok (.istore_n 3, 1) := by decide +kernel
theorem dX5_weigh_33 : decode cX5_weigh 33 = .ok (.iload_n 3, 1) := by decide +kernel
theorem dX5_weigh_34 : decode cX5_weigh 34 = .ok (.aload_n 1, 1) := by decide +kernel
theorem dX5_weigh_35 : decode cX5_weigh 35 = .ok (.getfield 120, 3) := by decide +kernel
theorem dX5_weigh_38 : decode cX5_weigh 38 = .ok (.if_icmp .ge 28, 3) := by decide +kernel
theorem dX5_weigh_41 : decode cX5_weigh 41 = .ok (.aload_n 0, 1) := by decide +kernel
theorem dX5_weigh_42 : decode cX5_weigh 42 = .ok (.getfield 36, 3) := by decide +kernel
theorem dX5_weigh_45 : decode cX5_weigh 45 = .ok (.iload_n 3, 1) := by decide +kernel
theorem dX5_weigh_46 : decode cX5_weigh 46 = .ok (.bipush 7, 2) := by decide +kernel
theorem dX5_weigh_48 : decode cX5_weigh 48 = .ok (.imul, 1) := by decide +kernel
theorem dX5_weigh_49 : decode cX5_weigh 49 = .ok (.iload_n 2, 1) := by decide +kernel
theorem dX5_weigh_50 : decode cX5_weigh 50 = .ok (.iadd, 1) := by decide +kernel
theorem dX5_weigh_51 : decode cX5_weigh 51 = .ok (.aload_n 1, 1) := by decide +kernel
theorem dX5_weigh_52 : decode cX5_weigh 52 = .ok (.iload_n 2, 1) := by decide +kernel
theorem dX5_weigh_53 : decode cX5_weigh 53 = .ok (.iload_n 3, 1) := by decide +kernel
theorem dX5_weigh_54 : decode cX5_weigh 54 = .ok (.invokevirtual 239, 3) := by decide +kernel
theorem dX5_weigh_57 : decode cX5_weigh 57 = .ok (.invokestatic 138, 3) := by decide +kernel
theorem dX5_weigh_60 : decode cX5_weigh 60 = .ok (.iinc 3 1, 3) := by decide +kernel
theorem dX5_weigh_63 : decode cX5_weigh 63 = .ok (.goto (-30), 3) := by decide +kernel
theorem dX5_weigh_66 : decode cX5_weigh 66 = .ok (.iinc 2 1, 3) := by decide +kernel
theorem dX5_weigh_69 : decode cX5_weigh 69 = .ok (.goto (-59), 3) := by decide +kernel
theorem dX5_weigh_72 : decode cX5_weigh 72 = .ok (.return_, 1) := by decide +kernel
theorem dX5_mostJoy_0 : decode cX5_mostJoy 0 = .ok (.iload_n 2, 1) := by decide +kernel
theorem dX5_mostJoy_1 : decode cX5_mostJoy 1 = .ok (.iload_n 1, 1) := by decide +kernel
theorem dX5_mostJoy_2 : decode cX5_mostJoy 2 = .ok (.if_icmp .ge 8, 3) := by decide +kernel
theorem dX5_mostJoy_5 : decode cX5_mostJoy 5 = .ok (.iload_n 2, 1) := by decide +kernel
theorem dX5_mostJoy_6 : decode cX5_mostJoy 6 = .ok (.iconst 4, 1) := by decide +kernel
theorem dX5_mostJoy_7 : decode cX5_mostJoy 7 = .ok (.if_icmp .lt 5, 3) := by decide +kernel
theorem dX5_mostJoy_10 : decode cX5_mostJoy 10 = .ok (.iconst 0, 1) := by decide +kernel
theorem dX5_mostJoy_11 : decode cX5_mostJoy 11 = .ok (.ireturn, 1) := by decide +kernel
theorem dX5_mostJoy_12 : decode cX5_mostJoy 12 = .ok (.aload_n 0, 1) := by decide +kernel
theorem dX5_mostJoy_13 : decode cX5_mostJoy 13 = .ok (.iload_n 1, 1) := by decide +kernel
theorem dX5_mostJoy_14 : decode cX5_mostJoy 14 = .ok (.iload_n 2, 1) := by decide +kernel
theorem dX5_mostJoy_15 : decode cX5_mostJoy 15 = .ok (.iconst 1, 1) := by decide +kernel
theorem dX5_mostJoy_16 : decode cX5_mostJoy 16 = .ok (.iadd, 1) := by decide +kernel
theorem dX5_mostJoy_17 : decode cX5_mostJoy 17 = .ok (.iload_n 3, 1) := by decide +kernel
theorem dX5_mostJoy_18 : decode cX5_mostJoy 18 = .ok (.invokestatic 248, 3) := by decide +kernel
theorem dX5_mostJoy_21 : decode cX5_mostJoy 21 = .ok (.istore 4, 2) := by decide +kernel
theorem dX5_mostJoy_23 : decode cX5_mostJoy 23 = .ok (.iconst 0, 1) := by decide +kernel
theorem dX5_mostJoy_24 : decode cX5_mostJoy 24 = .ok (.istore 5, 2) := by decide +kernel
theorem dX5_mostJoy_26 : decode cX5_mostJoy 26 = .ok (.iload 5, 2) := by decide +kernel
theorem dX5_mostJoy_28 : decode cX5_mostJoy 28 = .ok (.bipush 7, 2) := by decide +kernel
theorem dX5_mostJoy_30 : decode cX5_mostJoy 30 = .ok (.if_icmp .ge 55, 3) := by decide +kernel
theorem dX5_mostJoy_33 : decode cX5_mostJoy 33 = .ok (.iload_n 3, 1) := by decide +kernel
theorem dX5_mostJoy_34 : decode cX5_mostJoy 34 = .ok (.iload 5, 2) := by decide +kernel
theorem dX5_mostJoy_36 : decode cX5_mostJoy 36 = .ok (.invokestatic 270, 3) := by decide +kernel
theorem dX5_mostJoy_39 : decode cX5_mostJoy 39 = .ok (.ifCond .eq 40, 3) := by decide +kernel
theorem dX5_mostJoy_42 : decode cX5_mostJoy 42 = .ok (.aload_n 0, 1) := by decide +kernel
theorem dX5_mostJoy_43 : decode cX5_mostJoy 43 = .ok (.iload_n 1, 1) := by decide +kernel
theorem dX5_mostJoy_44 : decode cX5_mostJoy 44 = .ok (.iload_n 2, 1) := by decide +kernel
theorem dX5_mostJoy_45 : decode cX5_mostJoy 45 = .ok (.iconst 1, 1) := by decide +kernel
theorem dX5_mostJoy_46 : decode cX5_mostJoy 46 = .ok (.iadd, 1) := by decide +kernel
theorem dX5_mostJoy_47 : decode cX5_mostJoy 47 = .ok (.iload_n 3, 1) := by decide +kernel
theorem dX5_mostJoy_48 : decode cX5_mostJoy 48 = .ok (.iload 5, 2) := by decide +kernel
theorem dX5_mostJoy_50 : decode cX5_mostJoy 50 = .ok (.invokestatic 255, 3) := by decide +kernel
theorem dX5_mostJoy_53 : decode cX5_mostJoy 53 = .ok (.invokestatic 248, 3) := by decide +kernel
theorem dX5_mostJoy_56 : decode cX5_mostJoy 56 = .ok (.istore 6, 2) := by decide +kernel
theorem dX5_mostJoy_58 : decode cX5_mostJoy 58 = .ok (.iload 4, 2) := by decide +kernel
theorem dX5_mostJoy_60 : decode cX5_mostJoy 60 = .ok (.aload_n 0, 1) := by decide +kernel
theorem dX5_mostJoy_61 : decode cX5_mostJoy 61 = .ok (.iload_n 2, 1) := by decide +kernel
theorem dX5_mostJoy_62 : decode cX5_mostJoy 62 = .ok (.bipush 7, 2) := by decide +kernel
theorem dX5_mostJoy_64 : decode cX5_mostJoy 64 = .ok (.imul, 1) := by decide +kernel
theorem dX5_mostJoy_65 : decode cX5_mostJoy 65 = .ok (.iload 5, 2) := by decide +kernel
theorem dX5_mostJoy_67 : decode cX5_mostJoy 67 = .ok (.iadd, 1) := by decide +kernel
theorem dX5_mostJoy_68 : decode cX5_mostJoy 68 = .ok (.invokestatic 196, 3) := by decide +kernel
theorem dX5_mostJoy_71 : decode cX5_mostJoy 71 = .ok (.iload 6, 2) := by decide +kernel
theorem dX5_mostJoy_73 : decode cX5_mostJoy 73 = .ok (.iadd, 1) := by decide +kernel
theorem dX5_mostJoy_74 : decode cX5_mostJoy 74 = .ok (.invokestatic 83, 3) := by decide +kernel
theorem dX5_mostJoy_77 : decode cX5_mostJoy 77 = .ok (.istore 4, 2) := by decide +kernel
theorem dX5_mostJoy_79 : decode cX5_mostJoy 79 = .ok (.iinc 5 1, 3) := by decide +kernel
theorem dX5_mostJoy_82 : decode cX5_mostJoy 82 = .ok (.goto (-56), 3) := by decide +kernel
theorem dX5_mostJoy_85 : decode cX5_mostJoy 85 = .ok (.iload 4, 2) := by decide +kernel
theorem dX5_mostJoy_87 : decode cX5_mostJoy 87 = .ok (.ireturn, 1) := by decide +kernel
theorem dX5_firstFor_0 : decode cX5_firstFor 0 = .ok (.aload_n 0, 1) := by decide +kernel
theorem dX5_firstFor_1 : decode cX5_firstFor 1 = .ok (.getfield 10, 3) := by decide +kernel
theorem dX5_firstFor_4 : decode cX5_firstFor 4 = .ok (.getfield 89, 3) := by decide +kernel
theorem dX5_firstFor_7 : decode cX5_firstFor 7 = .ok (.getfield 120, 3) := by decide +kernel
theorem dX5_firstFor_10 : decode cX5_firstFor 10 = .ok (.istore_n 3, 1) := by decide +kernel
theorem dX5_firstFor_11 : decode cX5_firstFor 11 = .ok (.aload_n 0, 1) := by decide +kernel
theorem dX5_firstFor_12 : decode cX5_firstFor 12 = .ok (.getfield 36, 3) := by decide +kernel
theorem dX5_firstFor_15 : decode cX5_firstFor 15 = .ok (.iload_n 3, 1) := by decide +kernel
theorem dX5_firstFor_16 : decode cX5_firstFor 16 = .ok (.iload_n 1, 1) := by decide +kernel
theorem dX5_firstFor_17 : decode cX5_firstFor 17 = .ok (.iload_n 2, 1) := by decide +kernel
theorem dX5_firstFor_18 : decode cX5_firstFor 18 = .ok (.invokestatic 248, 3) := by decide +kernel
theorem dX5_firstFor_21 : decode cX5_firstFor 21 = .ok (.istore 4, 2) := by decide +kernel
theorem dX5_firstFor_23 : decode cX5_firstFor 23 = .ok (.aload_n 0, 1) := by decide +kernel
theorem dX5_firstFor_24 : decode cX5_firstFor 24 = .ok (.getfield 36, 3) := by decide +kernel
theorem dX5_firstFor_27 : decode cX5_firstFor 27 = .ok (.iload_n 3, 1) := by decide +kernel
theorem dX5_firstFor_28 : decode cX5_firstFor 28 = .ok (.iload_n 1, 1) := by decide +kernel
theorem dX5_firstFor_29 : decode cX5_firstFor 29 = .ok (.iconst 1, 1) := by decide +kernel
theorem dX5_firstFor_30 : decode cX5_firstFor 30 = .ok (.iadd, 1) := by decide +kernel
theorem dX5_firstFor_31 : decode cX5_firstFor 31 = .ok (.iload_n 2, 1) := by decide +kernel
theorem dX5_firstFor_32 : decode cX5_firstFor 32 = .ok (.invokestatic 248, 3) := by decide +kernel
theorem dX5_firstFor_35 : decode cX5_firstFor 35 = .ok (.iload 4, 2) := by decide +kernel
theorem dX5_firstFor_37 : decode cX5_firstFor 37 = .ok (.if_icmp .ne 5, 3) := by decide +kernel
theorem dX5_firstFor_40 : decode cX5_firstFor 40 = .ok (.iconst (-1), 1) := by decide +kernel
theorem dX5_firstFor_41 : decode cX5_firstFor 41 = .ok (.ireturn, 1) := by decide +kernel
theorem dX5_firstFor_42 : decode cX5_firstFor 42 = .ok (.iconst 0, 1) := by decide +kernel
theorem dX5_firstFor_43 : decode cX5_firstFor 43 = .ok (.istore 5, 2) := by decide +kernel
theorem dX5_firstFor_45 : decode cX5_firstFor 45 = .ok (.iload 5, 2) := by decide +kernel
theorem dX5_firstFor_47 : decode cX5_firstFor 47 = .ok (.bipush 7, 2) := by decide +kernel
theorem dX5_firstFor_49 : decode cX5_firstFor 49 = .ok (.if_icmp .ge 62, 3) := by decide +kernel
theorem dX5_firstFor_52 : decode cX5_firstFor 52 = .ok (.iload_n 2, 1) := by decide +kernel
theorem dX5_firstFor_53 : decode cX5_firstFor 53 = .ok (.iload 5, 2) := by decide +kernel
theorem dX5_firstFor_55 : decode cX5_firstFor 55 = .ok (.invokestatic 270, 3) := by decide +kernel
theorem dX5_firstFor_58 : decode cX5_firstFor 58 = .ok (.ifCond .eq 47, 3) := by decide +kernel
theorem dX5_firstFor_61 : decode cX5_firstFor 61 = .ok (.aload_n 0, 1) := by decide +kernel
theorem dX5_firstFor_62 : decode cX5_firstFor 62 = .ok (.getfield 36, 3) := by decide +kernel
theorem dX5_firstFor_65 : decode cX5_firstFor 65 = .ok (.iload_n 3, 1) := by decide +kernel
theorem dX5_firstFor_66 : decode cX5_firstFor 66 = .ok (.iload_n 1, 1) := by decide +kernel
theorem dX5_firstFor_67 : decode cX5_firstFor 67 = .ok (.iconst 1, 1) := by decide +kernel
theorem dX5_firstFor_68 : decode cX5_firstFor 68 = .ok (.iadd, 1) := by decide +kernel
theorem dX5_firstFor_69 : decode cX5_firstFor 69 = .ok (.iload_n 2, 1) := by decide +kernel
theorem dX5_firstFor_70 : decode cX5_firstFor 70 = .ok (.iload 5, 2) := by decide +kernel
theorem dX5_firstFor_72 : decode cX5_firstFor 72 = .ok (.invokestatic 255, 3) := by decide +kernel
theorem dX5_firstFor_75 : decode cX5_firstFor 75 = .ok (.invokestatic 248, 3) := by decide +kernel
theorem dX5_firstFor_78 : decode cX5_firstFor 78 = .ok (.istore 6, 2) := by decide +kernel
theorem dX5_firstFor_80 : decode cX5_firstFor 80 = .ok (.aload_n 0, 1) := by decide +kernel
theorem dX5_firstFor_81 : decode cX5_firstFor 81 = .ok (.getfield 36, 3) := by decide +kernel
theorem dX5_firstFor_84 : decode cX5_firstFor 84 = .ok (.iload_n 1, 1) := by decide +kernel
theorem dX5_firstFor_85 : decode cX5_firstFor 85 = .ok (.bipush 7, 2) := by decide +kernel
theorem dX5_firstFor_87 : decode cX5_firstFor 87 = .ok (.imul, 1) := by decide +kernel
theorem dX5_firstFor_88 : decode cX5_firstFor 88 = .ok (.iload 5, 2) := by decide +kernel
theorem dX5_firstFor_90 : decode cX5_firstFor 90 = .ok (.iadd, 1) := by decide +kernel
theorem dX5_firstFor_91 : decode cX5_firstFor 91 = .ok (.invokestatic 196, 3) := by decide +kernel
theorem dX5_firstFor_94 : decode cX5_firstFor 94 = .ok (.iload 6, 2) := by decide +kernel
theorem dX5_firstFor_96 : decode cX5_firstFor 96 = .ok (.iadd, 1) := by decide +kernel
theorem dX5_firstFor_97 : decode cX5_firstFor 97 = .ok (.iload 4, 2) := by decide +kernel
theorem dX5_firstFor_99 : decode cX5_firstFor 99 = .ok (.if_icmp .ne 6, 3) := by decide +kernel
theorem dX5_firstFor_102 : decode cX5_firstFor 102 = .ok (.iload 5, 2) := by decide +kernel
theorem dX5_firstFor_104 : decode cX5_firstFor 104 = .ok (.ireturn, 1) := by decide +kernel
theorem dX5_firstFor_105 : decode cX5_firstFor 105 = .ok (.iinc 5 1, 3) := by decide +kernel
theorem dX5_firstFor_108 : decode cX5_firstFor 108 = .ok (.goto (-63), 3) := by decide +kernel
theorem dX5_firstFor_111 : decode cX5_firstFor 111 = .ok (.iconst (-1), 1) := by decide +kernel
theorem dX5_firstFor_112 : decode cX5_firstFor 112 = .ok (.ireturn, 1) := by decide +kernel
theorem dX5_sumOver_0 : decode cX5_sumOver 0 = .ok (.iconst 0, 1) := by decide +kernel
theorem dX5_sumOver_1 : decode cX5_sumOver 1 = .ok (.istore_n 3, 1) := by decide +kernel
theorem dX5_sumOver_2 : decode cX5_sumOver 2 = .ok (.iconst 0, 1) := by decide +kernel
theorem dX5_sumOver_3 : decode cX5_sumOver 3 = .ok (.istore 4, 2) := by decide +kernel
theorem dX5_sumOver_5 : decode cX5_sumOver 5 = .ok (.iload 4, 2) := by decide +kernel
theorem dX5_sumOver_7 : decode cX5_sumOver 7 = .ok (.bipush 7, 2) := by decide +kernel
theorem dX5_sumOver_9 : decode cX5_sumOver 9 = .ok (.if_icmp .ge 29, 3) := by decide +kernel
theorem dX5_sumOver_12 : decode cX5_sumOver 12 = .ok (.iload_n 2, 1) := by decide +kernel
theorem dX5_sumOver_13 : decode cX5_sumOver 13 = .ok (.iload 4, 2) := by decide +kernel
theorem dX5_sumOver_15 : decode cX5_sumOver 15 = .ok (.invokestatic 270, 3) := by decide +kernel
theorem dX5_sumOver_18 : decode cX5_sumOver 18 = .ok (.ifCond .eq 14, 3) := by decide +kernel
theorem dX5_sumOver_21 : decode cX5_sumOver 21 = .ok (.iload_n 3, 1) := by decide +kernel
theorem dX5_sumOver_22 : decode cX5_sumOver 22 = .ok (.aload_n 0, 1) := by decide +kernel
theorem dX5_sumOver_23 : decode cX5_sumOver 23 = .ok (.iload_n 1, 1) := by decide +kernel
theorem dX5_sumOver_24 : decode cX5_sumOver 24 = .ok (.iload 4, 2) := by decide +kernel
theorem dX5_sumOver_26 : decode cX5_sumOver 26 = .ok (.iadd, 1) := by decide +kernel
theorem dX5_sumOver_27 : decode cX5_sumOver 27 = .ok (.invokestatic 196, 3) := by decide +kernel
theorem dX5_sumOver_30 : decode cX5_sumOver 30 = .ok (.iadd, 1) := by decide +kernel
theorem dX5_sumOver_31 : decode cX5_sumOver 31 = .ok (.istore_n 3, 1) := by decide +kernel
theorem dX5_sumOver_32 : decode cX5_sumOver 32 = .ok (.iinc 4 1, 3) := by decide +kernel
theorem dX5_sumOver_35 : decode cX5_sumOver 35 = .ok (.goto (-30), 3) := by decide +kernel
theorem dX5_sumOver_38 : decode cX5_sumOver 38 = .ok (.iload_n 3, 1) := by decide +kernel
theorem dX5_sumOver_39 : decode cX5_sumOver 39 = .ok (.ireturn, 1) := by decide +kernel
theorem dX5_bestBuy_0 : decode cX5_bestBuy 0 = .ok (.iconst 0, 1) := by decide +kernel
theorem dX5_bestBuy_1 : decode cX5_bestBuy 1 = .ok (.istore 4, 2) := by decide +kernel
theorem dX5_bestBuy_3 : decode cX5_bestBuy 3 = .ok (.iconst 0, 1) := by decide +kernel
theorem dX5_bestBuy_4 : decode cX5_bestBuy 4 = .ok (.istore 5, 2) := by decide +kernel
theorem dX5_bestBuy_6 : decode cX5_bestBuy 6 = .ok (.iconst 1, 1) := by decide +kernel
theorem dX5_bestBuy_7 : decode cX5_bestBuy 7 = .ok (.istore 6, 2) := by decide +kernel
theorem dX5_bestBuy_9 : decode cX5_bestBuy 9 = .ok (.iload 6, 2) := by decide +kernel
theorem dX5_bestBuy_11 : decode cX5_bestBuy 11 = .ok (.sipush 128, 3) := by decide +kernel
theorem dX5_bestBuy_14 : decode cX5_bestBuy 14 = .ok (.if_icmp .ge 62, 3) := by decide +kernel
theorem dX5_bestBuy_17 : decode cX5_bestBuy 17 = .ok (.iload 6, 2) := by decide +kernel
theorem dX5_bestBuy_19 : decode cX5_bestBuy 19 = .ok (.iload_n 3, 1) := by decide +kernel
theorem dX5_bestBuy_20 : decode cX5_bestBuy 20 = .ok (.iconst (-1), 1) := by decide +kernel
theorem dX5_bestBuy_21 : decode cX5_bestBuy 21 = .ok (.ixor, 1) := by decide +kernel
theorem dX5_bestBuy_22 : decode cX5_bestBuy 22 = .ok (.iand, 1) := by decide +kernel
theorem dX5_bestBuy_23 : decode cX5_bestBuy 23 = .ok (.ifCond .ne 47, 3) := by decide +kernel
theorem dX5_bestBuy_26 : decode cX5_bestBuy 26 = .ok (.aload_n 0, 1) := by decide +kernel
theorem dX5_bestBuy_27 : decode cX5_bestBuy 27 = .ok (.getfield 40, 3) := by decide +kernel
theorem dX5_bestBuy_30 : decode cX5_bestBuy 30 = .ok (.iconst 0, 1) := by decide +kernel
theorem dX5_bestBuy_31 : decode cX5_bestBuy 31 = .ok (.iload 6, 2) := by decide +kernel
theorem dX5_bestBuy_33 : decode cX5_bestBuy 33 = .ok (.invokestatic 262, 3) := by decide +kernel
theorem dX5_bestBuy_36 : decode cX5_bestBuy 36 = .ok (.iload_n 1, 1) := by decide +kernel
theorem dX5_bestBuy_37 : decode cX5_bestBuy 37 = .ok (.if_icmp .gt 33, 3) := by decide +kernel
theorem dX5_bestBuy_40 : decode cX5_bestBuy 40 = .ok (.aload_n 0, 1) := by decide +kernel
theorem dX5_bestBuy_41 : decode cX5_bestBuy 41 = .ok (.getfield 36, 3) := by decide +kernel
theorem dX5_bestBuy_44 : decode cX5_bestBuy 44 = .ok (.iload_n 2, 1) := by decide +kernel
theorem dX5_bestBuy_45 : decode cX5_bestBuy 45 = .ok (.bipush 7, 2) := by decide +kernel
theorem dX5_bestBuy_47 : decode cX5_bestBuy 47 = .ok (.imul, 1) := by decide +kernel
theorem dX5_bestBuy_48 : decode cX5_bestBuy 48 = .ok (.iload 6, 2) := by decide +kernel
theorem dX5_bestBuy_50 : decode cX5_bestBuy 50 = .ok (.invokestatic 262, 3) := by decide +kernel
theorem dX5_bestBuy_53 : decode cX5_bestBuy 53 = .ok (.istore 7, 2) := by decide +kernel
theorem dX5_bestBuy_55 : decode cX5_bestBuy 55 = .ok (.iload 7, 2) := by decide +kernel
theorem dX5_bestBuy_57 : decode cX5_bestBuy 57 = .ok (.iload 5, 2) := by decide +kernel
theorem dX5_bestBuy_59 : decode cX5_bestBuy 59 = .ok (.if_icmp .le 11, 3) := by decide +kernel
theorem dX5_bestBuy_62 : decode cX5_bestBuy 62 = .ok (.iload 7, 2) := by decide +kernel
theorem dX5_bestBuy_64 : decode cX5_bestBuy 64 = .ok (.istore 5, 2) := by decide +kernel
theorem dX5_bestBuy_66 : decode cX5_bestBuy 66 = .ok (.iload 6, 2) := by decide +kernel
theorem dX5_bestBuy_68 : decode cX5_bestBuy 68 = .ok (.istore 4, 2) := by decide +kernel
theorem dX5_bestBuy_70 : decode cX5_bestBuy 70 = .ok (.iinc 6 1, 3) := by decide +kernel
theorem dX5_bestBuy_73 : decode cX5_bestBuy 73 = .ok (.goto (-64), 3) := by decide +kernel
theorem dX5_bestBuy_76 : decode cX5_bestBuy 76 = .ok (.iload 4, 2) := by decide +kernel
theorem dX5_bestBuy_78 : decode cX5_bestBuy 78 = .ok (.ireturn, 1) := by decide +kernel
theorem dX5_leastPrice_0 : decode cX5_leastPrice 0 = .ok (.iload_n 3, 1) := by decide +kernel
theorem dX5_leastPrice_1 : decode cX5_leastPrice 1 = .ok (.iconst 4, 1) := by decide +kernel
theorem dX5_leastPrice_2 : decode cX5_leastPrice 2 = .ok (.if_icmp .lt 5, 3) := by decide +kernel
theorem dX5_leastPrice_5 : decode cX5_leastPrice 5 = .ok (.iconst 0, 1) := by decide +kernel
theorem dX5_leastPrice_6 : decode cX5_leastPrice 6 = .ok (.ireturn, 1) := by decide +kernel
theorem dX5_leastPrice_7 : decode cX5_leastPrice 7 = .ok (.iload_n 2, 1) := by decide +kernel
theorem dX5_leastPrice_8 : decode cX5_leastPrice 8 = .ok (.iload_n 3, 1) := by decide +kernel
theorem dX5_leastPrice_9 : decode cX5_leastPrice 9 = .ok (.invokestatic 270, 3) := by decide +kernel
theorem dX5_leastPrice_12 : decode cX5_leastPrice 12 = .ok (.ifCond .ne 15, 3) := by decide +kernel
theorem dX5_leastPrice_15 : decode cX5_leastPrice 15 = .ok (.aload_n 0, 1) := by decide +kernel
theorem dX5_leastPrice_16 : decode cX5_leastPrice 16 = .ok (.aload_n 1, 1) := by decide +kernel
theorem dX5_leastPrice_17 : decode cX5_leastPrice 17 = .ok (.iload_n 2, 1) := by decide +kernel
theorem dX5_leastPrice_18 : decode cX5_leastPrice 18 = .ok (.iload_n 3, 1) := by decide +kernel
theorem dX5_leastPrice_19 : decode cX5_leastPrice 19 = .ok (.iconst 1, 1) := by decide +kernel
theorem dX5_leastPrice_20 : decode cX5_leastPrice 20 = .ok (.iadd, 1) := by decide +kernel
theorem dX5_leastPrice_21 : decode cX5_leastPrice 21 = .ok (.iload 4, 2) := by decide +kernel
theorem dX5_leastPrice_23 : decode cX5_leastPrice 23 = .ok (.invokestatic 266, 3) := by decide +kernel
theorem dX5_leastPrice_26 : decode cX5_leastPrice 26 = .ok (.ireturn, 1) := by decide +kernel
theorem dX5_leastPrice_27 : decode cX5_leastPrice 27 = .ok (.iconst (-1), 1) := by decide +kernel
theorem dX5_leastPrice_28 : decode cX5_leastPrice 28 = .ok (.istore 5, 2) := by decide +kernel
theorem dX5_leastPrice_30 : decode cX5_leastPrice 30 = .ok (.iconst 0, 1) := by decide +kernel
theorem dX5_leastPrice_31 : decode cX5_leastPrice 31 = .ok (.istore 6, 2) := by decide +kernel
theorem dX5_leastPrice_33 : decode cX5_leastPrice 33 = .ok (.iload 6, 2) := by decide +kernel
theorem dX5_leastPrice_35 : decode cX5_leastPrice 35 = .ok (.bipush 7, 2) := by decide +kernel
theorem dX5_leastPrice_37 : decode cX5_leastPrice 37 = .ok (.if_icmp .ge 86, 3) := by decide +kernel
theorem dX5_leastPrice_40 : decode cX5_leastPrice 40 = .ok (.iload 4, 2) := by decide +kernel
theorem dX5_leastPrice_42 : decode cX5_leastPrice 42 = .ok (.iload 6, 2) := by decide +kernel
theorem dX5_leastPrice_44 : decode cX5_leastPrice 44 = .ok (.invokestatic 270, 3) := by decide +kernel
theorem dX5_leastPrice_47 : decode cX5_leastPrice 47 = .ok (.ifCond .eq 70, 3) := by decide +kernel
theorem dX5_leastPrice_50 : decode cX5_leastPrice 50 = .ok (.aload_n 0, 1) := by decide +kernel
theorem dX5_leastPrice_51 : decode cX5_leastPrice 51 = .ok (.iload_n 3, 1) := by decide +kernel
theorem dX5_leastPrice_52 : decode cX5_leastPrice 52 = .ok (.bipush 7, 2) := by decide +kernel
theorem dX5_leastPrice_54 : decode cX5_leastPrice 54 = .ok (.imul, 1) := by decide +kernel
theorem dX5_leastPrice_55 : decode cX5_leastPrice 55 = .ok (.iload 6, 2) := by decide +kernel
theorem dX5_leastPrice_57 : decode cX5_leastPrice 57 = .ok (.iadd, 1) := by decide +kernel
theorem dX5_leastPrice_58 : decode cX5_leastPrice 58 = .ok (.invokestatic 196, 3) := by decide +kernel
theorem dX5_leastPrice_61 : decode cX5_leastPrice 61 = .ok (.iconst 1, 1) := by decide +kernel
theorem dX5_leastPrice_62 : decode cX5_leastPrice 62 = .ok (.if_icmp .lt 55, 3) := by decide +kernel
theorem dX5_leastPrice_65 : decode cX5_leastPrice 65 = .ok (.aload_n 0, 1) := by decide +kernel
theorem dX5_leastPrice_66 : decode cX5_leastPrice 66 = .ok (.aload_n 1, 1) := by decide +kernel
theorem dX5_leastPrice_67 : decode cX5_leastPrice 67 = .ok (.iload_n 2, 1) := by decide +kernel
theorem dX5_leastPrice_68 : decode cX5_leastPrice 68 = .ok (.iload_n 3, 1) := by decide +kernel
theorem dX5_leastPrice_69 : decode cX5_leastPrice 69 = .ok (.iconst 1, 1) := by decide +kernel
theorem dX5_leastPrice_70 : decode cX5_leastPrice 70 = .ok (.iadd, 1) := by decide +kernel
theorem dX5_leastPrice_71 : decode cX5_leastPrice 71 = .ok (.iload 4, 2) := by decide +kernel
theorem dX5_leastPrice_73 : decode cX5_leastPrice 73 = .ok (.iload 6, 2) := by decide +kernel
theorem dX5_leastPrice_75 : decode cX5_leastPrice 75 = .ok (.invokestatic 255, 3) := by decide +kernel
theorem dX5_leastPrice_78 : decode cX5_leastPrice 78 = .ok (.invokestatic 266, 3) := by decide +kernel
theorem dX5_leastPrice_81 : decode cX5_leastPrice 81 = .ok (.istore 7, 2) := by decide +kernel
theorem dX5_leastPrice_83 : decode cX5_leastPrice 83 = .ok (.aload_n 1, 1) := by decide +kernel
theorem dX5_leastPrice_84 : decode cX5_leastPrice 84 = .ok (.iload 6, 2) := by decide +kernel
theorem dX5_leastPrice_86 : decode cX5_leastPrice 86 = .ok (.invokestatic 196, 3) := by decide +kernel
theorem dX5_leastPrice_89 : decode cX5_leastPrice 89 = .ok (.iload 7, 2) := by decide +kernel
theorem dX5_leastPrice_91 : decode cX5_leastPrice 91 = .ok (.iadd, 1) := by decide +kernel
theorem dX5_leastPrice_92 : decode cX5_leastPrice 92 = .ok (.istore 8, 2) := by decide +kernel
theorem dX5_leastPrice_94 : decode cX5_leastPrice 94 = .ok (.iload 7, 2) := by decide +kernel
theorem dX5_leastPrice_96 : decode cX5_leastPrice 96 = .ok (.iconst (-1), 1) := by decide +kernel
theorem dX5_leastPrice_97 : decode cX5_leastPrice 97 = .ok (.if_icmp .eq 20, 3) := by decide +kernel
theorem dX5_leastPrice_100 : decode cX5_leastPrice 100 = .ok (.iload 5, 2) := by decide +kernel
theorem dX5_leastPrice_102 : decode cX5_leastPrice 102 = .ok (.iconst (-1), 1) := by decide +kernel
theorem dX5_leastPrice_103 : decode cX5_leastPrice 103 = .ok (.if_icmp .eq 10, 3) := by decide +kernel
theorem dX5_leastPrice_106 : decode cX5_leastPrice 106 = .ok (.iload 8, 2) := by decide +kernel
theorem dX5_leastPrice_108 : decode cX5_leastPrice 108 = .ok (.iload 5, 2) := by decide +kernel
theorem dX5_leastPrice_110 : decode cX5_leastPrice 110 = .ok (.if_icmp .ge 7, 3) := by decide +kernel
theorem dX5_leastPrice_113 : decode cX5_leastPrice 113 = .ok (.iload 8, 2) := by decide +kernel
theorem dX5_leastPrice_115 : decode cX5_leastPrice 115 = .ok (.istore 5, 2) := by decide +kernel
theorem dX5_leastPrice_117 : decode cX5_leastPrice 117 = .ok (.iinc 6 1, 3) := by decide +kernel
theorem dX5_leastPrice_120 : decode cX5_leastPrice 120 = .ok (.goto (-87), 3) := by decide +kernel
theorem dX5_leastPrice_123 : decode cX5_leastPrice 123 = .ok (.iload 5, 2) := by decide +kernel
theorem dX5_leastPrice_125 : decode cX5_leastPrice 125 = .ok (.ireturn, 1) := by decide +kernel
theorem dX5_seen_0 : decode cX5_seen 0 = .ok (.iload_n 1, 1) := by decide +kernel
theorem dX5_seen_1 : decode cX5_seen 1 = .ok (.iconst 0, 1) := by decide +kernel
theorem dX5_seen_2 : decode cX5_seen 2 = .ok (.bipush 99, 2) := by decide +kernel
theorem dX5_seen_4 : decode cX5_seen 4 = .ok (.invokestatic 98, 3) := by decide +kernel
theorem dX5_seen_7 : decode cX5_seen 7 = .ok (.ifCond .eq 13, 3) := by decide +kernel
theorem dX5_seen_10 : decode cX5_seen 10 = .ok (.iload_n 2, 1) := by decide +kernel
theorem dX5_seen_11 : decode cX5_seen 11 = .ok (.iconst 0, 1) := by decide +kernel
theorem dX5_seen_12 : decode cX5_seen 12 = .ok (.bipush 30, 2) := by decide +kernel
theorem dX5_seen_14 : decode cX5_seen 14 = .ok (.invokestatic 98, 3) := by decide +kernel
theorem dX5_seen_17 : decode cX5_seen 17 = .ok (.ifCond .ne 8, 3) := by decide +kernel
theorem dX5_seen_20 : decode cX5_seen 20 = .ok (.aload_n 0, 1) := by decide +kernel
theorem dX5_seen_21 : decode cX5_seen 21 = .ok (.invokevirtual 102, 3) := by decide +kernel
theorem dX5_seen_24 : decode cX5_seen 24 = .ok (.ireturn, 1) := by decide +kernel
theorem dX5_seen_25 : decode cX5_seen 25 = .ok (.aload_n 0, 1) := by decide +kernel
theorem dX5_seen_26 : decode cX5_seen 26 = .ok (.getfield 10, 3) := by decide +kernel
theorem dX5_seen_29 : decode cX5_seen 29 = .ok (.getfield 273, 3) := by decide +kernel
theorem dX5_seen_32 : decode cX5_seen 32 = .ok (.invokevirtual 277, 3) := by decide +kernel
theorem dX5_seen_35 : decode cX5_seen 35 = .ok (.ifCond .eq 10, 3) := by decide +kernel
theorem dX5_seen_38 : decode cX5_seen 38 = .ok (.aload_n 0, 1) := by decide +kernel
theorem dX5_seen_39 : decode cX5_seen 39 = .ok (.invokevirtual 105, 3) := by decide +kernel
theorem dX5_seen_42 : decode cX5_seen 42 = .ok (.goto 17, 3) := by decide +kernel
theorem dX5_seen_45 : decode cX5_seen 45 = .ok (.aload_n 0, 1) := by decide +kernel
theorem dX5_seen_46 : decode cX5_seen 46 = .ok (.getfield 10, 3) := by decide +kernel
theorem dX5_seen_49 : decode cX5_seen 49 = .ok (.getfield 273, 3) := by decide +kernel
theorem dX5_seen_52 : decode cX5_seen 52 = .ok (.iconst 0, 1) := by decide +kernel
theorem dX5_seen_53 : decode cX5_seen 53 = .ok (.iconst 0, 1) := by decide +kernel
theorem dX5_seen_54 : decode cX5_seen 54 = .ok (.iload_n 1, 1) := by decide +kernel
theorem dX5_seen_55 : decode cX5_seen 55 = .ok (.iload_n 2, 1) := by decide +kernel
theorem dX5_seen_56 : decode cX5_seen 56 = .ok (.invokevirtual 282, 3) := by decide +kernel
theorem dX5_seen_59 : decode cX5_seen 59 = .ok (.ireturn, 1) := by decide +kernel
theorem dX5_which_0 : decode cX5_which 0 = .ok (.aload_n 0, 1) := by decide +kernel
theorem dX5_which_1 : decode cX5_which 1 = .ok (.iconst 0, 1) := by decide +kernel
theorem dX5_which_2 : decode cX5_which 2 = .ok (.iconst 0, 1) := by decide +kernel
theorem dX5_which_3 : decode cX5_which 3 = .ok (.aload_n 0, 1) := by decide +kernel
theorem dX5_which_4 : decode cX5_which 4 = .ok (.getfield 10, 3) := by decide +kernel
theorem dX5_which_7 : decode cX5_which 7 = .ok (.getfield 89, 3) := by decide +kernel
theorem dX5_which_10 : decode cX5_which 10 = .ok (.getfield 92, 3) := by decide +kernel
theorem dX5_which_13 : decode cX5_which 13 = .ok (.invokevirtual 286, 3) := by decide +kernel
theorem dX5_which_16 : decode cX5_which 16 = .ok (.ireturn, 1) := by decide +kernel
theorem dX5_tell_0 : decode cX5_tell 0 = .ok (.aload_n 0, 1) := by decide +kernel
theorem dX5_tell_1 : decode cX5_tell 1 = .ok (.iconst 0, 1) := by decide +kernel
theorem dX5_tell_2 : decode cX5_tell 2 = .ok (.iconst 0, 1) := by decide +kernel
theorem dX5_tell_3 : decode cX5_tell 3 = .ok (.aload_n 0, 1) := by decide +kernel
theorem dX5_tell_4 : decode cX5_tell 4 = .ok (.invokevirtual 289, 3) := by decide +kernel
theorem dX5_tell_7 : decode cX5_tell 7 = .ok (.bipush 30, 2) := by decide +kernel
theorem dX5_tell_9 : decode cX5_tell 9 = .ok (.invokevirtual 292, 3) := by decide +kernel
theorem dX5_tell_12 : decode cX5_tell 12 = .ok (.ireturn, 1) := by decide +kernel
theorem dX5_note_0 : decode cX5_note 0 = .ok (.aload_n 0, 1) := by decide +kernel
theorem dX5_note_1 : decode cX5_note 1 = .ok (.getfield 10, 3) := by decide +kernel
theorem dX5_note_4 : decode cX5_note 4 = .ok (.getfield 89, 3) := by decide +kernel
theorem dX5_note_7 : decode cX5_note 7 = .ok (.iload_n 1, 1) := by decide +kernel
theorem dX5_note_8 : decode cX5_note 8 = .ok (.invokevirtual 179, 3) := by decide +kernel
theorem dX5_note_11 : decode cX5_note 11 = .ok (.ifCond .eq 13, 3) := by decide +kernel
theorem dX5_note_14 : decode cX5_note 14 = .ok (.iload_n 2, 1) := by decide +kernel
theorem dX5_note_15 : decode cX5_note 15 = .ok (.iconst 1, 1) := by decide +kernel
theorem dX5_note_16 : decode cX5_note 16 = .ok (.bipush 9, 2) := by decide +kernel
theorem dX5_note_18 : decode cX5_note 18 = .ok (.invokestatic 98, 3) := by decide +kernel
theorem dX5_note_21 : decode cX5_note 21 = .ok (.ifCond .ne 8, 3) := by decide +kernel
theorem dX5_note_24 : decode cX5_note 24 = .ok (.aload_n 0, 1) := by decide +kernel
theorem dX5_note_25 : decode cX5_note 25 = .ok (.invokevirtual 102, 3) := by decide +kernel
theorem dX5_note_28 : decode cX5_note 28 = .ok (.ireturn, 1) := by decide +kernel
theorem dX5_note_29 : decode cX5_note 29 = .ok (.iload_n 3, 1) := by decide +kernel
theorem dX5_note_30 : decode cX5_note 30 = .ok (.iconst 0, 1) := by decide +kernel
theorem dX5_note_31 : decode cX5_note 31 = .ok (.bipush 99, 2) := by decide +kernel
theorem dX5_note_33 : decode cX5_note 33 = .ok (.invokestatic 98, 3) := by decide +kernel
theorem dX5_note_36 : decode cX5_note 36 = .ok (.ifCond .eq 14, 3) := by decide +kernel
theorem dX5_note_39 : decode cX5_note 39 = .ok (.iload 4, 2) := by decide +kernel
theorem dX5_note_41 : decode cX5_note 41 = .ok (.iconst 0, 1) := by decide +kernel
theorem dX5_note_42 : decode cX5_note 42 = .ok (.bipush 30, 2) := by decide +kernel
theorem dX5_note_44 : decode cX5_note 44 = .ok (.invokestatic 98, 3) := by decide +kernel
theorem dX5_note_47 : decode cX5_note 47 = .ok (.ifCond .ne 8, 3) := by decide +kernel
theorem dX5_note_50 : decode cX5_note 50 = .ok (.aload_n 0, 1) := by decide +kernel
theorem dX5_note_51 : decode cX5_note 51 = .ok (.invokevirtual 102, 3) := by decide +kernel
theorem dX5_note_54 : decode cX5_note 54 = .ok (.ireturn, 1) := by decide +kernel
theorem dX5_note_55 : decode cX5_note 55 = .ok (.aload_n 0, 1) := by decide +kernel
theorem dX5_note_56 : decode cX5_note 56 = .ok (.getfield 10, 3) := by decide +kernel
theorem dX5_note_59 : decode cX5_note 59 = .ok (.getfield 295, 3) := by decide +kernel
theorem dX5_note_62 : decode cX5_note 62 = .ok (.invokevirtual 277, 3) := by decide +kernel
theorem dX5_note_65 : decode cX5_note 65 = .ok (.ifCond .eq 10, 3) := by decide +kernel
theorem dX5_note_68 : decode cX5_note 68 = .ok (.aload_n 0, 1) := by decide +kernel
theorem dX5_note_69 : decode cX5_note 69 = .ok (.invokevirtual 105, 3) := by decide +kernel
theorem dX5_note_72 : decode cX5_note 72 = .ok (.goto 18, 3) := by decide +kernel
theorem dX5_note_75 : decode cX5_note 75 = .ok (.aload_n 0, 1) := by decide +kernel
theorem dX5_note_76 : decode cX5_note 76 = .ok (.getfield 10, 3) := by decide +kernel
theorem dX5_note_79 : decode cX5_note 79 = .ok (.getfield 295, 3) := by decide +kernel
theorem dX5_note_82 : decode cX5_note 82 = .ok (.iload_n 1, 1) := by decide +kernel
theorem dX5_note_83 : decode cX5_note 83 = .ok (.iload_n 2, 1) := by decide +kernel
theorem dX5_note_84 : decode cX5_note 84 = .ok (.iload_n 3, 1) := by decide +kernel
theorem dX5_note_85 : decode cX5_note 85 = .ok (.iload 4, 2) := by decide +kernel
theorem dX5_note_87 : decode cX5_note 87 = .ok (.invokevirtual 282, 3) := by decide +kernel
theorem dX5_note_90 : decode cX5_note 90 = .ok (.ireturn, 1) := by decide +kernel
theorem dX5_mark_0 : decode cX5_mark 0 = .ok (.aload_n 0, 1) := by decide +kernel
theorem dX5_mark_1 : decode cX5_mark 1 = .ok (.getfield 10, 3) := by decide +kernel
theorem dX5_mark_4 : decode cX5_mark 4 = .ok (.getfield 89, 3) := by decide +kernel
theorem dX5_mark_7 : decode cX5_mark 7 = .ok (.iload_n 1, 1) := by decide +kernel
theorem dX5_mark_8 : decode cX5_mark 8 = .ok (.invokevirtual 200, 3) := by decide +kernel
theorem dX5_mark_11 : decode cX5_mark 11 = .ok (.ifCond .eq 13, 3) := by decide +kernel
theorem dX5_mark_14 : decode cX5_mark 14 = .ok (.iload_n 2, 1) := by decide +kernel
theorem dX5_mark_15 : decode cX5_mark 15 = .ok (.iconst 1, 1) := by decide +kernel
theorem dX5_mark_16 : decode cX5_mark 16 = .ok (.bipush 9, 2) := by decide +kernel
theorem dX5_mark_18 : decode cX5_mark 18 = .ok (.invokestatic 98, 3) := by decide +kernel
theorem dX5_mark_21 : decode cX5_mark 21 = .ok (.ifCond .ne 8, 3) := by decide +kernel
theorem dX5_mark_24 : decode cX5_mark 24 = .ok (.aload_n 0, 1) := by decide +kernel
theorem dX5_mark_25 : decode cX5_mark 25 = .ok (.invokevirtual 102, 3) := by decide +kernel
theorem dX5_mark_28 : decode cX5_mark 28 = .ok (.ireturn, 1) := by decide +kernel
theorem dX5_mark_29 : decode cX5_mark 29 = .ok (.iload_n 3, 1) := by decide +kernel
theorem dX5_mark_30 : decode cX5_mark 30 = .ok (.iconst 0, 1) := by decide +kernel
theorem dX5_mark_31 : decode cX5_mark 31 = .ok (.bipush 30, 2) := by decide +kernel
theorem dX5_mark_33 : decode cX5_mark 33 = .ok (.invokestatic 98, 3) := by decide +kernel
theorem dX5_mark_36 : decode cX5_mark 36 = .ok (.ifCond .eq 14, 3) := by decide +kernel
theorem dX5_mark_39 : decode cX5_mark 39 = .ok (.iload 4, 2) := by decide +kernel
theorem dX5_mark_41 : decode cX5_mark 41 = .ok (.iconst 0, 1) := by decide +kernel
theorem dX5_mark_42 : decode cX5_mark 42 = .ok (.bipush 20, 2) := by decide +kernel
theorem dX5_mark_44 : decode cX5_mark 44 = .ok (.invokestatic 98, 3) := by decide +kernel
theorem dX5_mark_47 : decode cX5_mark 47 = .ok (.ifCond .ne 8, 3) := by decide +kernel
theorem dX5_mark_50 : decode cX5_mark 50 = .ok (.aload_n 0, 1) := by decide +kernel
theorem dX5_mark_51 : decode cX5_mark 51 = .ok (.invokevirtual 102, 3) := by decide +kernel
theorem dX5_mark_54 : decode cX5_mark 54 = .ok (.ireturn, 1) := by decide +kernel
theorem dX5_mark_55 : decode cX5_mark 55 = .ok (.aload_n 0, 1) := by decide +kernel
theorem dX5_mark_56 : decode cX5_mark 56 = .ok (.getfield 10, 3) := by decide +kernel
theorem dX5_mark_59 : decode cX5_mark 59 = .ok (.getfield 298, 3) := by decide +kernel
theorem dX5_mark_62 : decode cX5_mark 62 = .ok (.invokevirtual 277, 3) := by decide +kernel
theorem dX5_mark_65 : decode cX5_mark 65 = .ok (.ifCond .eq 10, 3) := by decide +kernel
theorem dX5_mark_68 : decode cX5_mark 68 = .ok (.aload_n 0, 1) := by decide +kernel
theorem dX5_mark_69 : decode cX5_mark 69 = .ok (.invokevirtual 105, 3) := by decide +kernel
theorem dX5_mark_72 : decode cX5_mark 72 = .ok (.goto 18, 3) := by decide +kernel
theorem dX5_mark_75 : decode cX5_mark 75 = .ok (.aload_n 0, 1) := by decide +kernel
theorem dX5_mark_76 : decode cX5_mark 76 = .ok (.getfield 10, 3) := by decide +kernel
theorem dX5_mark_79 : decode cX5_mark 79 = .ok (.getfield 298, 3) := by decide +kernel
theorem dX5_mark_82 : decode cX5_mark 82 = .ok (.iload_n 1, 1) := by decide +kernel
theorem dX5_mark_83 : decode cX5_mark 83 = .ok (.iload_n 2, 1) := by decide +kernel
theorem dX5_mark_84 : decode cX5_mark 84 = .ok (.iload_n 3, 1) := by decide +kernel
theorem dX5_mark_85 : decode cX5_mark 85 = .ok (.iload 4, 2) := by decide +kernel
theorem dX5_mark_87 : decode cX5_mark 87 = .ok (.invokevirtual 282, 3) := by decide +kernel
theorem dX5_mark_90 : decode cX5_mark 90 = .ok (.ireturn, 1) := by decide +kernel
theorem dX5_forget_0 : decode cX5_forget 0 = .ok (.iload_n 1, 1) := by decide +kernel
theorem dX5_forget_1 : decode cX5_forget 1 = .ok (.iconst 0, 1) := by decide +kernel
theorem dX5_forget_2 : decode cX5_forget 2 = .ok (.iconst 2, 1) := by decide +kernel
theorem dX5_forget_3 : decode cX5_forget 3 = .ok (.invokestatic 98, 3) := by decide +kernel
theorem dX5_forget_6 : decode cX5_forget 6 = .ok (.ifCond .ne 8, 3) := by decide +kernel
theorem dX5_forget_9 : decode cX5_forget 9 = .ok (.aload_n 0, 1) := by decide +kernel
theorem dX5_forget_10 : decode cX5_forget 10 = .ok (.invokevirtual 102, 3) := by decide +kernel
theorem dX5_forget_13 : decode cX5_forget 13 = .ok (.ireturn, 1) := by decide +kernel
theorem dX5_forget_14 : decode cX5_forget 14 = .ok (.aload_n 0, 1) := by decide +kernel
theorem dX5_forget_15 : decode cX5_forget 15 = .ok (.getfield 10, 3) := by decide +kernel
theorem dX5_forget_18 : decode cX5_forget 18 = .ok (.iload_n 1, 1) := by decide +kernel
theorem dX5_forget_19 : decode cX5_forget 19 = .ok (.invokevirtual 301, 3) := by decide +kernel
theorem dX5_forget_22 : decode cX5_forget 22 = .ok (.astore_n 2, 1) := by decide +kernel
theorem dX5_forget_23 : decode cX5_forget 23 = .ok (.aload_n 2, 1) := by decide +kernel
theorem dX5_forget_24 : decode cX5_forget 24 = .ok (.getfield 305, 3) := by decide +kernel
theorem dX5_forget_27 : decode cX5_forget 27 = .ok (.istore_n 3, 1) := by decide +kernel
theorem dX5_forget_28 : decode cX5_forget 28 = .ok (.aload_n 2, 1) := by decide +kernel
theorem dX5_forget_29 : decode cX5_forget 29 = .ok (.iconst 0, 1) := by decide +kernel
theorem dX5_forget_30 : decode cX5_forget 30 = .ok (.putfield 305, 3) := by decide +kernel
theorem dX5_forget_33 : decode cX5_forget 33 = .ok (.iload_n 3, 1) := by decide +kernel
theorem dX5_forget_34 : decode cX5_forget 34 = .ok (.ireturn, 1) := by decide +kernel
theorem dX5_is_0 : decode cX5_is 0 = .ok (.aload_n 0, 1) := by decide +kernel
theorem dX5_is_1 : decode cX5_is 1 = .ok (.getfield 10, 3) := by decide +kernel
theorem dX5_is_4 : decode cX5_is 4 = .ok (.getfield 89, 3) := by decide +kernel
theorem dX5_is_7 : decode cX5_is 7 = .ok (.iload_n 1, 1) := by decide +kernel
theorem dX5_is_8 : decode cX5_is 8 = .ok (.invokevirtual 179, 3) := by decide +kernel
theorem dX5_is_11 : decode cX5_is 11 = .ok (.ifCond .eq 14, 3) := by decide +kernel
theorem dX5_is_14 : decode cX5_is 14 = .ok (.aload_n 0, 1) := by decide +kernel
theorem dX5_is_15 : decode cX5_is 15 = .ok (.iconst 1, 1) := by decide +kernel
theorem dX5_is_16 : decode cX5_is 16 = .ok (.iload_n 1, 1) := by decide +kernel
theorem dX5_is_17 : decode cX5_is 17 = .ok (.bipush 6, 2) := by decide +kernel
theorem dX5_is_19 : decode cX5_is 19 = .ok (.invokevirtual 286, 3) := by decide +kernel
theorem dX5_is_22 : decode cX5_is 22 = .ok (.goto 7, 3) := by decide +kernel
theorem dX5_is_25 : decode cX5_is 25 = .ok (.aload_n 0, 1) := by decide +kernel
theorem dX5_is_26 : decode cX5_is 26 = .ok (.invokevirtual 102, 3) := by decide +kernel
theorem dX5_is_29 : decode cX5_is 29 = .ok (.ireturn, 1) := by decide +kernel
theorem dX5_look_0 : decode cX5_look 0 = .ok (.aload_n 0, 1) := by decide +kernel
theorem dX5_look_1 : decode cX5_look 1 = .ok (.getfield 10, 3) := by decide +kernel
theorem dX5_look_4 : decode cX5_look 4 = .ok (.getfield 89, 3) := by decide +kernel
theorem dX5_look_7 : decode cX5_look 7 = .ok (.iload_n 1, 1) := by decide +kernel
theorem dX5_look_8 : decode cX5_look 8 = .ok (.invokevirtual 179, 3) := by decide +kernel
theorem dX5_look_11 : decode cX5_look 11 = .ok (.ifCond .ne 8, 3) := by decide +kernel
theorem dX5_look_14 : decode cX5_look 14 = .ok (.aload_n 0, 1) := by decide +kernel
theorem dX5_look_15 : decode cX5_look 15 = .ok (.invokevirtual 102, 3) := by decide +kernel
theorem dX5_look_18 : decode cX5_look 18 = .ok (.ireturn, 1) := by decide +kernel
theorem dX5_look_19 : decode cX5_look 19 = .ok (.aload_n 0, 1) := by decide +kernel
theorem dX5_look_20 : decode cX5_look 20 = .ok (.iconst 1, 1) := by decide +kernel
theorem dX5_look_21 : decode cX5_look 21 = .ok (.aload_n 0, 1) := by decide +kernel
theorem dX5_look_22 : decode cX5_look 22 = .ok (.getfield 10, 3) := by decide +kernel
theorem dX5_look_25 : decode cX5_look 25 = .ok (.getfield 89, 3) := by decide +kernel
theorem dX5_look_28 : decode cX5_look 28 = .ok (.getfield 215, 3) := by decide +kernel
theorem dX5_look_31 : decode cX5_look 31 = .ok (.iload_n 1, 1) := by decide +kernel
theorem dX5_look_32 : decode cX5_look 32 = .ok (.invokestatic 196, 3) := by decide +kernel
theorem dX5_look_35 : decode cX5_look 35 = .ok (.aload_n 0, 1) := by decide +kernel
theorem dX5_look_36 : decode cX5_look 36 = .ok (.iconst 1, 1) := by decide +kernel
theorem dX5_look_37 : decode cX5_look 37 = .ok (.iload_n 1, 1) := by decide +kernel
theorem dX5_look_38 : decode cX5_look 38 = .ok (.bipush 6, 2) := by decide +kernel
theorem dX5_look_40 : decode cX5_look 40 = .ok (.invokevirtual 286, 3) := by decide +kernel
theorem dX5_look_43 : decode cX5_look 43 = .ok (.bipush 60, 2) := by decide +kernel
theorem dX5_look_45 : decode cX5_look 45 = .ok (.invokevirtual 292, 3) := by decide +kernel
theorem dX5_look_48 : decode cX5_look 48 = .ok (.ireturn, 1) := by decide +kernel
theorem dX5_kinds_0 : decode cX5_kinds 0 = .ok (.aload_n 0, 1) := by decide +kernel
theorem dX5_kinds_1 : decode cX5_kinds 1 = .ok (.getfield 10, 3) := by decide +kernel
theorem dX5_kinds_4 : decode cX5_kinds 4 = .ok (.getfield 89, 3) := by decide +kernel
theorem dX5_kinds_7 : decode cX5_kinds 7 = .ok (.iload_n 1, 1) := by decide +kernel
theorem dX5_kinds_8 : decode cX5_kinds 8 = .ok (.invokevirtual 200, 3) := by decide +kernel
theorem dX5_kinds_11 : decode cX5_kinds 11 = .ok (.ifCond .eq 14, 3) := by decide +kernel
theorem dX5_kinds_14 : decode cX5_kinds 14 = .ok (.aload_n 0, 1) := by decide +kernel
theorem dX5_kinds_15 : decode cX5_kinds 15 = .ok (.iconst 2, 1) := by decide +kernel
theorem dX5_kinds_16 : decode cX5_kinds 16 = .ok (.iload_n 1, 1) := by decide +kernel
theorem dX5_kinds_17 : decode cX5_kinds 17 = .ok (.bipush 6, 2) := by decide +kernel
theorem dX5_kinds_19 : decode cX5_kinds 19 = .ok (.invokevirtual 286, 3) := by decide +kernel
theorem dX5_kinds_22 : decode cX5_kinds 22 = .ok (.goto 7, 3) := by decide +kernel
theorem dX5_kinds_25 : decode cX5_kinds 25 = .ok (.aload_n 0, 1) := by decide +kernel
theorem dX5_kinds_26 : decode cX5_kinds 26 = .ok (.invokevirtual 102, 3) := by decide +kernel
theorem dX5_kinds_29 : decode cX5_kinds 29 = .ok (.ireturn, 1) := by decide +kernel
theorem dX5_ask_0 : decode cX5_ask 0 = .ok (.aload_n 0, 1) := by decide +kernel
theorem dX5_ask_1 : decode cX5_ask 1 = .ok (.getfield 10, 3) := by decide +kernel
theorem dX5_ask_4 : decode cX5_ask 4 = .ok (.getfield 89, 3) := by decide +kernel
theorem dX5_ask_7 : decode cX5_ask 7 = .ok (.iload_n 1, 1) := by decide +kernel
theorem dX5_ask_8 : decode cX5_ask 8 = .ok (.invokevirtual 200, 3) := by decide +kernel
theorem dX5_ask_11 : decode cX5_ask 11 = .ok (.ifCond .ne 8, 3) := by decide +kernel
theorem dX5_ask_14 : decode cX5_ask 14 = .ok (.aload_n 0, 1) := by decide +kernel
theorem dX5_ask_15 : decode cX5_ask 15 = .ok (.invokevirtual 102, 3) := by decide +kernel
theorem dX5_ask_18 : decode cX5_ask 18 = .ok (.ireturn, 1) := by decide +kernel
theorem dX5_ask_19 : decode cX5_ask 19 = .ok (.aload_n 0, 1) := by decide +kernel
theorem dX5_ask_20 : decode cX5_ask 20 = .ok (.iconst 2, 1) := by decide +kernel
theorem dX5_ask_21 : decode cX5_ask 21 = .ok (.aload_n 0, 1) := by decide +kernel
theorem dX5_ask_22 : decode cX5_ask 22 = .ok (.getfield 10, 3) := by decide +kernel
theorem dX5_ask_25 : decode cX5_ask 25 = .ok (.getfield 89, 3) := by decide +kernel
theorem dX5_ask_28 : decode cX5_ask 28 = .ok (.getfield 233, 3) := by decide +kernel
theorem dX5_ask_31 : decode cX5_ask 31 = .ok (.iload_n 1, 1) := by decide +kernel
theorem dX5_ask_32 : decode cX5_ask 32 = .ok (.invokestatic 196, 3) := by decide +kernel
theorem dX5_ask_35 : decode cX5_ask 35 = .ok (.aload_n 0, 1) := by decide +kernel
theorem dX5_ask_36 : decode cX5_ask 36 = .ok (.iconst 2, 1) := by decide +kernel
theorem dX5_ask_37 : decode cX5_ask 37 = .ok (.iload_n 1, 1) := by decide +kernel
theorem dX5_ask_38 : decode cX5_ask 38 = .ok (.bipush 6, 2) := by decide +kernel
theorem dX5_ask_40 : decode cX5_ask 40 = .ok (.invokevirtual 286, 3) := by decide +kernel
theorem dX5_ask_43 : decode cX5_ask 43 = .ok (.bipush 30, 2) := by decide +kernel
theorem dX5_ask_45 : decode cX5_ask 45 = .ok (.invokevirtual 292, 3) := by decide +kernel
theorem dX5_ask_48 : decode cX5_ask 48 = .ok (.ireturn, 1) := by decide +kernel
theorem dX5_answerOf_0 : decode cX5_answerOf 0 = .ok (.iload_n 1, 1) := by decide +kernel
theorem dX5_answerOf_1 : decode cX5_answerOf 1 = .ok (.lookupswitch 43 #[(1, 27), (2, 35)], 27) := by decide +kernel
theorem dX5_answerOf_28 : decode cX5_answerOf 28 = .ok (.iload_n 2, 1) := by decide +kernel
theorem dX5_answerOf_29 : decode cX5_answerOf 29 = .ok (.iload_n 3, 1) := by decide +kernel
theorem dX5_answerOf_30 : decode cX5_answerOf 30 = .ok (.iload 4, 2) := by decide +kernel
theorem dX5_answerOf_32 : decode cX5_answerOf 32 = .ok (.invokestatic 308, 3) := by decide +kernel
theorem dX5_answerOf_35 : decode cX5_answerOf 35 = .ok (.ireturn, 1) := by decide +kernel
theorem dX5_answerOf_36 : decode cX5_answerOf 36 = .ok (.iload_n 2, 1) := by decide +kernel
theorem dX5_answerOf_37 : decode cX5_answerOf 37 = .ok (.iload_n 3, 1) := by decide +kernel
theorem dX5_answerOf_38 : decode cX5_answerOf 38 = .ok (.iload 4, 2) := by decide +kernel
theorem dX5_answerOf_40 : decode cX5_answerOf 40 = .ok (.invokestatic 311, 3) := by decide +kernel
theorem dX5_answerOf_43 : decode cX5_answerOf 43 = .ok (.ireturn, 1) := by decide +kernel
theorem dX5_answerOf_44 : decode cX5_answerOf 44 = .ok (.aload_n 0, 1) := by decide +kernel
theorem dX5_answerOf_45 : decode cX5_answerOf 45 = .ok (.getfield 10, 3) := by decide +kernel
theorem dX5_answerOf_48 : decode cX5_answerOf 48 = .ok (.getfield 89, 3) := by decide +kernel
theorem dX5_answerOf_51 : decode cX5_answerOf 51 = .ok (.getfield 212, 3) := by decide +kernel
theorem dX5_answerOf_54 : decode cX5_answerOf 54 = .ok (.iload_n 2, 1) := by decide +kernel
theorem dX5_answerOf_55 : decode cX5_answerOf 55 = .ok (.invokestatic 196, 3) := by decide +kernel
theorem dX5_answerOf_58 : decode cX5_answerOf 58 = .ok (.aload_n 0, 1) := by decide +kernel
theorem dX5_answerOf_59 : decode cX5_answerOf 59 = .ok (.getfield 10, 3) := by decide +kernel
theorem dX5_answerOf_62 : decode cX5_answerOf 62 = .ok (.getfield 89, 3) := by decide +kernel
theorem dX5_answerOf_65 : decode cX5_answerOf 65 = .ok (.getfield 215, 3) := by decide +kernel
theorem dX5_answerOf_68 : decode cX5_answerOf 68 = .ok (.iload_n 2, 1) := by decide +kernel
theorem dX5_answerOf_69 : decode cX5_answerOf 69 = .ok (.invokestatic 196, 3) := by decide +kernel
theorem dX5_answerOf_72 : decode cX5_answerOf 72 = .ok (.iload 4, 2) := by decide +kernel
theorem dX5_answerOf_74 : decode cX5_answerOf 74 = .ok (.invokestatic 308, 3) := by decide +kernel
theorem dX5_answerOf_77 : decode cX5_answerOf 77 = .ok (.ireturn, 1) := by decide +kernel
theorem dX5_agreeing_0 : decode cX5_agreeing 0 = .ok (.iconst 0, 1) := by decide +kernel
theorem dX5_agreeing_1 : decode cX5_agreeing 1 = .ok (.istore 4, 2) := by decide +kernel
theorem dX5_agreeing_3 : decode cX5_agreeing 3 = .ok (.iconst 0, 1) := by decide +kernel
theorem dX5_agreeing_4 : decode cX5_agreeing 4 = .ok (.istore 5, 2) := by decide +kernel
theorem dX5_agreeing_6 : decode cX5_agreeing 6 = .ok (.iload 5, 2) := by decide +kernel
theorem dX5_agreeing_8 : decode cX5_agreeing 8 = .ok (.iload_n 3, 1) := by decide +kernel
theorem dX5_agreeing_9 : decode cX5_agreeing 9 = .ok (.if_icmp .ge 29, 3) := by decide +kernel
theorem dX5_agreeing_12 : decode cX5_agreeing 12 = .ok (.aload_n 0, 1) := by decide +kernel
theorem dX5_agreeing_13 : decode cX5_agreeing 13 = .ok (.iload_n 1, 1) := by decide +kernel
theorem dX5_agreeing_14 : decode cX5_agreeing 14 = .ok (.iload_n 2, 1) := by decide +kernel
theorem dX5_agreeing_15 : decode cX5_agreeing 15 = .ok (.iload 5, 2) := by decide +kernel
theorem dX5_agreeing_17 : decode cX5_agreeing 17 = .ok (.invokevirtual 314, 3) := by decide +kernel
theorem dX5_agreeing_20 : decode cX5_agreeing 20 = .ok (.ifCond .eq 12, 3) := by decide +kernel
theorem dX5_agreeing_23 : decode cX5_agreeing 23 = .ok (.iload 4, 2) := by decide +kernel
theorem dX5_agreeing_25 : decode cX5_agreeing 25 = .ok (.iconst 1, 1) := by decide +kernel
theorem dX5_agreeing_26 : decode cX5_agreeing 26 = .ok (.iload 5, 2) := by decide +kernel
theorem dX5_agreeing_28 : decode cX5_agreeing 28 = .ok (.ishl, 1) := by decide +kernel
theorem dX5_agreeing_29 : decode cX5_agreeing 29 = .ok (.ior, 1) := by decide +kernel
theorem dX5_agreeing_30 : decode cX5_agreeing 30 = .ok (.istore 4, 2) := by decide +kernel
theorem dX5_agreeing_32 : decode cX5_agreeing 32 = .ok (.iinc 5 1, 3) := by decide +kernel
theorem dX5_agreeing_35 : decode cX5_agreeing 35 = .ok (.goto (-29), 3) := by decide +kernel
theorem dX5_agreeing_38 : decode cX5_agreeing 38 = .ok (.iload 4, 2) := by decide +kernel
theorem dX5_agreeing_40 : decode cX5_agreeing 40 = .ok (.ireturn, 1) := by decide +kernel
theorem dX5_agrees_0 : decode cX5_agrees 0 = .ok (.aload_n 0, 1) := by decide +kernel
theorem dX5_agrees_1 : decode cX5_agrees 1 = .ok (.getfield 10, 3) := by decide +kernel
theorem dX5_agrees_4 : decode cX5_agrees 4 = .ok (.iload_n 1, 1) := by decide +kernel
theorem dX5_agrees_5 : decode cX5_agrees 5 = .ok (.invokevirtual 301, 3) := by decide +kernel
theorem dX5_agrees_8 : decode cX5_agrees 8 = .ok (.astore 4, 2) := by decide +kernel
theorem dX5_agrees_10 : decode cX5_agrees 10 = .ok (.iconst 0, 1) := by decide +kernel
theorem dX5_agrees_11 : decode cX5_agrees 11 = .ok (.istore 5, 2) := by decide +kernel
theorem dX5_agrees_13 : decode cX5_agrees 13 = .ok (.iload 5, 2) := by decide +kernel
theorem dX5_agrees_15 : decode cX5_agrees 15 = .ok (.aload 4, 2) := by decide +kernel
theorem dX5_agrees_17 : decode cX5_agrees 17 = .ok (.getfield 305, 3) := by decide +kernel
theorem dX5_agrees_20 : decode cX5_agrees 20 = .ok (.if_icmp .ge 60, 3) := by decide +kernel
theorem dX5_agrees_23 : decode cX5_agrees 23 = .ok (.aload_n 0, 1) := by decide +kernel
theorem dX5_agrees_24 : decode cX5_agrees 24 = .ok (.iload_n 1, 1) := by decide +kernel
theorem dX5_agrees_25 : decode cX5_agrees 25 = .ok (.iload_n 3, 1) := by decide +kernel
theorem dX5_agrees_26 : decode cX5_agrees 26 = .ok (.aload 4, 2) := by decide +kernel
theorem dX5_agrees_28 : decode cX5_agrees 28 = .ok (.iload 5, 2) := by decide +kernel
theorem dX5_agrees_30 : decode cX5_agrees 30 = .ok (.iconst 1, 1) := by decide +kernel
theorem dX5_agrees_31 : decode cX5_agrees 31 = .ok (.invokevirtual 317, 3) := by decide +kernel
theorem dX5_agrees_34 : decode cX5_agrees 34 = .ok (.aload 4, 2) := by decide +kernel
theorem dX5_agrees_36 : decode cX5_agrees 36 = .ok (.iload 5, 2) := by decide +kernel
theorem dX5_agrees_38 : decode cX5_agrees 38 = .ok (.iconst 2, 1) := by decide +kernel
theorem dX5_agrees_39 : decode cX5_agrees 39 = .ok (.invokevirtual 317, 3) := by decide +kernel
theorem dX5_agrees_42 : decode cX5_agrees 42 = .ok (.invokevirtual 320, 3) := by decide +kernel
theorem dX5_agrees_45 : decode cX5_agrees 45 = .ok (.istore 6, 2) := by decide +kernel
theorem dX5_agrees_47 : decode cX5_agrees 47 = .ok (.aload 4, 2) := by decide +kernel
theorem dX5_agrees_49 : decode cX5_agrees 49 = .ok (.iload 5, 2) := by decide +kernel
theorem dX5_agrees_51 : decode cX5_agrees 51 = .ok (.iconst 0, 1) := by decide +kernel
theorem dX5_agrees_52 : decode cX5_agrees 52 = .ok (.invokevirtual 317, 3) := by decide +kernel
theorem dX5_agrees_55 : decode cX5_agrees 55 = .ok (.iload_n 2, 1) := by decide +kernel
theorem dX5_agrees_56 : decode cX5_agrees 56 = .ok (.if_icmp .ne 18, 3) := by decide +kernel
theorem dX5_agrees_59 : decode cX5_agrees 59 = .ok (.iload 6, 2) := by decide +kernel
theorem dX5_agrees_61 : decode cX5_agrees 61 = .ok (.aload 4, 2) := by decide +kernel
theorem dX5_agrees_63 : decode cX5_agrees 63 = .ok (.iload 5, 2) := by decide +kernel
theorem dX5_agrees_65 : decode cX5_agrees 65 = .ok (.iconst 3, 1) := by decide +kernel
theorem dX5_agrees_66 : decode cX5_agrees 66 = .ok (.invokevirtual 317, 3) := by decide +kernel
theorem dX5_agrees_69 : decode cX5_agrees 69 = .ok (.if_icmp .eq 5, 3) := by decide +kernel
theorem dX5_agrees_72 : decode cX5_agrees 72 = .ok (.iconst 0, 1) := by decide +kernel
theorem dX5_agrees_73 : decode cX5_agrees 73 = .ok (.ireturn, 1) := by decide +kernel
theorem dX5_agrees_74 : decode cX5_agrees 74 = .ok (.iinc 5 1, 3) := by decide +kernel
theorem dX5_agrees_77 : decode cX5_agrees 77 = .ok (.goto (-64), 3) := by decide +kernel
theorem dX5_agrees_80 : decode cX5_agrees 80 = .ok (.iconst 1, 1) := by decide +kernel
theorem dX5_agrees_81 : decode cX5_agrees 81 = .ok (.ireturn, 1) := by decide +kernel
theorem dX5_bestParting_0 : decode cX5_bestParting 0 = .ok (.iload_n 3, 1) := by decide +kernel
theorem dX5_bestParting_1 : decode cX5_bestParting 1 = .ok (.ifCond .ne 5, 3) := by decide +kernel
theorem dX5_bestParting_4 : decode cX5_bestParting 4 = .ok (.iconst (-1), 1) := by decide +kernel
theorem dX5_bestParting_5 : decode cX5_bestParting 5 = .ok (.ireturn, 1) := by decide +kernel
theorem dX5_bestParting_6 : decode cX5_bestParting 6 = .ok (.iconst (-1), 1) := by decide +kernel
theorem dX5_bestParting_7 : decode cX5_bestParting 7 = .ok (.istore 5, 2) := by decide +kernel
theorem dX5_bestParting_9 : decode cX5_bestParting 9 = .ok (.bipush 8, 2) := by decide +kernel
theorem dX5_bestParting_11 : decode cX5_bestParting 11 = .ok (.istore 6, 2) := by decide +kernel
theorem dX5_bestParting_13 : decode cX5_bestParting 13 = .ok (.iconst 0, 1) := by decide +kernel
theorem dX5_bestParting_14 : decode cX5_bestParting 14 = .ok (.istore 7, 2) := by decide +kernel
theorem dX5_bestParting_16 : decode cX5_bestParting 16 = .ok (.iload 7, 2) := by decide +kernel
theorem dX5_bestParting_18 : decode cX5_bestParting 18 = .ok (.iload 4, 2) := by decide +kernel
theorem dX5_bestParting_20 : decode cX5_bestParting 20 = .ok (.if_icmp .gt 69, 3) := by decide +kernel
theorem dX5_bestParting_23 : decode cX5_bestParting 23 = .ok (.iconst 0, 1) := by decide +kernel
theorem dX5_bestParting_24 : decode cX5_bestParting 24 = .ok (.istore 8, 2) := by decide +kernel
theorem dX5_bestParting_26 : decode cX5_bestParting 26 = .ok (.iload 8, 2) := by decide +kernel
theorem dX5_bestParting_28 : decode cX5_bestParting 28 = .ok (.bipush 7, 2) := by decide +kernel
theorem dX5_bestParting_30 : decode cX5_bestParting 30 = .ok (.if_icmp .ge 28, 3) := by decide +kernel
theorem dX5_bestParting_33 : decode cX5_bestParting 33 = .ok (.aload_n 0, 1) := by decide +kernel
theorem dX5_bestParting_34 : decode cX5_bestParting 34 = .ok (.getfield 43, 3) := by decide +kernel
theorem dX5_bestParting_37 : decode cX5_bestParting 37 = .ok (.iload 8, 2) := by decide +kernel
theorem dX5_bestParting_39 : decode cX5_bestParting 39 = .ok (.aload_n 0, 1) := by decide +kernel
theorem dX5_bestParting_40 : decode cX5_bestParting 40 = .ok (.iload_n 1, 1) := by decide +kernel
theorem dX5_bestParting_41 : decode cX5_bestParting 41 = .ok (.iload 8, 2) := by decide +kernel
theorem dX5_bestParting_43 : decode cX5_bestParting 43 = .ok (.iload_n 2, 1) := by decide +kernel
theorem dX5_bestParting_44 : decode cX5_bestParting 44 = .ok (.iload 7, 2) := by decide +kernel
theorem dX5_bestParting_46 : decode cX5_bestParting 46 = .ok (.invokevirtual 320, 3) := by decide +kernel
theorem dX5_bestParting_49 : decode cX5_bestParting 49 = .ok (.invokestatic 138, 3) := by decide +kernel
theorem dX5_bestParting_52 : decode cX5_bestParting 52 = .ok (.iinc 8 1, 3) := by decide +kernel
theorem dX5_bestParting_55 : decode cX5_bestParting 55 = .ok (.goto (-29), 3) := by decide +kernel
theorem dX5_bestParting_58 : decode cX5_bestParting 58 = .ok (.aload_n 0, 1) := by decide +kernel
theorem dX5_bestParting_59 : decode cX5_bestParting 59 = .ok (.getfield 43, 3) := by decide +kernel
theorem dX5_bestParting_62 : decode cX5_bestParting 62 = .ok (.iload_n 3, 1) := by decide +kernel
theorem dX5_bestParting_63 : decode cX5_bestParting 63 = .ok (.invokestatic 323, 3) := by decide +kernel
theorem dX5_bestParting_66 : decode cX5_bestParting 66 = .ok (.istore 8, 2) := by decide +kernel
theorem dX5_bestParting_68 : decode cX5_bestParting 68 = .ok (.iload 8, 2) := by decide +kernel
theorem dX5_bestParting_70 : decode cX5_bestParting 70 = .ok (.iload 6, 2) := by decide +kernel
theorem dX5_bestParting_72 : decode cX5_bestParting 72 = .ok (.if_icmp .ge 11, 3) := by decide +kernel
theorem dX5_bestParting_75 : decode cX5_bestParting 75 = .ok (.iload 8, 2) := by decide +kernel
theorem dX5_bestParting_77 : decode cX5_bestParting 77 = .ok (.istore 6, 2) := by decide +kernel
theorem dX5_bestParting_79 : decode cX5_bestParting 79 = .ok (.iload 7, 2) := by decide +kernel
theorem dX5_bestParting_81 : decode cX5_bestParting 81 = .ok (.istore 5, 2) := by decide +kernel
theorem dX5_bestParting_83 : decode cX5_bestParting 83 = .ok (.iinc 7 1, 3) := by decide +kernel
theorem dX5_bestParting_86 : decode cX5_bestParting 86 = .ok (.goto (-70), 3) := by decide +kernel
theorem dX5_bestParting_89 : decode cX5_bestParting 89 = .ok (.iload 5, 2) := by decide +kernel
theorem dX5_bestParting_91 : decode cX5_bestParting 91 = .ok (.ireturn, 1) := by decide +kernel
theorem dX5_largestCrowd_0 : decode cX5_largestCrowd 0 = .ok (.iconst 0, 1) := by decide +kernel
theorem dX5_largestCrowd_1 : decode cX5_largestCrowd 1 = .ok (.istore_n 2, 1) := by decide +kernel
theorem dX5_largestCrowd_2 : decode cX5_largestCrowd 2 = .ok (.iconst 0, 1) := by decide +kernel
theorem dX5_largestCrowd_3 : decode cX5_largestCrowd 3 = .ok (.istore_n 3, 1) := by decide +kernel
theorem dX5_largestCrowd_4 : decode cX5_largestCrowd 4 = .ok (.iload_n 3, 1) := by decide +kernel
theorem dX5_largestCrowd_5 : decode cX5_largestCrowd 5 = .ok (.bipush 7, 2) := by decide +kernel
theorem dX5_largestCrowd_7 : decode cX5_largestCrowd 7 = .ok (.if_icmp .ge 69, 3) := by decide +kernel
theorem dX5_largestCrowd_10 : decode cX5_largestCrowd 10 = .ok (.iconst 0, 1) := by decide +kernel
theorem dX5_largestCrowd_11 : decode cX5_largestCrowd 11 = .ok (.istore 4, 2) := by decide +kernel
theorem dX5_largestCrowd_13 : decode cX5_largestCrowd 13 = .ok (.iconst 0, 1) := by decide +kernel
theorem dX5_largestCrowd_14 : decode cX5_largestCrowd 14 = .ok (.istore 5, 2) := by decide +kernel
theorem dX5_largestCrowd_16 : decode cX5_largestCrowd 16 = .ok (.iload 5, 2) := by decide +kernel
theorem dX5_largestCrowd_18 : decode cX5_largestCrowd 18 = .ok (.bipush 7, 2) := by decide +kernel
theorem dX5_largestCrowd_20 : decode cX5_largestCrowd 20 = .ok (.if_icmp .ge 35, 3) := by decide +kernel
theorem dX5_largestCrowd_23 : decode cX5_largestCrowd 23 = .ok (.iload_n 1, 1) := by decide +kernel
theorem dX5_largestCrowd_24 : decode cX5_largestCrowd 24 = .ok (.iload 5, 2) := by decide +kernel
theorem dX5_largestCrowd_26 : decode cX5_largestCrowd 26 = .ok (.invokestatic 270, 3) := by decide +kernel
theorem dX5_largestCrowd_29 : decode cX5_largestCrowd 29 = .ok (.ifCond .eq 20, 3) := by decide +kernel
theorem dX5_largestCrowd_32 : decode cX5_largestCrowd 32 = .ok (.aload_n 0, 1) := by decide +kernel
theorem dX5_largestCrowd_33 : decode cX5_largestCrowd 33 = .ok (.iload 5, 2) := by decide +kernel
theorem dX5_largestCrowd_35 : decode cX5_largestCrowd 35 = .ok (.invokestatic 196, 3) := by decide +kernel
theorem dX5_largestCrowd_38 : decode cX5_largestCrowd 38 = .ok (.aload_n 0, 1) := by decide +kernel
theorem dX5_largestCrowd_39 : decode cX5_largestCrowd 39 = .ok (.iload_n 3, 1) := by decide +kernel
theorem dX5_largestCrowd_40 : decode cX5_largestCrowd 40 = .ok (.invokestatic 196, 3) := by decide +kernel
theorem dX5_largestCrowd_43 : decode cX5_largestCrowd 43 = .ok (.if_icmp .ne 6, 3) := by decide +kernel
theorem dX5_largestCrowd_46 : decode cX5_largestCrowd 46 = .ok (.iinc 4 1, 3) := by decide +kernel
theorem dX5_largestCrowd_49 : decode cX5_largestCrowd 49 = .ok (.iinc 5 1, 3) := by decide +kernel
theorem dX5_largestCrowd_52 : decode cX5_largestCrowd 52 = .ok (.goto (-36), 3) := by decide +kernel
theorem dX5_largestCrowd_55 : decode cX5_largestCrowd 55 = .ok (.iload_n 1, 1) := by decide +kernel
theorem dX5_largestCrowd_56 : decode cX5_largestCrowd 56 = .ok (.iload_n 3, 1) := by decide +kernel
theorem dX5_largestCrowd_57 : decode cX5_largestCrowd 57 = .ok (.invokestatic 270, 3) := by decide +kernel
theorem dX5_largestCrowd_60 : decode cX5_largestCrowd 60 = .ok (.ifCond .eq 10, 3) := by decide +kernel
theorem dX5_largestCrowd_63 : decode cX5_largestCrowd 63 = .ok (.iload_n 2, 1) := by decide +kernel
theorem dX5_largestCrowd_64 : decode cX5_largestCrowd 64 = .ok (.iload 4, 2) := by decide +kernel
theorem dX5_largestCrowd_66 : decode cX5_largestCrowd 66 = .ok (.invokestatic 83, 3) := by decide +kernel
theorem dX5_largestCrowd_69 : decode cX5_largestCrowd 69 = .ok (.istore_n 2, 1) := by decide +kernel
theorem dX5_largestCrowd_70 : decode cX5_largestCrowd 70 = .ok (.iinc 3 1, 3) := by decide +kernel
theorem dX5_largestCrowd_73 : decode cX5_largestCrowd 73 = .ok (.goto (-69), 3) := by decide +kernel
theorem dX5_largestCrowd_76 : decode cX5_largestCrowd 76 = .ok (.iload_n 2, 1) := by decide +kernel
theorem dX5_largestCrowd_77 : decode cX5_largestCrowd 77 = .ok (.ireturn, 1) := by decide +kernel
theorem dX5_bids_0 : decode cX5_bids 0 = .ok (.aload_n 0, 1) := by decide +kernel
theorem dX5_bids_1 : decode cX5_bids 1 = .ok (.getfield 10, 3) := by decide +kernel
theorem dX5_bids_4 : decode cX5_bids 4 = .ok (.getfield 89, 3) := by decide +kernel
theorem dX5_bids_7 : decode cX5_bids 7 = .ok (.astore 6, 2) := by decide +kernel
theorem dX5_bids_9 : decode cX5_bids 9 = .ok (.aload 6, 2) := by decide +kernel
theorem dX5_bids_11 : decode cX5_bids 11 = .ok (.iload_n 1, 1) := by decide +kernel
theorem dX5_bids_12 : decode cX5_bids 12 = .ok (.invokevirtual 175, 3) := by decide +kernel
theorem dX5_bids_15 : decode cX5_bids 15 = .ok (.ifCond .eq 23, 3) := by decide +kernel
theorem dX5_bids_18 : decode cX5_bids 18 = .ok (.aload 6, 2) := by decide +kernel
theorem dX5_bids_20 : decode cX5_bids 20 = .ok (.iload_n 2, 1) := by decide +kernel
theorem dX5_bids_21 : decode cX5_bids 21 = .ok (.invokevirtual 175, 3) := by decide +kernel
theorem dX5_bids_24 : decode cX5_bids 24 = .ok (.ifCond .eq 14, 3) := by decide +kernel
theorem dX5_bids_27 : decode cX5_bids 27 = .ok (.iload_n 1, 1) := by decide +kernel
theorem dX5_bids_28 : decode cX5_bids 28 = .ok (.iload_n 2, 1) := by decide +kernel
theorem dX5_bids_29 : decode cX5_bids 29 = .ok (.if_icmp .eq 9, 3) := by decide +kernel
theorem dX5_bids_32 : decode cX5_bids 32 = .ok (.iload 5, 2) := by decide +kernel
theorem dX5_bids_34 : decode cX5_bids 34 = .ok (.iconst (-1), 1) := by decide +kernel
theorem dX5_bids_35 : decode cX5_bids 35 = .ok (.if_icmp .ge 10, 3) := by decide +kernel
theorem dX5_bids_38 : decode cX5_bids 38 = .ok (.aload_n 0, 1) := by decide +kernel
theorem dX5_bids_39 : decode cX5_bids 39 = .ok (.bipush (-10), 2) := by decide +kernel
theorem dX5_bids_41 : decode cX5_bids 41 = .ok (.invokevirtual 73, 3) := by decide +kernel
theorem dX5_bids_44 : decode cX5_bids 44 = .ok (.ireturn, 1) := by decide +kernel
theorem dX5_bids_45 : decode cX5_bids 45 = .ok (.aload 6, 2) := by decide +kernel
theorem dX5_bids_47 : decode cX5_bids 47 = .ok (.iload_n 3, 1) := by decide +kernel
theorem dX5_bids_48 : decode cX5_bids 48 = .ok (.invokevirtual 179, 3) := by decide +kernel
theorem dX5_bids_51 : decode cX5_bids 51 = .ok (.ifCond .eq 13, 3) := by decide +kernel
theorem dX5_bids_54 : decode cX5_bids 54 = .ok (.aload 6, 2) := by decide +kernel
theorem dX5_bids_56 : decode cX5_bids 56 = .ok (.iload 4, 2) := by decide +kernel
theorem dX5_bids_58 : decode cX5_bids 58 = .ok (.invokevirtual 200, 3) := by decide +kernel
theorem dX5_bids_61 : decode cX5_bids 61 = .ok (.ifCond .ne 10, 3) := by decide +kernel
theorem dX5_bids_64 : decode cX5_bids 64 = .ok (.aload_n 0, 1) := by decide +kernel
theorem dX5_bids_65 : decode cX5_bids 65 = .ok (.bipush (-10), 2) := by decide +kernel
theorem dX5_bids_67 : decode cX5_bids 67 = .ok (.invokevirtual 73, 3) := by decide +kernel
theorem dX5_bids_70 : decode cX5_bids 70 = .ok (.ireturn, 1) := by decide +kernel
theorem dX5_bids_71 : decode cX5_bids 71 = .ok (.aload 6, 2) := by decide +kernel
theorem dX5_bids_73 : decode cX5_bids 73 = .ok (.iload_n 3, 1) := by decide +kernel
theorem dX5_bids_74 : decode cX5_bids 74 = .ok (.iload 4, 2) := by decide +kernel
theorem dX5_bids_76 : decode cX5_bids 76 = .ok (.invokevirtual 239, 3) := by decide +kernel
theorem dX5_bids_79 : decode cX5_bids 79 = .ok (.istore 7, 2) := by decide +kernel
theorem dX5_bids_81 : decode cX5_bids 81 = .ok (.iconst 0, 1) := by decide +kernel
theorem dX5_bids_82 : decode cX5_bids 82 = .ok (.istore 8, 2) := by decide +kernel
theorem dX5_bids_84 : decode cX5_bids 84 = .ok (.iconst 0, 1) := by decide +kernel
theorem dX5_bids_85 : decode cX5_bids 85 = .ok (.istore 9, 2) := by decide +kernel
theorem dX5_bids_87 : decode cX5_bids 87 = .ok (.iload 9, 2) := by decide +kernel
theorem dX5_bids_89 : decode cX5_bids 89 = .ok (.bipush 9, 2) := by decide +kernel
theorem dX5_bids_91 : decode cX5_bids 91 = .ok (.if_icmp .gt 56, 3) := by decide +kernel
theorem dX5_bids_94 : decode cX5_bids 94 = .ok (.iconst 0, 1) := by decide +kernel
theorem dX5_bids_95 : decode cX5_bids 95 = .ok (.istore 10, 2) := by decide +kernel
theorem dX5_bids_97 : decode cX5_bids 97 = .ok (.iload 10, 2) := by decide +kernel
theorem dX5_bids_99 : decode cX5_bids 99 = .ok (.bipush 9, 2) := by decide +kernel
theorem dX5_bids_101 : decode cX5_bids 101 = .ok (.if_icmp .gt 40, 3) := by decide +kernel
theorem dX5_bids_104 : decode cX5_bids 104 = .ok (.iload 7, 2) := by decide +kernel
theorem dX5_bids_106 : decode cX5_bids 106 = .ok (.iload 9, 2) := by decide +kernel
theorem dX5_bids_108 : decode cX5_bids 108 = .ok (.iload 10, 2) := by decide +kernel
theorem dX5_bids_110 : decode cX5_bids 110 = .ok (.invokestatic 326, 3) := by decide +kernel
theorem dX5_bids_113 : decode cX5_bids 113 = .ok (.ifCond .eq 22, 3) := by decide +kernel
theorem dX5_bids_116 : decode cX5_bids 116 = .ok (.iload 8, 2) := by decide +kernel
theorem dX5_bids_118 : decode cX5_bids 118 = .ok (.iload 5, 2) := by decide +kernel
theorem dX5_bids_120 : decode cX5_bids 120 = .ok (.if_icmp .ne 12, 3) := by decide +kernel
theorem dX5_bids_123 : decode cX5_bids 123 = .ok (.bipush 10, 2) := by decide +kernel
theorem dX5_bids_125 : decode cX5_bids 125 = .ok (.iload 9, 2) := by decide +kernel
theorem dX5_bids_127 : decode cX5_bids 127 = .ok (.imul, 1) := by decide +kernel
theorem dX5_bids_128 : decode cX5_bids 128 = .ok (.iload 10, 2) := by decide +kernel
theorem dX5_bids_130 : decode cX5_bids 130 = .ok (.iadd, 1) := by decide +kernel
theorem dX5_bids_131 : decode cX5_bids 131 = .ok (.ireturn, 1) := by decide +kernel
theorem dX5_bids_132 : decode cX5_bids 132 = .ok (.iinc 8 1, 3) := by decide +kernel
theorem dX5_bids_135 : decode cX5_bids 135 = .ok (.iinc 10 1, 3) := by decide +kernel
theorem dX5_bids_138 : decode cX5_bids 138 = .ok (.goto (-41), 3) := by decide +kernel
theorem dX5_bids_141 : decode cX5_bids 141 = .ok (.iinc 9 1, 3) := by decide +kernel
theorem dX5_bids_144 : decode cX5_bids 144 = .ok (.goto (-57), 3) := by decide +kernel
theorem dX5_bids_147 : decode cX5_bids 147 = .ok (.iload 5, 2) := by decide +kernel
theorem dX5_bids_149 : decode cX5_bids 149 = .ok (.iconst (-1), 1) := by decide +kernel
theorem dX5_bids_150 : decode cX5_bids 150 = .ok (.if_icmp .ne 8, 3) := by decide +kernel
theorem dX5_bids_153 : decode cX5_bids 153 = .ok (.iload 8, 2) := by decide +kernel
theorem dX5_bids_155 : decode cX5_bids 155 = .ok (.goto 5, 3) := by decide +kernel
theorem dX5_bids_158 : decode cX5_bids 158 = .ok (.bipush (-5), 2) := by decide +kernel
theorem dX5_bids_160 : decode cX5_bids 160 = .ok (.ireturn, 1) := by decide +kernel
theorem dX5_firstGets_0 : decode cX5_firstGets 0 = .ok (.iload_n 1, 1) := by decide +kernel
theorem dX5_firstGets_1 : decode cX5_firstGets 1 = .ok (.iload_n 2, 1) := by decide +kernel
theorem dX5_firstGets_2 : decode cX5_firstGets 2 = .ok (.if_icmp .lt 9, 3) := by decide +kernel
theorem dX5_firstGets_5 : decode cX5_firstGets 5 = .ok (.iload_n 0, 1) := by decide +kernel
theorem dX5_firstGets_6 : decode cX5_firstGets 6 = .ok (.iload_n 1, 1) := by decide +kernel
theorem dX5_firstGets_7 : decode cX5_firstGets 7 = .ok (.iconst 3, 1) := by decide +kernel
theorem dX5_firstGets_8 : decode cX5_firstGets 8 = .ok (.idiv, 1) := by decide +kernel
theorem dX5_firstGets_9 : decode cX5_firstGets 9 = .ok (.isub, 1) := by decide +kernel
theorem dX5_firstGets_10 : decode cX5_firstGets 10 = .ok (.ireturn, 1) := by decide +kernel
theorem dX5_firstGets_11 : decode cX5_firstGets 11 = .ok (.iload_n 2, 1) := by decide +kernel
theorem dX5_firstGets_12 : decode cX5_firstGets 12 = .ok (.iconst 5, 1) := by decide +kernel
theorem dX5_firstGets_13 : decode cX5_firstGets 13 = .ok (.if_icmp .le 7, 3) := by decide +kernel
theorem dX5_firstGets_16 : decode cX5_firstGets 16 = .ok (.iconst 1, 1) := by decide +kernel
theorem dX5_firstGets_17 : decode cX5_firstGets 17 = .ok (.goto 4, 3) := by decide +kernel
theorem dX5_firstGets_20 : decode cX5_firstGets 20 = .ok (.iconst 0, 1) := by decide +kernel
theorem dX5_firstGets_21 : decode cX5_firstGets 21 = .ok (.ireturn, 1) := by decide +kernel
theorem dX5_secondGets_0 : decode cX5_secondGets 0 = .ok (.iload_n 2, 1) := by decide +kernel
theorem dX5_secondGets_1 : decode cX5_secondGets 1 = .ok (.iload_n 1, 1) := by decide +kernel
theorem dX5_secondGets_2 : decode cX5_secondGets 2 = .ok (.if_icmp .le 9, 3) := by decide +kernel
theorem dX5_secondGets_5 : decode cX5_secondGets 5 = .ok (.iload_n 0, 1) := by decide +kernel
theorem dX5_secondGets_6 : decode cX5_secondGets 6 = .ok (.iload_n 2, 1) := by decide +kernel
theorem dX5_secondGets_7 : decode cX5_secondGets 7 = .ok (.iconst 3, 1) := by decide +kernel
theorem dX5_secondGets_8 : decode cX5_secondGets 8 = .ok (.idiv, 1) := by decide +kernel
theorem dX5_secondGets_9 : decode cX5_secondGets 9 = .ok (.isub, 1) := by decide +kernel
theorem dX5_secondGets_10 : decode cX5_secondGets 10 = .ok (.ireturn, 1) := by decide +kernel
theorem dX5_secondGets_11 : decode cX5_secondGets 11 = .ok (.iload_n 1, 1) := by decide +kernel
theorem dX5_secondGets_12 : decode cX5_secondGets 12 = .ok (.iconst 5, 1) := by decide +kernel
theorem dX5_secondGets_13 : decode cX5_secondGets 13 = .ok (.if_icmp .le 7, 3) := by decide +kernel
theorem dX5_secondGets_16 : decode cX5_secondGets 16 = .ok (.iconst 1, 1) := by decide +kernel
theorem dX5_secondGets_17 : decode cX5_secondGets 17 = .ok (.goto 4, 3) := by decide +kernel
theorem dX5_secondGets_20 : decode cX5_secondGets 20 = .ok (.iconst 0, 1) := by decide +kernel
theorem dX5_secondGets_21 : decode cX5_secondGets 21 = .ok (.ireturn, 1) := by decide +kernel
theorem dX5_rests_0 : decode cX5_rests 0 = .ok (.iload_n 0, 1) := by decide +kernel
theorem dX5_rests_1 : decode cX5_rests 1 = .ok (.iload_n 1, 1) := by decide +kernel
theorem dX5_rests_2 : decode cX5_rests 2 = .ok (.iload_n 2, 1) := by decide +kernel
theorem dX5_rests_3 : decode cX5_rests 3 = .ok (.invokestatic 329, 3) := by decide +kernel
theorem dX5_rests_6 : decode cX5_rests 6 = .ok (.istore_n 3, 1) := by decide +kernel
theorem dX5_rests_7 : decode cX5_rests 7 = .ok (.iload_n 0, 1) := by decide +kernel
theorem dX5_rests_8 : decode cX5_rests 8 = .ok (.iload_n 1, 1) := by decide +kernel
theorem dX5_rests_9 : decode cX5_rests 9 = .ok (.iload_n 2, 1) := by decide +kernel
theorem dX5_rests_10 : decode cX5_rests 10 = .ok (.invokestatic 332, 3) := by decide +kernel
theorem dX5_rests_13 : decode cX5_rests 13 = .ok (.istore 4, 2) := by decide +kernel
theorem dX5_rests_15 : decode cX5_rests 15 = .ok (.iconst 0, 1) := by decide +kernel
theorem dX5_rests_16 : decode cX5_rests 16 = .ok (.istore 5, 2) := by decide +kernel
theorem dX5_rests_18 : decode cX5_rests 18 = .ok (.iload 5, 2) := by decide +kernel
theorem dX5_rests_20 : decode cX5_rests 20 = .ok (.bipush 9, 2) := by decide +kernel
theorem dX5_rests_22 : decode cX5_rests 22 = .ok (.if_icmp .gt 34, 3) := by decide +kernel
theorem dX5_rests_25 : decode cX5_rests 25 = .ok (.iload_n 0, 1) := by decide +kernel
theorem dX5_rests_26 : decode cX5_rests 26 = .ok (.iload 5, 2) := by decide +kernel
theorem dX5_rests_28 : decode cX5_rests 28 = .ok (.iload_n 2, 1) := by decide +kernel
theorem dX5_rests_29 : decode cX5_rests 29 = .ok (.invokestatic 329, 3) := by decide +kernel
theorem dX5_rests_32 : decode cX5_rests 32 = .ok (.iload_n 3, 1) := by decide +kernel
theorem dX5_rests_33 : decode cX5_rests 33 = .ok (.if_icmp .gt 15, 3) := by decide +kernel
theorem dX5_rests_36 : decode cX5_rests 36 = .ok (.iload_n 0, 1) := by decide +kernel
theorem dX5_rests_37 : decode cX5_rests 37 = .ok (.iload_n 1, 1) := by decide +kernel
theorem dX5_rests_38 : decode cX5_rests 38 = .ok (.iload 5, 2) := by decide +kernel
theorem dX5_rests_40 : decode cX5_rests 40 = .ok (.invokestatic 332, 3) := by decide +kernel
theorem dX5_rests_43 : decode cX5_rests 43 = .ok (.iload 4, 2) := by decide +kernel
theorem dX5_rests_45 : decode cX5_rests 45 = .ok (.if_icmp .le 5, 3) := by decide +kernel
theorem dX5_rests_48 : decode cX5_rests 48 = .ok (.iconst 0, 1) := by decide +kernel
theorem dX5_rests_49 : decode cX5_rests 49 = .ok (.ireturn, 1) := by decide +kernel
theorem dX5_rests_50 : decode cX5_rests 50 = .ok (.iinc 5 1, 3) := by decide +kernel
theorem dX5_rests_53 : decode cX5_rests 53 = .ok (.goto (-35), 3) := by decide +kernel
theorem dX5_rests_56 : decode cX5_rests 56 = .ok (.iconst 1, 1) := by decide +kernel
theorem dX5_rests_57 : decode cX5_rests 57 = .ok (.ireturn, 1) := by decide +kernel
theorem dX5_redeemed_0 : decode cX5_redeemed 0 = .ok (.iload_n 1, 1) := by decide +kernel
theorem dX5_redeemed_1 : decode cX5_redeemed 1 = .ok (.iconst 0, 1) := by decide +kernel
theorem dX5_redeemed_2 : decode cX5_redeemed 2 = .ok (.bipush 10, 2) := by decide +kernel
theorem dX5_redeemed_4 : decode cX5_redeemed 4 = .ok (.invokestatic 98, 3) := by decide +kernel
theorem dX5_redeemed_7 : decode cX5_redeemed 7 = .ok (.ifCond .ne 8, 3) := by decide +kernel
theorem dX5_redeemed_10 : decode cX5_redeemed 10 = .ok (.aload_n 0, 1) := by decide +kernel
theorem dX5_redeemed_11 : decode cX5_redeemed 11 = .ok (.invokevirtual 102, 3) := by decide +kernel
theorem dX5_redeemed_14 : decode cX5_redeemed 14 = .ok (.ireturn, 1) := by decide +kernel
theorem dX5_redeemed_15 : decode cX5_redeemed 15 = .ok (.aload_n 0, 1) := by decide +kernel
theorem dX5_redeemed_16 : decode cX5_redeemed 16 = .ok (.invokevirtual 245, 3) := by decide +kernel
theorem dX5_redeemed_19 : decode cX5_redeemed 19 = .ok (.aload_n 0, 1) := by decide +kernel
theorem dX5_redeemed_20 : decode cX5_redeemed 20 = .ok (.getfield 40, 3) := by decide +kernel
theorem dX5_redeemed_23 : decode cX5_redeemed 23 = .ok (.iconst 0, 1) := by decide +kernel
theorem dX5_redeemed_24 : decode cX5_redeemed 24 = .ok (.aload_n 0, 1) := by decide +kernel
theorem dX5_redeemed_25 : decode cX5_redeemed 25 = .ok (.getfield 10, 3) := by decide +kernel
theorem dX5_redeemed_28 : decode cX5_redeemed 28 = .ok (.getfield 89, 3) := by decide +kernel
theorem dX5_redeemed_31 : decode cX5_redeemed 31 = .ok (.iconst 0, 1) := by decide +kernel
theorem dX5_redeemed_32 : decode cX5_redeemed 32 = .ok (.invokevirtual 236, 3) := by decide +kernel
theorem dX5_redeemed_35 : decode cX5_redeemed 35 = .ok (.invokestatic 262, 3) := by decide +kernel
theorem dX5_redeemed_38 : decode cX5_redeemed 38 = .ok (.istore_n 2, 1) := by decide +kernel
theorem dX5_redeemed_39 : decode cX5_redeemed 39 = .ok (.aload_n 0, 1) := by decide +kernel
theorem dX5_redeemed_40 : decode cX5_redeemed 40 = .ok (.iload_n 2, 1) := by decide +kernel
theorem dX5_redeemed_41 : decode cX5_redeemed 41 = .ok (.i2l, 1) := by decide +kernel
theorem dX5_redeemed_42 : decode cX5_redeemed 42 = .ok (.bipush 10, 2) := by decide +kernel
theorem dX5_redeemed_44 : decode cX5_redeemed 44 = .ok (.iload_n 1, 1) := by decide +kernel
theorem dX5_redeemed_45 : decode cX5_redeemed 45 = .ok (.isub, 1) := by decide +kernel
theorem dX5_redeemed_46 : decode cX5_redeemed 46 = .ok (.i2l, 1) := by decide +kernel
theorem dX5_redeemed_47 : decode cX5_redeemed 47 = .ok (.lmul, 1) := by decide +kernel
theorem dX5_redeemed_48 : decode cX5_redeemed 48 = .ok (.ldc2_w 335, 3) := by decide +kernel
theorem dX5_redeemed_51 : decode cX5_redeemed 51 = .ok (.invokevirtual 337, 3) := by decide +kernel
theorem dX5_redeemed_54 : decode cX5_redeemed 54 = .ok (.iconst 1, 1) := by decide +kernel
theorem dX5_redeemed_55 : decode cX5_redeemed 55 = .ok (.ireturn, 1) := by decide +kernel
theorem dX5_setFraction_0 : decode cX5_setFraction 0 = .ok (.lload_n 1, 1) := by decide +kernel
theorem dX5_setFraction_1 : decode cX5_setFraction 1 = .ok (.lload_n 3, 1) := by decide +kernel
theorem dX5_setFraction_2 : decode cX5_setFraction 2 = .ok (.invokestatic 341, 3) := by decide +kernel
theorem dX5_setFraction_5 : decode cX5_setFraction 5 = .ok (.lstore 5, 2) := by decide +kernel
theorem dX5_setFraction_7 : decode cX5_setFraction 7 = .ok (.aload_n 0, 1) := by decide +kernel
theorem dX5_setFraction_8 : decode cX5_setFraction 8 = .ok (.lload 5, 2) := by decide +kernel
theorem dX5_setFraction_10 : decode cX5_setFraction 10 = .ok (.lconst 0, 1) := by decide +kernel
theorem dX5_setFraction_11 : decode cX5_setFraction 11 = .ok (.lcmp, 1) := by decide +kernel
theorem dX5_setFraction_12 : decode cX5_setFraction 12 = .ok (.ifCond .le 10, 3) := by decide +kernel
theorem dX5_setFraction_15 : decode cX5_setFraction 15 = .ok (.lload_n 1, 1) := by decide +kernel
theorem dX5_setFraction_16 : decode cX5_setFraction 16 = .ok (.lload 5, 2) := by decide +kernel
theorem dX5_setFraction_18 : decode cX5_setFraction 18 = .ok (.ldiv, 1) := by decide +kernel
theorem dX5_setFraction_19 : decode cX5_setFraction 19 = .ok (.goto 4, 3) := by decide +kernel
theorem dX5_setFraction_22 : decode cX5_setFraction 22 = .ok (.lconst 0, 1) := by decide +kernel
theorem dX5_setFraction_23 : decode cX5_setFraction 23 = .ok (.putfield 46, 3) := by decide +kernel
theorem dX5_setFraction_26 : decode cX5_setFraction 26 = .ok (.aload_n 0, 1) := by decide +kernel
theorem dX5_setFraction_27 : decode cX5_setFraction 27 = .ok (.lload 5, 2) := by decide +kernel
theorem dX5_setFraction_29 : decode cX5_setFraction 29 = .ok (.lconst 0, 1) := by decide +kernel
theorem dX5_setFraction_30 : decode cX5_setFraction 30 = .ok (.lcmp, 1) := by decide +kernel
theorem dX5_setFraction_31 : decode cX5_setFraction 31 = .ok (.ifCond .le 10, 3) := by decide +kernel
theorem dX5_setFraction_34 : decode cX5_setFraction 34 = .ok (.lload_n 3, 1) := by decide +kernel
theorem dX5_setFraction_35 : decode cX5_setFraction 35 = .ok (.lload 5, 2) := by decide +kernel
theorem dX5_setFraction_37 : decode cX5_setFraction 37 = .ok (.ldiv, 1) := by decide +kernel
theorem dX5_setFraction_38 : decode cX5_setFraction 38 = .ok (.goto 4, 3) := by decide +kernel
theorem dX5_setFraction_41 : decode cX5_setFraction 41 = .ok (.lconst 1, 1) := by decide +kernel
theorem dX5_setFraction_42 : decode cX5_setFraction 42 = .ok (.putfield 50, 3) := by decide +kernel
theorem dX5_setFraction_45 : decode cX5_setFraction 45 = .ok (.return_, 1) := by decide +kernel
theorem dX5_commonDivisor_0 : decode cX5_commonDivisor 0 = .ok (.lload_n 0, 1) := by decide +kernel
theorem dX5_commonDivisor_1 : decode cX5_commonDivisor 1 = .ok (.lstore 4, 2) := by decide +kernel
theorem dX5_commonDivisor_3 : decode cX5_commonDivisor 3 = .ok (.lload_n 2, 1) := by decide +kernel
theorem dX5_commonDivisor_4 : decode cX5_commonDivisor 4 = .ok (.lstore 6, 2) := by decide +kernel
theorem dX5_commonDivisor_6 : decode cX5_commonDivisor 6 = .ok (.iconst 0, 1) := by decide +kernel
theorem dX5_commonDivisor_7 : decode cX5_commonDivisor 7 = .ok (.istore 8, 2) := by decide +kernel
theorem dX5_commonDivisor_9 : decode cX5_commonDivisor 9 = .ok (.iload 8, 2) := by decide +kernel
theorem dX5_commonDivisor_11 : decode cX5_commonDivisor 11 = .ok (.bipush 100, 2) := by decide +kernel
theorem dX5_commonDivisor_13 : decode cX5_commonDivisor 13 = .ok (.if_icmp .ge 31, 3) := by decide +kernel
theorem dX5_commonDivisor_16 : decode cX5_commonDivisor 16 = .ok (.lload 6, 2) := by decide +kernel
theorem dX5_commonDivisor_18 : decode cX5_commonDivisor 18 = .ok (.lconst 0, 1) := by decide +kernel
theorem dX5_commonDivisor_19 : decode cX5_commonDivisor 19 = .ok (.lcmp, 1) := by decide +kernel
theorem dX5_commonDivisor_20 : decode cX5_commonDivisor 20 = .ok (.ifCond .eq 24, 3) := by decide +kernel
theorem dX5_commonDivisor_23 : decode cX5_commonDivisor 23 = .ok (.lload 4, 2) := by decide +kernel
theorem dX5_commonDivisor_25 : decode cX5_commonDivisor 25 = .ok (.lload 6, 2) := by decide +kernel
theorem dX5_commonDivisor_27 : decode cX5_commonDivisor 27 = .ok (.lrem, 1) := by decide +kernel
theorem dX5_commonDivisor_28 : decode cX5_commonDivisor 28 = .ok (.lstore 9, 2) := by decide +kernel
theorem dX5_commonDivisor_30 : decode cX5_commonDivisor 30 = .ok (.lload 6, 2) := by decide +kernel
theorem dX5_commonDivisor_32 : decode cX5_commonDivisor 32 = .ok (.lstore 4, 2) := by decide +kernel
theorem dX5_commonDivisor_34 : decode cX5_commonDivisor 34 = .ok (.lload 9, 2) := by decide +kernel
theorem dX5_commonDivisor_36 : decode cX5_commonDivisor 36 = .ok (.lstore 6, 2) := by decide +kernel
theorem dX5_commonDivisor_38 : decode cX5_commonDivisor 38 = .ok (.iinc 8 1, 3) := by decide +kernel
theorem dX5_commonDivisor_41 : decode cX5_commonDivisor 41 = .ok (.goto (-32), 3) := by decide +kernel
theorem dX5_commonDivisor_44 : decode cX5_commonDivisor 44 = .ok (.lload 4, 2) := by decide +kernel
theorem dX5_commonDivisor_46 : decode cX5_commonDivisor 46 = .ok (.lreturn, 1) := by decide +kernel
theorem dX5_years_0 : decode cX5_years 0 = .ok (.iload_n 1, 1) := by decide +kernel
theorem dX5_years_1 : decode cX5_years 1 = .ok (.iconst 0, 1) := by decide +kernel
theorem dX5_years_2 : decode cX5_years 2 = .ok (.ldc_w 345, 3) := by decide +kernel
theorem dX5_years_5 : decode cX5_years 5 = .ok (.invokestatic 98, 3) := by decide +kernel
theorem dX5_years_8 : decode cX5_years 8 = .ok (.ifCond .eq 13, 3) := by decide +kernel
theorem dX5_years_11 : decode cX5_years 11 = .ok (.iload_n 2, 1) := by decide +kernel
theorem dX5_years_12 : decode cX5_years 12 = .ok (.iconst 0, 1) := by decide +kernel
theorem dX5_years_13 : decode cX5_years 13 = .ok (.bipush 60, 2) := by decide +kernel
theorem dX5_years_15 : decode cX5_years 15 = .ok (.invokestatic 98, 3) := by decide +kernel
theorem dX5_years_18 : decode cX5_years 18 = .ok (.ifCond .ne 8, 3) := by decide +kernel
theorem dX5_years_21 : decode cX5_years 21 = .ok (.aload_n 0, 1) := by decide +kernel
theorem dX5_years_22 : decode cX5_years 22 = .ok (.invokevirtual 102, 3) := by decide +kernel
theorem dX5_years_25 : decode cX5_years 25 = .ok (.ireturn, 1) := by decide +kernel
theorem dX5_years_26 : decode cX5_years 26 = .ok (.aload_n 0, 1) := by decide +kernel
theorem dX5_years_27 : decode cX5_years 27 = .ok (.getfield 32, 3) := by decide +kernel
theorem dX5_years_30 : decode cX5_years 30 = .ok (.aload_n 0, 1) := by decide +kernel
theorem dX5_years_31 : decode cX5_years 31 = .ok (.getfield 10, 3) := by decide +kernel
theorem dX5_years_34 : decode cX5_years 34 = .ok (.getfield 89, 3) := by decide +kernel
theorem dX5_years_37 : decode cX5_years 37 = .ok (.invokevirtual 158, 3) := by decide +kernel
theorem dX5_years_40 : decode cX5_years 40 = .ok (.iload_n 1, 1) := by decide +kernel
theorem dX5_years_41 : decode cX5_years 41 = .ok (.i2l, 1) := by decide +kernel
theorem dX5_years_42 : decode cX5_years 42 = .ok (.lstore_n 3, 1) := by decide +kernel
theorem dX5_years_43 : decode cX5_years 43 = .ok (.iconst 0, 1) := by decide +kernel
theorem dX5_years_44 : decode cX5_years 44 = .ok (.istore 5, 2) := by decide +kernel
theorem dX5_years_46 : decode cX5_years 46 = .ok (.iload 5, 2) := by decide +kernel
theorem dX5_years_48 : decode cX5_years 48 = .ok (.iload_n 2, 1) := by decide +kernel
theorem dX5_years_49 : decode cX5_years 49 = .ok (.if_icmp .ge 91, 3) := by decide +kernel
theorem dX5_years_52 : decode cX5_years 52 = .ok (.lload_n 3, 1) := by decide +kernel
theorem dX5_years_53 : decode cX5_years 53 = .ok (.ldc2_w 346, 3) := by decide +kernel
theorem dX5_years_56 : decode cX5_years 56 = .ok (.lmul, 1) := by decide +kernel
theorem dX5_years_57 : decode cX5_years 57 = .ok (.ldc2_w 348, 3) := by decide +kernel
theorem dX5_years_60 : decode cX5_years 60 = .ok (.ladd, 1) := by decide +kernel
theorem dX5_years_61 : decode cX5_years 61 = .ok (.ldc2_w 350, 3) := by decide +kernel
theorem dX5_years_64 : decode cX5_years 64 = .ok (.lrem, 1) := by decide +kernel
theorem dX5_years_65 : decode cX5_years 65 = .ok (.lstore_n 3, 1) := by decide +kernel
theorem dX5_years_66 : decode cX5_years 66 = .ok (.lload_n 3, 1) := by decide +kernel
theorem dX5_years_67 : decode cX5_years 67 = .ok (.ldc2_w 352, 3) := by decide +kernel
theorem dX5_years_70 : decode cX5_years 70 = .ok (.ldiv, 1) := by decide +kernel
theorem dX5_years_71 : decode cX5_years 71 = .ok (.ldc2_w 354, 3) := by decide +kernel
theorem dX5_years_74 : decode cX5_years 74 = .ok (.lrem, 1) := by decide +kernel
theorem dX5_years_75 : decode cX5_years 75 = .ok (.l2i, 1) := by decide +kernel
theorem dX5_years_76 : decode cX5_years 76 = .ok (.istore 6, 2) := by decide +kernel
theorem dX5_years_78 : decode cX5_years 78 = .ok (.lload_n 3, 1) := by decide +kernel
theorem dX5_years_79 : decode cX5_years 79 = .ok (.ldc2_w 356, 3) := by decide +kernel
theorem dX5_years_82 : decode cX5_years 82 = .ok (.ldiv, 1) := by decide +kernel
theorem dX5_years_83 : decode cX5_years 83 = .ok (.ldc2_w 358, 3) := by decide +kernel
theorem dX5_years_86 : decode cX5_years 86 = .ok (.lrem, 1) := by decide +kernel
theorem dX5_years_87 : decode cX5_years 87 = .ok (.l2i, 1) := by decide +kernel
theorem dX5_years_88 : decode cX5_years 88 = .ok (.istore 7, 2) := by decide +kernel
theorem dX5_years_90 : decode cX5_years 90 = .ok (.aload_n 0, 1) := by decide +kernel
theorem dX5_years_91 : decode cX5_years 91 = .ok (.getfield 32, 3) := by decide +kernel
theorem dX5_years_94 : decode cX5_years 94 = .ok (.iload 6, 2) := by decide +kernel
theorem dX5_years_96 : decode cX5_years 96 = .ok (.invokevirtual 360, 3) := by decide +kernel
theorem dX5_years_99 : decode cX5_years 99 = .ok (.ifCond .eq 27, 3) := by decide +kernel
theorem dX5_years_102 : decode cX5_years 102 = .ok (.aload_n 0, 1) := by decide +kernel
theorem dX5_years_103 : decode cX5_years 103 = .ok (.getfield 32, 3) := by decide +kernel
theorem dX5_years_106 : decode cX5_years 106 = .ok (.iload 7, 2) := by decide +kernel
theorem dX5_years_108 : decode cX5_years 108 = .ok (.invokevirtual 200, 3) := by decide +kernel
theorem dX5_years_111 : decode cX5_years 111 = .ok (.ifCond .eq 15, 3) := by decide +kernel
theorem dX5_years_114 : decode cX5_years 114 = .ok (.aload_n 0, 1) := by decide +kernel
theorem dX5_years_115 : decode cX5_years 115 = .ok (.getfield 32, 3) := by decide +kernel
theorem dX5_years_118 : decode cX5_years 118 = .ok (.iload 6, 2) := by decide +kernel
theorem dX5_years_120 : decode cX5_years 120 = .ok (.iload 7, 2) := by decide +kernel
theorem dX5_years_122 : decode cX5_years 122 = .ok (.invokevirtual 206, 3) := by decide +kernel
theorem dX5_years_125 : decode cX5_years 125 = .ok (.pop, 1) := by decide +kernel
theorem dX5_years_126 : decode cX5_years 126 = .ok (.aload_n 0, 1) := by decide +kernel
theorem dX5_years_127 : decode cX5_years 127 = .ok (.getfield 32, 3) := by decide +kernel
theorem dX5_years_130 : decode cX5_years 130 = .ok (.iconst 1, 1) := by decide +kernel
theorem dX5_years_131 : decode cX5_years 131 = .ok (.invokevirtual 171, 3) := by decide +kernel
theorem dX5_years_134 : decode cX5_years 134 = .ok (.iinc 5 1, 3) := by decide +kernel
theorem dX5_years_137 : decode cX5_years 137 = .ok (.goto (-91), 3) := by decide +kernel
theorem dX5_years_140 : decode cX5_years 140 = .ok (.aload_n 0, 1) := by decide +kernel
theorem dX5_years_141 : decode cX5_years 141 = .ok (.getfield 32, 3) := by decide +kernel
theorem dX5_years_144 : decode cX5_years 144 = .ok (.getfield 363, 3) := by decide +kernel
theorem dX5_years_147 : decode cX5_years 147 = .ok (.ireturn, 1) := by decide +kernel
theorem dX5_part_0 : decode cX5_part 0 = .ok (.iload_n 1, 1) := by decide +kernel
theorem dX5_part_1 : decode cX5_part 1 = .ok (.lookupswitch 37 #[(0, 27), (1, 32)], 27) := by decide +kernel
theorem dX5_part_28 : decode cX5_part 28 = .ok (.aload_n 0, 1) := by decide +kernel
theorem dX5_part_29 : decode cX5_part 29 = .ok (.getfield 46, 3) := by decide +kernel
theorem dX5_part_32 : decode cX5_part 32 = .ok (.lreturn, 1) := by decide +kernel
theorem dX5_part_33 : decode cX5_part 33 = .ok (.aload_n 0, 1) := by decide +kernel
theorem dX5_part_34 : decode cX5_part 34 = .ok (.getfield 50, 3) := by decide +kernel
theorem dX5_part_37 : decode cX5_part 37 = .ok (.lreturn, 1) := by decide +kernel
theorem dX5_part_38 : decode cX5_part 38 = .ok (.aload_n 0, 1) := by decide +kernel
theorem dX5_part_39 : decode cX5_part 39 = .ok (.invokevirtual 102, 3) := by decide +kernel
theorem dX5_part_42 : decode cX5_part 42 = .ok (.i2l, 1) := by decide +kernel
theorem dX5_part_43 : decode cX5_part 43 = .ok (.lreturn, 1) := by decide +kernel
theorem dX5_image_0 : decode cX5_image 0 = .ok (.iload_n 1, 1) := by decide +kernel
theorem dX5_image_1 : decode cX5_image 1 = .ok (.iconst 0, 1) := by decide +kernel
theorem dX5_image_2 : decode cX5_image 2 = .ok (.iconst 1, 1) := by decide +kernel
theorem dX5_image_3 : decode cX5_image 3 = .ok (.invokestatic 98, 3) := by decide +kernel
theorem dX5_image_6 : decode cX5_image 6 = .ok (.ifCond .ne 8, 3) := by decide +kernel
theorem dX5_image_9 : decode cX5_image 9 = .ok (.aload_n 0, 1) := by decide +kernel
theorem dX5_image_10 : decode cX5_image 10 = .ok (.invokevirtual 102, 3) := by decide +kernel
theorem dX5_image_13 : decode cX5_image 13 = .ok (.ireturn, 1) := by decide +kernel
theorem dX5_image_14 : decode cX5_image 14 = .ok (.aload_n 0, 1) := by decide +kernel
theorem dX5_image_15 : decode cX5_image 15 = .ok (.iload_n 1, 1) := by decide +kernel
theorem dX5_image_16 : decode cX5_image 16 = .ok (.invokevirtual 366, 3) := by decide +kernel
theorem dX5_image_19 : decode cX5_image 19 = .ok (.astore_n 2, 1) := by decide +kernel
theorem dX5_image_20 : decode cX5_image 20 = .ok (.aload_n 2, 1) := by decide +kernel
theorem dX5_image_21 : decode cX5_image 21 = .ok (.aload_n 0, 1) := by decide +kernel
theorem dX5_image_22 : decode cX5_image 22 = .ok (.getfield 10, 3) := by decide +kernel
theorem dX5_image_25 : decode cX5_image 25 = .ok (.invokevirtual 370, 3) := by decide +kernel
theorem dX5_image_28 : decode cX5_image 28 = .ok (.aload_n 2, 1) := by decide +kernel
theorem dX5_image_29 : decode cX5_image 29 = .ok (.iconst 1, 1) := by decide +kernel
theorem dX5_image_30 : decode cX5_image 30 = .ok (.putfield 373, 3) := by decide +kernel
theorem dX5_image_33 : decode cX5_image 33 = .ok (.iconst 1, 1) := by decide +kernel
theorem dX5_image_34 : decode cX5_image 34 = .ok (.ireturn, 1) := by decide +kernel
theorem dX5_from_0 : decode cX5_from 0 = .ok (.iload_n 1, 1) := by decide +kernel
theorem dX5_from_1 : decode cX5_from 1 = .ok (.iconst 0, 1) := by decide +kernel
theorem dX5_from_2 : decode cX5_from 2 = .ok (.iconst 1, 1) := by decide +kernel
theorem dX5_from_3 : decode cX5_from 3 = .ok (.invokestatic 98, 3) := by decide +kernel
theorem dX5_from_6 : decode cX5_from 6 = .ok (.ifCond .ne 8, 3) := by decide +kernel
theorem dX5_from_9 : decode cX5_from 9 = .ok (.aload_n 0, 1) := by decide +kernel
theorem dX5_from_10 : decode cX5_from 10 = .ok (.invokevirtual 102, 3) := by decide +kernel
theorem dX5_from_13 : decode cX5_from 13 = .ok (.ireturn, 1) := by decide +kernel
theorem dX5_from_14 : decode cX5_from 14 = .ok (.aload_n 0, 1) := by decide +kernel
theorem dX5_from_15 : decode cX5_from 15 = .ok (.iload_n 1, 1) := by decide +kernel
theorem dX5_from_16 : decode cX5_from 16 = .ok (.invokevirtual 366, 3) := by decide +kernel
theorem dX5_from_19 : decode cX5_from 19 = .ok (.astore_n 2, 1) := by decide +kernel
theorem dX5_from_20 : decode cX5_from 20 = .ok (.aload_n 2, 1) := by decide +kernel
theorem dX5_from_21 : decode cX5_from 21 = .ok (.getfield 373, 3) := by decide +kernel
theorem dX5_from_24 : decode cX5_from 24 = .ok (.ifCond .ne 8, 3) := by decide +kernel
theorem dX5_from_27 : decode cX5_from 27 = .ok (.aload_n 0, 1) := by decide +kernel
theorem dX5_from_28 : decode cX5_from 28 = .ok (.invokevirtual 186, 3) := by decide +kernel
theorem dX5_from_31 : decode cX5_from 31 = .ok (.ireturn, 1) := by decide +kernel
theorem dX5_from_32 : decode cX5_from 32 = .ok (.aload_n 0, 1) := by decide +kernel
theorem dX5_from_33 : decode cX5_from 33 = .ok (.getfield 10, 3) := by decide +kernel
theorem dX5_from_36 : decode cX5_from 36 = .ok (.aload_n 2, 1) := by decide +kernel
theorem dX5_from_37 : decode cX5_from 37 = .ok (.invokevirtual 370, 3) := by decide +kernel
theorem dX5_from_40 : decode cX5_from 40 = .ok (.iconst 1, 1) := by decide +kernel
theorem dX5_from_41 : decode cX5_from 41 = .ok (.ireturn, 1) := by decide +kernel
theorem dX5_imageOf_0 : decode cX5_imageOf 0 = .ok (.iload_n 1, 1) := by decide +kernel
theorem dX5_imageOf_1 : decode cX5_imageOf 1 = .ok (.ifCond .ne 10, 3) := by decide +kernel
theorem dX5_imageOf_4 : decode cX5_imageOf 4 = .ok (.aload_n 0, 1) := by decide +kernel
theorem dX5_imageOf_5 : decode cX5_imageOf 5 = .ok (.getfield 16, 3) := by decide +kernel
theorem dX5_imageOf_8 : decode cX5_imageOf 8 = .ok (.goto 7, 3) := by decide +kernel
theorem dX5_imageOf_11 : decode cX5_imageOf 11 = .ok (.aload_n 0, 1) := by decide +kernel
theorem dX5_imageOf_12 : decode cX5_imageOf 12 = .ok (.getfield 19, 3) := by decide +kernel
theorem dX5_imageOf_15 : decode cX5_imageOf 15 = .ok (.areturn, 1) := by decide +kernel
theorem dX5_status_0 : decode cX5_status 0 = .ok (.iload_n 1, 1) := by decide +kernel
theorem dX5_status_1 : decode cX5_status 1 = .ok (.tableswitch 42 0 2 #[27, 32, 37], 27) := by decide +kernel
theorem dX5_status_28 : decode cX5_status 28 = .ok (.aload_n 0, 1) := by decide +kernel
theorem dX5_status_29 : decode cX5_status 29 = .ok (.getfield 53, 3) := by decide +kernel
theorem dX5_status_32 : decode cX5_status 32 = .ok (.ireturn, 1) := by decide +kernel
theorem dX5_status_33 : decode cX5_status 33 = .ok (.aload_n 0, 1) := by decide +kernel
theorem dX5_status_34 : decode cX5_status 34 = .ok (.getfield 57, 3) := by decide +kernel
theorem dX5_status_37 : decode cX5_status 37 = .ok (.ireturn, 1) := by decide +kernel
theorem dX5_status_38 : decode cX5_status 38 = .ok (.aload_n 0, 1) := by decide +kernel
theorem dX5_status_39 : decode cX5_status 39 = .ok (.getfield 60, 3) := by decide +kernel
theorem dX5_status_42 : decode cX5_status 42 = .ok (.ireturn, 1) := by decide +kernel
theorem dX5_status_43 : decode cX5_status 43 = .ok (.aload_n 0, 1) := by decide +kernel
theorem dX5_status_44 : decode cX5_status 44 = .ok (.iconst (-1), 1) := by decide +kernel
theorem dX5_status_45 : decode cX5_status 45 = .ok (.invokevirtual 73, 3) := by decide +kernel
theorem dX5_status_48 : decode cX5_status 48 = .ok (.ireturn, 1) := by decide +kernel
theorem dX5_count_0 : decode cX5_count 0 = .ok (.iload_n 1, 1) := by decide +kernel
theorem dX5_count_1 : decode cX5_count 1 = .ok (.iconst 0, 1) := by decide +kernel
theorem dX5_count_2 : decode cX5_count 2 = .ok (.bipush 11, 2) := by decide +kernel
theorem dX5_count_4 : decode cX5_count 4 = .ok (.invokestatic 98, 3) := by decide +kernel
theorem dX5_count_7 : decode cX5_count 7 = .ok (.ifCond .eq 11, 3) := by decide +kernel
theorem dX5_count_10 : decode cX5_count 10 = .ok (.aload_n 0, 1) := by decide +kernel
theorem dX5_count_11 : decode cX5_count 11 = .ok (.iload_n 1, 1) := by decide +kernel
theorem dX5_count_12 : decode cX5_count 12 = .ok (.invokevirtual 377, 3) := by decide +kernel
theorem dX5_count_15 : decode cX5_count 15 = .ok (.goto 7, 3) := by decide +kernel
theorem dX5_count_18 : decode cX5_count 18 = .ok (.aload_n 0, 1) := by decide +kernel
theorem dX5_count_19 : decode cX5_count 19 = .ok (.invokevirtual 102, 3) := by decide +kernel
theorem dX5_count_22 : decode cX5_count 22 = .ok (.ireturn, 1) := by decide +kernel
theorem dX5_countOf_0 : decode cX5_countOf 0 = .ok (.iload_n 1, 1) := by decide +kernel
theorem dX5_countOf_1 : decode cX5_countOf 1 = .ok (.tableswitch 184 0 10 #[59, 70, 81, 92, 103, 118, 129, 140, 151, 162, 173], 59) := by decide +kernel
theorem dX5_countOf_60 : decode cX5_countOf 60 = .ok (.aload_n 0, 1) := by decide +kernel
theorem dX5_countOf_61 : decode cX5_countOf 61 = .ok (.getfield 10, 3) := by decide +kernel
theorem dX5_countOf_64 : decode cX5_countOf 64 = .ok (.getfield 89, 3) := by decide +kernel
theorem dX5_countOf_67 : decode cX5_countOf 67 = .ok (.getfield 92, 3) := by decide +kernel
theorem dX5_countOf_70 : decode cX5_countOf 70 = .ok (.ireturn, 1) := by decide +kernel
theorem dX5_countOf_71 : decode cX5_countOf 71 = .ok (.aload_n 0, 1) := by decide +kernel
theorem dX5_countOf_72 : decode cX5_countOf 72 = .ok (.getfield 10, 3) := by decide +kernel
theorem dX5_countOf_75 : decode cX5_countOf 75 = .ok (.getfield 89, 3) := by decide +kernel
theorem dX5_countOf_78 : decode cX5_countOf 78 = .ok (.getfield 120, 3) := by decide +kernel
theorem dX5_countOf_81 : decode cX5_countOf 81 = .ok (.ireturn, 1) := by decide +kernel
theorem dX5_countOf_82 : decode cX5_countOf 82 = .ok (.aload_n 0, 1) := by decide +kernel
theorem dX5_countOf_83 : decode cX5_countOf 83 = .ok (.getfield 10, 3) := by decide +kernel
theorem dX5_countOf_86 : decode cX5_countOf 86 = .ok (.getfield 89, 3) := by decide +kernel
theorem dX5_countOf_89 : decode cX5_countOf 89 = .ok (.getfield 126, 3) := by decide +kernel
theorem dX5_countOf_92 : decode cX5_countOf 92 = .ok (.ireturn, 1) := by decide +kernel
theorem dX5_countOf_93 : decode cX5_countOf 93 = .ok (.aload_n 0, 1) := by decide +kernel
theorem dX5_countOf_94 : decode cX5_countOf 94 = .ok (.getfield 10, 3) := by decide +kernel
theorem dX5_countOf_97 : decode cX5_countOf 97 = .ok (.getfield 89, 3) := by decide +kernel
theorem dX5_countOf_100 : decode cX5_countOf 100 = .ok (.getfield 168, 3) := by decide +kernel
theorem dX5_countOf_103 : decode cX5_countOf 103 = .ok (.ireturn, 1) := by decide +kernel
theorem dX5_countOf_104 : decode cX5_countOf 104 = .ok (.aload_n 0, 1) := by decide +kernel
theorem dX5_countOf_105 : decode cX5_countOf 105 = .ok (.getfield 10, 3) := by decide +kernel
theorem dX5_countOf_108 : decode cX5_countOf 108 = .ok (.getfield 89, 3) := by decide +kernel
theorem dX5_countOf_111 : decode cX5_countOf 111 = .ok (.iconst 0, 1) := by decide +kernel
theorem dX5_countOf_112 : decode cX5_countOf 112 = .ok (.invokevirtual 236, 3) := by decide +kernel
theorem dX5_countOf_115 : decode cX5_countOf 115 = .ok (.invokestatic 380, 3) := by decide +kernel
theorem dX5_countOf_118 : decode cX5_countOf 118 = .ok (.ireturn, 1) := by decide +kernel
theorem dX5_countOf_119 : decode cX5_countOf 119 = .ok (.aload_n 0, 1) := by decide +kernel
theorem dX5_countOf_120 : decode cX5_countOf 120 = .ok (.getfield 10, 3) := by decide +kernel
theorem dX5_countOf_123 : decode cX5_countOf 123 = .ok (.getfield 89, 3) := by decide +kernel
theorem dX5_countOf_126 : decode cX5_countOf 126 = .ok (.invokevirtual 385, 3) := by decide +kernel
theorem dX5_countOf_129 : decode cX5_countOf 129 = .ok (.ireturn, 1) := by decide +kernel
theorem dX5_countOf_130 : decode cX5_countOf 130 = .ok (.aload_n 0, 1) := by decide +kernel
theorem dX5_countOf_131 : decode cX5_countOf 131 = .ok (.getfield 10, 3) := by decide +kernel
theorem dX5_countOf_134 : decode cX5_countOf 134 = .ok (.getfield 89, 3) := by decide +kernel
theorem dX5_countOf_137 : decode cX5_countOf 137 = .ok (.getfield 363, 3) := by decide +kernel
theorem dX5_countOf_140 : decode cX5_countOf 140 = .ok (.ireturn, 1) := by decide +kernel
theorem dX5_countOf_141 : decode cX5_countOf 141 = .ok (.aload_n 0, 1) := by decide +kernel
theorem dX5_countOf_142 : decode cX5_countOf 142 = .ok (.getfield 10, 3) := by decide +kernel
theorem dX5_countOf_145 : decode cX5_countOf 145 = .ok (.getfield 273, 3) := by decide +kernel
theorem dX5_countOf_148 : decode cX5_countOf 148 = .ok (.getfield 305, 3) := by decide +kernel
theorem dX5_countOf_151 : decode cX5_countOf 151 = .ok (.ireturn, 1) := by decide +kernel
theorem dX5_countOf_152 : decode cX5_countOf 152 = .ok (.aload_n 0, 1) := by decide +kernel
theorem dX5_countOf_153 : decode cX5_countOf 153 = .ok (.getfield 10, 3) := by decide +kernel
theorem dX5_countOf_156 : decode cX5_countOf 156 = .ok (.getfield 295, 3) := by decide +kernel
theorem dX5_countOf_159 : decode cX5_countOf 159 = .ok (.getfield 305, 3) := by decide +kernel
theorem dX5_countOf_162 : decode cX5_countOf 162 = .ok (.ireturn, 1) := by decide +kernel
theorem dX5_countOf_163 : decode cX5_countOf 163 = .ok (.aload_n 0, 1) := by decide +kernel
theorem dX5_countOf_164 : decode cX5_countOf 164 = .ok (.getfield 10, 3) := by decide +kernel
theorem dX5_countOf_167 : decode cX5_countOf 167 = .ok (.getfield 298, 3) := by decide +kernel
theorem dX5_countOf_170 : decode cX5_countOf 170 = .ok (.getfield 305, 3) := by decide +kernel
theorem dX5_countOf_173 : decode cX5_countOf 173 = .ok (.ireturn, 1) := by decide +kernel
theorem dX5_countOf_174 : decode cX5_countOf 174 = .ok (.aload_n 0, 1) := by decide +kernel
theorem dX5_countOf_175 : decode cX5_countOf 175 = .ok (.getfield 10, 3) := by decide +kernel
theorem dX5_countOf_178 : decode cX5_countOf 178 = .ok (.getfield 108, 3) := by decide +kernel
theorem dX5_countOf_181 : decode cX5_countOf 181 = .ok (.getfield 112, 3) := by decide +kernel
theorem dX5_countOf_184 : decode cX5_countOf 184 = .ok (.ireturn, 1) := by decide +kernel
theorem dX5_countOf_185 : decode cX5_countOf 185 = .ok (.aload_n 0, 1) := by decide +kernel
theorem dX5_countOf_186 : decode cX5_countOf 186 = .ok (.getfield 25, 3) := by decide +kernel
theorem dX5_countOf_189 : decode cX5_countOf 189 = .ok (.getfield 132, 3) := by decide +kernel
theorem dX5_countOf_192 : decode cX5_countOf 192 = .ok (.ireturn, 1) := by decide +kernel
theorem dX5_digest_0 : decode cX5_digest 0 = .ok (.ldc2_w 388, 3) := by decide +kernel
theorem dX5_digest_3 : decode cX5_digest 3 = .ok (.lstore_n 1, 1) := by decide +kernel
theorem dX5_digest_4 : decode cX5_digest 4 = .ok (.iconst 0, 1) := by decide +kernel
theorem dX5_digest_5 : decode cX5_digest 5 = .ok (.istore_n 3, 1) := by decide +kernel
theorem dX5_digest_6 : decode cX5_digest 6 = .ok (.iload_n 3, 1) := by decide +kernel
theorem dX5_digest_7 : decode cX5_digest 7 = .ok (.bipush 12, 2) := by decide +kernel
theorem dX5_digest_9 : decode cX5_digest 9 = .ok (.if_icmp .ge 22, 3) := by decide +kernel
theorem dX5_digest_12 : decode cX5_digest 12 = .ok (.ldc2_w 390, 3) := by decide +kernel
theorem dX5_digest_15 : decode cX5_digest 15 = .ok (.lload_n 1, 1) := by decide +kernel
theorem dX5_digest_16 : decode cX5_digest 16 = .ok (.lmul, 1) := by decide +kernel
theorem dX5_digest_17 : decode cX5_digest 17 = .ok (.aload_n 0, 1) := by decide +kernel
theorem dX5_digest_18 : decode cX5_digest 18 = .ok (.iload_n 3, 1) := by decide +kernel
theorem dX5_digest_19 : decode cX5_digest 19 = .ok (.invokevirtual 377, 3) := by decide +kernel
theorem dX5_digest_22 : decode cX5_digest 22 = .ok (.i2l, 1) := by decide +kernel
theorem dX5_digest_23 : decode cX5_digest 23 = .ok (.ladd, 1) := by decide +kernel
theorem dX5_digest_24 : decode cX5_digest 24 = .ok (.lstore_n 1, 1) := by decide +kernel
theorem dX5_digest_25 : decode cX5_digest 25 = .ok (.iinc 3 1, 3) := by decide +kernel
theorem dX5_digest_28 : decode cX5_digest 28 = .ok (.goto (-22), 3) := by decide +kernel
theorem dX5_digest_31 : decode cX5_digest 31 = .ok (.aload_n 0, 1) := by decide +kernel
theorem dX5_digest_32 : decode cX5_digest 32 = .ok (.getfield 10, 3) := by decide +kernel
theorem dX5_digest_35 : decode cX5_digest 35 = .ok (.getfield 89, 3) := by decide +kernel
theorem dX5_digest_38 : decode cX5_digest 38 = .ok (.lload_n 1, 1) := by decide +kernel
theorem dX5_digest_39 : decode cX5_digest 39 = .ok (.invokevirtual 392, 3) := by decide +kernel
theorem dX5_digest_42 : decode cX5_digest 42 = .ok (.lstore_n 1, 1) := by decide +kernel
theorem dX5_digest_43 : decode cX5_digest 43 = .ok (.aload_n 0, 1) := by decide +kernel
theorem dX5_digest_44 : decode cX5_digest 44 = .ok (.getfield 10, 3) := by decide +kernel
theorem dX5_digest_47 : decode cX5_digest 47 = .ok (.getfield 273, 3) := by decide +kernel
theorem dX5_digest_50 : decode cX5_digest 50 = .ok (.lload_n 1, 1) := by decide +kernel
theorem dX5_digest_51 : decode cX5_digest 51 = .ok (.iconst 2, 1) := by decide +kernel
theorem dX5_digest_52 : decode cX5_digest 52 = .ok (.invokevirtual 396, 3) := by decide +kernel
theorem dX5_digest_55 : decode cX5_digest 55 = .ok (.lstore_n 1, 1) := by decide +kernel
theorem dX5_digest_56 : decode cX5_digest 56 = .ok (.aload_n 0, 1) := by decide +kernel
theorem dX5_digest_57 : decode cX5_digest 57 = .ok (.getfield 10, 3) := by decide +kernel
theorem dX5_digest_60 : decode cX5_digest 60 = .ok (.getfield 295, 3) := by decide +kernel
theorem dX5_digest_63 : decode cX5_digest 63 = .ok (.lload_n 1, 1) := by decide +kernel
theorem dX5_digest_64 : decode cX5_digest 64 = .ok (.iconst 0, 1) := by decide +kernel
theorem dX5_digest_65 : decode cX5_digest 65 = .ok (.invokevirtual 396, 3) := by decide +kernel
theorem dX5_digest_68 : decode cX5_digest 68 = .ok (.lstore_n 1, 1) := by decide +kernel
theorem dX5_digest_69 : decode cX5_digest 69 = .ok (.aload_n 0, 1) := by decide +kernel
theorem dX5_digest_70 : decode cX5_digest 70 = .ok (.getfield 10, 3) := by decide +kernel
theorem dX5_digest_73 : decode cX5_digest 73 = .ok (.getfield 298, 3) := by decide +kernel
theorem dX5_digest_76 : decode cX5_digest 76 = .ok (.lload_n 1, 1) := by decide +kernel
theorem dX5_digest_77 : decode cX5_digest 77 = .ok (.iconst 0, 1) := by decide +kernel
theorem dX5_digest_78 : decode cX5_digest 78 = .ok (.invokevirtual 396, 3) := by decide +kernel
theorem dX5_digest_81 : decode cX5_digest 81 = .ok (.lstore_n 1, 1) := by decide +kernel
theorem dX5_digest_82 : decode cX5_digest 82 = .ok (.ldc2_w 390, 3) := by decide +kernel
theorem dX5_digest_85 : decode cX5_digest 85 = .ok (.lload_n 1, 1) := by decide +kernel
theorem dX5_digest_86 : decode cX5_digest 86 = .ok (.lmul, 1) := by decide +kernel
theorem dX5_digest_87 : decode cX5_digest 87 = .ok (.aload_n 0, 1) := by decide +kernel
theorem dX5_digest_88 : decode cX5_digest 88 = .ok (.getfield 46, 3) := by decide +kernel
theorem dX5_digest_91 : decode cX5_digest 91 = .ok (.ladd, 1) := by decide +kernel
theorem dX5_digest_92 : decode cX5_digest 92 = .ok (.lstore_n 1, 1) := by decide +kernel
theorem dX5_digest_93 : decode cX5_digest 93 = .ok (.ldc2_w 390, 3) := by decide +kernel
theorem dX5_digest_96 : decode cX5_digest 96 = .ok (.lload_n 1, 1) := by decide +kernel
theorem dX5_digest_97 : decode cX5_digest 97 = .ok (.lmul, 1) := by decide +kernel
theorem dX5_digest_98 : decode cX5_digest 98 = .ok (.aload_n 0, 1) := by decide +kernel
theorem dX5_digest_99 : decode cX5_digest 99 = .ok (.getfield 50, 3) := by decide +kernel
theorem dX5_digest_102 : decode cX5_digest 102 = .ok (.ladd, 1) := by decide +kernel
theorem dX5_digest_103 : decode cX5_digest 103 = .ok (.lreturn, 1) := by decide +kernel
