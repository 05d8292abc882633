theorem dX6_init_0 : decode cX6_init 0 = .ok (.aload_n 0, 1) := by decide +kernel
theorem dX6_init_1 : decode cX6_init 1 = .ok (.invokespecial 1, 3) := by decide +kernel
theorem dX6_init_4 : decode cX6_init 4 = .ok (.aload_n 0, 1) := by decide +kernel
theorem dX6_init_5 : decode cX6_init 5 = .ok (.sipush 258, 3) := by decide +kernel
theorem dX6_init_8 : decode cX6_init 8 = .ok (.newarray .int, 2) := by decide +kernel
theorem dX6_init_10 : decode cX6_init 10 = .ok (.putfield 7, 3) := by decide +kernel
theorem dX6_init_13 : decode cX6_init 13 = .ok (.aload_n 0, 1) := by decide +kernel
theorem dX6_init_14 : decode cX6_init 14 = .ok (.sipush 516, 3) := by decide +kernel
theorem dX6_init_17 : decode cX6_init 17 = .ok (.newarray .int, 2) := by decide +kernel
theorem dX6_init_19 : decode cX6_init 19 = .ok (.putfield 13, 3) := by decide +kernel
theorem dX6_init_22 : decode cX6_init 22 = .ok (.aload_n 0, 1) := by decide +kernel
theorem dX6_init_23 : decode cX6_init 23 = .ok (.iconst 2, 1) := by decide +kernel
theorem dX6_init_24 : decode cX6_init 24 = .ok (.newarray .boolean, 2) := by decide +kernel
theorem dX6_init_26 : decode cX6_init 26 = .ok (.putfield 16, 3) := by decide +kernel
theorem dX6_init_29 : decode cX6_init 29 = .ok (.aload_n 0, 1) := by decide +kernel
theorem dX6_init_30 : decode cX6_init 30 = .ok (.iconst 3, 1) := by decide +kernel
theorem dX6_init_31 : decode cX6_init 31 = .ok (.newarray .int, 2) := by decide +kernel
theorem dX6_init_33 : decode cX6_init 33 = .ok (.putfield 20, 3) := by decide +kernel
theorem dX6_init_36 : decode cX6_init 36 = .ok (.aload_n 0, 1) := by decide +kernel
theorem dX6_init_37 : decode cX6_init 37 = .ok (.lconst 1, 1) := by decide +kernel
theorem dX6_init_38 : decode cX6_init 38 = .ok (.putfield 23, 3) := by decide +kernel
theorem dX6_init_41 : decode cX6_init 41 = .ok (.aload_n 0, 1) := by decide +kernel
theorem dX6_init_42 : decode cX6_init 42 = .ok (.iconst 4, 1) := by decide +kernel
theorem dX6_init_43 : decode cX6_init 43 = .ok (.newarray .int, 2) := by decide +kernel
theorem dX6_init_45 : decode cX6_init 45 = .ok (.putfield 27, 3) := by decide +kernel
theorem dX6_init_48 : decode cX6_init 48 = .ok (.aload_n 0, 1) := by decide +kernel
theorem dX6_init_49 : decode cX6_init 49 = .ok (.iconst 4, 1) := by decide +kernel
theorem dX6_init_50 : decode cX6_init 50 = .ok (.newarray .int, 2) := by decide +kernel
theorem dX6_init_52 : decode cX6_init 52 = .ok (.putfield 30, 3) := by decide +kernel
theorem dX6_init_55 : decode cX6_init 55 = .ok (.aload_n 0, 1) := by decide +kernel
theorem dX6_init_56 : decode cX6_init 56 = .ok (.bipush 7, 2) := by decide +kernel
theorem dX6_init_58 : decode cX6_init 58 = .ok (.newarray .int, 2) := by decide +kernel
theorem dX6_init_60 : decode cX6_init 60 = .ok (.putfield 33, 3) := by decide +kernel
theorem dX6_init_63 : decode cX6_init 63 = .ok (.aload_n 0, 1) := by decide +kernel
theorem dX6_init_64 : decode cX6_init 64 = .ok (.bipush 48, 2) := by decide +kernel
theorem dX6_init_66 : decode cX6_init 66 = .ok (.newarray .int, 2) := by decide +kernel
theorem dX6_init_68 : decode cX6_init 68 = .ok (.putfield 36, 3) := by decide +kernel
theorem dX6_init_71 : decode cX6_init 71 = .ok (.aload_n 0, 1) := by decide +kernel
theorem dX6_init_72 : decode cX6_init 72 = .ok (.sipush 150, 3) := by decide +kernel
theorem dX6_init_75 : decode cX6_init 75 = .ok (.newarray .int, 2) := by decide +kernel
theorem dX6_init_77 : decode cX6_init 77 = .ok (.putfield 39, 3) := by decide +kernel
theorem dX6_init_80 : decode cX6_init 80 = .ok (.aload_n 0, 1) := by decide +kernel
theorem dX6_init_81 : decode cX6_init 81 = .ok (.bipush 106, 2) := by decide +kernel
theorem dX6_init_83 : decode cX6_init 83 = .ok (.newarray .int, 2) := by decide +kernel
theorem dX6_init_85 : decode cX6_init 85 = .ok (.putfield 42, 3) := by decide +kernel
theorem dX6_init_88 : decode cX6_init 88 = .ok (.aload_n 0, 1) := by decide +kernel
theorem dX6_init_89 : decode cX6_init 89 = .ok (.iconst 2, 1) := by decide +kernel
theorem dX6_init_90 : decode cX6_init 90 = .ok (.newarray .int, 2) := by decide +kernel
theorem dX6_init_92 : decode cX6_init 92 = .ok (.putfield 45, 3) := by decide +kernel
theorem dX6_init_95 : decode cX6_init 95 = .ok (.aload_n 0, 1) := by decide +kernel
theorem dX6_init_96 : decode cX6_init 96 = .ok (.getfield 7, 3) := by decide +kernel
theorem dX6_init_99 : decode cX6_init 99 = .ok (.invokestatic 48, 3) := by decide +kernel
theorem dX6_init_102 : decode cX6_init 102 = .ok (.return_, 1) := by decide +kernel
theorem dX6_in_0 : decode cX6_in 0 = .ok (.lload_n 0, 1) := by decide +kernel
theorem dX6_in_1 : decode cX6_in 1 = .ok (.lload_n 2, 1) := by decide +kernel
theorem dX6_in_2 : decode cX6_in 2 = .ok (.lcmp, 1) := by decide +kernel
theorem dX6_in_3 : decode cX6_in 3 = .ok (.ifCond .lt 14, 3) := by decide +kernel
theorem dX6_in_6 : decode cX6_in 6 = .ok (.lload_n 0, 1) := by decide +kernel
theorem dX6_in_7 : decode cX6_in 7 = .ok (.lload 4, 2) := by decide +kernel
theorem dX6_in_9 : decode cX6_in 9 = .ok (.lcmp, 1) := by decide +kernel
theorem dX6_in_10 : decode cX6_in 10 = .ok (.ifCond .gt 7, 3) := by decide +kernel
theorem dX6_in_13 : decode cX6_in 13 = .ok (.iconst 1, 1) := by decide +kernel
theorem dX6_in_14 : decode cX6_in 14 = .ok (.goto 4, 3) := by decide +kernel
theorem dX6_in_17 : decode cX6_in 17 = .ok (.iconst 0, 1) := by decide +kernel
theorem dX6_in_18 : decode cX6_in 18 = .ok (.ireturn, 1) := by decide +kernel
theorem dX6_bad_0 : decode cX6_bad 0 = .ok (.aload_n 0, 1) := by decide +kernel
theorem dX6_bad_1 : decode cX6_bad 1 = .ok (.getfield 20, 3) := by decide +kernel
theorem dX6_bad_4 : decode cX6_bad 4 = .ok (.iconst 0, 1) := by decide +kernel
theorem dX6_bad_5 : decode cX6_bad 5 = .ok (.dup2, 1) := by decide +kernel
theorem dX6_bad_6 : decode cX6_bad 6 = .ok (.iaload, 1) := by decide +kernel
theorem dX6_bad_7 : decode cX6_bad 7 = .ok (.iconst 1, 1) := by decide +kernel
theorem dX6_bad_8 : decode cX6_bad 8 = .ok (.iadd, 1) := by decide +kernel
theorem dX6_bad_9 : decode cX6_bad 9 = .ok (.iastore, 1) := by decide +kernel
theorem dX6_bad_10 : decode cX6_bad 10 = .ok (.iload_n 1, 1) := by decide +kernel
theorem dX6_bad_11 : decode cX6_bad 11 = .ok (.ireturn, 1) := by decide +kernel
theorem dX6_no_0 : decode cX6_no 0 = .ok (.aload_n 0, 1) := by decide +kernel
theorem dX6_no_1 : decode cX6_no 1 = .ok (.getfield 20, 3) := by decide +kernel
theorem dX6_no_4 : decode cX6_no 4 = .ok (.iconst 1, 1) := by decide +kernel
theorem dX6_no_5 : decode cX6_no 5 = .ok (.dup2, 1) := by decide +kernel
theorem dX6_no_6 : decode cX6_no 6 = .ok (.iaload, 1) := by decide +kernel
theorem dX6_no_7 : decode cX6_no 7 = .ok (.iconst 1, 1) := by decide +kernel
theorem dX6_no_8 : decode cX6_no 8 = .ok (.iadd, 1) := by decide +kernel
theorem dX6_no_9 : decode cX6_no 9 = .ok (.iastore, 1) := by decide +kernel
theorem dX6_no_10 : decode cX6_no 10 = .ok (.bipush (-3), 2) := by decide +kernel
theorem dX6_no_12 : decode cX6_no 12 = .ok (.ireturn, 1) := by decide +kernel
theorem dX6_full_0 : decode cX6_full 0 = .ok (.aload_n 0, 1) := by decide +kernel
theorem dX6_full_1 : decode cX6_full 1 = .ok (.getfield 20, 3) := by decide +kernel
theorem dX6_full_4 : decode cX6_full 4 = .ok (.iconst 2, 1) := by decide +kernel
theorem dX6_full_5 : decode cX6_full 5 = .ok (.dup2, 1) := by decide +kernel
theorem dX6_full_6 : decode cX6_full 6 = .ok (.iaload, 1) := by decide +kernel
theorem dX6_full_7 : decode cX6_full 7 = .ok (.iconst 1, 1) := by decide +kernel
theorem dX6_full_8 : decode cX6_full 8 = .ok (.iadd, 1) := by decide +kernel
theorem dX6_full_9 : decode cX6_full 9 = .ok (.iastore, 1) := by decide +kernel
theorem dX6_full_10 : decode cX6_full 10 = .ok (.bipush (-4), 2) := by decide +kernel
theorem dX6_full_12 : decode cX6_full 12 = .ok (.ireturn, 1) := by decide +kernel
theorem dX6_has_0 : decode cX6_has 0 = .ok (.iload_n 0, 1) := by decide +kernel
theorem dX6_has_1 : decode cX6_has 1 = .ok (.iload_n 1, 1) := by decide +kernel
theorem dX6_has_2 : decode cX6_has 2 = .ok (.ishr, 1) := by decide +kernel
theorem dX6_has_3 : decode cX6_has 3 = .ok (.iconst 1, 1) := by decide +kernel
theorem dX6_has_4 : decode cX6_has 4 = .ok (.iand, 1) := by decide +kernel
theorem dX6_has_5 : decode cX6_has 5 = .ok (.iconst 1, 1) := by decide +kernel
theorem dX6_has_6 : decode cX6_has 6 = .ok (.if_icmp .ne 7, 3) := by decide +kernel
theorem dX6_has_9 : decode cX6_has 9 = .ok (.iconst 1, 1) := by decide +kernel
theorem dX6_has_10 : decode cX6_has 10 = .ok (.goto 4, 3) := by decide +kernel
theorem dX6_has_13 : decode cX6_has 13 = .ok (.iconst 0, 1) := by decide +kernel
theorem dX6_has_14 : decode cX6_has 14 = .ok (.ireturn, 1) := by decide +kernel
theorem dX6_begin_0 : decode cX6_begin 0 = .ok (.iconst 0, 1) := by decide +kernel
theorem dX6_begin_1 : decode cX6_begin 1 = .ok (.istore_n 1, 1) := by decide +kernel
theorem dX6_begin_2 : decode cX6_begin 2 = .ok (.iload_n 1, 1) := by decide +kernel
theorem dX6_begin_3 : decode cX6_begin 3 = .ok (.bipush 106, 2) := by decide +kernel
theorem dX6_begin_5 : decode cX6_begin 5 = .ok (.if_icmp .ge 13, 3) := by decide +kernel
theorem dX6_begin_8 : decode cX6_begin 8 = .ok (.aload_n 0, 1) := by decide +kernel
theorem dX6_begin_9 : decode cX6_begin 9 = .ok (.iload_n 1, 1) := by decide +kernel
theorem dX6_begin_10 : decode cX6_begin 10 = .ok (.iconst 0, 1) := by decide +kernel
theorem dX6_begin_11 : decode cX6_begin 11 = .ok (.iastore, 1) := by decide +kernel
theorem dX6_begin_12 : decode cX6_begin 12 = .ok (.iinc 1 1, 3) := by decide +kernel
theorem dX6_begin_15 : decode cX6_begin 15 = .ok (.goto (-13), 3) := by decide +kernel
theorem dX6_begin_18 : decode cX6_begin 18 = .ok (.return_, 1) := by decide +kernel
theorem dX6_many_0 : decode cX6_many 0 = .ok (.aload_n 0, 1) := by decide +kernel
theorem dX6_many_1 : decode cX6_many 1 = .ok (.getfield 7, 3) := by decide +kernel
theorem dX6_many_4 : decode cX6_many 4 = .ok (.iconst 0, 1) := by decide +kernel
theorem dX6_many_5 : decode cX6_many 5 = .ok (.iaload, 1) := by decide +kernel
theorem dX6_many_6 : decode cX6_many 6 = .ok (.ireturn, 1) := by decide +kernel
theorem dX6_isPromise_0 : decode cX6_isPromise 0 = .ok (.iload_n 1, 1) := by decide +kernel
theorem dX6_isPromise_1 : decode cX6_isPromise 1 = .ok (.i2l, 1) := by decide +kernel
theorem dX6_isPromise_2 : decode cX6_isPromise 2 = .ok (.lconst 0, 1) := by decide +kernel
theorem dX6_isPromise_3 : decode cX6_isPromise 3 = .ok (.aload_n 0, 1) := by decide +kernel
theorem dX6_isPromise_4 : decode cX6_isPromise 4 = .ok (.invokevirtual 52, 3) := by decide +kernel
theorem dX6_isPromise_7 : decode cX6_isPromise 7 = .ok (.iconst 1, 1) := by decide +kernel
theorem dX6_isPromise_8 : decode cX6_isPromise 8 = .ok (.isub, 1) := by decide +kernel
theorem dX6_isPromise_9 : decode cX6_isPromise 9 = .ok (.i2l, 1) := by decide +kernel
theorem dX6_isPromise_10 : decode cX6_isPromise 10 = .ok (.invokestatic 56, 3) := by decide +kernel
theorem dX6_isPromise_13 : decode cX6_isPromise 13 = .ok (.ireturn, 1) := by decide +kernel
theorem dX6_isHearer_0 : decode cX6_isHearer 0 = .ok (.iload_n 1, 1) := by decide +kernel
theorem dX6_isHearer_1 : decode cX6_isHearer 1 = .ok (.i2l, 1) := by decide +kernel
theorem dX6_isHearer_2 : decode cX6_isHearer 2 = .ok (.lconst 0, 1) := by decide +kernel
theorem dX6_isHearer_3 : decode cX6_isHearer 3 = .ok (.aload_n 0, 1) := by decide +kernel
theorem dX6_isHearer_4 : decode cX6_isHearer 4 = .ok (.getfield 7, 3) := by decide +kernel
theorem dX6_isHearer_7 : decode cX6_isHearer 7 = .ok (.iconst 1, 1) := by decide +kernel
theorem dX6_isHearer_8 : decode cX6_isHearer 8 = .ok (.iaload, 1) := by decide +kernel
theorem dX6_isHearer_9 : decode cX6_isHearer 9 = .ok (.iconst 1, 1) := by decide +kernel
theorem dX6_isHearer_10 : decode cX6_isHearer 10 = .ok (.isub, 1) := by decide +kernel
theorem dX6_isHearer_11 : decode cX6_isHearer 11 = .ok (.i2l, 1) := by decide +kernel
theorem dX6_isHearer_12 : decode cX6_isHearer 12 = .ok (.invokestatic 56, 3) := by decide +kernel
theorem dX6_isHearer_15 : decode cX6_isHearer 15 = .ok (.ireturn, 1) := by decide +kernel
theorem dX6_isBuyer_0 : decode cX6_isBuyer 0 = .ok (.iload_n 1, 1) := by decide +kernel
theorem dX6_isBuyer_1 : decode cX6_isBuyer 1 = .ok (.i2l, 1) := by decide +kernel
theorem dX6_isBuyer_2 : decode cX6_isBuyer 2 = .ok (.lconst 0, 1) := by decide +kernel
theorem dX6_isBuyer_3 : decode cX6_isBuyer 3 = .ok (.aload_n 0, 1) := by decide +kernel
theorem dX6_isBuyer_4 : decode cX6_isBuyer 4 = .ok (.getfield 7, 3) := by decide +kernel
theorem dX6_isBuyer_7 : decode cX6_isBuyer 7 = .ok (.iconst 2, 1) := by decide +kernel
theorem dX6_isBuyer_8 : decode cX6_isBuyer 8 = .ok (.iaload, 1) := by decide +kernel
theorem dX6_isBuyer_9 : decode cX6_isBuyer 9 = .ok (.iconst 1, 1) := by decide +kernel
theorem dX6_isBuyer_10 : decode cX6_isBuyer 10 = .ok (.isub, 1) := by decide +kernel
theorem dX6_isBuyer_11 : decode cX6_isBuyer 11 = .ok (.i2l, 1) := by decide +kernel
theorem dX6_isBuyer_12 : decode cX6_isBuyer 12 = .ok (.invokestatic 56, 3) := by decide +kernel
theorem dX6_isBuyer_15 : decode cX6_isBuyer 15 = .ok (.ireturn, 1) := by decide +kernel
theorem dX6_isKind_0 : decode cX6_isKind 0 = .ok (.iload_n 0, 1) := by decide +kernel
theorem dX6_isKind_1 : decode cX6_isKind 1 = .ok (.i2l, 1) := by decide +kernel
theorem dX6_isKind_2 : decode cX6_isKind 2 = .ok (.lconst 0, 1) := by decide +kernel
theorem dX6_isKind_3 : decode cX6_isKind 3 = .ok (.ldc2_w 60, 3) := by decide +kernel
theorem dX6_isKind_6 : decode cX6_isKind 6 = .ok (.invokestatic 56, 3) := by decide +kernel
theorem dX6_isKind_9 : decode cX6_isKind 9 = .ok (.ireturn, 1) := by decide +kernel
theorem dX6_isNine_0 : decode cX6_isNine 0 = .ok (.iload_n 0, 1) := by decide +kernel
theorem dX6_isNine_1 : decode cX6_isNine 1 = .ok (.i2l, 1) := by decide +kernel
theorem dX6_isNine_2 : decode cX6_isNine 2 = .ok (.lconst 1, 1) := by decide +kernel
theorem dX6_isNine_3 : decode cX6_isNine 3 = .ok (.ldc2_w 62, 3) := by decide +kernel
theorem dX6_isNine_6 : decode cX6_isNine 6 = .ok (.invokestatic 56, 3) := by decide +kernel
theorem dX6_isNine_9 : decode cX6_isNine 9 = .ok (.ireturn, 1) := by decide +kernel
theorem dX6_town_0 : decode cX6_town 0 = .ok (.aload_n 0, 1) := by decide +kernel
theorem dX6_town_1 : decode cX6_town 1 = .ok (.invokevirtual 52, 3) := by decide +kernel
theorem dX6_town_4 : decode cX6_town 4 = .ok (.istore_n 1, 1) := by decide +kernel
theorem dX6_town_5 : decode cX6_town 5 = .ok (.aload_n 0, 1) := by decide +kernel
theorem dX6_town_6 : decode cX6_town 6 = .ok (.getfield 7, 3) := by decide +kernel
theorem dX6_town_9 : decode cX6_town 9 = .ok (.invokestatic 48, 3) := by decide +kernel
theorem dX6_town_12 : decode cX6_town 12 = .ok (.iload_n 1, 1) := by decide +kernel
theorem dX6_town_13 : decode cX6_town 13 = .ok (.ireturn, 1) := by decide +kernel
theorem dX6_layPromise_0 : decode cX6_layPromise 0 = .ok (.aload_n 0, 1) := by decide +kernel
theorem dX6_layPromise_1 : decode cX6_layPromise 1 = .ok (.iconst 0, 1) := by decide +kernel
theorem dX6_layPromise_2 : decode cX6_layPromise 2 = .ok (.iaload, 1) := by decide +kernel
theorem dX6_layPromise_3 : decode cX6_layPromise 3 = .ok (.istore_n 3, 1) := by decide +kernel
theorem dX6_layPromise_4 : decode cX6_layPromise 4 = .ok (.aload_n 0, 1) := by decide +kernel
theorem dX6_layPromise_5 : decode cX6_layPromise 5 = .ok (.bipush 26, 2) := by decide +kernel
theorem dX6_layPromise_7 : decode cX6_layPromise 7 = .ok (.iload_n 3, 1) := by decide +kernel
theorem dX6_layPromise_8 : decode cX6_layPromise 8 = .ok (.iadd, 1) := by decide +kernel
theorem dX6_layPromise_9 : decode cX6_layPromise 9 = .ok (.iload_n 1, 1) := by decide +kernel
theorem dX6_layPromise_10 : decode cX6_layPromise 10 = .ok (.iastore, 1) := by decide +kernel
theorem dX6_layPromise_11 : decode cX6_layPromise 11 = .ok (.aload_n 0, 1) := by decide +kernel
theorem dX6_layPromise_12 : decode cX6_layPromise 12 = .ok (.bipush 33, 2) := by decide +kernel
theorem dX6_layPromise_14 : decode cX6_layPromise 14 = .ok (.iload_n 3, 1) := by decide +kernel
theorem dX6_layPromise_15 : decode cX6_layPromise 15 = .ok (.iadd, 1) := by decide +kernel
theorem dX6_layPromise_16 : decode cX6_layPromise 16 = .ok (.iload_n 2, 1) := by decide +kernel
theorem dX6_layPromise_17 : decode cX6_layPromise 17 = .ok (.iastore, 1) := by decide +kernel
theorem dX6_layPromise_18 : decode cX6_layPromise 18 = .ok (.aload_n 0, 1) := by decide +kernel
theorem dX6_layPromise_19 : decode cX6_layPromise 19 = .ok (.bipush 7, 2) := by decide +kernel
theorem dX6_layPromise_21 : decode cX6_layPromise 21 = .ok (.iload_n 3, 1) := by decide +kernel
theorem dX6_layPromise_22 : decode cX6_layPromise 22 = .ok (.iadd, 1) := by decide +kernel
theorem dX6_layPromise_23 : decode cX6_layPromise 23 = .ok (.iconst 0, 1) := by decide +kernel
theorem dX6_layPromise_24 : decode cX6_layPromise 24 = .ok (.iastore, 1) := by decide +kernel
theorem dX6_layPromise_25 : decode cX6_layPromise 25 = .ok (.aload_n 0, 1) := by decide +kernel
theorem dX6_layPromise_26 : decode cX6_layPromise 26 = .ok (.bipush 14, 2) := by decide +kernel
theorem dX6_layPromise_28 : decode cX6_layPromise 28 = .ok (.iload_n 3, 1) := by decide +kernel
theorem dX6_layPromise_29 : decode cX6_layPromise 29 = .ok (.iadd, 1) := by decide +kernel
theorem dX6_layPromise_30 : decode cX6_layPromise 30 = .ok (.iconst 0, 1) := by decide +kernel
theorem dX6_layPromise_31 : decode cX6_layPromise 31 = .ok (.iastore, 1) := by decide +kernel
theorem dX6_layPromise_32 : decode cX6_layPromise 32 = .ok (.aload_n 0, 1) := by decide +kernel
theorem dX6_layPromise_33 : decode cX6_layPromise 33 = .ok (.iconst 0, 1) := by decide +kernel
theorem dX6_layPromise_34 : decode cX6_layPromise 34 = .ok (.dup2, 1) := by decide +kernel
theorem dX6_layPromise_35 : decode cX6_layPromise 35 = .ok (.iaload, 1) := by decide +kernel
theorem dX6_layPromise_36 : decode cX6_layPromise 36 = .ok (.iconst 1, 1) := by decide +kernel
theorem dX6_layPromise_37 : decode cX6_layPromise 37 = .ok (.iadd, 1) := by decide +kernel
theorem dX6_layPromise_38 : decode cX6_layPromise 38 = .ok (.iastore, 1) := by decide +kernel
theorem dX6_layPromise_39 : decode cX6_layPromise 39 = .ok (.return_, 1) := by decide +kernel
theorem dX6_promise_0 : decode cX6_promise 0 = .ok (.iload_n 1, 1) := by decide +kernel
theorem dX6_promise_1 : decode cX6_promise 1 = .ok (.invokestatic 64, 3) := by decide +kernel
theorem dX6_promise_4 : decode cX6_promise 4 = .ok (.ifCond .eq 10, 3) := by decide +kernel
theorem dX6_promise_7 : decode cX6_promise 7 = .ok (.iload_n 2, 1) := by decide +kernel
theorem dX6_promise_8 : decode cX6_promise 8 = .ok (.invokestatic 68, 3) := by decide +kernel
theorem dX6_promise_11 : decode cX6_promise 11 = .ok (.ifCond .ne 10, 3) := by decide +kernel
theorem dX6_promise_14 : decode cX6_promise 14 = .ok (.aload_n 0, 1) := by decide +kernel
theorem dX6_promise_15 : decode cX6_promise 15 = .ok (.bipush (-2), 2) := by decide +kernel
theorem dX6_promise_17 : decode cX6_promise 17 = .ok (.invokevirtual 71, 3) := by decide +kernel
theorem dX6_promise_20 : decode cX6_promise 20 = .ok (.ireturn, 1) := by decide +kernel
theorem dX6_promise_21 : decode cX6_promise 21 = .ok (.aload_n 0, 1) := by decide +kernel
theorem dX6_promise_22 : decode cX6_promise 22 = .ok (.invokevirtual 52, 3) := by decide +kernel
theorem dX6_promise_25 : decode cX6_promise 25 = .ok (.bipush 7, 2) := by decide +kernel
theorem dX6_promise_27 : decode cX6_promise 27 = .ok (.if_icmp .ne 8, 3) := by decide +kernel
theorem dX6_promise_30 : decode cX6_promise 30 = .ok (.aload_n 0, 1) := by decide +kernel
theorem dX6_promise_31 : decode cX6_promise 31 = .ok (.invokevirtual 75, 3) := by decide +kernel
theorem dX6_promise_34 : decode cX6_promise 34 = .ok (.ireturn, 1) := by decide +kernel
theorem dX6_promise_35 : decode cX6_promise 35 = .ok (.aload_n 0, 1) := by decide +kernel
theorem dX6_promise_36 : decode cX6_promise 36 = .ok (.getfield 7, 3) := by decide +kernel
theorem dX6_promise_39 : decode cX6_promise 39 = .ok (.iload_n 1, 1) := by decide +kernel
theorem dX6_promise_40 : decode cX6_promise 40 = .ok (.iload_n 2, 1) := by decide +kernel
theorem dX6_promise_41 : decode cX6_promise 41 = .ok (.invokestatic 78, 3) := by decide +kernel
theorem dX6_promise_44 : decode cX6_promise 44 = .ok (.aload_n 0, 1) := by decide +kernel
theorem dX6_promise_45 : decode cX6_promise 45 = .ok (.getfield 7, 3) := by decide +kernel
theorem dX6_promise_48 : decode cX6_promise 48 = .ok (.bipush 6, 2) := by decide +kernel
theorem dX6_promise_50 : decode cX6_promise 50 = .ok (.iconst 0, 1) := by decide +kernel
theorem dX6_promise_51 : decode cX6_promise 51 = .ok (.iastore, 1) := by decide +kernel
theorem dX6_promise_52 : decode cX6_promise 52 = .ok (.aload_n 0, 1) := by decide +kernel
theorem dX6_promise_53 : decode cX6_promise 53 = .ok (.invokevirtual 52, 3) := by decide +kernel
theorem dX6_promise_56 : decode cX6_promise 56 = .ok (.iconst 1, 1) := by decide +kernel
theorem dX6_promise_57 : decode cX6_promise 57 = .ok (.isub, 1) := by decide +kernel
theorem dX6_promise_58 : decode cX6_promise 58 = .ok (.ireturn, 1) := by decide +kernel
theorem dX6_hearer_0 : decode cX6_hearer 0 = .ok (.iload_n 1, 1) := by decide +kernel
theorem dX6_hearer_1 : decode cX6_hearer 1 = .ok (.invokestatic 64, 3) := by decide +kernel
theorem dX6_hearer_4 : decode cX6_hearer 4 = .ok (.ifCond .eq 10, 3) := by decide +kernel
theorem dX6_hearer_7 : decode cX6_hearer 7 = .ok (.iload_n 2, 1) := by decide +kernel
theorem dX6_hearer_8 : decode cX6_hearer 8 = .ok (.invokestatic 68, 3) := by decide +kernel
theorem dX6_hearer_11 : decode cX6_hearer 11 = .ok (.ifCond .ne 10, 3) := by decide +kernel
theorem dX6_hearer_14 : decode cX6_hearer 14 = .ok (.aload_n 0, 1) := by decide +kernel
theorem dX6_hearer_15 : decode cX6_hearer 15 = .ok (.bipush (-2), 2) := by decide +kernel
theorem dX6_hearer_17 : decode cX6_hearer 17 = .ok (.invokevirtual 71, 3) := by decide +kernel
theorem dX6_hearer_20 : decode cX6_hearer 20 = .ok (.ireturn, 1) := by decide +kernel
theorem dX6_hearer_21 : decode cX6_hearer 21 = .ok (.aload_n 0, 1) := by decide +kernel
theorem dX6_hearer_22 : decode cX6_hearer 22 = .ok (.getfield 7, 3) := by decide +kernel
theorem dX6_hearer_25 : decode cX6_hearer 25 = .ok (.iconst 1, 1) := by decide +kernel
theorem dX6_hearer_26 : decode cX6_hearer 26 = .ok (.iaload, 1) := by decide +kernel
theorem dX6_hearer_27 : decode cX6_hearer 27 = .ok (.iconst 4, 1) := by decide +kernel
theorem dX6_hearer_28 : decode cX6_hearer 28 = .ok (.if_icmp .ne 8, 3) := by decide +kernel
theorem dX6_hearer_31 : decode cX6_hearer 31 = .ok (.aload_n 0, 1) := by decide +kernel
theorem dX6_hearer_32 : decode cX6_hearer 32 = .ok (.invokevirtual 75, 3) := by decide +kernel
theorem dX6_hearer_35 : decode cX6_hearer 35 = .ok (.ireturn, 1) := by decide +kernel
theorem dX6_hearer_36 : decode cX6_hearer 36 = .ok (.aload_n 0, 1) := by decide +kernel
theorem dX6_hearer_37 : decode cX6_hearer 37 = .ok (.getfield 7, 3) := by decide +kernel
theorem dX6_hearer_40 : decode cX6_hearer 40 = .ok (.bipush 40, 2) := by decide +kernel
theorem dX6_hearer_42 : decode cX6_hearer 42 = .ok (.aload_n 0, 1) := by decide +kernel
theorem dX6_hearer_43 : decode cX6_hearer 43 = .ok (.getfield 7, 3) := by decide +kernel
theorem dX6_hearer_46 : decode cX6_hearer 46 = .ok (.iconst 1, 1) := by decide +kernel
theorem dX6_hearer_47 : decode cX6_hearer 47 = .ok (.iaload, 1) := by decide +kernel
theorem dX6_hearer_48 : decode cX6_hearer 48 = .ok (.iadd, 1) := by decide +kernel
theorem dX6_hearer_49 : decode cX6_hearer 49 = .ok (.iload_n 1, 1) := by decide +kernel
theorem dX6_hearer_50 : decode cX6_hearer 50 = .ok (.iastore, 1) := by decide +kernel
theorem dX6_hearer_51 : decode cX6_hearer 51 = .ok (.aload_n 0, 1) := by decide +kernel
theorem dX6_hearer_52 : decode cX6_hearer 52 = .ok (.getfield 7, 3) := by decide +kernel
theorem dX6_hearer_55 : decode cX6_hearer 55 = .ok (.bipush 44, 2) := by decide +kernel
theorem dX6_hearer_57 : decode cX6_hearer 57 = .ok (.aload_n 0, 1) := by decide +kernel
theorem dX6_hearer_58 : decode cX6_hearer 58 = .ok (.getfield 7, 3) := by decide +kernel
theorem dX6_hearer_61 : decode cX6_hearer 61 = .ok (.iconst 1, 1) := by decide +kernel
theorem dX6_hearer_62 : decode cX6_hearer 62 = .ok (.iaload, 1) := by decide +kernel
theorem dX6_hearer_63 : decode cX6_hearer 63 = .ok (.iadd, 1) := by decide +kernel
theorem dX6_hearer_64 : decode cX6_hearer 64 = .ok (.iload_n 2, 1) := by decide +kernel
theorem dX6_hearer_65 : decode cX6_hearer 65 = .ok (.iastore, 1) := by decide +kernel
theorem dX6_hearer_66 : decode cX6_hearer 66 = .ok (.aload_n 0, 1) := by decide +kernel
theorem dX6_hearer_67 : decode cX6_hearer 67 = .ok (.getfield 7, 3) := by decide +kernel
theorem dX6_hearer_70 : decode cX6_hearer 70 = .ok (.iconst 1, 1) := by decide +kernel
theorem dX6_hearer_71 : decode cX6_hearer 71 = .ok (.dup2, 1) := by decide +kernel
theorem dX6_hearer_72 : decode cX6_hearer 72 = .ok (.iaload, 1) := by decide +kernel
theorem dX6_hearer_73 : decode cX6_hearer 73 = .ok (.iconst 1, 1) := by decide +kernel
theorem dX6_hearer_74 : decode cX6_hearer 74 = .ok (.iadd, 1) := by decide +kernel
theorem dX6_hearer_75 : decode cX6_hearer 75 = .ok (.iastore, 1) := by decide +kernel
theorem dX6_hearer_76 : decode cX6_hearer 76 = .ok (.aload_n 0, 1) := by decide +kernel
theorem dX6_hearer_77 : decode cX6_hearer 77 = .ok (.getfield 7, 3) := by decide +kernel
theorem dX6_hearer_80 : decode cX6_hearer 80 = .ok (.bipush 6, 2) := by decide +kernel
theorem dX6_hearer_82 : decode cX6_hearer 82 = .ok (.iconst 0, 1) := by decide +kernel
theorem dX6_hearer_83 : decode cX6_hearer 83 = .ok (.iastore, 1) := by decide +kernel
theorem dX6_hearer_84 : decode cX6_hearer 84 = .ok (.aload_n 0, 1) := by decide +kernel
theorem dX6_hearer_85 : decode cX6_hearer 85 = .ok (.getfield 7, 3) := by decide +kernel
theorem dX6_hearer_88 : decode cX6_hearer 88 = .ok (.iconst 1, 1) := by decide +kernel
theorem dX6_hearer_89 : decode cX6_hearer 89 = .ok (.iaload, 1) := by decide +kernel
theorem dX6_hearer_90 : decode cX6_hearer 90 = .ok (.iconst 1, 1) := by decide +kernel
theorem dX6_hearer_91 : decode cX6_hearer 91 = .ok (.isub, 1) := by decide +kernel
theorem dX6_hearer_92 : decode cX6_hearer 92 = .ok (.ireturn, 1) := by decide +kernel
theorem dX6_buyer_0 : decode cX6_buyer 0 = .ok (.iload_n 1, 1) := by decide +kernel
theorem dX6_buyer_1 : decode cX6_buyer 1 = .ok (.i2l, 1) := by decide +kernel
theorem dX6_buyer_2 : decode cX6_buyer 2 = .ok (.lconst 0, 1) := by decide +kernel
theorem dX6_buyer_3 : decode cX6_buyer 3 = .ok (.ldc2_w 82, 3) := by decide +kernel
theorem dX6_buyer_6 : decode cX6_buyer 6 = .ok (.invokestatic 56, 3) := by decide +kernel
theorem dX6_buyer_9 : decode cX6_buyer 9 = .ok (.ifCond .ne 10, 3) := by decide +kernel
theorem dX6_buyer_12 : decode cX6_buyer 12 = .ok (.aload_n 0, 1) := by decide +kernel
theorem dX6_buyer_13 : decode cX6_buyer 13 = .ok (.bipush (-2), 2) := by decide +kernel
theorem dX6_buyer_15 : decode cX6_buyer 15 = .ok (.invokevirtual 71, 3) := by decide +kernel
theorem dX6_buyer_18 : decode cX6_buyer 18 = .ok (.ireturn, 1) := by decide +kernel
theorem dX6_buyer_19 : decode cX6_buyer 19 = .ok (.aload_n 0, 1) := by decide +kernel
theorem dX6_buyer_20 : decode cX6_buyer 20 = .ok (.getfield 7, 3) := by decide +kernel
theorem dX6_buyer_23 : decode cX6_buyer 23 = .ok (.iconst 2, 1) := by decide +kernel
theorem dX6_buyer_24 : decode cX6_buyer 24 = .ok (.iaload, 1) := by decide +kernel
theorem dX6_buyer_25 : decode cX6_buyer 25 = .ok (.iconst 3, 1) := by decide +kernel
theorem dX6_buyer_26 : decode cX6_buyer 26 = .ok (.if_icmp .ne 8, 3) := by decide +kernel
theorem dX6_buyer_29 : decode cX6_buyer 29 = .ok (.aload_n 0, 1) := by decide +kernel
theorem dX6_buyer_30 : decode cX6_buyer 30 = .ok (.invokevirtual 75, 3) := by decide +kernel
theorem dX6_buyer_33 : decode cX6_buyer 33 = .ok (.ireturn, 1) := by decide +kernel
theorem dX6_buyer_34 : decode cX6_buyer 34 = .ok (.aload_n 0, 1) := by decide +kernel
theorem dX6_buyer_35 : decode cX6_buyer 35 = .ok (.getfield 7, 3) := by decide +kernel
theorem dX6_buyer_38 : decode cX6_buyer 38 = .ok (.bipush 21, 2) := by decide +kernel
theorem dX6_buyer_40 : decode cX6_buyer 40 = .ok (.aload_n 0, 1) := by decide +kernel
theorem dX6_buyer_41 : decode cX6_buyer 41 = .ok (.getfield 7, 3) := by decide +kernel
theorem dX6_buyer_44 : decode cX6_buyer 44 = .ok (.iconst 2, 1) := by decide +kernel
theorem dX6_buyer_45 : decode cX6_buyer 45 = .ok (.iaload, 1) := by decide +kernel
theorem dX6_buyer_46 : decode cX6_buyer 46 = .ok (.iadd, 1) := by decide +kernel
theorem dX6_buyer_47 : decode cX6_buyer 47 = .ok (.iload_n 1, 1) := by decide +kernel
theorem dX6_buyer_48 : decode cX6_buyer 48 = .ok (.iastore, 1) := by decide +kernel
theorem dX6_buyer_49 : decode cX6_buyer 49 = .ok (.aload_n 0, 1) := by decide +kernel
theorem dX6_buyer_50 : decode cX6_buyer 50 = .ok (.getfield 7, 3) := by decide +kernel
theorem dX6_buyer_53 : decode cX6_buyer 53 = .ok (.iconst 2, 1) := by decide +kernel
theorem dX6_buyer_54 : decode cX6_buyer 54 = .ok (.dup2, 1) := by decide +kernel
theorem dX6_buyer_55 : decode cX6_buyer 55 = .ok (.iaload, 1) := by decide +kernel
theorem dX6_buyer_56 : decode cX6_buyer 56 = .ok (.iconst 1, 1) := by decide +kernel
theorem dX6_buyer_57 : decode cX6_buyer 57 = .ok (.iadd, 1) := by decide +kernel
theorem dX6_buyer_58 : decode cX6_buyer 58 = .ok (.iastore, 1) := by decide +kernel
theorem dX6_buyer_59 : decode cX6_buyer 59 = .ok (.aload_n 0, 1) := by decide +kernel
theorem dX6_buyer_60 : decode cX6_buyer 60 = .ok (.getfield 7, 3) := by decide +kernel
theorem dX6_buyer_63 : decode cX6_buyer 63 = .ok (.bipush 6, 2) := by decide +kernel
theorem dX6_buyer_65 : decode cX6_buyer 65 = .ok (.iconst 0, 1) := by decide +kernel
theorem dX6_buyer_66 : decode cX6_buyer 66 = .ok (.iastore, 1) := by decide +kernel
theorem dX6_buyer_67 : decode cX6_buyer 67 = .ok (.aload_n 0, 1) := by decide +kernel
theorem dX6_buyer_68 : decode cX6_buyer 68 = .ok (.getfield 7, 3) := by decide +kernel
theorem dX6_buyer_71 : decode cX6_buyer 71 = .ok (.iconst 2, 1) := by decide +kernel
theorem dX6_buyer_72 : decode cX6_buyer 72 = .ok (.iaload, 1) := by decide +kernel
theorem dX6_buyer_73 : decode cX6_buyer 73 = .ok (.iconst 1, 1) := by decide +kernel
theorem dX6_buyer_74 : decode cX6_buyer 74 = .ok (.isub, 1) := by decide +kernel
theorem dX6_buyer_75 : decode cX6_buyer 75 = .ok (.ireturn, 1) := by decide +kernel
theorem dX6_goodAs_0 : decode cX6_goodAs 0 = .ok (.iload_n 1, 1) := by decide +kernel
theorem dX6_goodAs_1 : decode cX6_goodAs 1 = .ok (.iload_n 2, 1) := by decide +kernel
theorem dX6_goodAs_2 : decode cX6_goodAs 2 = .ok (.bipush 10, 2) := by decide +kernel
theorem dX6_goodAs_4 : decode cX6_goodAs 4 = .ok (.idiv, 1) := by decide +kernel
theorem dX6_goodAs_5 : decode cX6_goodAs 5 = .ok (.iconst 5, 1) := by decide +kernel
theorem dX6_goodAs_6 : decode cX6_goodAs 6 = .ok (.if_icmp .le 7, 3) := by decide +kernel
theorem dX6_goodAs_9 : decode cX6_goodAs 9 = .ok (.iconst 5, 1) := by decide +kernel
theorem dX6_goodAs_10 : decode cX6_goodAs 10 = .ok (.goto 7, 3) := by decide +kernel
theorem dX6_goodAs_13 : decode cX6_goodAs 13 = .ok (.iload_n 2, 1) := by decide +kernel
theorem dX6_goodAs_14 : decode cX6_goodAs 14 = .ok (.bipush 10, 2) := by decide +kernel
theorem dX6_goodAs_16 : decode cX6_goodAs 16 = .ok (.idiv, 1) := by decide +kernel
theorem dX6_goodAs_17 : decode cX6_goodAs 17 = .ok (.iadd, 1) := by decide +kernel
theorem dX6_goodAs_18 : decode cX6_goodAs 18 = .ok (.istore_n 3, 1) := by decide +kernel
theorem dX6_goodAs_19 : decode cX6_goodAs 19 = .ok (.iload_n 1, 1) := by decide +kernel
theorem dX6_goodAs_20 : decode cX6_goodAs 20 = .ok (.iload_n 2, 1) := by decide +kernel
theorem dX6_goodAs_21 : decode cX6_goodAs 21 = .ok (.iconst 5, 1) := by decide +kernel
theorem dX6_goodAs_22 : decode cX6_goodAs 22 = .ok (.idiv, 1) := by decide +kernel
theorem dX6_goodAs_23 : decode cX6_goodAs 23 = .ok (.if_icmp .le 11, 3) := by decide +kernel
theorem dX6_goodAs_26 : decode cX6_goodAs 26 = .ok (.iload_n 1, 1) := by decide +kernel
theorem dX6_goodAs_27 : decode cX6_goodAs 27 = .ok (.iload_n 2, 1) := by decide +kernel
theorem dX6_goodAs_28 : decode cX6_goodAs 28 = .ok (.iconst 5, 1) := by decide +kernel
theorem dX6_goodAs_29 : decode cX6_goodAs 29 = .ok (.idiv, 1) := by decide +kernel
theorem dX6_goodAs_30 : decode cX6_goodAs 30 = .ok (.isub, 1) := by decide +kernel
theorem dX6_goodAs_31 : decode cX6_goodAs 31 = .ok (.goto 4, 3) := by decide +kernel
theorem dX6_goodAs_34 : decode cX6_goodAs 34 = .ok (.iconst 0, 1) := by decide +kernel
theorem dX6_goodAs_35 : decode cX6_goodAs 35 = .ok (.istore 4, 2) := by decide +kernel
theorem dX6_goodAs_37 : decode cX6_goodAs 37 = .ok (.iload_n 0, 1) := by decide +kernel
theorem dX6_goodAs_38 : decode cX6_goodAs 38 = .ok (.tableswitch 83 1 5 #[34, 36, 39, 52, 66], 34) := by decide +kernel
theorem dX6_goodAs_72 : decode cX6_goodAs 72 = .ok (.iload_n 3, 1) := by decide +kernel
theorem dX6_goodAs_73 : decode cX6_goodAs 73 = .ok (.ireturn, 1) := by decide +kernel
theorem dX6_goodAs_74 : decode cX6_goodAs 74 = .ok (.iload 4, 2) := by decide +kernel
theorem dX6_goodAs_76 : decode cX6_goodAs 76 = .ok (.ireturn, 1) := by decide +kernel
theorem dX6_goodAs_77 : decode cX6_goodAs 77 = .ok (.iload 4, 2) := by decide +kernel
theorem dX6_goodAs_79 : decode cX6_goodAs 79 = .ok (.iconst 2, 1) := by decide +kernel
theorem dX6_goodAs_80 : decode cX6_goodAs 80 = .ok (.if_icmp .ge 7, 3) := by decide +kernel
theorem dX6_goodAs_83 : decode cX6_goodAs 83 = .ok (.iconst 2, 1) := by decide +kernel
theorem dX6_goodAs_84 : decode cX6_goodAs 84 = .ok (.goto 5, 3) := by decide +kernel
theorem dX6_goodAs_87 : decode cX6_goodAs 87 = .ok (.iload 4, 2) := by decide +kernel
theorem dX6_goodAs_89 : decode cX6_goodAs 89 = .ok (.ireturn, 1) := by decide +kernel
theorem dX6_goodAs_90 : decode cX6_goodAs 90 = .ok (.iload_n 2, 1) := by decide +kernel
theorem dX6_goodAs_91 : decode cX6_goodAs 91 = .ok (.bipush 7, 2) := by decide +kernel
theorem dX6_goodAs_93 : decode cX6_goodAs 93 = .ok (.if_icmp .ge 7, 3) := by decide +kernel
theorem dX6_goodAs_96 : decode cX6_goodAs 96 = .ok (.iconst 0, 1) := by decide +kernel
theorem dX6_goodAs_97 : decode cX6_goodAs 97 = .ok (.goto 6, 3) := by decide +kernel
theorem dX6_goodAs_100 : decode cX6_goodAs 100 = .ok (.iload_n 1, 1) := by decide +kernel
theorem dX6_goodAs_101 : decode cX6_goodAs 101 = .ok (.iconst 3, 1) := by decide +kernel
theorem dX6_goodAs_102 : decode cX6_goodAs 102 = .ok (.iadd, 1) := by decide +kernel
theorem dX6_goodAs_103 : decode cX6_goodAs 103 = .ok (.ireturn, 1) := by decide +kernel
theorem dX6_goodAs_104 : decode cX6_goodAs 104 = .ok (.iconst 2, 1) := by decide +kernel
theorem dX6_goodAs_105 : decode cX6_goodAs 105 = .ok (.iload_n 3, 1) := by decide +kernel
theorem dX6_goodAs_106 : decode cX6_goodAs 106 = .ok (.imul, 1) := by decide +kernel
theorem dX6_goodAs_107 : decode cX6_goodAs 107 = .ok (.bipush 25, 2) := by decide +kernel
theorem dX6_goodAs_109 : decode cX6_goodAs 109 = .ok (.if_icmp .le 8, 3) := by decide +kernel
theorem dX6_goodAs_112 : decode cX6_goodAs 112 = .ok (.bipush 25, 2) := by decide +kernel
theorem dX6_goodAs_114 : decode cX6_goodAs 114 = .ok (.goto 6, 3) := by decide +kernel
theorem dX6_goodAs_117 : decode cX6_goodAs 117 = .ok (.iconst 2, 1) := by decide +kernel
theorem dX6_goodAs_118 : decode cX6_goodAs 118 = .ok (.iload_n 3, 1) := by decide +kernel
theorem dX6_goodAs_119 : decode cX6_goodAs 119 = .ok (.imul, 1) := by decide +kernel
theorem dX6_goodAs_120 : decode cX6_goodAs 120 = .ok (.ireturn, 1) := by decide +kernel
theorem dX6_goodAs_121 : decode cX6_goodAs 121 = .ok (.iload_n 1, 1) := by decide +kernel
theorem dX6_goodAs_122 : decode cX6_goodAs 122 = .ok (.ireturn, 1) := by decide +kernel
theorem dX6_joyAs_0 : decode cX6_joyAs 0 = .ok (.iload_n 1, 1) := by decide +kernel
theorem dX6_joyAs_1 : decode cX6_joyAs 1 = .ok (.iload_n 2, 1) := by decide +kernel
theorem dX6_joyAs_2 : decode cX6_joyAs 2 = .ok (.if_icmp .le 9, 3) := by decide +kernel
theorem dX6_joyAs_5 : decode cX6_joyAs 5 = .ok (.iload_n 1, 1) := by decide +kernel
theorem dX6_joyAs_6 : decode cX6_joyAs 6 = .ok (.iload_n 2, 1) := by decide +kernel
theorem dX6_joyAs_7 : decode cX6_joyAs 7 = .ok (.isub, 1) := by decide +kernel
theorem dX6_joyAs_8 : decode cX6_joyAs 8 = .ok (.goto 6, 3) := by decide +kernel
theorem dX6_joyAs_11 : decode cX6_joyAs 11 = .ok (.iload_n 2, 1) := by decide +kernel
theorem dX6_joyAs_12 : decode cX6_joyAs 12 = .ok (.iload_n 1, 1) := by decide +kernel
theorem dX6_joyAs_13 : decode cX6_joyAs 13 = .ok (.isub, 1) := by decide +kernel
theorem dX6_joyAs_14 : decode cX6_joyAs 14 = .ok (.istore_n 3, 1) := by decide +kernel
theorem dX6_joyAs_15 : decode cX6_joyAs 15 = .ok (.iload_n 3, 1) := by decide +kernel
theorem dX6_joyAs_16 : decode cX6_joyAs 16 = .ok (.bipush 6, 2) := by decide +kernel
theorem dX6_joyAs_18 : decode cX6_joyAs 18 = .ok (.if_icmp .ge 10, 3) := by decide +kernel
theorem dX6_joyAs_21 : decode cX6_joyAs 21 = .ok (.bipush 6, 2) := by decide +kernel
theorem dX6_joyAs_23 : decode cX6_joyAs 23 = .ok (.iload_n 3, 1) := by decide +kernel
theorem dX6_joyAs_24 : decode cX6_joyAs 24 = .ok (.isub, 1) := by decide +kernel
theorem dX6_joyAs_25 : decode cX6_joyAs 25 = .ok (.goto 4, 3) := by decide +kernel
theorem dX6_joyAs_28 : decode cX6_joyAs 28 = .ok (.iconst 0, 1) := by decide +kernel
theorem dX6_joyAs_29 : decode cX6_joyAs 29 = .ok (.istore 4, 2) := by decide +kernel
theorem dX6_joyAs_31 : decode cX6_joyAs 31 = .ok (.iload_n 1, 1) := by decide +kernel
theorem dX6_joyAs_32 : decode cX6_joyAs 32 = .ok (.iload_n 2, 1) := by decide +kernel
theorem dX6_joyAs_33 : decode cX6_joyAs 33 = .ok (.if_icmp .lt 10, 3) := by decide +kernel
theorem dX6_joyAs_36 : decode cX6_joyAs 36 = .ok (.iload 4, 2) := by decide +kernel
theorem dX6_joyAs_38 : decode cX6_joyAs 38 = .ok (.iconst 2, 1) := by decide +kernel
theorem dX6_joyAs_39 : decode cX6_joyAs 39 = .ok (.iadd, 1) := by decide +kernel
theorem dX6_joyAs_40 : decode cX6_joyAs 40 = .ok (.goto 5, 3) := by decide +kernel
theorem dX6_joyAs_43 : decode cX6_joyAs 43 = .ok (.iload 4, 2) := by decide +kernel
theorem dX6_joyAs_45 : decode cX6_joyAs 45 = .ok (.istore 5, 2) := by decide +kernel
theorem dX6_joyAs_47 : decode cX6_joyAs 47 = .ok (.iload 4, 2) := by decide +kernel
theorem dX6_joyAs_49 : decode cX6_joyAs 49 = .ok (.iconst 3, 1) := by decide +kernel
theorem dX6_joyAs_50 : decode cX6_joyAs 50 = .ok (.if_icmp .ge 7, 3) := by decide +kernel
theorem dX6_joyAs_53 : decode cX6_joyAs 53 = .ok (.iconst 3, 1) := by decide +kernel
theorem dX6_joyAs_54 : decode cX6_joyAs 54 = .ok (.goto 5, 3) := by decide +kernel
theorem dX6_joyAs_57 : decode cX6_joyAs 57 = .ok (.iload 4, 2) := by decide +kernel
theorem dX6_joyAs_59 : decode cX6_joyAs 59 = .ok (.istore 6, 2) := by decide +kernel
theorem dX6_joyAs_61 : decode cX6_joyAs 61 = .ok (.iload_n 0, 1) := by decide +kernel
theorem dX6_joyAs_62 : decode cX6_joyAs 62 = .ok (.tableswitch 64 1 5 #[34, 37, 40, 47, 59], 34) := by decide +kernel
theorem dX6_joyAs_96 : decode cX6_joyAs 96 = .ok (.iload 5, 2) := by decide +kernel
theorem dX6_joyAs_98 : decode cX6_joyAs 98 = .ok (.ireturn, 1) := by decide +kernel
theorem dX6_joyAs_99 : decode cX6_joyAs 99 = .ok (.iload 6, 2) := by decide +kernel
theorem dX6_joyAs_101 : decode cX6_joyAs 101 = .ok (.ireturn, 1) := by decide +kernel
theorem dX6_joyAs_102 : decode cX6_joyAs 102 = .ok (.iload 5, 2) := by decide +kernel
theorem dX6_joyAs_104 : decode cX6_joyAs 104 = .ok (.iconst 1, 1) := by decide +kernel
theorem dX6_joyAs_105 : decode cX6_joyAs 105 = .ok (.iadd, 1) := by decide +kernel
theorem dX6_joyAs_106 : decode cX6_joyAs 106 = .ok (.iconst 2, 1) := by decide +kernel
theorem dX6_joyAs_107 : decode cX6_joyAs 107 = .ok (.idiv, 1) := by decide +kernel
theorem dX6_joyAs_108 : decode cX6_joyAs 108 = .ok (.ireturn, 1) := by decide +kernel
theorem dX6_joyAs_109 : decode cX6_joyAs 109 = .ok (.iload_n 1, 1) := by decide +kernel
theorem dX6_joyAs_110 : decode cX6_joyAs 110 = .ok (.iconst 4, 1) := by decide +kernel
theorem dX6_joyAs_111 : decode cX6_joyAs 111 = .ok (.if_icmp .ge 7, 3) := by decide +kernel
theorem dX6_joyAs_114 : decode cX6_joyAs 114 = .ok (.iconst 0, 1) := by decide +kernel
theorem dX6_joyAs_115 : decode cX6_joyAs 115 = .ok (.goto 5, 3) := by decide +kernel
theorem dX6_joyAs_118 : decode cX6_joyAs 118 = .ok (.iload 4, 2) := by decide +kernel
theorem dX6_joyAs_120 : decode cX6_joyAs 120 = .ok (.ireturn, 1) := by decide +kernel
theorem dX6_joyAs_121 : decode cX6_joyAs 121 = .ok (.iconst 2, 1) := by decide +kernel
theorem dX6_joyAs_122 : decode cX6_joyAs 122 = .ok (.iload 6, 2) := by decide +kernel
theorem dX6_joyAs_124 : decode cX6_joyAs 124 = .ok (.imul, 1) := by decide +kernel
theorem dX6_joyAs_125 : decode cX6_joyAs 125 = .ok (.ireturn, 1) := by decide +kernel
theorem dX6_joyAs_126 : decode cX6_joyAs 126 = .ok (.iload 4, 2) := by decide +kernel
theorem dX6_joyAs_128 : decode cX6_joyAs 128 = .ok (.ireturn, 1) := by decide +kernel
theorem dX6_goodOf_0 : decode cX6_goodOf 0 = .ok (.aload_n 0, 1) := by decide +kernel
theorem dX6_goodOf_1 : decode cX6_goodOf 1 = .ok (.bipush 26, 2) := by decide +kernel
theorem dX6_goodOf_3 : decode cX6_goodOf 3 = .ok (.iload_n 1, 1) := by decide +kernel
theorem dX6_goodOf_4 : decode cX6_goodOf 4 = .ok (.iadd, 1) := by decide +kernel
theorem dX6_goodOf_5 : decode cX6_goodOf 5 = .ok (.iaload, 1) := by decide +kernel
theorem dX6_goodOf_6 : decode cX6_goodOf 6 = .ok (.aload_n 0, 1) := by decide +kernel
theorem dX6_goodOf_7 : decode cX6_goodOf 7 = .ok (.bipush 33, 2) := by decide +kernel
theorem dX6_goodOf_9 : decode cX6_goodOf 9 = .ok (.iload_n 1, 1) := by decide +kernel
theorem dX6_goodOf_10 : decode cX6_goodOf 10 = .ok (.iadd, 1) := by decide +kernel
theorem dX6_goodOf_11 : decode cX6_goodOf 11 = .ok (.iaload, 1) := by decide +kernel
theorem dX6_goodOf_12 : decode cX6_goodOf 12 = .ok (.aload_n 0, 1) := by decide +kernel
theorem dX6_goodOf_13 : decode cX6_goodOf 13 = .ok (.bipush 14, 2) := by decide +kernel
theorem dX6_goodOf_15 : decode cX6_goodOf 15 = .ok (.iload_n 1, 1) := by decide +kernel
theorem dX6_goodOf_16 : decode cX6_goodOf 16 = .ok (.iadd, 1) := by decide +kernel
theorem dX6_goodOf_17 : decode cX6_goodOf 17 = .ok (.iaload, 1) := by decide +kernel
theorem dX6_goodOf_18 : decode cX6_goodOf 18 = .ok (.invokestatic 84, 3) := by decide +kernel
theorem dX6_goodOf_21 : decode cX6_goodOf 21 = .ok (.ireturn, 1) := by decide +kernel
theorem dX6_priceOf_0 : decode cX6_priceOf 0 = .ok (.iconst 2, 1) := by decide +kernel
theorem dX6_priceOf_1 : decode cX6_priceOf 1 = .ok (.aload_n 0, 1) := by decide +kernel
theorem dX6_priceOf_2 : decode cX6_priceOf 2 = .ok (.iload_n 1, 1) := by decide +kernel
theorem dX6_priceOf_3 : decode cX6_priceOf 3 = .ok (.invokestatic 88, 3) := by decide +kernel
theorem dX6_priceOf_6 : decode cX6_priceOf 6 = .ok (.imul, 1) := by decide +kernel
theorem dX6_priceOf_7 : decode cX6_priceOf 7 = .ok (.iconst 1, 1) := by decide +kernel
theorem dX6_priceOf_8 : decode cX6_priceOf 8 = .ok (.iadd, 1) := by decide +kernel
theorem dX6_priceOf_9 : decode cX6_priceOf 9 = .ok (.ireturn, 1) := by decide +kernel
theorem dX6_joyOf_0 : decode cX6_joyOf 0 = .ok (.aload_n 0, 1) := by decide +kernel
theorem dX6_joyOf_1 : decode cX6_joyOf 1 = .ok (.bipush 40, 2) := by decide +kernel
theorem dX6_joyOf_3 : decode cX6_joyOf 3 = .ok (.iload_n 2, 1) := by decide +kernel
theorem dX6_joyOf_4 : decode cX6_joyOf 4 = .ok (.iadd, 1) := by decide +kernel
theorem dX6_joyOf_5 : decode cX6_joyOf 5 = .ok (.iaload, 1) := by decide +kernel
theorem dX6_joyOf_6 : decode cX6_joyOf 6 = .ok (.aload_n 0, 1) := by decide +kernel
theorem dX6_joyOf_7 : decode cX6_joyOf 7 = .ok (.iload_n 1, 1) := by decide +kernel
theorem dX6_joyOf_8 : decode cX6_joyOf 8 = .ok (.invokestatic 88, 3) := by decide +kernel
theorem dX6_joyOf_11 : decode cX6_joyOf 11 = .ok (.aload_n 0, 1) := by decide +kernel
theorem dX6_joyOf_12 : decode cX6_joyOf 12 = .ok (.bipush 44, 2) := by decide +kernel
theorem dX6_joyOf_14 : decode cX6_joyOf 14 = .ok (.iload_n 2, 1) := by decide +kernel
theorem dX6_joyOf_15 : decode cX6_joyOf 15 = .ok (.iadd, 1) := by decide +kernel
theorem dX6_joyOf_16 : decode cX6_joyOf 16 = .ok (.iaload, 1) := by decide +kernel
theorem dX6_joyOf_17 : decode cX6_joyOf 17 = .ok (.invokestatic 92, 3) := by decide +kernel
theorem dX6_joyOf_20 : decode cX6_joyOf 20 = .ok (.ireturn, 1) := by decide +kernel
theorem dX6_isShown_0 : decode cX6_isShown 0 = .ok (.aload_n 0, 1) := by decide +kernel
theorem dX6_isShown_1 : decode cX6_isShown 1 = .ok (.bipush 7, 2) := by decide +kernel
theorem dX6_isShown_3 : decode cX6_isShown 3 = .ok (.iload_n 1, 1) := by decide +kernel
theorem dX6_isShown_4 : decode cX6_isShown 4 = .ok (.iadd, 1) := by decide +kernel
theorem dX6_isShown_5 : decode cX6_isShown 5 = .ok (.iaload, 1) := by decide +kernel
theorem dX6_isShown_6 : decode cX6_isShown 6 = .ok (.ifCond .ne 7, 3) := by decide +kernel
theorem dX6_isShown_9 : decode cX6_isShown 9 = .ok (.iconst 1, 1) := by decide +kernel
theorem dX6_isShown_10 : decode cX6_isShown 10 = .ok (.goto 4, 3) := by decide +kernel
theorem dX6_isShown_13 : decode cX6_isShown 13 = .ok (.iconst 0, 1) := by decide +kernel
theorem dX6_isShown_14 : decode cX6_isShown 14 = .ok (.ireturn, 1) := by decide +kernel
theorem dX6_isHeld_0 : decode cX6_isHeld 0 = .ok (.aload_n 0, 1) := by decide +kernel
theorem dX6_isHeld_1 : decode cX6_isHeld 1 = .ok (.bipush 7, 2) := by decide +kernel
theorem dX6_isHeld_3 : decode cX6_isHeld 3 = .ok (.iload_n 1, 1) := by decide +kernel
theorem dX6_isHeld_4 : decode cX6_isHeld 4 = .ok (.iadd, 1) := by decide +kernel
theorem dX6_isHeld_5 : decode cX6_isHeld 5 = .ok (.iaload, 1) := by decide +kernel
theorem dX6_isHeld_6 : decode cX6_isHeld 6 = .ok (.iconst 1, 1) := by decide +kernel
theorem dX6_isHeld_7 : decode cX6_isHeld 7 = .ok (.if_icmp .lt 18, 3) := by decide +kernel
theorem dX6_isHeld_10 : decode cX6_isHeld 10 = .ok (.aload_n 0, 1) := by decide +kernel
theorem dX6_isHeld_11 : decode cX6_isHeld 11 = .ok (.bipush 7, 2) := by decide +kernel
theorem dX6_isHeld_13 : decode cX6_isHeld 13 = .ok (.iload_n 1, 1) := by decide +kernel
theorem dX6_isHeld_14 : decode cX6_isHeld 14 = .ok (.iadd, 1) := by decide +kernel
theorem dX6_isHeld_15 : decode cX6_isHeld 15 = .ok (.iaload, 1) := by decide +kernel
theorem dX6_isHeld_16 : decode cX6_isHeld 16 = .ok (.bipush 10, 2) := by decide +kernel
theorem dX6_isHeld_18 : decode cX6_isHeld 18 = .ok (.if_icmp .ge 7, 3) := by decide +kernel
theorem dX6_isHeld_21 : decode cX6_isHeld 21 = .ok (.iconst 1, 1) := by decide +kernel
theorem dX6_isHeld_22 : decode cX6_isHeld 22 = .ok (.goto 4, 3) := by decide +kernel
theorem dX6_isHeld_25 : decode cX6_isHeld 25 = .ok (.iconst 0, 1) := by decide +kernel
theorem dX6_isHeld_26 : decode cX6_isHeld 26 = .ok (.ireturn, 1) := by decide +kernel
theorem dX6_goDay_0 : decode cX6_goDay 0 = .ok (.iconst 0, 1) := by decide +kernel
theorem dX6_goDay_1 : decode cX6_goDay 1 = .ok (.istore_n 1, 1) := by decide +kernel
theorem dX6_goDay_2 : decode cX6_goDay 2 = .ok (.iload_n 1, 1) := by decide +kernel
theorem dX6_goDay_3 : decode cX6_goDay 3 = .ok (.aload_n 0, 1) := by decide +kernel
theorem dX6_goDay_4 : decode cX6_goDay 4 = .ok (.iconst 0, 1) := by decide +kernel
theorem dX6_goDay_5 : decode cX6_goDay 5 = .ok (.iaload, 1) := by decide +kernel
theorem dX6_goDay_6 : decode cX6_goDay 6 = .ok (.if_icmp .ge 31, 3) := by decide +kernel
theorem dX6_goDay_9 : decode cX6_goDay 9 = .ok (.aload_n 0, 1) := by decide +kernel
theorem dX6_goDay_10 : decode cX6_goDay 10 = .ok (.bipush 14, 2) := by decide +kernel
theorem dX6_goDay_12 : decode cX6_goDay 12 = .ok (.iload_n 1, 1) := by decide +kernel
theorem dX6_goDay_13 : decode cX6_goDay 13 = .ok (.iadd, 1) := by decide +kernel
theorem dX6_goDay_14 : decode cX6_goDay 14 = .ok (.dup2, 1) := by decide +kernel
theorem dX6_goDay_15 : decode cX6_goDay 15 = .ok (.iaload, 1) := by decide +kernel
theorem dX6_goDay_16 : decode cX6_goDay 16 = .ok (.aload_n 0, 1) := by decide +kernel
theorem dX6_goDay_17 : decode cX6_goDay 17 = .ok (.iload_n 1, 1) := by decide +kernel
theorem dX6_goDay_18 : decode cX6_goDay 18 = .ok (.invokestatic 95, 3) := by decide +kernel
theorem dX6_goDay_21 : decode cX6_goDay 21 = .ok (.ifCond .eq 7, 3) := by decide +kernel
theorem dX6_goDay_24 : decode cX6_goDay 24 = .ok (.iconst 1, 1) := by decide +kernel
theorem dX6_goDay_25 : decode cX6_goDay 25 = .ok (.goto 4, 3) := by decide +kernel
theorem dX6_goDay_28 : decode cX6_goDay 28 = .ok (.iconst 0, 1) := by decide +kernel
theorem dX6_goDay_29 : decode cX6_goDay 29 = .ok (.iadd, 1) := by decide +kernel
theorem dX6_goDay_30 : decode cX6_goDay 30 = .ok (.iastore, 1) := by decide +kernel
theorem dX6_goDay_31 : decode cX6_goDay 31 = .ok (.iinc 1 1, 3) := by decide +kernel
theorem dX6_goDay_34 : decode cX6_goDay 34 = .ok (.goto (-32), 3) := by decide +kernel
theorem dX6_goDay_37 : decode cX6_goDay 37 = .ok (.aload_n 0, 1) := by decide +kernel
theorem dX6_goDay_38 : decode cX6_goDay 38 = .ok (.bipush 25, 2) := by decide +kernel
theorem dX6_goDay_40 : decode cX6_goDay 40 = .ok (.dup2, 1) := by decide +kernel
theorem dX6_goDay_41 : decode cX6_goDay 41 = .ok (.iaload, 1) := by decide +kernel
theorem dX6_goDay_42 : decode cX6_goDay 42 = .ok (.iconst 1, 1) := by decide +kernel
theorem dX6_goDay_43 : decode cX6_goDay 43 = .ok (.iadd, 1) := by decide +kernel
theorem dX6_goDay_44 : decode cX6_goDay 44 = .ok (.iastore, 1) := by decide +kernel
theorem dX6_goDay_45 : decode cX6_goDay 45 = .ok (.return_, 1) := by decide +kernel
theorem dX6_goDays_0 : decode cX6_goDays 0 = .ok (.iconst 0, 1) := by decide +kernel
theorem dX6_goDays_1 : decode cX6_goDays 1 = .ok (.istore_n 2, 1) := by decide +kernel
theorem dX6_goDays_2 : decode cX6_goDays 2 = .ok (.iload_n 2, 1) := by decide +kernel
theorem dX6_goDays_3 : decode cX6_goDays 3 = .ok (.iload_n 1, 1) := by decide +kernel
theorem dX6_goDays_4 : decode cX6_goDays 4 = .ok (.if_icmp .ge 23, 3) := by decide +kernel
theorem dX6_goDays_7 : decode cX6_goDays 7 = .ok (.aload_n 0, 1) := by decide +kernel
theorem dX6_goDays_8 : decode cX6_goDays 8 = .ok (.bipush 25, 2) := by decide +kernel
theorem dX6_goDays_10 : decode cX6_goDays 10 = .ok (.iaload, 1) := by decide +kernel
theorem dX6_goDays_11 : decode cX6_goDays 11 = .ok (.sipush 9999, 3) := by decide +kernel
theorem dX6_goDays_14 : decode cX6_goDays 14 = .ok (.if_icmp .ge 13, 3) := by decide +kernel
theorem dX6_goDays_17 : decode cX6_goDays 17 = .ok (.aload_n 0, 1) := by decide +kernel
theorem dX6_goDays_18 : decode cX6_goDays 18 = .ok (.invokestatic 99, 3) := by decide +kernel
theorem dX6_goDays_21 : decode cX6_goDays 21 = .ok (.iinc 2 1, 3) := by decide +kernel
theorem dX6_goDays_24 : decode cX6_goDays 24 = .ok (.goto (-22), 3) := by decide +kernel
theorem dX6_goDays_27 : decode cX6_goDays 27 = .ok (.return_, 1) := by decide +kernel
theorem dX6_save_0 : decode cX6_save 0 = .ok (.aload_n 0, 1) := by decide +kernel
theorem dX6_save_1 : decode cX6_save 1 = .ok (.getfield 7, 3) := by decide +kernel
theorem dX6_save_4 : decode cX6_save 4 = .ok (.bipush 6, 2) := by decide +kernel
theorem dX6_save_6 : decode cX6_save 6 = .ok (.iaload, 1) := by decide +kernel
theorem dX6_save_7 : decode cX6_save 7 = .ok (.bipush 8, 2) := by decide +kernel
theorem dX6_save_9 : decode cX6_save 9 = .ok (.if_icmp .ne 45, 3) := by decide +kernel
theorem dX6_save_12 : decode cX6_save 12 = .ok (.iconst 0, 1) := by decide +kernel
theorem dX6_save_13 : decode cX6_save 13 = .ok (.istore_n 1, 1) := by decide +kernel
theorem dX6_save_14 : decode cX6_save 14 = .ok (.iload_n 1, 1) := by decide +kernel
theorem dX6_save_15 : decode cX6_save 15 = .ok (.sipush 133, 3) := by decide +kernel
theorem dX6_save_18 : decode cX6_save 18 = .ok (.if_icmp .ge 27, 3) := by decide +kernel
theorem dX6_save_21 : decode cX6_save 21 = .ok (.aload_n 0, 1) := by decide +kernel
theorem dX6_save_22 : decode cX6_save 22 = .ok (.getfield 7, 3) := by decide +kernel
theorem dX6_save_25 : decode cX6_save 25 = .ok (.bipush 106, 2) := by decide +kernel
theorem dX6_save_27 : decode cX6_save 27 = .ok (.iload_n 1, 1) := by decide +kernel
theorem dX6_save_28 : decode cX6_save 28 = .ok (.iadd, 1) := by decide +kernel
theorem dX6_save_29 : decode cX6_save 29 = .ok (.aload_n 0, 1) := by decide +kernel
theorem dX6_save_30 : decode cX6_save 30 = .ok (.getfield 7, 3) := by decide +kernel
theorem dX6_save_33 : decode cX6_save 33 = .ok (.bipush 125, 2) := by decide +kernel
theorem dX6_save_35 : decode cX6_save 35 = .ok (.iload_n 1, 1) := by decide +kernel
theorem dX6_save_36 : decode cX6_save 36 = .ok (.iadd, 1) := by decide +kernel
theorem dX6_save_37 : decode cX6_save 37 = .ok (.iaload, 1) := by decide +kernel
theorem dX6_save_38 : decode cX6_save 38 = .ok (.iastore, 1) := by decide +kernel
theorem dX6_save_39 : decode cX6_save 39 = .ok (.iinc 1 1, 3) := by decide +kernel
theorem dX6_save_42 : decode cX6_save 42 = .ok (.goto (-28), 3) := by decide +kernel
theorem dX6_save_45 : decode cX6_save 45 = .ok (.aload_n 0, 1) := by decide +kernel
theorem dX6_save_46 : decode cX6_save 46 = .ok (.getfield 7, 3) := by decide +kernel
theorem dX6_save_49 : decode cX6_save 49 = .ok (.bipush 6, 2) := by decide +kernel
theorem dX6_save_51 : decode cX6_save 51 = .ok (.bipush 7, 2) := by decide +kernel
theorem dX6_save_53 : decode cX6_save 53 = .ok (.iastore, 1) := by decide +kernel
theorem dX6_save_54 : decode cX6_save 54 = .ok (.iconst 0, 1) := by decide +kernel
theorem dX6_save_55 : decode cX6_save 55 = .ok (.istore_n 1, 1) := by decide +kernel
theorem dX6_save_56 : decode cX6_save 56 = .ok (.iload_n 1, 1) := by decide +kernel
theorem dX6_save_57 : decode cX6_save 57 = .ok (.bipush 19, 2) := by decide +kernel
theorem dX6_save_59 : decode cX6_save 59 = .ok (.if_icmp .ge 38, 3) := by decide +kernel
theorem dX6_save_62 : decode cX6_save 62 = .ok (.aload_n 0, 1) := by decide +kernel
theorem dX6_save_63 : decode cX6_save 63 = .ok (.getfield 7, 3) := by decide +kernel
theorem dX6_save_66 : decode cX6_save 66 = .ok (.bipush 106, 2) := by decide +kernel
theorem dX6_save_68 : decode cX6_save 68 = .ok (.bipush 19, 2) := by decide +kernel
theorem dX6_save_70 : decode cX6_save 70 = .ok (.aload_n 0, 1) := by decide +kernel
theorem dX6_save_71 : decode cX6_save 71 = .ok (.getfield 7, 3) := by decide +kernel
theorem dX6_save_74 : decode cX6_save 74 = .ok (.bipush 6, 2) := by decide +kernel
theorem dX6_save_76 : decode cX6_save 76 = .ok (.iaload, 1) := by decide +kernel
theorem dX6_save_77 : decode cX6_save 77 = .ok (.imul, 1) := by decide +kernel
theorem dX6_save_78 : decode cX6_save 78 = .ok (.iadd, 1) := by decide +kernel
theorem dX6_save_79 : decode cX6_save 79 = .ok (.iload_n 1, 1) := by decide +kernel
theorem dX6_save_80 : decode cX6_save 80 = .ok (.iadd, 1) := by decide +kernel
theorem dX6_save_81 : decode cX6_save 81 = .ok (.aload_n 0, 1) := by decide +kernel
theorem dX6_save_82 : decode cX6_save 82 = .ok (.getfield 7, 3) := by decide +kernel
theorem dX6_save_85 : decode cX6_save 85 = .ok (.bipush 7, 2) := by decide +kernel
theorem dX6_save_87 : decode cX6_save 87 = .ok (.iload_n 1, 1) := by decide +kernel
theorem dX6_save_88 : decode cX6_save 88 = .ok (.iadd, 1) := by decide +kernel
theorem dX6_save_89 : decode cX6_save 89 = .ok (.iaload, 1) := by decide +kernel
theorem dX6_save_90 : decode cX6_save 90 = .ok (.iastore, 1) := by decide +kernel
theorem dX6_save_91 : decode cX6_save 91 = .ok (.iinc 1 1, 3) := by decide +kernel
theorem dX6_save_94 : decode cX6_save 94 = .ok (.goto (-38), 3) := by decide +kernel
theorem dX6_save_97 : decode cX6_save 97 = .ok (.aload_n 0, 1) := by decide +kernel
theorem dX6_save_98 : decode cX6_save 98 = .ok (.getfield 7, 3) := by decide +kernel
theorem dX6_save_101 : decode cX6_save 101 = .ok (.bipush 6, 2) := by decide +kernel
theorem dX6_save_103 : decode cX6_save 103 = .ok (.dup2, 1) := by decide +kernel
theorem dX6_save_104 : decode cX6_save 104 = .ok (.iaload, 1) := by decide +kernel
theorem dX6_save_105 : decode cX6_save 105 = .ok (.iconst 1, 1) := by decide +kernel
theorem dX6_save_106 : decode cX6_save 106 = .ok (.iadd, 1) := by decide +kernel
theorem dX6_save_107 : decode cX6_save 107 = .ok (.iastore, 1) := by decide +kernel
theorem dX6_save_108 : decode cX6_save 108 = .ok (.return_, 1) := by decide +kernel
theorem dX6_days_0 : decode cX6_days 0 = .ok (.iload_n 1, 1) := by decide +kernel
theorem dX6_days_1 : decode cX6_days 1 = .ok (.i2l, 1) := by decide +kernel
theorem dX6_days_2 : decode cX6_days 2 = .ok (.lconst 1, 1) := by decide +kernel
theorem dX6_days_3 : decode cX6_days 3 = .ok (.ldc2_w 102, 3) := by decide +kernel
theorem dX6_days_6 : decode cX6_days 6 = .ok (.invokestatic 56, 3) := by decide +kernel
theorem dX6_days_9 : decode cX6_days 9 = .ok (.ifCond .ne 10, 3) := by decide +kernel
theorem dX6_days_12 : decode cX6_days 12 = .ok (.aload_n 0, 1) := by decide +kernel
theorem dX6_days_13 : decode cX6_days 13 = .ok (.bipush (-2), 2) := by decide +kernel
theorem dX6_days_15 : decode cX6_days 15 = .ok (.invokevirtual 71, 3) := by decide +kernel
theorem dX6_days_18 : decode cX6_days 18 = .ok (.ireturn, 1) := by decide +kernel
theorem dX6_days_19 : decode cX6_days 19 = .ok (.aload_n 0, 1) := by decide +kernel
theorem dX6_days_20 : decode cX6_days 20 = .ok (.invokevirtual 104, 3) := by decide +kernel
theorem dX6_days_23 : decode cX6_days 23 = .ok (.aload_n 0, 1) := by decide +kernel
theorem dX6_days_24 : decode cX6_days 24 = .ok (.getfield 7, 3) := by decide +kernel
theorem dX6_days_27 : decode cX6_days 27 = .ok (.iload_n 1, 1) := by decide +kernel
theorem dX6_days_28 : decode cX6_days 28 = .ok (.invokestatic 107, 3) := by decide +kernel
theorem dX6_days_31 : decode cX6_days 31 = .ok (.aload_n 0, 1) := by decide +kernel
theorem dX6_days_32 : decode cX6_days 32 = .ok (.getfield 7, 3) := by decide +kernel
theorem dX6_days_35 : decode cX6_days 35 = .ok (.bipush 25, 2) := by decide +kernel
theorem dX6_days_37 : decode cX6_days 37 = .ok (.iaload, 1) := by decide +kernel
theorem dX6_days_38 : decode cX6_days 38 = .ok (.ireturn, 1) := by decide +kernel
theorem dX6_mayBuy_0 : decode cX6_mayBuy 0 = .ok (.aload_n 0, 1) := by decide +kernel
theorem dX6_mayBuy_1 : decode cX6_mayBuy 1 = .ok (.iload_n 2, 1) := by decide +kernel
theorem dX6_mayBuy_2 : decode cX6_mayBuy 2 = .ok (.invokestatic 95, 3) := by decide +kernel
theorem dX6_mayBuy_5 : decode cX6_mayBuy 5 = .ok (.ifCond .eq 21, 3) := by decide +kernel
theorem dX6_mayBuy_8 : decode cX6_mayBuy 8 = .ok (.aload_n 0, 1) := by decide +kernel
theorem dX6_mayBuy_9 : decode cX6_mayBuy 9 = .ok (.bipush 21, 2) := by decide +kernel
theorem dX6_mayBuy_11 : decode cX6_mayBuy 11 = .ok (.iload_n 1, 1) := by decide +kernel
theorem dX6_mayBuy_12 : decode cX6_mayBuy 12 = .ok (.iadd, 1) := by decide +kernel
theorem dX6_mayBuy_13 : decode cX6_mayBuy 13 = .ok (.iaload, 1) := by decide +kernel
theorem dX6_mayBuy_14 : decode cX6_mayBuy 14 = .ok (.aload_n 0, 1) := by decide +kernel
theorem dX6_mayBuy_15 : decode cX6_mayBuy 15 = .ok (.iload_n 2, 1) := by decide +kernel
theorem dX6_mayBuy_16 : decode cX6_mayBuy 16 = .ok (.invokestatic 111, 3) := by decide +kernel
theorem dX6_mayBuy_19 : decode cX6_mayBuy 19 = .ok (.if_icmp .lt 7, 3) := by decide +kernel
theorem dX6_mayBuy_22 : decode cX6_mayBuy 22 = .ok (.iconst 1, 1) := by decide +kernel
theorem dX6_mayBuy_23 : decode cX6_mayBuy 23 = .ok (.goto 4, 3) := by decide +kernel
theorem dX6_mayBuy_26 : decode cX6_mayBuy 26 = .ok (.iconst 0, 1) := by decide +kernel
theorem dX6_mayBuy_27 : decode cX6_mayBuy 27 = .ok (.ireturn, 1) := by decide +kernel
theorem dX6_goBuy_0 : decode cX6_goBuy 0 = .ok (.aload_n 0, 1) := by decide +kernel
theorem dX6_goBuy_1 : decode cX6_goBuy 1 = .ok (.bipush 21, 2) := by decide +kernel
theorem dX6_goBuy_3 : decode cX6_goBuy 3 = .ok (.iload_n 1, 1) := by decide +kernel
theorem dX6_goBuy_4 : decode cX6_goBuy 4 = .ok (.iadd, 1) := by decide +kernel
theorem dX6_goBuy_5 : decode cX6_goBuy 5 = .ok (.dup2, 1) := by decide +kernel
theorem dX6_goBuy_6 : decode cX6_goBuy 6 = .ok (.iaload, 1) := by decide +kernel
theorem dX6_goBuy_7 : decode cX6_goBuy 7 = .ok (.aload_n 0, 1) := by decide +kernel
theorem dX6_goBuy_8 : decode cX6_goBuy 8 = .ok (.iload_n 2, 1) := by decide +kernel
theorem dX6_goBuy_9 : decode cX6_goBuy 9 = .ok (.invokestatic 111, 3) := by decide +kernel
theorem dX6_goBuy_12 : decode cX6_goBuy 12 = .ok (.isub, 1) := by decide +kernel
theorem dX6_goBuy_13 : decode cX6_goBuy 13 = .ok (.iastore, 1) := by decide +kernel
theorem dX6_goBuy_14 : decode cX6_goBuy 14 = .ok (.aload_n 0, 1) := by decide +kernel
theorem dX6_goBuy_15 : decode cX6_goBuy 15 = .ok (.bipush 7, 2) := by decide +kernel
theorem dX6_goBuy_17 : decode cX6_goBuy 17 = .ok (.iload_n 2, 1) := by decide +kernel
theorem dX6_goBuy_18 : decode cX6_goBuy 18 = .ok (.iadd, 1) := by decide +kernel
theorem dX6_goBuy_19 : decode cX6_goBuy 19 = .ok (.iconst 1, 1) := by decide +kernel
theorem dX6_goBuy_20 : decode cX6_goBuy 20 = .ok (.iload_n 1, 1) := by decide +kernel
theorem dX6_goBuy_21 : decode cX6_goBuy 21 = .ok (.iadd, 1) := by decide +kernel
theorem dX6_goBuy_22 : decode cX6_goBuy 22 = .ok (.iastore, 1) := by decide +kernel
theorem dX6_goBuy_23 : decode cX6_goBuy 23 = .ok (.return_, 1) := by decide +kernel
theorem dX6_goKeep_0 : decode cX6_goKeep 0 = .ok (.aload_n 0, 1) := by decide +kernel
theorem dX6_goKeep_1 : decode cX6_goKeep 1 = .ok (.bipush 24, 2) := by decide +kernel
theorem dX6_goKeep_3 : decode cX6_goKeep 3 = .ok (.dup2, 1) := by decide +kernel
theorem dX6_goKeep_4 : decode cX6_goKeep 4 = .ok (.iaload, 1) := by decide +kernel
theorem dX6_goKeep_5 : decode cX6_goKeep 5 = .ok (.aload_n 0, 1) := by decide +kernel
theorem dX6_goKeep_6 : decode cX6_goKeep 6 = .ok (.iload_n 1, 1) := by decide +kernel
theorem dX6_goKeep_7 : decode cX6_goKeep 7 = .ok (.iload_n 2, 1) := by decide +kernel
theorem dX6_goKeep_8 : decode cX6_goKeep 8 = .ok (.invokestatic 114, 3) := by decide +kernel
theorem dX6_goKeep_11 : decode cX6_goKeep 11 = .ok (.iadd, 1) := by decide +kernel
theorem dX6_goKeep_12 : decode cX6_goKeep 12 = .ok (.iastore, 1) := by decide +kernel
theorem dX6_goKeep_13 : decode cX6_goKeep 13 = .ok (.aload_n 0, 1) := by decide +kernel
theorem dX6_goKeep_14 : decode cX6_goKeep 14 = .ok (.bipush 7, 2) := by decide +kernel
theorem dX6_goKeep_16 : decode cX6_goKeep 16 = .ok (.iload_n 1, 1) := by decide +kernel
theorem dX6_goKeep_17 : decode cX6_goKeep 17 = .ok (.iadd, 1) := by decide +kernel
theorem dX6_goKeep_18 : decode cX6_goKeep 18 = .ok (.bipush 10, 2) := by decide +kernel
theorem dX6_goKeep_20 : decode cX6_goKeep 20 = .ok (.iload_n 2, 1) := by decide +kernel
theorem dX6_goKeep_21 : decode cX6_goKeep 21 = .ok (.iadd, 1) := by decide +kernel
theorem dX6_goKeep_22 : decode cX6_goKeep 22 = .ok (.iastore, 1) := by decide +kernel
theorem dX6_goKeep_23 : decode cX6_goKeep 23 = .ok (.return_, 1) := by decide +kernel
theorem dX6_buys_0 : decode cX6_buys 0 = .ok (.aload_n 0, 1) := by decide +kernel
theorem dX6_buys_1 : decode cX6_buys 1 = .ok (.iload_n 1, 1) := by decide +kernel
theorem dX6_buys_2 : decode cX6_buys 2 = .ok (.invokevirtual 118, 3) := by decide +kernel
theorem dX6_buys_5 : decode cX6_buys 5 = .ok (.ifCond .eq 11, 3) := by decide +kernel
theorem dX6_buys_8 : decode cX6_buys 8 = .ok (.aload_n 0, 1) := by decide +kernel
theorem dX6_buys_9 : decode cX6_buys 9 = .ok (.iload_n 2, 1) := by decide +kernel
theorem dX6_buys_10 : decode cX6_buys 10 = .ok (.invokevirtual 121, 3) := by decide +kernel
theorem dX6_buys_13 : decode cX6_buys 13 = .ok (.ifCond .ne 10, 3) := by decide +kernel
theorem dX6_buys_16 : decode cX6_buys 16 = .ok (.aload_n 0, 1) := by decide +kernel
theorem dX6_buys_17 : decode cX6_buys 17 = .ok (.bipush (-2), 2) := by decide +kernel
theorem dX6_buys_19 : decode cX6_buys 19 = .ok (.invokevirtual 71, 3) := by decide +kernel
theorem dX6_buys_22 : decode cX6_buys 22 = .ok (.ireturn, 1) := by decide +kernel
theorem dX6_buys_23 : decode cX6_buys 23 = .ok (.aload_n 0, 1) := by decide +kernel
theorem dX6_buys_24 : decode cX6_buys 24 = .ok (.getfield 7, 3) := by decide +kernel
theorem dX6_buys_27 : decode cX6_buys 27 = .ok (.iload_n 1, 1) := by decide +kernel
theorem dX6_buys_28 : decode cX6_buys 28 = .ok (.iload_n 2, 1) := by decide +kernel
theorem dX6_buys_29 : decode cX6_buys 29 = .ok (.invokestatic 124, 3) := by decide +kernel
theorem dX6_buys_32 : decode cX6_buys 32 = .ok (.ifCond .ne 8, 3) := by decide +kernel
theorem dX6_buys_35 : decode cX6_buys 35 = .ok (.aload_n 0, 1) := by decide +kernel
theorem dX6_buys_36 : decode cX6_buys 36 = .ok (.invokevirtual 128, 3) := by decide +kernel
theorem dX6_buys_39 : decode cX6_buys 39 = .ok (.ireturn, 1) := by decide +kernel
theorem dX6_buys_40 : decode cX6_buys 40 = .ok (.aload_n 0, 1) := by decide +kernel
theorem dX6_buys_41 : decode cX6_buys 41 = .ok (.invokevirtual 104, 3) := by decide +kernel
theorem dX6_buys_44 : decode cX6_buys 44 = .ok (.aload_n 0, 1) := by decide +kernel
theorem dX6_buys_45 : decode cX6_buys 45 = .ok (.getfield 7, 3) := by decide +kernel
theorem dX6_buys_48 : decode cX6_buys 48 = .ok (.iload_n 1, 1) := by decide +kernel
theorem dX6_buys_49 : decode cX6_buys 49 = .ok (.iload_n 2, 1) := by decide +kernel
theorem dX6_buys_50 : decode cX6_buys 50 = .ok (.invokestatic 131, 3) := by decide +kernel
theorem dX6_buys_53 : decode cX6_buys 53 = .ok (.aload_n 0, 1) := by decide +kernel
theorem dX6_buys_54 : decode cX6_buys 54 = .ok (.getfield 7, 3) := by decide +kernel
theorem dX6_buys_57 : decode cX6_buys 57 = .ok (.bipush 21, 2) := by decide +kernel
theorem dX6_buys_59 : decode cX6_buys 59 = .ok (.iload_n 1, 1) := by decide +kernel
theorem dX6_buys_60 : decode cX6_buys 60 = .ok (.iadd, 1) := by decide +kernel
theorem dX6_buys_61 : decode cX6_buys 61 = .ok (.iaload, 1) := by decide +kernel
theorem dX6_buys_62 : decode cX6_buys 62 = .ok (.ireturn, 1) := by decide +kernel
theorem dX6_keeps_0 : decode cX6_keeps 0 = .ok (.aload_n 0, 1) := by decide +kernel
theorem dX6_keeps_1 : decode cX6_keeps 1 = .ok (.iload_n 1, 1) := by decide +kernel
theorem dX6_keeps_2 : decode cX6_keeps 2 = .ok (.invokevirtual 121, 3) := by decide +kernel
theorem dX6_keeps_5 : decode cX6_keeps 5 = .ok (.ifCond .eq 11, 3) := by decide +kernel
theorem dX6_keeps_8 : decode cX6_keeps 8 = .ok (.aload_n 0, 1) := by decide +kernel
theorem dX6_keeps_9 : decode cX6_keeps 9 = .ok (.iload_n 2, 1) := by decide +kernel
theorem dX6_keeps_10 : decode cX6_keeps 10 = .ok (.invokevirtual 134, 3) := by decide +kernel
theorem dX6_keeps_13 : decode cX6_keeps 13 = .ok (.ifCond .ne 10, 3) := by decide +kernel
theorem dX6_keeps_16 : decode cX6_keeps 16 = .ok (.aload_n 0, 1) := by decide +kernel
theorem dX6_keeps_17 : decode cX6_keeps 17 = .ok (.bipush (-2), 2) := by decide +kernel
theorem dX6_keeps_19 : decode cX6_keeps 19 = .ok (.invokevirtual 71, 3) := by decide +kernel
theorem dX6_keeps_22 : decode cX6_keeps 22 = .ok (.ireturn, 1) := by decide +kernel
theorem dX6_keeps_23 : decode cX6_keeps 23 = .ok (.aload_n 0, 1) := by decide +kernel
theorem dX6_keeps_24 : decode cX6_keeps 24 = .ok (.getfield 7, 3) := by decide +kernel
theorem dX6_keeps_27 : decode cX6_keeps 27 = .ok (.iload_n 1, 1) := by decide +kernel
theorem dX6_keeps_28 : decode cX6_keeps 28 = .ok (.invokestatic 137, 3) := by decide +kernel
theorem dX6_keeps_31 : decode cX6_keeps 31 = .ok (.ifCond .ne 8, 3) := by decide +kernel
theorem dX6_keeps_34 : decode cX6_keeps 34 = .ok (.aload_n 0, 1) := by decide +kernel
theorem dX6_keeps_35 : decode cX6_keeps 35 = .ok (.invokevirtual 128, 3) := by decide +kernel
theorem dX6_keeps_38 : decode cX6_keeps 38 = .ok (.ireturn, 1) := by decide +kernel
theorem dX6_keeps_39 : decode cX6_keeps 39 = .ok (.aload_n 0, 1) := by decide +kernel
theorem dX6_keeps_40 : decode cX6_keeps 40 = .ok (.invokevirtual 104, 3) := by decide +kernel
theorem dX6_keeps_43 : decode cX6_keeps 43 = .ok (.aload_n 0, 1) := by decide +kernel
theorem dX6_keeps_44 : decode cX6_keeps 44 = .ok (.getfield 7, 3) := by decide +kernel
theorem dX6_keeps_47 : decode cX6_keeps 47 = .ok (.iload_n 1, 1) := by decide +kernel
theorem dX6_keeps_48 : decode cX6_keeps 48 = .ok (.iload_n 2, 1) := by decide +kernel
theorem dX6_keeps_49 : decode cX6_keeps 49 = .ok (.invokestatic 140, 3) := by decide +kernel
theorem dX6_keeps_52 : decode cX6_keeps 52 = .ok (.aload_n 0, 1) := by decide +kernel
theorem dX6_keeps_53 : decode cX6_keeps 53 = .ok (.getfield 7, 3) := by decide +kernel
theorem dX6_keeps_56 : decode cX6_keeps 56 = .ok (.iload_n 1, 1) := by decide +kernel
theorem dX6_keeps_57 : decode cX6_keeps 57 = .ok (.iload_n 2, 1) := by decide +kernel
theorem dX6_keeps_58 : decode cX6_keeps 58 = .ok (.invokestatic 114, 3) := by decide +kernel
theorem dX6_keeps_61 : decode cX6_keeps 61 = .ok (.ireturn, 1) := by decide +kernel
theorem dX6_undo_0 : decode cX6_undo 0 = .ok (.aload_n 0, 1) := by decide +kernel
theorem dX6_undo_1 : decode cX6_undo 1 = .ok (.getfield 7, 3) := by decide +kernel
theorem dX6_undo_4 : decode cX6_undo 4 = .ok (.bipush 6, 2) := by decide +kernel
theorem dX6_undo_6 : decode cX6_undo 6 = .ok (.iaload, 1) := by decide +kernel
theorem dX6_undo_7 : decode cX6_undo 7 = .ok (.ifCond .ne 8, 3) := by decide +kernel
theorem dX6_undo_10 : decode cX6_undo 10 = .ok (.aload_n 0, 1) := by decide +kernel
theorem dX6_undo_11 : decode cX6_undo 11 = .ok (.invokevirtual 128, 3) := by decide +kernel
theorem dX6_undo_14 : decode cX6_undo 14 = .ok (.ireturn, 1) := by decide +kernel
theorem dX6_undo_15 : decode cX6_undo 15 = .ok (.aload_n 0, 1) := by decide +kernel
theorem dX6_undo_16 : decode cX6_undo 16 = .ok (.getfield 7, 3) := by decide +kernel
theorem dX6_undo_19 : decode cX6_undo 19 = .ok (.bipush 6, 2) := by decide +kernel
theorem dX6_undo_21 : decode cX6_undo 21 = .ok (.dup2, 1) := by decide +kernel
theorem dX6_undo_22 : decode cX6_undo 22 = .ok (.iaload, 1) := by decide +kernel
theorem dX6_undo_23 : decode cX6_undo 23 = .ok (.iconst 1, 1) := by decide +kernel
theorem dX6_undo_24 : decode cX6_undo 24 = .ok (.isub, 1) := by decide +kernel
theorem dX6_undo_25 : decode cX6_undo 25 = .ok (.iastore, 1) := by decide +kernel
theorem dX6_undo_26 : decode cX6_undo 26 = .ok (.iconst 0, 1) := by decide +kernel
theorem dX6_undo_27 : decode cX6_undo 27 = .ok (.istore_n 1, 1) := by decide +kernel
theorem dX6_undo_28 : decode cX6_undo 28 = .ok (.iload_n 1, 1) := by decide +kernel
theorem dX6_undo_29 : decode cX6_undo 29 = .ok (.bipush 19, 2) := by decide +kernel
theorem dX6_undo_31 : decode cX6_undo 31 = .ok (.if_icmp .ge 38, 3) := by decide +kernel
theorem dX6_undo_34 : decode cX6_undo 34 = .ok (.aload_n 0, 1) := by decide +kernel
theorem dX6_undo_35 : decode cX6_undo 35 = .ok (.getfield 7, 3) := by decide +kernel
theorem dX6_undo_38 : decode cX6_undo 38 = .ok (.bipush 7, 2) := by decide +kernel
theorem dX6_undo_40 : decode cX6_undo 40 = .ok (.iload_n 1, 1) := by decide +kernel
theorem dX6_undo_41 : decode cX6_undo 41 = .ok (.iadd, 1) := by decide +kernel
theorem dX6_undo_42 : decode cX6_undo 42 = .ok (.aload_n 0, 1) := by decide +kernel
theorem dX6_undo_43 : decode cX6_undo 43 = .ok (.getfield 7, 3) := by decide +kernel
theorem dX6_undo_46 : decode cX6_undo 46 = .ok (.bipush 106, 2) := by decide +kernel
theorem dX6_undo_48 : decode cX6_undo 48 = .ok (.bipush 19, 2) := by decide +kernel
theorem dX6_undo_50 : decode cX6_undo 50 = .ok (.aload_n 0, 1) := by decide +kernel
theorem dX6_undo_51 : decode cX6_undo 51 = .ok (.getfield 7, 3) := by decide +kernel
theorem dX6_undo_54 : decode cX6_undo 54 = .ok (.bipush 6, 2) := by decide +kernel
theorem dX6_undo_56 : decode cX6_undo 56 = .ok (.iaload, 1) := by decide +kernel
theorem dX6_undo_57 : decode cX6_undo 57 = .ok (.imul, 1) := by decide +kernel
theorem dX6_undo_58 : decode cX6_undo 58 = .ok (.iadd, 1) := by decide +kernel
theorem dX6_undo_59 : decode cX6_undo 59 = .ok (.iload_n 1, 1) := by decide +kernel
theorem dX6_undo_60 : decode cX6_undo 60 = .ok (.iadd, 1) := by decide +kernel
theorem dX6_undo_61 : decode cX6_undo 61 = .ok (.iaload, 1) := by decide +kernel
theorem dX6_undo_62 : decode cX6_undo 62 = .ok (.iastore, 1) := by decide +kernel
theorem dX6_undo_63 : decode cX6_undo 63 = .ok (.iinc 1 1, 3) := by decide +kernel
theorem dX6_undo_66 : decode cX6_undo 66 = .ok (.goto (-38), 3) := by decide +kernel
theorem dX6_undo_69 : decode cX6_undo 69 = .ok (.aload_n 0, 1) := by decide +kernel
theorem dX6_undo_70 : decode cX6_undo 70 = .ok (.getfield 7, 3) := by decide +kernel
theorem dX6_undo_73 : decode cX6_undo 73 = .ok (.bipush 25, 2) := by decide +kernel
theorem dX6_undo_75 : decode cX6_undo 75 = .ok (.iaload, 1) := by decide +kernel
theorem dX6_undo_76 : decode cX6_undo 76 = .ok (.ireturn, 1) := by decide +kernel
theorem dX6_toldOf_0 : decode cX6_toldOf 0 = .ok (.iload_n 2, 1) := by decide +kernel
theorem dX6_toldOf_1 : decode cX6_toldOf 1 = .ok (.tableswitch 84 0 4 #[35, 45, 55, 65, 75], 35) := by decide +kernel
theorem dX6_toldOf_36 : decode cX6_toldOf 36 = .ok (.aload_n 0, 1) := by decide +kernel
theorem dX6_toldOf_37 : decode cX6_toldOf 37 = .ok (.getfield 7, 3) := by decide +kernel
theorem dX6_toldOf_40 : decode cX6_toldOf 40 = .ok (.bipush 26, 2) := by decide +kernel
theorem dX6_toldOf_42 : decode cX6_toldOf 42 = .ok (.iload_n 1, 1) := by decide +kernel
theorem dX6_toldOf_43 : decode cX6_toldOf 43 = .ok (.iadd, 1) := by decide +kernel
theorem dX6_toldOf_44 : decode cX6_toldOf 44 = .ok (.iaload, 1) := by decide +kernel
theorem dX6_toldOf_45 : decode cX6_toldOf 45 = .ok (.ireturn, 1) := by decide +kernel
theorem dX6_toldOf_46 : decode cX6_toldOf 46 = .ok (.aload_n 0, 1) := by decide +kernel
theorem dX6_toldOf_47 : decode cX6_toldOf 47 = .ok (.getfield 7, 3) := by decide +kernel
theorem dX6_toldOf_50 : decode cX6_toldOf 50 = .ok (.bipush 33, 2) := by decide +kernel
theorem dX6_toldOf_52 : decode cX6_toldOf 52 = .ok (.iload_n 1, 1) := by decide +kernel
theorem dX6_toldOf_53 : decode cX6_toldOf 53 = .ok (.iadd, 1) := by decide +kernel
theorem dX6_toldOf_54 : decode cX6_toldOf 54 = .ok (.iaload, 1) := by decide +kernel
theorem dX6_toldOf_55 : decode cX6_toldOf 55 = .ok (.ireturn, 1) := by decide +kernel
theorem dX6_toldOf_56 : decode cX6_toldOf 56 = .ok (.aload_n 0, 1) := by decide +kernel
theorem dX6_toldOf_57 : decode cX6_toldOf 57 = .ok (.getfield 7, 3) := by decide +kernel
theorem dX6_toldOf_60 : decode cX6_toldOf 60 = .ok (.bipush 14, 2) := by decide +kernel
theorem dX6_toldOf_62 : decode cX6_toldOf 62 = .ok (.iload_n 1, 1) := by decide +kernel
theorem dX6_toldOf_63 : decode cX6_toldOf 63 = .ok (.iadd, 1) := by decide +kernel
theorem dX6_toldOf_64 : decode cX6_toldOf 64 = .ok (.iaload, 1) := by decide +kernel
theorem dX6_toldOf_65 : decode cX6_toldOf 65 = .ok (.ireturn, 1) := by decide +kernel
theorem dX6_toldOf_66 : decode cX6_toldOf 66 = .ok (.aload_n 0, 1) := by decide +kernel
theorem dX6_toldOf_67 : decode cX6_toldOf 67 = .ok (.getfield 7, 3) := by decide +kernel
theorem dX6_toldOf_70 : decode cX6_toldOf 70 = .ok (.bipush 7, 2) := by decide +kernel
theorem dX6_toldOf_72 : decode cX6_toldOf 72 = .ok (.iload_n 1, 1) := by decide +kernel
theorem dX6_toldOf_73 : decode cX6_toldOf 73 = .ok (.iadd, 1) := by decide +kernel
theorem dX6_toldOf_74 : decode cX6_toldOf 74 = .ok (.iaload, 1) := by decide +kernel
theorem dX6_toldOf_75 : decode cX6_toldOf 75 = .ok (.ireturn, 1) := by decide +kernel
theorem dX6_toldOf_76 : decode cX6_toldOf 76 = .ok (.aload_n 0, 1) := by decide +kernel
theorem dX6_toldOf_77 : decode cX6_toldOf 77 = .ok (.getfield 7, 3) := by decide +kernel
theorem dX6_toldOf_80 : decode cX6_toldOf 80 = .ok (.iload_n 1, 1) := by decide +kernel
theorem dX6_toldOf_81 : decode cX6_toldOf 81 = .ok (.invokestatic 88, 3) := by decide +kernel
theorem dX6_toldOf_84 : decode cX6_toldOf 84 = .ok (.ireturn, 1) := by decide +kernel
theorem dX6_toldOf_85 : decode cX6_toldOf 85 = .ok (.aload_n 0, 1) := by decide +kernel
theorem dX6_toldOf_86 : decode cX6_toldOf 86 = .ok (.getfield 7, 3) := by decide +kernel
theorem dX6_toldOf_89 : decode cX6_toldOf 89 = .ok (.iload_n 1, 1) := by decide +kernel
theorem dX6_toldOf_90 : decode cX6_toldOf 90 = .ok (.invokestatic 111, 3) := by decide +kernel
theorem dX6_toldOf_93 : decode cX6_toldOf 93 = .ok (.ireturn, 1) := by decide +kernel
theorem dX6_of_0 : decode cX6_of 0 = .ok (.aload_n 0, 1) := by decide +kernel
theorem dX6_of_1 : decode cX6_of 1 = .ok (.iload_n 1, 1) := by decide +kernel
theorem dX6_of_2 : decode cX6_of 2 = .ok (.invokevirtual 121, 3) := by decide +kernel
theorem dX6_of_5 : decode cX6_of 5 = .ok (.ifCond .eq 24, 3) := by decide +kernel
theorem dX6_of_8 : decode cX6_of 8 = .ok (.iload_n 2, 1) := by decide +kernel
theorem dX6_of_9 : decode cX6_of 9 = .ok (.i2l, 1) := by decide +kernel
theorem dX6_of_10 : decode cX6_of 10 = .ok (.lconst 0, 1) := by decide +kernel
theorem dX6_of_11 : decode cX6_of 11 = .ok (.ldc2_w 60, 3) := by decide +kernel
theorem dX6_of_14 : decode cX6_of 14 = .ok (.invokestatic 56, 3) := by decide +kernel
theorem dX6_of_17 : decode cX6_of 17 = .ok (.ifCond .eq 12, 3) := by decide +kernel
theorem dX6_of_20 : decode cX6_of 20 = .ok (.aload_n 0, 1) := by decide +kernel
theorem dX6_of_21 : decode cX6_of 21 = .ok (.iload_n 1, 1) := by decide +kernel
theorem dX6_of_22 : decode cX6_of 22 = .ok (.iload_n 2, 1) := by decide +kernel
theorem dX6_of_23 : decode cX6_of 23 = .ok (.invokevirtual 143, 3) := by decide +kernel
theorem dX6_of_26 : decode cX6_of 26 = .ok (.goto 9, 3) := by decide +kernel
theorem dX6_of_29 : decode cX6_of 29 = .ok (.aload_n 0, 1) := by decide +kernel
theorem dX6_of_30 : decode cX6_of 30 = .ok (.bipush (-2), 2) := by decide +kernel
theorem dX6_of_32 : decode cX6_of 32 = .ok (.invokevirtual 71, 3) := by decide +kernel
theorem dX6_of_35 : decode cX6_of 35 = .ok (.ireturn, 1) := by decide +kernel
theorem dX6_allIn_0 : decode cX6_allIn 0 = .ok (.iconst 0, 1) := by decide +kernel
theorem dX6_allIn_1 : decode cX6_allIn 1 = .ok (.istore_n 2, 1) := by decide +kernel
theorem dX6_allIn_2 : decode cX6_allIn 2 = .ok (.iconst 0, 1) := by decide +kernel
theorem dX6_allIn_3 : decode cX6_allIn 3 = .ok (.istore_n 3, 1) := by decide +kernel
theorem dX6_allIn_4 : decode cX6_allIn 4 = .ok (.iload_n 3, 1) := by decide +kernel
theorem dX6_allIn_5 : decode cX6_allIn 5 = .ok (.aload_n 0, 1) := by decide +kernel
theorem dX6_allIn_6 : decode cX6_allIn 6 = .ok (.invokevirtual 52, 3) := by decide +kernel
theorem dX6_allIn_9 : decode cX6_allIn 9 = .ok (.if_icmp .ge 32, 3) := by decide +kernel
theorem dX6_allIn_12 : decode cX6_allIn 12 = .ok (.iload_n 2, 1) := by decide +kernel
theorem dX6_allIn_13 : decode cX6_allIn 13 = .ok (.aload_n 0, 1) := by decide +kernel
theorem dX6_allIn_14 : decode cX6_allIn 14 = .ok (.getfield 7, 3) := by decide +kernel
theorem dX6_allIn_17 : decode cX6_allIn 17 = .ok (.bipush 7, 2) := by decide +kernel
theorem dX6_allIn_19 : decode cX6_allIn 19 = .ok (.iload_n 3, 1) := by decide +kernel
theorem dX6_allIn_20 : decode cX6_allIn 20 = .ok (.iadd, 1) := by decide +kernel
theorem dX6_allIn_21 : decode cX6_allIn 21 = .ok (.iaload, 1) := by decide +kernel
theorem dX6_allIn_22 : decode cX6_allIn 22 = .ok (.iload_n 1, 1) := by decide +kernel
theorem dX6_allIn_23 : decode cX6_allIn 23 = .ok (.if_icmp .ne 9, 3) := by decide +kernel
theorem dX6_allIn_26 : decode cX6_allIn 26 = .ok (.iconst 1, 1) := by decide +kernel
theorem dX6_allIn_27 : decode cX6_allIn 27 = .ok (.iload_n 3, 1) := by decide +kernel
theorem dX6_allIn_28 : decode cX6_allIn 28 = .ok (.ishl, 1) := by decide +kernel
theorem dX6_allIn_29 : decode cX6_allIn 29 = .ok (.goto 4, 3) := by decide +kernel
theorem dX6_allIn_32 : decode cX6_allIn 32 = .ok (.iconst 0, 1) := by decide +kernel
theorem dX6_allIn_33 : decode cX6_allIn 33 = .ok (.ior, 1) := by decide +kernel
theorem dX6_allIn_34 : decode cX6_allIn 34 = .ok (.istore_n 2, 1) := by decide +kernel
theorem dX6_allIn_35 : decode cX6_allIn 35 = .ok (.iinc 3 1, 3) := by decide +kernel
theorem dX6_allIn_38 : decode cX6_allIn 38 = .ok (.goto (-34), 3) := by decide +kernel
theorem dX6_allIn_41 : decode cX6_allIn 41 = .ok (.iload_n 2, 1) := by decide +kernel
theorem dX6_allIn_42 : decode cX6_allIn 42 = .ok (.ireturn, 1) := by decide +kernel
theorem dX6_about_0 : decode cX6_about 0 = .ok (.aload_n 0, 1) := by decide +kernel
theorem dX6_about_1 : decode cX6_about 1 = .ok (.iload_n 1, 1) := by decide +kernel
theorem dX6_about_2 : decode cX6_about 2 = .ok (.invokevirtual 134, 3) := by decide +kernel
theorem dX6_about_5 : decode cX6_about 5 = .ok (.ifCond .eq 15, 3) := by decide +kernel
theorem dX6_about_8 : decode cX6_about 8 = .ok (.iload_n 2, 1) := by decide +kernel
theorem dX6_about_9 : decode cX6_about 9 = .ok (.i2l, 1) := by decide +kernel
theorem dX6_about_10 : decode cX6_about 10 = .ok (.lconst 0, 1) := by decide +kernel
theorem dX6_about_11 : decode cX6_about 11 = .ok (.ldc2_w 147, 3) := by decide +kernel
theorem dX6_about_14 : decode cX6_about 14 = .ok (.invokestatic 56, 3) := by decide +kernel
theorem dX6_about_17 : decode cX6_about 17 = .ok (.ifCond .ne 10, 3) := by decide +kernel
theorem dX6_about_20 : decode cX6_about 20 = .ok (.aload_n 0, 1) := by decide +kernel
theorem dX6_about_21 : decode cX6_about 21 = .ok (.bipush (-2), 2) := by decide +kernel
theorem dX6_about_23 : decode cX6_about 23 = .ok (.invokevirtual 71, 3) := by decide +kernel
theorem dX6_about_26 : decode cX6_about 26 = .ok (.ireturn, 1) := by decide +kernel
theorem dX6_about_27 : decode cX6_about 27 = .ok (.iload_n 2, 1) := by decide +kernel
theorem dX6_about_28 : decode cX6_about 28 = .ok (.ifCond .ne 15, 3) := by decide +kernel
theorem dX6_about_31 : decode cX6_about 31 = .ok (.aload_n 0, 1) := by decide +kernel
theorem dX6_about_32 : decode cX6_about 32 = .ok (.getfield 7, 3) := by decide +kernel
theorem dX6_about_35 : decode cX6_about 35 = .ok (.bipush 40, 2) := by decide +kernel
theorem dX6_about_37 : decode cX6_about 37 = .ok (.iload_n 1, 1) := by decide +kernel
theorem dX6_about_38 : decode cX6_about 38 = .ok (.iadd, 1) := by decide +kernel
theorem dX6_about_39 : decode cX6_about 39 = .ok (.iaload, 1) := by decide +kernel
theorem dX6_about_40 : decode cX6_about 40 = .ok (.goto 28, 3) := by decide +kernel
theorem dX6_about_43 : decode cX6_about 43 = .ok (.iload_n 2, 1) := by decide +kernel
theorem dX6_about_44 : decode cX6_about 44 = .ok (.iconst 1, 1) := by decide +kernel
theorem dX6_about_45 : decode cX6_about 45 = .ok (.if_icmp .ne 15, 3) := by decide +kernel
theorem dX6_about_48 : decode cX6_about 48 = .ok (.aload_n 0, 1) := by decide +kernel
theorem dX6_about_49 : decode cX6_about 49 = .ok (.getfield 7, 3) := by decide +kernel
theorem dX6_about_52 : decode cX6_about 52 = .ok (.bipush 44, 2) := by decide +kernel
theorem dX6_about_54 : decode cX6_about 54 = .ok (.iload_n 1, 1) := by decide +kernel
theorem dX6_about_55 : decode cX6_about 55 = .ok (.iadd, 1) := by decide +kernel
theorem dX6_about_56 : decode cX6_about 56 = .ok (.iaload, 1) := by decide +kernel
theorem dX6_about_57 : decode cX6_about 57 = .ok (.goto 11, 3) := by decide +kernel
theorem dX6_about_60 : decode cX6_about 60 = .ok (.aload_n 0, 1) := by decide +kernel
theorem dX6_about_61 : decode cX6_about 61 = .ok (.bipush 10, 2) := by decide +kernel
theorem dX6_about_63 : decode cX6_about 63 = .ok (.iload_n 1, 1) := by decide +kernel
theorem dX6_about_64 : decode cX6_about 64 = .ok (.iadd, 1) := by decide +kernel
theorem dX6_about_65 : decode cX6_about 65 = .ok (.invokevirtual 149, 3) := by decide +kernel
theorem dX6_about_68 : decode cX6_about 68 = .ok (.ireturn, 1) := by decide +kernel
theorem dX6_purse_0 : decode cX6_purse 0 = .ok (.aload_n 0, 1) := by decide +kernel
theorem dX6_purse_1 : decode cX6_purse 1 = .ok (.iload_n 1, 1) := by decide +kernel
theorem dX6_purse_2 : decode cX6_purse 2 = .ok (.invokevirtual 118, 3) := by decide +kernel
theorem dX6_purse_5 : decode cX6_purse 5 = .ok (.ifCond .eq 13, 3) := by decide +kernel
theorem dX6_purse_8 : decode cX6_purse 8 = .ok (.iload_n 2, 1) := by decide +kernel
theorem dX6_purse_9 : decode cX6_purse 9 = .ok (.i2l, 1) := by decide +kernel
theorem dX6_purse_10 : decode cX6_purse 10 = .ok (.lconst 0, 1) := by decide +kernel
theorem dX6_purse_11 : decode cX6_purse 11 = .ok (.lconst 1, 1) := by decide +kernel
theorem dX6_purse_12 : decode cX6_purse 12 = .ok (.invokestatic 56, 3) := by decide +kernel
theorem dX6_purse_15 : decode cX6_purse 15 = .ok (.ifCond .ne 10, 3) := by decide +kernel
theorem dX6_purse_18 : decode cX6_purse 18 = .ok (.aload_n 0, 1) := by decide +kernel
theorem dX6_purse_19 : decode cX6_purse 19 = .ok (.bipush (-2), 2) := by decide +kernel
theorem dX6_purse_21 : decode cX6_purse 21 = .ok (.invokevirtual 71, 3) := by decide +kernel
theorem dX6_purse_24 : decode cX6_purse 24 = .ok (.ireturn, 1) := by decide +kernel
theorem dX6_purse_25 : decode cX6_purse 25 = .ok (.iload_n 2, 1) := by decide +kernel
theorem dX6_purse_26 : decode cX6_purse 26 = .ok (.ifCond .ne 15, 3) := by decide +kernel
theorem dX6_purse_29 : decode cX6_purse 29 = .ok (.aload_n 0, 1) := by decide +kernel
theorem dX6_purse_30 : decode cX6_purse 30 = .ok (.getfield 7, 3) := by decide +kernel
theorem dX6_purse_33 : decode cX6_purse 33 = .ok (.bipush 21, 2) := by decide +kernel
theorem dX6_purse_35 : decode cX6_purse 35 = .ok (.iload_n 1, 1) := by decide +kernel
theorem dX6_purse_36 : decode cX6_purse 36 = .ok (.iadd, 1) := by decide +kernel
theorem dX6_purse_37 : decode cX6_purse 37 = .ok (.iaload, 1) := by decide +kernel
theorem dX6_purse_38 : decode cX6_purse 38 = .ok (.goto 10, 3) := by decide +kernel
theorem dX6_purse_41 : decode cX6_purse 41 = .ok (.aload_n 0, 1) := by decide +kernel
theorem dX6_purse_42 : decode cX6_purse 42 = .ok (.iconst 1, 1) := by decide +kernel
theorem dX6_purse_43 : decode cX6_purse 43 = .ok (.iload_n 1, 1) := by decide +kernel
theorem dX6_purse_44 : decode cX6_purse 44 = .ok (.iadd, 1) := by decide +kernel
theorem dX6_purse_45 : decode cX6_purse 45 = .ok (.invokevirtual 149, 3) := by decide +kernel
theorem dX6_purse_48 : decode cX6_purse 48 = .ok (.ireturn, 1) := by decide +kernel
theorem dX6_goodBehind_0 : decode cX6_goodBehind 0 = .ok (.aload_n 0, 1) := by decide +kernel
theorem dX6_goodBehind_1 : decode cX6_goodBehind 1 = .ok (.getfield 7, 3) := by decide +kernel
theorem dX6_goodBehind_4 : decode cX6_goodBehind 4 = .ok (.bipush 26, 2) := by decide +kernel
theorem dX6_goodBehind_6 : decode cX6_goodBehind 6 = .ok (.iload_n 1, 1) := by decide +kernel
theorem dX6_goodBehind_7 : decode cX6_goodBehind 7 = .ok (.iadd, 1) := by decide +kernel
theorem dX6_goodBehind_8 : decode cX6_goodBehind 8 = .ok (.iaload, 1) := by decide +kernel
theorem dX6_goodBehind_9 : decode cX6_goodBehind 9 = .ok (.aload_n 0, 1) := by decide +kernel
theorem dX6_goodBehind_10 : decode cX6_goodBehind 10 = .ok (.getfield 7, 3) := by decide +kernel
theorem dX6_goodBehind_13 : decode cX6_goodBehind 13 = .ok (.bipush 33, 2) := by decide +kernel
theorem dX6_goodBehind_15 : decode cX6_goodBehind 15 = .ok (.iload_n 1, 1) := by decide +kernel
theorem dX6_goodBehind_16 : decode cX6_goodBehind 16 = .ok (.iadd, 1) := by decide +kernel
theorem dX6_goodBehind_17 : decode cX6_goodBehind 17 = .ok (.iaload, 1) := by decide +kernel
theorem dX6_goodBehind_18 : decode cX6_goodBehind 18 = .ok (.aload_n 0, 1) := by decide +kernel
theorem dX6_goodBehind_19 : decode cX6_goodBehind 19 = .ok (.getfield 7, 3) := by decide +kernel
theorem dX6_goodBehind_22 : decode cX6_goodBehind 22 = .ok (.iload_n 1, 1) := by decide +kernel
theorem dX6_goodBehind_23 : decode cX6_goodBehind 23 = .ok (.invokestatic 95, 3) := by decide +kernel
theorem dX6_goodBehind_26 : decode cX6_goodBehind 26 = .ok (.ifCond .eq 17, 3) := by decide +kernel
theorem dX6_goodBehind_29 : decode cX6_goodBehind 29 = .ok (.aload_n 0, 1) := by decide +kernel
theorem dX6_goodBehind_30 : decode cX6_goodBehind 30 = .ok (.getfield 7, 3) := by decide +kernel
theorem dX6_goodBehind_33 : decode cX6_goodBehind 33 = .ok (.bipush 14, 2) := by decide +kernel
theorem dX6_goodBehind_35 : decode cX6_goodBehind 35 = .ok (.iload_n 1, 1) := by decide +kernel
theorem dX6_goodBehind_36 : decode cX6_goodBehind 36 = .ok (.iadd, 1) := by decide +kernel
theorem dX6_goodBehind_37 : decode cX6_goodBehind 37 = .ok (.iaload, 1) := by decide +kernel
theorem dX6_goodBehind_38 : decode cX6_goodBehind 38 = .ok (.iload_n 2, 1) := by decide +kernel
theorem dX6_goodBehind_39 : decode cX6_goodBehind 39 = .ok (.iadd, 1) := by decide +kernel
theorem dX6_goodBehind_40 : decode cX6_goodBehind 40 = .ok (.goto 12, 3) := by decide +kernel
theorem dX6_goodBehind_43 : decode cX6_goodBehind 43 = .ok (.aload_n 0, 1) := by decide +kernel
theorem dX6_goodBehind_44 : decode cX6_goodBehind 44 = .ok (.getfield 7, 3) := by decide +kernel
theorem dX6_goodBehind_47 : decode cX6_goodBehind 47 = .ok (.bipush 14, 2) := by decide +kernel
theorem dX6_goodBehind_49 : decode cX6_goodBehind 49 = .ok (.iload_n 1, 1) := by decide +kernel
theorem dX6_goodBehind_50 : decode cX6_goodBehind 50 = .ok (.iadd, 1) := by decide +kernel
theorem dX6_goodBehind_51 : decode cX6_goodBehind 51 = .ok (.iaload, 1) := by decide +kernel
theorem dX6_goodBehind_52 : decode cX6_goodBehind 52 = .ok (.invokestatic 84, 3) := by decide +kernel
theorem dX6_goodBehind_55 : decode cX6_goodBehind 55 = .ok (.ireturn, 1) := by decide +kernel
theorem dX6_good_0 : decode cX6_good 0 = .ok (.aload_n 0, 1) := by decide +kernel
theorem dX6_good_1 : decode cX6_good 1 = .ok (.iload_n 1, 1) := by decide +kernel
theorem dX6_good_2 : decode cX6_good 2 = .ok (.invokevirtual 121, 3) := by decide +kernel
theorem dX6_good_5 : decode cX6_good 5 = .ok (.ifCond .eq 24, 3) := by decide +kernel
theorem dX6_good_8 : decode cX6_good 8 = .ok (.iload_n 2, 1) := by decide +kernel
theorem dX6_good_9 : decode cX6_good 9 = .ok (.i2l, 1) := by decide +kernel
theorem dX6_good_10 : decode cX6_good 10 = .ok (.lconst 0, 1) := by decide +kernel
theorem dX6_good_11 : decode cX6_good 11 = .ok (.ldc2_w 152, 3) := by decide +kernel
theorem dX6_good_14 : decode cX6_good 14 = .ok (.invokestatic 56, 3) := by decide +kernel
theorem dX6_good_17 : decode cX6_good 17 = .ok (.ifCond .eq 12, 3) := by decide +kernel
theorem dX6_good_20 : decode cX6_good 20 = .ok (.aload_n 0, 1) := by decide +kernel
theorem dX6_good_21 : decode cX6_good 21 = .ok (.iload_n 1, 1) := by decide +kernel
theorem dX6_good_22 : decode cX6_good 22 = .ok (.iload_n 2, 1) := by decide +kernel
theorem dX6_good_23 : decode cX6_good 23 = .ok (.invokevirtual 154, 3) := by decide +kernel
theorem dX6_good_26 : decode cX6_good 26 = .ok (.goto 9, 3) := by decide +kernel
theorem dX6_good_29 : decode cX6_good 29 = .ok (.aload_n 0, 1) := by decide +kernel
theorem dX6_good_30 : decode cX6_good 30 = .ok (.bipush (-2), 2) := by decide +kernel
theorem dX6_good_32 : decode cX6_good 32 = .ok (.invokevirtual 71, 3) := by decide +kernel
theorem dX6_good_35 : decode cX6_good 35 = .ok (.ireturn, 1) := by decide +kernel
theorem dX6_joy_0 : decode cX6_joy 0 = .ok (.aload_n 0, 1) := by decide +kernel
theorem dX6_joy_1 : decode cX6_joy 1 = .ok (.iload_n 1, 1) := by decide +kernel
theorem dX6_joy_2 : decode cX6_joy 2 = .ok (.invokevirtual 121, 3) := by decide +kernel
theorem dX6_joy_5 : decode cX6_joy 5 = .ok (.ifCond .eq 23, 3) := by decide +kernel
theorem dX6_joy_8 : decode cX6_joy 8 = .ok (.aload_n 0, 1) := by decide +kernel
theorem dX6_joy_9 : decode cX6_joy 9 = .ok (.iload_n 2, 1) := by decide +kernel
theorem dX6_joy_10 : decode cX6_joy 10 = .ok (.invokevirtual 134, 3) := by decide +kernel
theorem dX6_joy_13 : decode cX6_joy 13 = .ok (.ifCond .eq 15, 3) := by decide +kernel
theorem dX6_joy_16 : decode cX6_joy 16 = .ok (.aload_n 0, 1) := by decide +kernel
theorem dX6_joy_17 : decode cX6_joy 17 = .ok (.getfield 7, 3) := by decide +kernel
theorem dX6_joy_20 : decode cX6_joy 20 = .ok (.iload_n 1, 1) := by decide +kernel
theorem dX6_joy_21 : decode cX6_joy 21 = .ok (.iload_n 2, 1) := by decide +kernel
theorem dX6_joy_22 : decode cX6_joy 22 = .ok (.invokestatic 114, 3) := by decide +kernel
theorem dX6_joy_25 : decode cX6_joy 25 = .ok (.goto 9, 3) := by decide +kernel
theorem dX6_joy_28 : decode cX6_joy 28 = .ok (.aload_n 0, 1) := by decide +kernel
theorem dX6_joy_29 : decode cX6_joy 29 = .ok (.bipush (-2), 2) := by decide +kernel
theorem dX6_joy_31 : decode cX6_joy 31 = .ok (.invokevirtual 71, 3) := by decide +kernel
theorem dX6_joy_34 : decode cX6_joy 34 = .ok (.ireturn, 1) := by decide +kernel
theorem dX6_when_0 : decode cX6_when 0 = .ok (.aload_n 0, 1) := by decide +kernel
theorem dX6_when_1 : decode cX6_when 1 = .ok (.iload_n 1, 1) := by decide +kernel
theorem dX6_when_2 : decode cX6_when 2 = .ok (.invokevirtual 121, 3) := by decide +kernel
theorem dX6_when_5 : decode cX6_when 5 = .ok (.ifCond .eq 15, 3) := by decide +kernel
theorem dX6_when_8 : decode cX6_when 8 = .ok (.iload_n 2, 1) := by decide +kernel
theorem dX6_when_9 : decode cX6_when 9 = .ok (.i2l, 1) := by decide +kernel
theorem dX6_when_10 : decode cX6_when 10 = .ok (.lconst 1, 1) := by decide +kernel
theorem dX6_when_11 : decode cX6_when 11 = .ok (.ldc2_w 157, 3) := by decide +kernel
theorem dX6_when_14 : decode cX6_when 14 = .ok (.invokestatic 56, 3) := by decide +kernel
theorem dX6_when_17 : decode cX6_when 17 = .ok (.ifCond .ne 10, 3) := by decide +kernel
theorem dX6_when_20 : decode cX6_when 20 = .ok (.aload_n 0, 1) := by decide +kernel
theorem dX6_when_21 : decode cX6_when 21 = .ok (.bipush (-2), 2) := by decide +kernel
theorem dX6_when_23 : decode cX6_when 23 = .ok (.invokevirtual 71, 3) := by decide +kernel
theorem dX6_when_26 : decode cX6_when 26 = .ok (.ireturn, 1) := by decide +kernel
theorem dX6_when_27 : decode cX6_when 27 = .ok (.iconst 0, 1) := by decide +kernel
theorem dX6_when_28 : decode cX6_when 28 = .ok (.istore_n 3, 1) := by decide +kernel
theorem dX6_when_29 : decode cX6_when 29 = .ok (.iload_n 3, 1) := by decide +kernel
theorem dX6_when_30 : decode cX6_when 30 = .ok (.bipush 60, 2) := by decide +kernel
theorem dX6_when_32 : decode cX6_when 32 = .ok (.if_icmp .gt 21, 3) := by decide +kernel
theorem dX6_when_35 : decode cX6_when 35 = .ok (.aload_n 0, 1) := by decide +kernel
theorem dX6_when_36 : decode cX6_when 36 = .ok (.iload_n 1, 1) := by decide +kernel
theorem dX6_when_37 : decode cX6_when 37 = .ok (.iload_n 3, 1) := by decide +kernel
theorem dX6_when_38 : decode cX6_when 38 = .ok (.invokevirtual 154, 3) := by decide +kernel
theorem dX6_when_41 : decode cX6_when 41 = .ok (.iload_n 2, 1) := by decide +kernel
theorem dX6_when_42 : decode cX6_when 42 = .ok (.if_icmp .lt 5, 3) := by decide +kernel
theorem dX6_when_45 : decode cX6_when 45 = .ok (.iload_n 3, 1) := by decide +kernel
theorem dX6_when_46 : decode cX6_when 46 = .ok (.ireturn, 1) := by decide +kernel
theorem dX6_when_47 : decode cX6_when 47 = .ok (.iinc 3 1, 3) := by decide +kernel
theorem dX6_when_50 : decode cX6_when 50 = .ok (.goto (-21), 3) := by decide +kernel
theorem dX6_when_53 : decode cX6_when 53 = .ok (.iconst (-1), 1) := by decide +kernel
theorem dX6_when_54 : decode cX6_when 54 = .ok (.ireturn, 1) := by decide +kernel
theorem dX6_waiting_0 : decode cX6_waiting 0 = .ok (.iconst 0, 1) := by decide +kernel
theorem dX6_waiting_1 : decode cX6_waiting 1 = .ok (.istore_n 1, 1) := by decide +kernel
theorem dX6_waiting_2 : decode cX6_waiting 2 = .ok (.iconst 0, 1) := by decide +kernel
theorem dX6_waiting_3 : decode cX6_waiting 3 = .ok (.istore_n 2, 1) := by decide +kernel
theorem dX6_waiting_4 : decode cX6_waiting 4 = .ok (.iload_n 2, 1) := by decide +kernel
theorem dX6_waiting_5 : decode cX6_waiting 5 = .ok (.aload_n 0, 1) := by decide +kernel
theorem dX6_waiting_6 : decode cX6_waiting 6 = .ok (.getfield 7, 3) := by decide +kernel
theorem dX6_waiting_9 : decode cX6_waiting 9 = .ok (.iconst 1, 1) := by decide +kernel
theorem dX6_waiting_10 : decode cX6_waiting 10 = .ok (.iaload, 1) := by decide +kernel
theorem dX6_waiting_11 : decode cX6_waiting 11 = .ok (.if_icmp .ge 30, 3) := by decide +kernel
theorem dX6_waiting_14 : decode cX6_waiting 14 = .ok (.iload_n 1, 1) := by decide +kernel
theorem dX6_waiting_15 : decode cX6_waiting 15 = .ok (.aload_n 0, 1) := by decide +kernel
theorem dX6_waiting_16 : decode cX6_waiting 16 = .ok (.bipush 10, 2) := by decide +kernel
theorem dX6_waiting_18 : decode cX6_waiting 18 = .ok (.iload_n 2, 1) := by decide +kernel
theorem dX6_waiting_19 : decode cX6_waiting 19 = .ok (.iadd, 1) := by decide +kernel
theorem dX6_waiting_20 : decode cX6_waiting 20 = .ok (.invokevirtual 149, 3) := by decide +kernel
theorem dX6_waiting_23 : decode cX6_waiting 23 = .ok (.ifCond .ne 9, 3) := by decide +kernel
theorem dX6_waiting_26 : decode cX6_waiting 26 = .ok (.iconst 1, 1) := by decide +kernel
theorem dX6_waiting_27 : decode cX6_waiting 27 = .ok (.iload_n 2, 1) := by decide +kernel
theorem dX6_waiting_28 : decode cX6_waiting 28 = .ok (.ishl, 1) := by decide +kernel
theorem dX6_waiting_29 : decode cX6_waiting 29 = .ok (.goto 4, 3) := by decide +kernel
theorem dX6_waiting_32 : decode cX6_waiting 32 = .ok (.iconst 0, 1) := by decide +kernel
theorem dX6_waiting_33 : decode cX6_waiting 33 = .ok (.ior, 1) := by decide +kernel
theorem dX6_waiting_34 : decode cX6_waiting 34 = .ok (.istore_n 1, 1) := by decide +kernel
theorem dX6_waiting_35 : decode cX6_waiting 35 = .ok (.iinc 2 1, 3) := by decide +kernel
theorem dX6_waiting_38 : decode cX6_waiting 38 = .ok (.goto (-34), 3) := by decide +kernel
theorem dX6_waiting_41 : decode cX6_waiting 41 = .ok (.iload_n 1, 1) := by decide +kernel
theorem dX6_waiting_42 : decode cX6_waiting 42 = .ok (.ireturn, 1) := by decide +kernel
theorem dX6_waits_0 : decode cX6_waits 0 = .ok (.aload_n 0, 1) := by decide +kernel
theorem dX6_waits_1 : decode cX6_waits 1 = .ok (.invokevirtual 159, 3) := by decide +kernel
theorem dX6_waits_4 : decode cX6_waits 4 = .ok (.ireturn, 1) := by decide +kernel
theorem dX6_means_0 : decode cX6_means 0 = .ok (.iload_n 1, 1) := by decide +kernel
theorem dX6_means_1 : decode cX6_means 1 = .ok (.istore_n 2, 1) := by decide +kernel
theorem dX6_means_2 : decode cX6_means 2 = .ok (.iconst 0, 1) := by decide +kernel
theorem dX6_means_3 : decode cX6_means 3 = .ok (.istore_n 3, 1) := by decide +kernel
theorem dX6_means_4 : decode cX6_means 4 = .ok (.iconst 1, 1) := by decide +kernel
theorem dX6_means_5 : decode cX6_means 5 = .ok (.istore 4, 2) := by decide +kernel
theorem dX6_means_7 : decode cX6_means 7 = .ok (.aload_n 0, 1) := by decide +kernel
theorem dX6_means_8 : decode cX6_means 8 = .ok (.getfield 7, 3) := by decide +kernel
theorem dX6_means_11 : decode cX6_means 11 = .ok (.iconst 1, 1) := by decide +kernel
theorem dX6_means_12 : decode cX6_means 12 = .ok (.iaload, 1) := by decide +kernel
theorem dX6_means_13 : decode cX6_means 13 = .ok (.iconst 1, 1) := by decide +kernel
theorem dX6_means_14 : decode cX6_means 14 = .ok (.isub, 1) := by decide +kernel
theorem dX6_means_15 : decode cX6_means 15 = .ok (.istore 5, 2) := by decide +kernel
theorem dX6_means_17 : decode cX6_means 17 = .ok (.iload 5, 2) := by decide +kernel
theorem dX6_means_19 : decode cX6_means 19 = .ok (.ifCond .lt 86, 3) := by decide +kernel
theorem dX6_means_22 : decode cX6_means 22 = .ok (.iload_n 2, 1) := by decide +kernel
theorem dX6_means_23 : decode cX6_means 23 = .ok (.bipush 8, 2) := by decide +kernel
theorem dX6_means_25 : decode cX6_means 25 = .ok (.irem, 1) := by decide +kernel
theorem dX6_means_26 : decode cX6_means 26 = .ok (.iconst 1, 1) := by decide +kernel
theorem dX6_means_27 : decode cX6_means 27 = .ok (.isub, 1) := by decide +kernel
theorem dX6_means_28 : decode cX6_means 28 = .ok (.istore 6, 2) := by decide +kernel
theorem dX6_means_30 : decode cX6_means 30 = .ok (.aload_n 0, 1) := by decide +kernel
theorem dX6_means_31 : decode cX6_means 31 = .ok (.getfield 27, 3) := by decide +kernel
theorem dX6_means_34 : decode cX6_means 34 = .ok (.iload 5, 2) := by decide +kernel
theorem dX6_means_36 : decode cX6_means 36 = .ok (.iload 6, 2) := by decide +kernel
theorem dX6_means_38 : decode cX6_means 38 = .ok (.iastore, 1) := by decide +kernel
theorem dX6_means_39 : decode cX6_means 39 = .ok (.iload_n 2, 1) := by decide +kernel
theorem dX6_means_40 : decode cX6_means 40 = .ok (.bipush 8, 2) := by decide +kernel
theorem dX6_means_42 : decode cX6_means 42 = .ok (.idiv, 1) := by decide +kernel
theorem dX6_means_43 : decode cX6_means 43 = .ok (.istore_n 2, 1) := by decide +kernel
theorem dX6_means_44 : decode cX6_means 44 = .ok (.iload 6, 2) := by decide +kernel
theorem dX6_means_46 : decode cX6_means 46 = .ok (.iconst (-1), 1) := by decide +kernel
theorem dX6_means_47 : decode cX6_means 47 = .ok (.if_icmp .eq 52, 3) := by decide +kernel
theorem dX6_means_50 : decode cX6_means 50 = .ok (.iload 4, 2) := by decide +kernel
theorem dX6_means_52 : decode cX6_means 52 = .ok (.ifCond .eq 37, 3) := by decide +kernel
theorem dX6_means_55 : decode cX6_means 55 = .ok (.aload_n 0, 1) := by decide +kernel
theorem dX6_means_56 : decode cX6_means 56 = .ok (.iload 6, 2) := by decide +kernel
theorem dX6_means_58 : decode cX6_means 58 = .ok (.invokevirtual 121, 3) := by decide +kernel
theorem dX6_means_61 : decode cX6_means 61 = .ok (.ifCond .eq 28, 3) := by decide +kernel
theorem dX6_means_64 : decode cX6_means 64 = .ok (.aload_n 0, 1) := by decide +kernel
theorem dX6_means_65 : decode cX6_means 65 = .ok (.getfield 7, 3) := by decide +kernel
theorem dX6_means_68 : decode cX6_means 68 = .ok (.iload 6, 2) := by decide +kernel
theorem dX6_means_70 : decode cX6_means 70 = .ok (.invokestatic 95, 3) := by decide +kernel
theorem dX6_means_73 : decode cX6_means 73 = .ok (.ifCond .eq 16, 3) := by decide +kernel
theorem dX6_means_76 : decode cX6_means 76 = .ok (.iload_n 3, 1) := by decide +kernel
theorem dX6_means_77 : decode cX6_means 77 = .ok (.iload 6, 2) := by decide +kernel
theorem dX6_means_79 : decode cX6_means 79 = .ok (.invokestatic 162, 3) := by decide +kernel
theorem dX6_means_82 : decode cX6_means 82 = .ok (.ifCond .ne 7, 3) := by decide +kernel
theorem dX6_means_85 : decode cX6_means 85 = .ok (.iconst 1, 1) := by decide +kernel
theorem dX6_means_86 : decode cX6_means 86 = .ok (.goto 4, 3) := by decide +kernel
theorem dX6_means_89 : decode cX6_means 89 = .ok (.iconst 0, 1) := by decide +kernel
theorem dX6_means_90 : decode cX6_means 90 = .ok (.istore 4, 2) := by decide +kernel
theorem dX6_means_92 : decode cX6_means 92 = .ok (.iload_n 3, 1) := by decide +kernel
theorem dX6_means_93 : decode cX6_means 93 = .ok (.iconst 1, 1) := by decide +kernel
theorem dX6_means_94 : decode cX6_means 94 = .ok (.iload 6, 2) := by decide +kernel
theorem dX6_means_96 : decode cX6_means 96 = .ok (.ishl, 1) := by decide +kernel
theorem dX6_means_97 : decode cX6_means 97 = .ok (.ior, 1) := by decide +kernel
theorem dX6_means_98 : decode cX6_means 98 = .ok (.istore_n 3, 1) := by decide +kernel
theorem dX6_means_99 : decode cX6_means 99 = .ok (.iinc 5 (-1), 3) := by decide +kernel
theorem dX6_means_102 : decode cX6_means 102 = .ok (.goto (-85), 3) := by decide +kernel
theorem dX6_means_105 : decode cX6_means 105 = .ok (.iload 4, 2) := by decide +kernel
theorem dX6_means_107 : decode cX6_means 107 = .ok (.ireturn, 1) := by decide +kernel
theorem dX6_codes_0 : decode cX6_codes 0 = .ok (.iconst 1, 1) := by decide +kernel
theorem dX6_codes_1 : decode cX6_codes 1 = .ok (.istore_n 1, 1) := by decide +kernel
theorem dX6_codes_2 : decode cX6_codes 2 = .ok (.iconst 0, 1) := by decide +kernel
theorem dX6_codes_3 : decode cX6_codes 3 = .ok (.istore_n 2, 1) := by decide +kernel
theorem dX6_codes_4 : decode cX6_codes 4 = .ok (.iload_n 2, 1) := by decide +kernel
theorem dX6_codes_5 : decode cX6_codes 5 = .ok (.aload_n 0, 1) := by decide +kernel
theorem dX6_codes_6 : decode cX6_codes 6 = .ok (.getfield 7, 3) := by decide +kernel
theorem dX6_codes_9 : decode cX6_codes 9 = .ok (.iconst 1, 1) := by decide +kernel
theorem dX6_codes_10 : decode cX6_codes 10 = .ok (.iaload, 1) := by decide +kernel
theorem dX6_codes_11 : decode cX6_codes 11 = .ok (.if_icmp .ge 14, 3) := by decide +kernel
theorem dX6_codes_14 : decode cX6_codes 14 = .ok (.iload_n 1, 1) := by decide +kernel
theorem dX6_codes_15 : decode cX6_codes 15 = .ok (.bipush 8, 2) := by decide +kernel
theorem dX6_codes_17 : decode cX6_codes 17 = .ok (.imul, 1) := by decide +kernel
theorem dX6_codes_18 : decode cX6_codes 18 = .ok (.istore_n 1, 1) := by decide +kernel
theorem dX6_codes_19 : decode cX6_codes 19 = .ok (.iinc 2 1, 3) := by decide +kernel
theorem dX6_codes_22 : decode cX6_codes 22 = .ok (.goto (-18), 3) := by decide +kernel
theorem dX6_codes_25 : decode cX6_codes 25 = .ok (.iload_n 1, 1) := by decide +kernel
theorem dX6_codes_26 : decode cX6_codes 26 = .ok (.ireturn, 1) := by decide +kernel
theorem dX6_fit_0 : decode cX6_fit 0 = .ok (.iload_n 1, 1) := by decide +kernel
theorem dX6_fit_1 : decode cX6_fit 1 = .ok (.iconst (-1), 1) := by decide +kernel
theorem dX6_fit_2 : decode cX6_fit 2 = .ok (.if_icmp .eq 18, 3) := by decide +kernel
theorem dX6_fit_5 : decode cX6_fit 5 = .ok (.aload_n 0, 1) := by decide +kernel
theorem dX6_fit_6 : decode cX6_fit 6 = .ok (.iload_n 1, 1) := by decide +kernel
theorem dX6_fit_7 : decode cX6_fit 7 = .ok (.invokevirtual 134, 3) := by decide +kernel
theorem dX6_fit_10 : decode cX6_fit 10 = .ok (.ifCond .ne 10, 3) := by decide +kernel
theorem dX6_fit_13 : decode cX6_fit 13 = .ok (.aload_n 0, 1) := by decide +kernel
theorem dX6_fit_14 : decode cX6_fit 14 = .ok (.bipush (-10), 2) := by decide +kernel
theorem dX6_fit_16 : decode cX6_fit 16 = .ok (.invokevirtual 71, 3) := by decide +kernel
theorem dX6_fit_19 : decode cX6_fit 19 = .ok (.ireturn, 1) := by decide +kernel
theorem dX6_fit_20 : decode cX6_fit 20 = .ok (.iconst (-1), 1) := by decide +kernel
theorem dX6_fit_21 : decode cX6_fit 21 = .ok (.istore_n 2, 1) := by decide +kernel
theorem dX6_fit_22 : decode cX6_fit 22 = .ok (.iconst 0, 1) := by decide +kernel
theorem dX6_fit_23 : decode cX6_fit 23 = .ok (.istore_n 3, 1) := by decide +kernel
theorem dX6_fit_24 : decode cX6_fit 24 = .ok (.iload_n 3, 1) := by decide +kernel
theorem dX6_fit_25 : decode cX6_fit 25 = .ok (.aload_n 0, 1) := by decide +kernel
theorem dX6_fit_26 : decode cX6_fit 26 = .ok (.invokevirtual 166, 3) := by decide +kernel
theorem dX6_fit_29 : decode cX6_fit 29 = .ok (.if_icmp .ge 114, 3) := by decide +kernel
theorem dX6_fit_32 : decode cX6_fit 32 = .ok (.aload_n 0, 1) := by decide +kernel
theorem dX6_fit_33 : decode cX6_fit 33 = .ok (.iload_n 3, 1) := by decide +kernel
theorem dX6_fit_34 : decode cX6_fit 34 = .ok (.invokevirtual 169, 3) := by decide +kernel
theorem dX6_fit_37 : decode cX6_fit 37 = .ok (.ifCond .eq 100, 3) := by decide +kernel
theorem dX6_fit_40 : decode cX6_fit 40 = .ok (.iconst 0, 1) := by decide +kernel
theorem dX6_fit_41 : decode cX6_fit 41 = .ok (.istore 4, 2) := by decide +kernel
theorem dX6_fit_43 : decode cX6_fit 43 = .ok (.iconst 0, 1) := by decide +kernel
theorem dX6_fit_44 : decode cX6_fit 44 = .ok (.istore 5, 2) := by decide +kernel
theorem dX6_fit_46 : decode cX6_fit 46 = .ok (.iload 5, 2) := by decide +kernel
theorem dX6_fit_48 : decode cX6_fit 48 = .ok (.aload_n 0, 1) := by decide +kernel
theorem dX6_fit_49 : decode cX6_fit 49 = .ok (.getfield 7, 3) := by decide +kernel
theorem dX6_fit_52 : decode cX6_fit 52 = .ok (.iconst 1, 1) := by decide +kernel
theorem dX6_fit_53 : decode cX6_fit 53 = .ok (.iaload, 1) := by decide +kernel
theorem dX6_fit_54 : decode cX6_fit 54 = .ok (.if_icmp .ge 45, 3) := by decide +kernel
theorem dX6_fit_57 : decode cX6_fit 57 = .ok (.iload 4, 2) := by decide +kernel
theorem dX6_fit_59 : decode cX6_fit 59 = .ok (.aload_n 0, 1) := by decide +kernel
theorem dX6_fit_60 : decode cX6_fit 60 = .ok (.getfield 27, 3) := by decide +kernel
theorem dX6_fit_63 : decode cX6_fit 63 = .ok (.iload 5, 2) := by decide +kernel
theorem dX6_fit_65 : decode cX6_fit 65 = .ok (.iaload, 1) := by decide +kernel
theorem dX6_fit_66 : decode cX6_fit 66 = .ok (.iconst (-1), 1) := by decide +kernel
theorem dX6_fit_67 : decode cX6_fit 67 = .ok (.if_icmp .ne 7, 3) := by decide +kernel
theorem dX6_fit_70 : decode cX6_fit 70 = .ok (.iconst 0, 1) := by decide +kernel
theorem dX6_fit_71 : decode cX6_fit 71 = .ok (.goto 19, 3) := by decide +kernel
theorem dX6_fit_74 : decode cX6_fit 74 = .ok (.aload_n 0, 1) := by decide +kernel
theorem dX6_fit_75 : decode cX6_fit 75 = .ok (.getfield 7, 3) := by decide +kernel
theorem dX6_fit_78 : decode cX6_fit 78 = .ok (.aload_n 0, 1) := by decide +kernel
theorem dX6_fit_79 : decode cX6_fit 79 = .ok (.getfield 27, 3) := by decide +kernel
theorem dX6_fit_82 : decode cX6_fit 82 = .ok (.iload 5, 2) := by decide +kernel
theorem dX6_fit_84 : decode cX6_fit 84 = .ok (.iaload, 1) := by decide +kernel
theorem dX6_fit_85 : decode cX6_fit 85 = .ok (.iload 5, 2) := by decide +kernel
theorem dX6_fit_87 : decode cX6_fit 87 = .ok (.invokestatic 114, 3) := by decide +kernel
theorem dX6_fit_90 : decode cX6_fit 90 = .ok (.iadd, 1) := by decide +kernel
theorem dX6_fit_91 : decode cX6_fit 91 = .ok (.istore 4, 2) := by decide +kernel
theorem dX6_fit_93 : decode cX6_fit 93 = .ok (.iinc 5 1, 3) := by decide +kernel
theorem dX6_fit_96 : decode cX6_fit 96 = .ok (.goto (-50), 3) := by decide +kernel
theorem dX6_fit_99 : decode cX6_fit 99 = .ok (.iload 4, 2) := by decide +kernel
theorem dX6_fit_101 : decode cX6_fit 101 = .ok (.iload_n 2, 1) := by decide +kernel
theorem dX6_fit_102 : decode cX6_fit 102 = .ok (.if_icmp .le 35, 3) := by decide +kernel
theorem dX6_fit_105 : decode cX6_fit 105 = .ok (.iload 4, 2) := by decide +kernel
theorem dX6_fit_107 : decode cX6_fit 107 = .ok (.istore_n 2, 1) := by decide +kernel
theorem dX6_fit_108 : decode cX6_fit 108 = .ok (.iconst 0, 1) := by decide +kernel
theorem dX6_fit_109 : decode cX6_fit 109 = .ok (.istore 5, 2) := by decide +kernel
theorem dX6_fit_111 : decode cX6_fit 111 = .ok (.iload 5, 2) := by decide +kernel
theorem dX6_fit_113 : decode cX6_fit 113 = .ok (.iconst 4, 1) := by decide +kernel
theorem dX6_fit_114 : decode cX6_fit 114 = .ok (.if_icmp .ge 23, 3) := by decide +kernel
theorem dX6_fit_117 : decode cX6_fit 117 = .ok (.aload_n 0, 1) := by decide +kernel
theorem dX6_fit_118 : decode cX6_fit 118 = .ok (.getfield 30, 3) := by decide +kernel
theorem dX6_fit_121 : decode cX6_fit 121 = .ok (.iload 5, 2) := by decide +kernel
theorem dX6_fit_123 : decode cX6_fit 123 = .ok (.aload_n 0, 1) := by decide +kernel
theorem dX6_fit_124 : decode cX6_fit 124 = .ok (.getfield 27, 3) := by decide +kernel
theorem dX6_fit_127 : decode cX6_fit 127 = .ok (.iload 5, 2) := by decide +kernel
theorem dX6_fit_129 : decode cX6_fit 129 = .ok (.iaload, 1) := by decide +kernel
theorem dX6_fit_130 : decode cX6_fit 130 = .ok (.iastore, 1) := by decide +kernel
theorem dX6_fit_131 : decode cX6_fit 131 = .ok (.iinc 5 1, 3) := by decide +kernel
theorem dX6_fit_134 : decode cX6_fit 134 = .ok (.goto (-23), 3) := by decide +kernel
theorem dX6_fit_137 : decode cX6_fit 137 = .ok (.iinc 3 1, 3) := by decide +kernel
theorem dX6_fit_140 : decode cX6_fit 140 = .ok (.goto (-116), 3) := by decide +kernel
theorem dX6_fit_143 : decode cX6_fit 143 = .ok (.iload_n 1, 1) := by decide +kernel
theorem dX6_fit_144 : decode cX6_fit 144 = .ok (.iconst (-1), 1) := by decide +kernel
theorem dX6_fit_145 : decode cX6_fit 145 = .ok (.if_icmp .ne 7, 3) := by decide +kernel
theorem dX6_fit_148 : decode cX6_fit 148 = .ok (.iload_n 2, 1) := by decide +kernel
theorem dX6_fit_149 : decode cX6_fit 149 = .ok (.goto 9, 3) := by decide +kernel
theorem dX6_fit_152 : decode cX6_fit 152 = .ok (.aload_n 0, 1) := by decide +kernel
theorem dX6_fit_153 : decode cX6_fit 153 = .ok (.getfield 30, 3) := by decide +kernel
theorem dX6_fit_156 : decode cX6_fit 156 = .ok (.iload_n 1, 1) := by decide +kernel
theorem dX6_fit_157 : decode cX6_fit 157 = .ok (.iaload, 1) := by decide +kernel
theorem dX6_fit_158 : decode cX6_fit 158 = .ok (.ireturn, 1) := by decide +kernel
theorem dX6_buy_0 : decode cX6_buy 0 = .ok (.aload_n 0, 1) := by decide +kernel
theorem dX6_buy_1 : decode cX6_buy 1 = .ok (.iload_n 1, 1) := by decide +kernel
theorem dX6_buy_2 : decode cX6_buy 2 = .ok (.invokevirtual 118, 3) := by decide +kernel
theorem dX6_buy_5 : decode cX6_buy 5 = .ok (.ifCond .eq 21, 3) := by decide +kernel
theorem dX6_buy_8 : decode cX6_buy 8 = .ok (.aload_n 0, 1) := by decide +kernel
theorem dX6_buy_9 : decode cX6_buy 9 = .ok (.iload_n 2, 1) := by decide +kernel
theorem dX6_buy_10 : decode cX6_buy 10 = .ok (.invokevirtual 134, 3) := by decide +kernel
theorem dX6_buy_13 : decode cX6_buy 13 = .ok (.ifCond .eq 13, 3) := by decide +kernel
theorem dX6_buy_16 : decode cX6_buy 16 = .ok (.iload_n 3, 1) := by decide +kernel
theorem dX6_buy_17 : decode cX6_buy 17 = .ok (.i2l, 1) := by decide +kernel
theorem dX6_buy_18 : decode cX6_buy 18 = .ok (.lconst 0, 1) := by decide +kernel
theorem dX6_buy_19 : decode cX6_buy 19 = .ok (.lconst 1, 1) := by decide +kernel
theorem dX6_buy_20 : decode cX6_buy 20 = .ok (.invokestatic 56, 3) := by decide +kernel
theorem dX6_buy_23 : decode cX6_buy 23 = .ok (.ifCond .ne 10, 3) := by decide +kernel
theorem dX6_buy_26 : decode cX6_buy 26 = .ok (.aload_n 0, 1) := by decide +kernel
theorem dX6_buy_27 : decode cX6_buy 27 = .ok (.bipush (-2), 2) := by decide +kernel
theorem dX6_buy_29 : decode cX6_buy 29 = .ok (.invokevirtual 71, 3) := by decide +kernel
theorem dX6_buy_32 : decode cX6_buy 32 = .ok (.ireturn, 1) := by decide +kernel
theorem dX6_buy_33 : decode cX6_buy 33 = .ok (.iconst (-1), 1) := by decide +kernel
theorem dX6_buy_34 : decode cX6_buy 34 = .ok (.istore 4, 2) := by decide +kernel
theorem dX6_buy_36 : decode cX6_buy 36 = .ok (.iconst 0, 1) := by decide +kernel
theorem dX6_buy_37 : decode cX6_buy 37 = .ok (.istore 5, 2) := by decide +kernel
theorem dX6_buy_39 : decode cX6_buy 39 = .ok (.iconst 0, 1) := by decide +kernel
theorem dX6_buy_40 : decode cX6_buy 40 = .ok (.istore 6, 2) := by decide +kernel
theorem dX6_buy_42 : decode cX6_buy 42 = .ok (.iload 6, 2) := by decide +kernel
theorem dX6_buy_44 : decode cX6_buy 44 = .ok (.iconst 1, 1) := by decide +kernel
theorem dX6_buy_45 : decode cX6_buy 45 = .ok (.aload_n 0, 1) := by decide +kernel
theorem dX6_buy_46 : decode cX6_buy 46 = .ok (.invokevirtual 52, 3) := by decide +kernel
theorem dX6_buy_49 : decode cX6_buy 49 = .ok (.ishl, 1) := by decide +kernel
theorem dX6_buy_50 : decode cX6_buy 50 = .ok (.if_icmp .ge 145, 3) := by decide +kernel
theorem dX6_buy_53 : decode cX6_buy 53 = .ok (.iconst 0, 1) := by decide +kernel
theorem dX6_buy_54 : decode cX6_buy 54 = .ok (.istore 7, 2) := by decide +kernel
theorem dX6_buy_56 : decode cX6_buy 56 = .ok (.iconst 0, 1) := by decide +kernel
theorem dX6_buy_57 : decode cX6_buy 57 = .ok (.istore 8, 2) := by decide +kernel
theorem dX6_buy_59 : decode cX6_buy 59 = .ok (.iconst 0, 1) := by decide +kernel
theorem dX6_buy_60 : decode cX6_buy 60 = .ok (.istore 9, 2) := by decide +kernel
theorem dX6_buy_62 : decode cX6_buy 62 = .ok (.iload 9, 2) := by decide +kernel
theorem dX6_buy_64 : decode cX6_buy 64 = .ok (.aload_n 0, 1) := by decide +kernel
theorem dX6_buy_65 : decode cX6_buy 65 = .ok (.invokevirtual 52, 3) := by decide +kernel
theorem dX6_buy_68 : decode cX6_buy 68 = .ok (.if_icmp .ge 65, 3) := by decide +kernel
theorem dX6_buy_71 : decode cX6_buy 71 = .ok (.iload 6, 2) := by decide +kernel
theorem dX6_buy_73 : decode cX6_buy 73 = .ok (.iload 9, 2) := by decide +kernel
theorem dX6_buy_75 : decode cX6_buy 75 = .ok (.invokestatic 162, 3) := by decide +kernel
theorem dX6_buy_78 : decode cX6_buy 78 = .ok (.ifCond .eq 49, 3) := by decide +kernel
theorem dX6_buy_81 : decode cX6_buy 81 = .ok (.iload 7, 2) := by decide +kernel
theorem dX6_buy_83 : decode cX6_buy 83 = .ok (.aload_n 0, 1) := by decide +kernel
theorem dX6_buy_84 : decode cX6_buy 84 = .ok (.getfield 7, 3) := by decide +kernel
theorem dX6_buy_87 : decode cX6_buy 87 = .ok (.iload 9, 2) := by decide +kernel
theorem dX6_buy_89 : decode cX6_buy 89 = .ok (.invokestatic 95, 3) := by decide +kernel
theorem dX6_buy_92 : decode cX6_buy 92 = .ok (.ifCond .eq 15, 3) := by decide +kernel
theorem dX6_buy_95 : decode cX6_buy 95 = .ok (.aload_n 0, 1) := by decide +kernel
theorem dX6_buy_96 : decode cX6_buy 96 = .ok (.getfield 7, 3) := by decide +kernel
theorem dX6_buy_99 : decode cX6_buy 99 = .ok (.iload 9, 2) := by decide +kernel
theorem dX6_buy_101 : decode cX6_buy 101 = .ok (.invokestatic 111, 3) := by decide +kernel
theorem dX6_buy_104 : decode cX6_buy 104 = .ok (.goto 5, 3) := by decide +kernel
theorem dX6_buy_107 : decode cX6_buy 107 = .ok (.ldc 172, 2) := by decide +kernel
theorem dX6_buy_109 : decode cX6_buy 109 = .ok (.iadd, 1) := by decide +kernel
theorem dX6_buy_110 : decode cX6_buy 110 = .ok (.istore 7, 2) := by decide +kernel
theorem dX6_buy_112 : decode cX6_buy 112 = .ok (.iload 8, 2) := by decide +kernel
theorem dX6_buy_114 : decode cX6_buy 114 = .ok (.aload_n 0, 1) := by decide +kernel
theorem dX6_buy_115 : decode cX6_buy 115 = .ok (.getfield 7, 3) := by decide +kernel
theorem dX6_buy_118 : decode cX6_buy 118 = .ok (.iload 9, 2) := by decide +kernel
theorem dX6_buy_120 : decode cX6_buy 120 = .ok (.iload_n 2, 1) := by decide +kernel
theorem dX6_buy_121 : decode cX6_buy 121 = .ok (.invokestatic 114, 3) := by decide +kernel
theorem dX6_buy_124 : decode cX6_buy 124 = .ok (.iadd, 1) := by decide +kernel
theorem dX6_buy_125 : decode cX6_buy 125 = .ok (.istore 8, 2) := by decide +kernel
theorem dX6_buy_127 : decode cX6_buy 127 = .ok (.iinc 9 1, 3) := by decide +kernel
theorem dX6_buy_130 : decode cX6_buy 130 = .ok (.goto (-68), 3) := by decide +kernel
theorem dX6_buy_133 : decode cX6_buy 133 = .ok (.iload 7, 2) := by decide +kernel
theorem dX6_buy_135 : decode cX6_buy 135 = .ok (.aload_n 0, 1) := by decide +kernel
theorem dX6_buy_136 : decode cX6_buy 136 = .ok (.getfield 7, 3) := by decide +kernel
theorem dX6_buy_139 : decode cX6_buy 139 = .ok (.bipush 21, 2) := by decide +kernel
theorem dX6_buy_141 : decode cX6_buy 141 = .ok (.iload_n 1, 1) := by decide +kernel
theorem dX6_buy_142 : decode cX6_buy 142 = .ok (.iadd, 1) := by decide +kernel
theorem dX6_buy_143 : decode cX6_buy 143 = .ok (.iaload, 1) := by decide +kernel
theorem dX6_buy_144 : decode cX6_buy 144 = .ok (.if_icmp .gt 14, 3) := by decide +kernel
theorem dX6_buy_147 : decode cX6_buy 147 = .ok (.iload 8, 2) := by decide +kernel
theorem dX6_buy_149 : decode cX6_buy 149 = .ok (.iload 4, 2) := by decide +kernel
theorem dX6_buy_151 : decode cX6_buy 151 = .ok (.if_icmp .le 7, 3) := by decide +kernel
theorem dX6_buy_154 : decode cX6_buy 154 = .ok (.iconst 1, 1) := by decide +kernel
theorem dX6_buy_155 : decode cX6_buy 155 = .ok (.goto 4, 3) := by decide +kernel
theorem dX6_buy_158 : decode cX6_buy 158 = .ok (.iconst 0, 1) := by decide +kernel
theorem dX6_buy_159 : decode cX6_buy 159 = .ok (.istore 9, 2) := by decide +kernel
theorem dX6_buy_161 : decode cX6_buy 161 = .ok (.iload 9, 2) := by decide +kernel
theorem dX6_buy_163 : decode cX6_buy 163 = .ok (.ifCond .eq 8, 3) := by decide +kernel
theorem dX6_buy_166 : decode cX6_buy 166 = .ok (.iload 6, 2) := by decide +kernel
theorem dX6_buy_168 : decode cX6_buy 168 = .ok (.goto 5, 3) := by decide +kernel
theorem dX6_buy_171 : decode cX6_buy 171 = .ok (.iload 5, 2) := by decide +kernel
theorem dX6_buy_173 : decode cX6_buy 173 = .ok (.istore 5, 2) := by decide +kernel
theorem dX6_buy_175 : decode cX6_buy 175 = .ok (.iload 9, 2) := by decide +kernel
theorem dX6_buy_177 : decode cX6_buy 177 = .ok (.ifCond .eq 8, 3) := by decide +kernel
theorem dX6_buy_180 : decode cX6_buy 180 = .ok (.iload 8, 2) := by decide +kernel
theorem dX6_buy_182 : decode cX6_buy 182 = .ok (.goto 5, 3) := by decide +kernel
theorem dX6_buy_185 : decode cX6_buy 185 = .ok (.iload 4, 2) := by decide +kernel
theorem dX6_buy_187 : decode cX6_buy 187 = .ok (.istore 4, 2) := by decide +kernel
theorem dX6_buy_189 : decode cX6_buy 189 = .ok (.iinc 6 1, 3) := by decide +kernel
theorem dX6_buy_192 : decode cX6_buy 192 = .ok (.goto (-150), 3) := by decide +kernel
theorem dX6_buy_195 : decode cX6_buy 195 = .ok (.iload_n 3, 1) := by decide +kernel
theorem dX6_buy_196 : decode cX6_buy 196 = .ok (.ifCond .ne 8, 3) := by decide +kernel
theorem dX6_buy_199 : decode cX6_buy 199 = .ok (.iload 4, 2) := by decide +kernel
theorem dX6_buy_201 : decode cX6_buy 201 = .ok (.goto 5, 3) := by decide +kernel
theorem dX6_buy_204 : decode cX6_buy 204 = .ok (.iload 5, 2) := by decide +kernel
theorem dX6_buy_206 : decode cX6_buy 206 = .ok (.ireturn, 1) := by decide +kernel
theorem dX6_cheap_0 : decode cX6_cheap 0 = .ok (.aload_n 0, 1) := by decide +kernel
theorem dX6_cheap_1 : decode cX6_cheap 1 = .ok (.invokevirtual 159, 3) := by decide +kernel
theorem dX6_cheap_4 : decode cX6_cheap 4 = .ok (.istore_n 1, 1) := by decide +kernel
theorem dX6_cheap_5 : decode cX6_cheap 5 = .ok (.ldc 172, 2) := by decide +kernel
theorem dX6_cheap_7 : decode cX6_cheap 7 = .ok (.istore_n 2, 1) := by decide +kernel
theorem dX6_cheap_8 : decode cX6_cheap 8 = .ok (.iconst 0, 1) := by decide +kernel
theorem dX6_cheap_9 : decode cX6_cheap 9 = .ok (.istore_n 3, 1) := by decide +kernel
theorem dX6_cheap_10 : decode cX6_cheap 10 = .ok (.iload_n 3, 1) := by decide +kernel
theorem dX6_cheap_11 : decode cX6_cheap 11 = .ok (.aload_n 0, 1) := by decide +kernel
theorem dX6_cheap_12 : decode cX6_cheap 12 = .ok (.invokevirtual 166, 3) := by decide +kernel
theorem dX6_cheap_15 : decode cX6_cheap 15 = .ok (.if_icmp .ge 162, 3) := by decide +kernel
theorem dX6_cheap_18 : decode cX6_cheap 18 = .ok (.aload_n 0, 1) := by decide +kernel
theorem dX6_cheap_19 : decode cX6_cheap 19 = .ok (.iload_n 3, 1) := by decide +kernel
theorem dX6_cheap_20 : decode cX6_cheap 20 = .ok (.invokevirtual 169, 3) := by decide +kernel
theorem dX6_cheap_23 : decode cX6_cheap 23 = .ok (.ifCond .eq 148, 3) := by decide +kernel
theorem dX6_cheap_26 : decode cX6_cheap 26 = .ok (.iconst 0, 1) := by decide +kernel
theorem dX6_cheap_27 : decode cX6_cheap 27 = .ok (.istore 4, 2) := by decide +kernel
theorem dX6_cheap_29 : decode cX6_cheap 29 = .ok (.iconst 0, 1) := by decide +kernel
theorem dX6_cheap_30 : decode cX6_cheap 30 = .ok (.istore 5, 2) := by decide +kernel
theorem dX6_cheap_32 : decode cX6_cheap 32 = .ok (.iload 5, 2) := by decide +kernel
theorem dX6_cheap_34 : decode cX6_cheap 34 = .ok (.aload_n 0, 1) := by decide +kernel
theorem dX6_cheap_35 : decode cX6_cheap 35 = .ok (.getfield 7, 3) := by decide +kernel
theorem dX6_cheap_38 : decode cX6_cheap 38 = .ok (.iconst 1, 1) := by decide +kernel
theorem dX6_cheap_39 : decode cX6_cheap 39 = .ok (.iaload, 1) := by decide +kernel
theorem dX6_cheap_40 : decode cX6_cheap 40 = .ok (.if_icmp .ge 118, 3) := by decide +kernel
theorem dX6_cheap_43 : decode cX6_cheap 43 = .ok (.iload_n 1, 1) := by decide +kernel
theorem dX6_cheap_44 : decode cX6_cheap 44 = .ok (.iload 5, 2) := by decide +kernel
theorem dX6_cheap_46 : decode cX6_cheap 46 = .ok (.invokestatic 162, 3) := by decide +kernel
theorem dX6_cheap_49 : decode cX6_cheap 49 = .ok (.ifCond .eq 41, 3) := by decide +kernel
theorem dX6_cheap_52 : decode cX6_cheap 52 = .ok (.aload_n 0, 1) := by decide +kernel
theorem dX6_cheap_53 : decode cX6_cheap 53 = .ok (.getfield 27, 3) := by decide +kernel
theorem dX6_cheap_56 : decode cX6_cheap 56 = .ok (.iload 5, 2) := by decide +kernel
theorem dX6_cheap_58 : decode cX6_cheap 58 = .ok (.iaload, 1) := by decide +kernel
theorem dX6_cheap_59 : decode cX6_cheap 59 = .ok (.iconst (-1), 1) := by decide +kernel
theorem dX6_cheap_60 : decode cX6_cheap 60 = .ok (.if_icmp .eq 26, 3) := by decide +kernel
theorem dX6_cheap_63 : decode cX6_cheap 63 = .ok (.aload_n 0, 1) := by decide +kernel
theorem dX6_cheap_64 : decode cX6_cheap 64 = .ok (.getfield 7, 3) := by decide +kernel
theorem dX6_cheap_67 : decode cX6_cheap 67 = .ok (.aload_n 0, 1) := by decide +kernel
theorem dX6_cheap_68 : decode cX6_cheap 68 = .ok (.getfield 27, 3) := by decide +kernel
theorem dX6_cheap_71 : decode cX6_cheap 71 = .ok (.iload 5, 2) := by decide +kernel
theorem dX6_cheap_73 : decode cX6_cheap 73 = .ok (.iaload, 1) := by decide +kernel
theorem dX6_cheap_74 : decode cX6_cheap 74 = .ok (.iload 5, 2) := by decide +kernel
theorem dX6_cheap_76 : decode cX6_cheap 76 = .ok (.invokestatic 114, 3) := by decide +kernel
theorem dX6_cheap_79 : decode cX6_cheap 79 = .ok (.ifCond .le 7, 3) := by decide +kernel
theorem dX6_cheap_82 : decode cX6_cheap 82 = .ok (.iconst 1, 1) := by decide +kernel
theorem dX6_cheap_83 : decode cX6_cheap 83 = .ok (.goto 23, 3) := by decide +kernel
theorem dX6_cheap_86 : decode cX6_cheap 86 = .ok (.iconst 0, 1) := by decide +kernel
theorem dX6_cheap_87 : decode cX6_cheap 87 = .ok (.goto 19, 3) := by decide +kernel
theorem dX6_cheap_90 : decode cX6_cheap 90 = .ok (.aload_n 0, 1) := by decide +kernel
theorem dX6_cheap_91 : decode cX6_cheap 91 = .ok (.getfield 27, 3) := by decide +kernel
theorem dX6_cheap_94 : decode cX6_cheap 94 = .ok (.iload 5, 2) := by decide +kernel
theorem dX6_cheap_96 : decode cX6_cheap 96 = .ok (.iaload, 1) := by decide +kernel
theorem dX6_cheap_97 : decode cX6_cheap 97 = .ok (.iconst (-1), 1) := by decide +kernel
theorem dX6_cheap_98 : decode cX6_cheap 98 = .ok (.if_icmp .ne 7, 3) := by decide +kernel
theorem dX6_cheap_101 : decode cX6_cheap 101 = .ok (.iconst 1, 1) := by decide +kernel
theorem dX6_cheap_102 : decode cX6_cheap 102 = .ok (.goto 4, 3) := by decide +kernel
theorem dX6_cheap_105 : decode cX6_cheap 105 = .ok (.iconst 0, 1) := by decide +kernel
theorem dX6_cheap_106 : decode cX6_cheap 106 = .ok (.istore 6, 2) := by decide +kernel
theorem dX6_cheap_108 : decode cX6_cheap 108 = .ok (.iload 4, 2) := by decide +kernel
theorem dX6_cheap_110 : decode cX6_cheap 110 = .ok (.iload 6, 2) := by decide +kernel
theorem dX6_cheap_112 : decode cX6_cheap 112 = .ok (.ifCond .ne 8, 3) := by decide +kernel
theorem dX6_cheap_115 : decode cX6_cheap 115 = .ok (.ldc 172, 2) := by decide +kernel
theorem dX6_cheap_117 : decode cX6_cheap 117 = .ok (.goto 32, 3) := by decide +kernel
theorem dX6_cheap_120 : decode cX6_cheap 120 = .ok (.aload_n 0, 1) := by decide +kernel
theorem dX6_cheap_121 : decode cX6_cheap 121 = .ok (.getfield 27, 3) := by decide +kernel
theorem dX6_cheap_124 : decode cX6_cheap 124 = .ok (.iload 5, 2) := by decide +kernel
theorem dX6_cheap_126 : decode cX6_cheap 126 = .ok (.iaload, 1) := by decide +kernel
theorem dX6_cheap_127 : decode cX6_cheap 127 = .ok (.iconst (-1), 1) := by decide +kernel
theorem dX6_cheap_128 : decode cX6_cheap 128 = .ok (.if_icmp .ne 7, 3) := by decide +kernel
theorem dX6_cheap_131 : decode cX6_cheap 131 = .ok (.iconst 0, 1) := by decide +kernel
theorem dX6_cheap_132 : decode cX6_cheap 132 = .ok (.goto 17, 3) := by decide +kernel
theorem dX6_cheap_135 : decode cX6_cheap 135 = .ok (.aload_n 0, 1) := by decide +kernel
theorem dX6_cheap_136 : decode cX6_cheap 136 = .ok (.getfield 7, 3) := by decide +kernel
theorem dX6_cheap_139 : decode cX6_cheap 139 = .ok (.aload_n 0, 1) := by decide +kernel
theorem dX6_cheap_140 : decode cX6_cheap 140 = .ok (.getfield 27, 3) := by decide +kernel
theorem dX6_cheap_143 : decode cX6_cheap 143 = .ok (.iload 5, 2) := by decide +kernel
theorem dX6_cheap_145 : decode cX6_cheap 145 = .ok (.iaload, 1) := by decide +kernel
theorem dX6_cheap_146 : decode cX6_cheap 146 = .ok (.invokestatic 111, 3) := by decide +kernel
theorem dX6_cheap_149 : decode cX6_cheap 149 = .ok (.iadd, 1) := by decide +kernel
theorem dX6_cheap_150 : decode cX6_cheap 150 = .ok (.istore 4, 2) := by decide +kernel
theorem dX6_cheap_152 : decode cX6_cheap 152 = .ok (.iinc 5 1, 3) := by decide +kernel
theorem dX6_cheap_155 : decode cX6_cheap 155 = .ok (.goto (-123), 3) := by decide +kernel
theorem dX6_cheap_158 : decode cX6_cheap 158 = .ok (.iload 4, 2) := by decide +kernel
theorem dX6_cheap_160 : decode cX6_cheap 160 = .ok (.iload_n 2, 1) := by decide +kernel
theorem dX6_cheap_161 : decode cX6_cheap 161 = .ok (.if_icmp .ge 8, 3) := by decide +kernel
theorem dX6_cheap_164 : decode cX6_cheap 164 = .ok (.iload 4, 2) := by decide +kernel
theorem dX6_cheap_166 : decode cX6_cheap 166 = .ok (.goto 4, 3) := by decide +kernel
theorem dX6_cheap_169 : decode cX6_cheap 169 = .ok (.iload_n 2, 1) := by decide +kernel
theorem dX6_cheap_170 : decode cX6_cheap 170 = .ok (.istore_n 2, 1) := by decide +kernel
theorem dX6_cheap_171 : decode cX6_cheap 171 = .ok (.iinc 3 1, 3) := by decide +kernel
theorem dX6_cheap_174 : decode cX6_cheap 174 = .ok (.goto (-164), 3) := by decide +kernel
theorem dX6_cheap_177 : decode cX6_cheap 177 = .ok (.iload_n 2, 1) := by decide +kernel
theorem dX6_cheap_178 : decode cX6_cheap 178 = .ok (.ldc 172, 2) := by decide +kernel
theorem dX6_cheap_180 : decode cX6_cheap 180 = .ok (.if_icmp .ne 7, 3) := by decide +kernel
theorem dX6_cheap_183 : decode cX6_cheap 183 = .ok (.iconst (-1), 1) := by decide +kernel
theorem dX6_cheap_184 : decode cX6_cheap 184 = .ok (.goto 4, 3) := by decide +kernel
theorem dX6_cheap_187 : decode cX6_cheap 187 = .ok (.iload_n 2, 1) := by decide +kernel
theorem dX6_cheap_188 : decode cX6_cheap 188 = .ok (.ireturn, 1) := by decide +kernel
theorem dX6_seen_0 : decode cX6_seen 0 = .ok (.iload_n 1, 1) := by decide +kernel
theorem dX6_seen_1 : decode cX6_seen 1 = .ok (.i2l, 1) := by decide +kernel
theorem dX6_seen_2 : decode cX6_seen 2 = .ok (.lconst 0, 1) := by decide +kernel
theorem dX6_seen_3 : decode cX6_seen 3 = .ok (.ldc2_w 102, 3) := by decide +kernel
theorem dX6_seen_6 : decode cX6_seen 6 = .ok (.invokestatic 56, 3) := by decide +kernel
theorem dX6_seen_9 : decode cX6_seen 9 = .ok (.ifCond .eq 15, 3) := by decide +kernel
theorem dX6_seen_12 : decode cX6_seen 12 = .ok (.iload_n 2, 1) := by decide +kernel
theorem dX6_seen_13 : decode cX6_seen 13 = .ok (.i2l, 1) := by decide +kernel
theorem dX6_seen_14 : decode cX6_seen 14 = .ok (.lconst 0, 1) := by decide +kernel
theorem dX6_seen_15 : decode cX6_seen 15 = .ok (.ldc2_w 157, 3) := by decide +kernel
theorem dX6_seen_18 : decode cX6_seen 18 = .ok (.invokestatic 56, 3) := by decide +kernel
theorem dX6_seen_21 : decode cX6_seen 21 = .ok (.ifCond .ne 10, 3) := by decide +kernel
theorem dX6_seen_24 : decode cX6_seen 24 = .ok (.aload_n 0, 1) := by decide +kernel
theorem dX6_seen_25 : decode cX6_seen 25 = .ok (.bipush (-2), 2) := by decide +kernel
theorem dX6_seen_27 : decode cX6_seen 27 = .ok (.invokevirtual 71, 3) := by decide +kernel
theorem dX6_seen_30 : decode cX6_seen 30 = .ok (.ireturn, 1) := by decide +kernel
theorem dX6_seen_31 : decode cX6_seen 31 = .ok (.aload_n 0, 1) := by decide +kernel
theorem dX6_seen_32 : decode cX6_seen 32 = .ok (.getfield 7, 3) := by decide +kernel
theorem dX6_seen_35 : decode cX6_seen 35 = .ok (.iconst 3, 1) := by decide +kernel
theorem dX6_seen_36 : decode cX6_seen 36 = .ok (.iaload, 1) := by decide +kernel
theorem dX6_seen_37 : decode cX6_seen 37 = .ok (.iconst 5, 1) := by decide +kernel
theorem dX6_seen_38 : decode cX6_seen 38 = .ok (.if_icmp .ne 8, 3) := by decide +kernel
theorem dX6_seen_41 : decode cX6_seen 41 = .ok (.aload_n 0, 1) := by decide +kernel
theorem dX6_seen_42 : decode cX6_seen 42 = .ok (.invokevirtual 75, 3) := by decide +kernel
theorem dX6_seen_45 : decode cX6_seen 45 = .ok (.ireturn, 1) := by decide +kernel
theorem dX6_seen_46 : decode cX6_seen 46 = .ok (.aload_n 0, 1) := by decide +kernel
theorem dX6_seen_47 : decode cX6_seen 47 = .ok (.getfield 7, 3) := by decide +kernel
theorem dX6_seen_50 : decode cX6_seen 50 = .ok (.bipush 48, 2) := by decide +kernel
theorem dX6_seen_52 : decode cX6_seen 52 = .ok (.iconst 2, 1) := by decide +kernel
theorem dX6_seen_53 : decode cX6_seen 53 = .ok (.aload_n 0, 1) := by decide +kernel
theorem dX6_seen_54 : decode cX6_seen 54 = .ok (.getfield 7, 3) := by decide +kernel
theorem dX6_seen_57 : decode cX6_seen 57 = .ok (.iconst 3, 1) := by decide +kernel
theorem dX6_seen_58 : decode cX6_seen 58 = .ok (.iaload, 1) := by decide +kernel
theorem dX6_seen_59 : decode cX6_seen 59 = .ok (.imul, 1) := by decide +kernel
theorem dX6_seen_60 : decode cX6_seen 60 = .ok (.iadd, 1) := by decide +kernel
theorem dX6_seen_61 : decode cX6_seen 61 = .ok (.iload_n 1, 1) := by decide +kernel
theorem dX6_seen_62 : decode cX6_seen 62 = .ok (.iastore, 1) := by decide +kernel
theorem dX6_seen_63 : decode cX6_seen 63 = .ok (.aload_n 0, 1) := by decide +kernel
theorem dX6_seen_64 : decode cX6_seen 64 = .ok (.getfield 7, 3) := by decide +kernel
theorem dX6_seen_67 : decode cX6_seen 67 = .ok (.bipush 48, 2) := by decide +kernel
theorem dX6_seen_69 : decode cX6_seen 69 = .ok (.iconst 2, 1) := by decide +kernel
theorem dX6_seen_70 : decode cX6_seen 70 = .ok (.aload_n 0, 1) := by decide +kernel
theorem dX6_seen_71 : decode cX6_seen 71 = .ok (.getfield 7, 3) := by decide +kernel
theorem dX6_seen_74 : decode cX6_seen 74 = .ok (.iconst 3, 1) := by decide +kernel
theorem dX6_seen_75 : decode cX6_seen 75 = .ok (.iaload, 1) := by decide +kernel
theorem dX6_seen_76 : decode cX6_seen 76 = .ok (.imul, 1) := by decide +kernel
theorem dX6_seen_77 : decode cX6_seen 77 = .ok (.iadd, 1) := by decide +kernel
theorem dX6_seen_78 : decode cX6_seen 78 = .ok (.iconst 1, 1) := by decide +kernel
theorem dX6_seen_79 : decode cX6_seen 79 = .ok (.iadd, 1) := by decide +kernel
theorem dX6_seen_80 : decode cX6_seen 80 = .ok (.iload_n 2, 1) := by decide +kernel
theorem dX6_seen_81 : decode cX6_seen 81 = .ok (.iastore, 1) := by decide +kernel
theorem dX6_seen_82 : decode cX6_seen 82 = .ok (.aload_n 0, 1) := by decide +kernel
theorem dX6_seen_83 : decode cX6_seen 83 = .ok (.getfield 7, 3) := by decide +kernel
theorem dX6_seen_86 : decode cX6_seen 86 = .ok (.iconst 3, 1) := by decide +kernel
theorem dX6_seen_87 : decode cX6_seen 87 = .ok (.dup2, 1) := by decide +kernel
theorem dX6_seen_88 : decode cX6_seen 88 = .ok (.iaload, 1) := by decide +kernel
theorem dX6_seen_89 : decode cX6_seen 89 = .ok (.iconst 1, 1) := by decide +kernel
theorem dX6_seen_90 : decode cX6_seen 90 = .ok (.iadd, 1) := by decide +kernel
theorem dX6_seen_91 : decode cX6_seen 91 = .ok (.iastore, 1) := by decide +kernel
theorem dX6_seen_92 : decode cX6_seen 92 = .ok (.aload_n 0, 1) := by decide +kernel
theorem dX6_seen_93 : decode cX6_seen 93 = .ok (.getfield 7, 3) := by decide +kernel
theorem dX6_seen_96 : decode cX6_seen 96 = .ok (.iconst 3, 1) := by decide +kernel
theorem dX6_seen_97 : decode cX6_seen 97 = .ok (.iaload, 1) := by decide +kernel
theorem dX6_seen_98 : decode cX6_seen 98 = .ok (.ireturn, 1) := by decide +kernel
theorem dX6_seenOnes_0 : decode cX6_seenOnes 0 = .ok (.iconst 0, 1) := by decide +kernel
theorem dX6_seenOnes_1 : decode cX6_seenOnes 1 = .ok (.istore_n 1, 1) := by decide +kernel
theorem dX6_seenOnes_2 : decode cX6_seenOnes 2 = .ok (.iconst 0, 1) := by decide +kernel
theorem dX6_seenOnes_3 : decode cX6_seenOnes 3 = .ok (.istore_n 2, 1) := by decide +kernel
theorem dX6_seenOnes_4 : decode cX6_seenOnes 4 = .ok (.iload_n 2, 1) := by decide +kernel
theorem dX6_seenOnes_5 : decode cX6_seenOnes 5 = .ok (.aload_n 0, 1) := by decide +kernel
theorem dX6_seenOnes_6 : decode cX6_seenOnes 6 = .ok (.invokevirtual 52, 3) := by decide +kernel
theorem dX6_seenOnes_9 : decode cX6_seenOnes 9 = .ok (.if_icmp .ge 105, 3) := by decide +kernel
theorem dX6_seenOnes_12 : decode cX6_seenOnes 12 = .ok (.iconst 1, 1) := by decide +kernel
theorem dX6_seenOnes_13 : decode cX6_seenOnes 13 = .ok (.istore_n 3, 1) := by decide +kernel
theorem dX6_seenOnes_14 : decode cX6_seenOnes 14 = .ok (.iconst 0, 1) := by decide +kernel
theorem dX6_seenOnes_15 : decode cX6_seenOnes 15 = .ok (.istore 4, 2) := by decide +kernel
theorem dX6_seenOnes_17 : decode cX6_seenOnes 17 = .ok (.iload 4, 2) := by decide +kernel
theorem dX6_seenOnes_19 : decode cX6_seenOnes 19 = .ok (.aload_n 0, 1) := by decide +kernel
theorem dX6_seenOnes_20 : decode cX6_seenOnes 20 = .ok (.getfield 7, 3) := by decide +kernel
theorem dX6_seenOnes_23 : decode cX6_seenOnes 23 = .ok (.iconst 3, 1) := by decide +kernel
theorem dX6_seenOnes_24 : decode cX6_seenOnes 24 = .ok (.iaload, 1) := by decide +kernel
theorem dX6_seenOnes_25 : decode cX6_seenOnes 25 = .ok (.if_icmp .ge 69, 3) := by decide +kernel
theorem dX6_seenOnes_28 : decode cX6_seenOnes 28 = .ok (.iload_n 3, 1) := by decide +kernel
theorem dX6_seenOnes_29 : decode cX6_seenOnes 29 = .ok (.ifCond .eq 57, 3) := by decide +kernel
theorem dX6_seenOnes_32 : decode cX6_seenOnes 32 = .ok (.aload_n 0, 1) := by decide +kernel
theorem dX6_seenOnes_33 : decode cX6_seenOnes 33 = .ok (.getfield 7, 3) := by decide +kernel
theorem dX6_seenOnes_36 : decode cX6_seenOnes 36 = .ok (.bipush 26, 2) := by decide +kernel
theorem dX6_seenOnes_38 : decode cX6_seenOnes 38 = .ok (.iload_n 2, 1) := by decide +kernel
theorem dX6_seenOnes_39 : decode cX6_seenOnes 39 = .ok (.iadd, 1) := by decide +kernel
theorem dX6_seenOnes_40 : decode cX6_seenOnes 40 = .ok (.iaload, 1) := by decide +kernel
theorem dX6_seenOnes_41 : decode cX6_seenOnes 41 = .ok (.aload_n 0, 1) := by decide +kernel
theorem dX6_seenOnes_42 : decode cX6_seenOnes 42 = .ok (.getfield 7, 3) := by decide +kernel
theorem dX6_seenOnes_45 : decode cX6_seenOnes 45 = .ok (.bipush 33, 2) := by decide +kernel
theorem dX6_seenOnes_47 : decode cX6_seenOnes 47 = .ok (.iload_n 2, 1) := by decide +kernel
theorem dX6_seenOnes_48 : decode cX6_seenOnes 48 = .ok (.iadd, 1) := by decide +kernel
theorem dX6_seenOnes_49 : decode cX6_seenOnes 49 = .ok (.iaload, 1) := by decide +kernel
theorem dX6_seenOnes_50 : decode cX6_seenOnes 50 = .ok (.aload_n 0, 1) := by decide +kernel
theorem dX6_seenOnes_51 : decode cX6_seenOnes 51 = .ok (.getfield 7, 3) := by decide +kernel
theorem dX6_seenOnes_54 : decode cX6_seenOnes 54 = .ok (.bipush 48, 2) := by decide +kernel
theorem dX6_seenOnes_56 : decode cX6_seenOnes 56 = .ok (.iconst 2, 1) := by decide +kernel
theorem dX6_seenOnes_57 : decode cX6_seenOnes 57 = .ok (.iload 4, 2) := by decide +kernel
theorem dX6_seenOnes_59 : decode cX6_seenOnes 59 = .ok (.imul, 1) := by decide +kernel
theorem dX6_seenOnes_60 : decode cX6_seenOnes 60 = .ok (.iadd, 1) := by decide +kernel
theorem dX6_seenOnes_61 : decode cX6_seenOnes 61 = .ok (.iaload, 1) := by decide +kernel
theorem dX6_seenOnes_62 : decode cX6_seenOnes 62 = .ok (.invokestatic 84, 3) := by decide +kernel
theorem dX6_seenOnes_65 : decode cX6_seenOnes 65 = .ok (.aload_n 0, 1) := by decide +kernel
theorem dX6_seenOnes_66 : decode cX6_seenOnes 66 = .ok (.getfield 7, 3) := by decide +kernel
theorem dX6_seenOnes_69 : decode cX6_seenOnes 69 = .ok (.bipush 48, 2) := by decide +kernel
theorem dX6_seenOnes_71 : decode cX6_seenOnes 71 = .ok (.iconst 2, 1) := by decide +kernel
theorem dX6_seenOnes_72 : decode cX6_seenOnes 72 = .ok (.iload 4, 2) := by decide +kernel
theorem dX6_seenOnes_74 : decode cX6_seenOnes 74 = .ok (.imul, 1) := by decide +kernel
theorem dX6_seenOnes_75 : decode cX6_seenOnes 75 = .ok (.iadd, 1) := by decide +kernel
theorem dX6_seenOnes_76 : decode cX6_seenOnes 76 = .ok (.iconst 1, 1) := by decide +kernel
theorem dX6_seenOnes_77 : decode cX6_seenOnes 77 = .ok (.iadd, 1) := by decide +kernel
theorem dX6_seenOnes_78 : decode cX6_seenOnes 78 = .ok (.iaload, 1) := by decide +kernel
theorem dX6_seenOnes_79 : decode cX6_seenOnes 79 = .ok (.if_icmp .ne 7, 3) := by decide +kernel
theorem dX6_seenOnes_82 : decode cX6_seenOnes 82 = .ok (.iconst 1, 1) := by decide +kernel
theorem dX6_seenOnes_83 : decode cX6_seenOnes 83 = .ok (.goto 4, 3) := by decide +kernel
theorem dX6_seenOnes_86 : decode cX6_seenOnes 86 = .ok (.iconst 0, 1) := by decide +kernel
theorem dX6_seenOnes_87 : decode cX6_seenOnes 87 = .ok (.istore_n 3, 1) := by decide +kernel
theorem dX6_seenOnes_88 : decode cX6_seenOnes 88 = .ok (.iinc 4 1, 3) := by decide +kernel
theorem dX6_seenOnes_91 : decode cX6_seenOnes 91 = .ok (.goto (-74), 3) := by decide +kernel
theorem dX6_seenOnes_94 : decode cX6_seenOnes 94 = .ok (.iload_n 1, 1) := by decide +kernel
theorem dX6_seenOnes_95 : decode cX6_seenOnes 95 = .ok (.iload_n 3, 1) := by decide +kernel
theorem dX6_seenOnes_96 : decode cX6_seenOnes 96 = .ok (.ifCond .eq 9, 3) := by decide +kernel
theorem dX6_seenOnes_99 : decode cX6_seenOnes 99 = .ok (.iconst 1, 1) := by decide +kernel
theorem dX6_seenOnes_100 : decode cX6_seenOnes 100 = .ok (.iload_n 2, 1) := by decide +kernel
theorem dX6_seenOnes_101 : decode cX6_seenOnes 101 = .ok (.ishl, 1) := by decide +kernel
theorem dX6_seenOnes_102 : decode cX6_seenOnes 102 = .ok (.goto 4, 3) := by decide +kernel
theorem dX6_seenOnes_105 : decode cX6_seenOnes 105 = .ok (.iconst 0, 1) := by decide +kernel
theorem dX6_seenOnes_106 : decode cX6_seenOnes 106 = .ok (.ior, 1) := by decide +kernel
theorem dX6_seenOnes_107 : decode cX6_seenOnes 107 = .ok (.istore_n 1, 1) := by decide +kernel
theorem dX6_seenOnes_108 : decode cX6_seenOnes 108 = .ok (.iinc 2 1, 3) := by decide +kernel
theorem dX6_seenOnes_111 : decode cX6_seenOnes 111 = .ok (.goto (-107), 3) := by decide +kernel
theorem dX6_seenOnes_114 : decode cX6_seenOnes 114 = .ok (.iload_n 1, 1) := by decide +kernel
theorem dX6_seenOnes_115 : decode cX6_seenOnes 115 = .ok (.ireturn, 1) := by decide +kernel
theorem dX6_which_0 : decode cX6_which 0 = .ok (.aload_n 0, 1) := by decide +kernel
theorem dX6_which_1 : decode cX6_which 1 = .ok (.invokevirtual 173, 3) := by decide +kernel
theorem dX6_which_4 : decode cX6_which 4 = .ok (.ireturn, 1) := by decide +kernel
theorem dX6_mostAlike_0 : decode cX6_mostAlike 0 = .ok (.iconst 0, 1) := by decide +kernel
theorem dX6_mostAlike_1 : decode cX6_mostAlike 1 = .ok (.istore_n 2, 1) := by decide +kernel
theorem dX6_mostAlike_2 : decode cX6_mostAlike 2 = .ok (.iconst 0, 1) := by decide +kernel
theorem dX6_mostAlike_3 : decode cX6_mostAlike 3 = .ok (.istore_n 3, 1) := by decide +kernel
theorem dX6_mostAlike_4 : decode cX6_mostAlike 4 = .ok (.iload_n 3, 1) := by decide +kernel
theorem dX6_mostAlike_5 : decode cX6_mostAlike 5 = .ok (.bipush 7, 2) := by decide +kernel
theorem dX6_mostAlike_7 : decode cX6_mostAlike 7 = .ok (.if_icmp .ge 84, 3) := by decide +kernel
theorem dX6_mostAlike_10 : decode cX6_mostAlike 10 = .ok (.iconst 0, 1) := by decide +kernel
theorem dX6_mostAlike_11 : decode cX6_mostAlike 11 = .ok (.istore 4, 2) := by decide +kernel
theorem dX6_mostAlike_13 : decode cX6_mostAlike 13 = .ok (.iconst 0, 1) := by decide +kernel
theorem dX6_mostAlike_14 : decode cX6_mostAlike 14 = .ok (.istore 5, 2) := by decide +kernel
theorem dX6_mostAlike_16 : decode cX6_mostAlike 16 = .ok (.iload 5, 2) := by decide +kernel
theorem dX6_mostAlike_18 : decode cX6_mostAlike 18 = .ok (.bipush 7, 2) := by decide +kernel
theorem dX6_mostAlike_20 : decode cX6_mostAlike 20 = .ok (.if_icmp .ge 52, 3) := by decide +kernel
theorem dX6_mostAlike_23 : decode cX6_mostAlike 23 = .ok (.iload_n 1, 1) := by decide +kernel
theorem dX6_mostAlike_24 : decode cX6_mostAlike 24 = .ok (.iload_n 3, 1) := by decide +kernel
theorem dX6_mostAlike_25 : decode cX6_mostAlike 25 = .ok (.invokestatic 162, 3) := by decide +kernel
theorem dX6_mostAlike_28 : decode cX6_mostAlike 28 = .ok (.ifCond .eq 44, 3) := by decide +kernel
theorem dX6_mostAlike_31 : decode cX6_mostAlike 31 = .ok (.iload 4, 2) := by decide +kernel
theorem dX6_mostAlike_33 : decode cX6_mostAlike 33 = .ok (.iload_n 1, 1) := by decide +kernel
theorem dX6_mostAlike_34 : decode cX6_mostAlike 34 = .ok (.iload 5, 2) := by decide +kernel
theorem dX6_mostAlike_36 : decode cX6_mostAlike 36 = .ok (.invokestatic 162, 3) := by decide +kernel
theorem dX6_mostAlike_39 : decode cX6_mostAlike 39 = .ok (.ifCond .eq 23, 3) := by decide +kernel
theorem dX6_mostAlike_42 : decode cX6_mostAlike 42 = .ok (.aload_n 0, 1) := by decide +kernel
theorem dX6_mostAlike_43 : decode cX6_mostAlike 43 = .ok (.getfield 33, 3) := by decide +kernel
theorem dX6_mostAlike_46 : decode cX6_mostAlike 46 = .ok (.iload_n 3, 1) := by decide +kernel
theorem dX6_mostAlike_47 : decode cX6_mostAlike 47 = .ok (.iaload, 1) := by decide +kernel
theorem dX6_mostAlike_48 : decode cX6_mostAlike 48 = .ok (.aload_n 0, 1) := by decide +kernel
theorem dX6_mostAlike_49 : decode cX6_mostAlike 49 = .ok (.getfield 33, 3) := by decide +kernel
theorem dX6_mostAlike_52 : decode cX6_mostAlike 52 = .ok (.iload 5, 2) := by decide +kernel
theorem dX6_mostAlike_54 : decode cX6_mostAlike 54 = .ok (.iaload, 1) := by decide +kernel
theorem dX6_mostAlike_55 : decode cX6_mostAlike 55 = .ok (.if_icmp .ne 7, 3) := by decide +kernel
theorem dX6_mostAlike_58 : decode cX6_mostAlike 58 = .ok (.iconst 1, 1) := by decide +kernel
theorem dX6_mostAlike_59 : decode cX6_mostAlike 59 = .ok (.goto 4, 3) := by decide +kernel
theorem dX6_mostAlike_62 : decode cX6_mostAlike 62 = .ok (.iconst 0, 1) := by decide +kernel
theorem dX6_mostAlike_63 : decode cX6_mostAlike 63 = .ok (.iadd, 1) := by decide +kernel
theorem dX6_mostAlike_64 : decode cX6_mostAlike 64 = .ok (.istore 4, 2) := by decide +kernel
theorem dX6_mostAlike_66 : decode cX6_mostAlike 66 = .ok (.iinc 5 1, 3) := by decide +kernel
theorem dX6_mostAlike_69 : decode cX6_mostAlike 69 = .ok (.goto (-53), 3) := by decide +kernel
theorem dX6_mostAlike_72 : decode cX6_mostAlike 72 = .ok (.iload 4, 2) := by decide +kernel
theorem dX6_mostAlike_74 : decode cX6_mostAlike 74 = .ok (.iload_n 2, 1) := by decide +kernel
theorem dX6_mostAlike_75 : decode cX6_mostAlike 75 = .ok (.if_icmp .le 8, 3) := by decide +kernel
theorem dX6_mostAlike_78 : decode cX6_mostAlike 78 = .ok (.iload 4, 2) := by decide +kernel
theorem dX6_mostAlike_80 : decode cX6_mostAlike 80 = .ok (.goto 4, 3) := by decide +kernel
theorem dX6_mostAlike_83 : decode cX6_mostAlike 83 = .ok (.iload_n 2, 1) := by decide +kernel
theorem dX6_mostAlike_84 : decode cX6_mostAlike 84 = .ok (.istore_n 2, 1) := by decide +kernel
theorem dX6_mostAlike_85 : decode cX6_mostAlike 85 = .ok (.iinc 3 1, 3) := by decide +kernel
theorem dX6_mostAlike_88 : decode cX6_mostAlike 88 = .ok (.goto (-84), 3) := by decide +kernel
theorem dX6_mostAlike_91 : decode cX6_mostAlike 91 = .ok (.iload_n 2, 1) := by decide +kernel
theorem dX6_mostAlike_92 : decode cX6_mostAlike 92 = .ok (.ireturn, 1) := by decide +kernel
theorem dX6_tell_0 : decode cX6_tell 0 = .ok (.aload_n 0, 1) := by decide +kernel
theorem dX6_tell_1 : decode cX6_tell 1 = .ok (.invokevirtual 173, 3) := by decide +kernel
theorem dX6_tell_4 : decode cX6_tell 4 = .ok (.istore_n 1, 1) := by decide +kernel
theorem dX6_tell_5 : decode cX6_tell 5 = .ok (.iconst (-1), 1) := by decide +kernel
theorem dX6_tell_6 : decode cX6_tell 6 = .ok (.istore_n 2, 1) := by decide +kernel
theorem dX6_tell_7 : decode cX6_tell 7 = .ok (.ldc 172, 2) := by decide +kernel
theorem dX6_tell_9 : decode cX6_tell 9 = .ok (.istore_n 3, 1) := by decide +kernel
theorem dX6_tell_10 : decode cX6_tell 10 = .ok (.iconst 0, 1) := by decide +kernel
theorem dX6_tell_11 : decode cX6_tell 11 = .ok (.istore 4, 2) := by decide +kernel
theorem dX6_tell_13 : decode cX6_tell 13 = .ok (.iload 4, 2) := by decide +kernel
theorem dX6_tell_15 : decode cX6_tell 15 = .ok (.bipush 30, 2) := by decide +kernel
theorem dX6_tell_17 : decode cX6_tell 17 = .ok (.if_icmp .gt 96, 3) := by decide +kernel
theorem dX6_tell_20 : decode cX6_tell 20 = .ok (.iload_n 1, 1) := by decide +kernel
theorem dX6_tell_21 : decode cX6_tell 21 = .ok (.ifCond .eq 92, 3) := by decide +kernel
theorem dX6_tell_24 : decode cX6_tell 24 = .ok (.iconst 0, 1) := by decide +kernel
theorem dX6_tell_25 : decode cX6_tell 25 = .ok (.istore 5, 2) := by decide +kernel
theorem dX6_tell_27 : decode cX6_tell 27 = .ok (.iload 5, 2) := by decide +kernel
theorem dX6_tell_29 : decode cX6_tell 29 = .ok (.aload_n 0, 1) := by decide +kernel
theorem dX6_tell_30 : decode cX6_tell 30 = .ok (.invokevirtual 52, 3) := by decide +kernel
theorem dX6_tell_33 : decode cX6_tell 33 = .ok (.if_icmp .ge 41, 3) := by decide +kernel
theorem dX6_tell_36 : decode cX6_tell 36 = .ok (.aload_n 0, 1) := by decide +kernel
theorem dX6_tell_37 : decode cX6_tell 37 = .ok (.getfield 33, 3) := by decide +kernel
theorem dX6_tell_40 : decode cX6_tell 40 = .ok (.iload 5, 2) := by decide +kernel
theorem dX6_tell_42 : decode cX6_tell 42 = .ok (.aload_n 0, 1) := by decide +kernel
theorem dX6_tell_43 : decode cX6_tell 43 = .ok (.getfield 7, 3) := by decide +kernel
theorem dX6_tell_46 : decode cX6_tell 46 = .ok (.bipush 26, 2) := by decide +kernel
theorem dX6_tell_48 : decode cX6_tell 48 = .ok (.iload 5, 2) := by decide +kernel
theorem dX6_tell_50 : decode cX6_tell 50 = .ok (.iadd, 1) := by decide +kernel
theorem dX6_tell_51 : decode cX6_tell 51 = .ok (.iaload, 1) := by decide +kernel
theorem dX6_tell_52 : decode cX6_tell 52 = .ok (.aload_n 0, 1) := by decide +kernel
theorem dX6_tell_53 : decode cX6_tell 53 = .ok (.getfield 7, 3) := by decide +kernel
theorem dX6_tell_56 : decode cX6_tell 56 = .ok (.bipush 33, 2) := by decide +kernel
theorem dX6_tell_58 : decode cX6_tell 58 = .ok (.iload 5, 2) := by decide +kernel
theorem dX6_tell_60 : decode cX6_tell 60 = .ok (.iadd, 1) := by decide +kernel
theorem dX6_tell_61 : decode cX6_tell 61 = .ok (.iaload, 1) := by decide +kernel
theorem dX6_tell_62 : decode cX6_tell 62 = .ok (.iload 4, 2) := by decide +kernel
theorem dX6_tell_64 : decode cX6_tell 64 = .ok (.invokestatic 84, 3) := by decide +kernel
theorem dX6_tell_67 : decode cX6_tell 67 = .ok (.iastore, 1) := by decide +kernel
theorem dX6_tell_68 : decode cX6_tell 68 = .ok (.iinc 5 1, 3) := by decide +kernel
theorem dX6_tell_71 : decode cX6_tell 71 = .ok (.goto (-44), 3) := by decide +kernel
theorem dX6_tell_74 : decode cX6_tell 74 = .ok (.aload_n 0, 1) := by decide +kernel
theorem dX6_tell_75 : decode cX6_tell 75 = .ok (.iload_n 1, 1) := by decide +kernel
theorem dX6_tell_76 : decode cX6_tell 76 = .ok (.invokevirtual 176, 3) := by decide +kernel
theorem dX6_tell_79 : decode cX6_tell 79 = .ok (.istore 5, 2) := by decide +kernel
theorem dX6_tell_81 : decode cX6_tell 81 = .ok (.iload 5, 2) := by decide +kernel
theorem dX6_tell_83 : decode cX6_tell 83 = .ok (.iload_n 3, 1) := by decide +kernel
theorem dX6_tell_84 : decode cX6_tell 84 = .ok (.if_icmp .ge 8, 3) := by decide +kernel
theorem dX6_tell_87 : decode cX6_tell 87 = .ok (.iload 4, 2) := by decide +kernel
theorem dX6_tell_89 : decode cX6_tell 89 = .ok (.goto 4, 3) := by decide +kernel
theorem dX6_tell_92 : decode cX6_tell 92 = .ok (.iload_n 2, 1) := by decide +kernel
theorem dX6_tell_93 : decode cX6_tell 93 = .ok (.istore_n 2, 1) := by decide +kernel
theorem dX6_tell_94 : decode cX6_tell 94 = .ok (.iload 5, 2) := by decide +kernel
theorem dX6_tell_96 : decode cX6_tell 96 = .ok (.iload_n 3, 1) := by decide +kernel
theorem dX6_tell_97 : decode cX6_tell 97 = .ok (.if_icmp .ge 8, 3) := by decide +kernel
theorem dX6_tell_100 : decode cX6_tell 100 = .ok (.iload 5, 2) := by decide +kernel
theorem dX6_tell_102 : decode cX6_tell 102 = .ok (.goto 4, 3) := by decide +kernel
theorem dX6_tell_105 : decode cX6_tell 105 = .ok (.iload_n 3, 1) := by decide +kernel
theorem dX6_tell_106 : decode cX6_tell 106 = .ok (.istore_n 3, 1) := by decide +kernel
theorem dX6_tell_107 : decode cX6_tell 107 = .ok (.iinc 4 1, 3) := by decide +kernel
theorem dX6_tell_110 : decode cX6_tell 110 = .ok (.goto (-97), 3) := by decide +kernel
theorem dX6_tell_113 : decode cX6_tell 113 = .ok (.iload_n 2, 1) := by decide +kernel
theorem dX6_tell_114 : decode cX6_tell 114 = .ok (.ireturn, 1) := by decide +kernel
theorem dX6_layFour_0 : decode cX6_layFour 0 = .ok (.aload_n 0, 1) := by decide +kernel
theorem dX6_layFour_1 : decode cX6_layFour 1 = .ok (.getfield 7, 3) := by decide +kernel
theorem dX6_layFour_4 : decode cX6_layFour 4 = .ok (.iload_n 1, 1) := by decide +kernel
theorem dX6_layFour_5 : decode cX6_layFour 5 = .ok (.iload_n 2, 1) := by decide +kernel
theorem dX6_layFour_6 : decode cX6_layFour 6 = .ok (.iastore, 1) := by decide +kernel
theorem dX6_layFour_7 : decode cX6_layFour 7 = .ok (.aload_n 0, 1) := by decide +kernel
theorem dX6_layFour_8 : decode cX6_layFour 8 = .ok (.getfield 7, 3) := by decide +kernel
theorem dX6_layFour_11 : decode cX6_layFour 11 = .ok (.iload_n 1, 1) := by decide +kernel
theorem dX6_layFour_12 : decode cX6_layFour 12 = .ok (.iconst 1, 1) := by decide +kernel
theorem dX6_layFour_13 : decode cX6_layFour 13 = .ok (.iadd, 1) := by decide +kernel
theorem dX6_layFour_14 : decode cX6_layFour 14 = .ok (.iload_n 3, 1) := by decide +kernel
theorem dX6_layFour_15 : decode cX6_layFour 15 = .ok (.iastore, 1) := by decide +kernel
theorem dX6_layFour_16 : decode cX6_layFour 16 = .ok (.aload_n 0, 1) := by decide +kernel
theorem dX6_layFour_17 : decode cX6_layFour 17 = .ok (.getfield 7, 3) := by decide +kernel
theorem dX6_layFour_20 : decode cX6_layFour 20 = .ok (.iload_n 1, 1) := by decide +kernel
theorem dX6_layFour_21 : decode cX6_layFour 21 = .ok (.iconst 2, 1) := by decide +kernel
theorem dX6_layFour_22 : decode cX6_layFour 22 = .ok (.iadd, 1) := by decide +kernel
theorem dX6_layFour_23 : decode cX6_layFour 23 = .ok (.iload 4, 2) := by decide +kernel
theorem dX6_layFour_25 : decode cX6_layFour 25 = .ok (.iastore, 1) := by decide +kernel
theorem dX6_layFour_26 : decode cX6_layFour 26 = .ok (.aload_n 0, 1) := by decide +kernel
theorem dX6_layFour_27 : decode cX6_layFour 27 = .ok (.getfield 7, 3) := by decide +kernel
theorem dX6_layFour_30 : decode cX6_layFour 30 = .ok (.iload_n 1, 1) := by decide +kernel
theorem dX6_layFour_31 : decode cX6_layFour 31 = .ok (.iconst 3, 1) := by decide +kernel
theorem dX6_layFour_32 : decode cX6_layFour 32 = .ok (.iadd, 1) := by decide +kernel
theorem dX6_layFour_33 : decode cX6_layFour 33 = .ok (.iload 5, 2) := by decide +kernel
theorem dX6_layFour_35 : decode cX6_layFour 35 = .ok (.iastore, 1) := by decide +kernel
theorem dX6_layFour_36 : decode cX6_layFour 36 = .ok (.return_, 1) := by decide +kernel
theorem dX6_note_0 : decode cX6_note 0 = .ok (.aload_n 0, 1) := by decide +kernel
theorem dX6_note_1 : decode cX6_note 1 = .ok (.iload_n 1, 1) := by decide +kernel
theorem dX6_note_2 : decode cX6_note 2 = .ok (.invokevirtual 121, 3) := by decide +kernel
theorem dX6_note_5 : decode cX6_note 5 = .ok (.ifCond .eq 35, 3) := by decide +kernel
theorem dX6_note_8 : decode cX6_note 8 = .ok (.iload_n 2, 1) := by decide +kernel
theorem dX6_note_9 : decode cX6_note 9 = .ok (.invokestatic 68, 3) := by decide +kernel
theorem dX6_note_12 : decode cX6_note 12 = .ok (.ifCond .eq 28, 3) := by decide +kernel
theorem dX6_note_15 : decode cX6_note 15 = .ok (.iload_n 3, 1) := by decide +kernel
theorem dX6_note_16 : decode cX6_note 16 = .ok (.i2l, 1) := by decide +kernel
theorem dX6_note_17 : decode cX6_note 17 = .ok (.lconst 0, 1) := by decide +kernel
theorem dX6_note_18 : decode cX6_note 18 = .ok (.ldc2_w 102, 3) := by decide +kernel
theorem dX6_note_21 : decode cX6_note 21 = .ok (.invokestatic 56, 3) := by decide +kernel
theorem dX6_note_24 : decode cX6_note 24 = .ok (.ifCond .eq 16, 3) := by decide +kernel
theorem dX6_note_27 : decode cX6_note 27 = .ok (.iload 4, 2) := by decide +kernel
theorem dX6_note_29 : decode cX6_note 29 = .ok (.i2l, 1) := by decide +kernel
theorem dX6_note_30 : decode cX6_note 30 = .ok (.lconst 0, 1) := by decide +kernel
theorem dX6_note_31 : decode cX6_note 31 = .ok (.ldc2_w 157, 3) := by decide +kernel
theorem dX6_note_34 : decode cX6_note 34 = .ok (.invokestatic 56, 3) := by decide +kernel
theorem dX6_note_37 : decode cX6_note 37 = .ok (.ifCond .ne 10, 3) := by decide +kernel
theorem dX6_note_40 : decode cX6_note 40 = .ok (.aload_n 0, 1) := by decide +kernel
theorem dX6_note_41 : decode cX6_note 41 = .ok (.bipush (-2), 2) := by decide +kernel
theorem dX6_note_43 : decode cX6_note 43 = .ok (.invokevirtual 71, 3) := by decide +kernel
theorem dX6_note_46 : decode cX6_note 46 = .ok (.ireturn, 1) := by decide +kernel
theorem dX6_note_47 : decode cX6_note 47 = .ok (.aload_n 0, 1) := by decide +kernel
theorem dX6_note_48 : decode cX6_note 48 = .ok (.getfield 7, 3) := by decide +kernel
theorem dX6_note_51 : decode cX6_note 51 = .ok (.iconst 4, 1) := by decide +kernel
theorem dX6_note_52 : decode cX6_note 52 = .ok (.iaload, 1) := by decide +kernel
theorem dX6_note_53 : decode cX6_note 53 = .ok (.bipush 6, 2) := by decide +kernel
theorem dX6_note_55 : decode cX6_note 55 = .ok (.if_icmp .ne 8, 3) := by decide +kernel
theorem dX6_note_58 : decode cX6_note 58 = .ok (.aload_n 0, 1) := by decide +kernel
theorem dX6_note_59 : decode cX6_note 59 = .ok (.invokevirtual 75, 3) := by decide +kernel
theorem dX6_note_62 : decode cX6_note 62 = .ok (.ireturn, 1) := by decide +kernel
theorem dX6_note_63 : decode cX6_note 63 = .ok (.aload_n 0, 1) := by decide +kernel
theorem dX6_note_64 : decode cX6_note 64 = .ok (.bipush 58, 2) := by decide +kernel
theorem dX6_note_66 : decode cX6_note 66 = .ok (.iconst 4, 1) := by decide +kernel
theorem dX6_note_67 : decode cX6_note 67 = .ok (.aload_n 0, 1) := by decide +kernel
theorem dX6_note_68 : decode cX6_note 68 = .ok (.getfield 7, 3) := by decide +kernel
theorem dX6_note_71 : decode cX6_note 71 = .ok (.iconst 4, 1) := by decide +kernel
theorem dX6_note_72 : decode cX6_note 72 = .ok (.iaload, 1) := by decide +kernel
theorem dX6_note_73 : decode cX6_note 73 = .ok (.imul, 1) := by decide +kernel
theorem dX6_note_74 : decode cX6_note 74 = .ok (.iadd, 1) := by decide +kernel
theorem dX6_note_75 : decode cX6_note 75 = .ok (.iload_n 1, 1) := by decide +kernel
theorem dX6_note_76 : decode cX6_note 76 = .ok (.iload_n 2, 1) := by decide +kernel
theorem dX6_note_77 : decode cX6_note 77 = .ok (.iload_n 3, 1) := by decide +kernel
theorem dX6_note_78 : decode cX6_note 78 = .ok (.iload 4, 2) := by decide +kernel
theorem dX6_note_80 : decode cX6_note 80 = .ok (.invokevirtual 179, 3) := by decide +kernel
theorem dX6_note_83 : decode cX6_note 83 = .ok (.aload_n 0, 1) := by decide +kernel
theorem dX6_note_84 : decode cX6_note 84 = .ok (.getfield 7, 3) := by decide +kernel
theorem dX6_note_87 : decode cX6_note 87 = .ok (.iconst 4, 1) := by decide +kernel
theorem dX6_note_88 : decode cX6_note 88 = .ok (.dup2, 1) := by decide +kernel
theorem dX6_note_89 : decode cX6_note 89 = .ok (.iaload, 1) := by decide +kernel
theorem dX6_note_90 : decode cX6_note 90 = .ok (.iconst 1, 1) := by decide +kernel
theorem dX6_note_91 : decode cX6_note 91 = .ok (.iadd, 1) := by decide +kernel
theorem dX6_note_92 : decode cX6_note 92 = .ok (.iastore, 1) := by decide +kernel
theorem dX6_note_93 : decode cX6_note 93 = .ok (.aload_n 0, 1) := by decide +kernel
theorem dX6_note_94 : decode cX6_note 94 = .ok (.getfield 7, 3) := by decide +kernel
theorem dX6_note_97 : decode cX6_note 97 = .ok (.iconst 4, 1) := by decide +kernel
theorem dX6_note_98 : decode cX6_note 98 = .ok (.iaload, 1) := by decide +kernel
theorem dX6_note_99 : decode cX6_note 99 = .ok (.ireturn, 1) := by decide +kernel
theorem dX6_mark_0 : decode cX6_mark 0 = .ok (.aload_n 0, 1) := by decide +kernel
theorem dX6_mark_1 : decode cX6_mark 1 = .ok (.iload_n 1, 1) := by decide +kernel
theorem dX6_mark_2 : decode cX6_mark 2 = .ok (.invokevirtual 134, 3) := by decide +kernel
theorem dX6_mark_5 : decode cX6_mark 5 = .ok (.ifCond .eq 35, 3) := by decide +kernel
theorem dX6_mark_8 : decode cX6_mark 8 = .ok (.iload_n 2, 1) := by decide +kernel
theorem dX6_mark_9 : decode cX6_mark 9 = .ok (.invokestatic 68, 3) := by decide +kernel
theorem dX6_mark_12 : decode cX6_mark 12 = .ok (.ifCond .eq 28, 3) := by decide +kernel
theorem dX6_mark_15 : decode cX6_mark 15 = .ok (.iload_n 3, 1) := by decide +kernel
theorem dX6_mark_16 : decode cX6_mark 16 = .ok (.i2l, 1) := by decide +kernel
theorem dX6_mark_17 : decode cX6_mark 17 = .ok (.lconst 0, 1) := by decide +kernel
theorem dX6_mark_18 : decode cX6_mark 18 = .ok (.ldc2_w 157, 3) := by decide +kernel
theorem dX6_mark_21 : decode cX6_mark 21 = .ok (.invokestatic 56, 3) := by decide +kernel
theorem dX6_mark_24 : decode cX6_mark 24 = .ok (.ifCond .eq 16, 3) := by decide +kernel
theorem dX6_mark_27 : decode cX6_mark 27 = .ok (.iload 4, 2) := by decide +kernel
theorem dX6_mark_29 : decode cX6_mark 29 = .ok (.i2l, 1) := by decide +kernel
theorem dX6_mark_30 : decode cX6_mark 30 = .ok (.lconst 0, 1) := by decide +kernel
theorem dX6_mark_31 : decode cX6_mark 31 = .ok (.ldc2_w 183, 3) := by decide +kernel
theorem dX6_mark_34 : decode cX6_mark 34 = .ok (.invokestatic 56, 3) := by decide +kernel
theorem dX6_mark_37 : decode cX6_mark 37 = .ok (.ifCond .ne 10, 3) := by decide +kernel
theorem dX6_mark_40 : decode cX6_mark 40 = .ok (.aload_n 0, 1) := by decide +kernel
theorem dX6_mark_41 : decode cX6_mark 41 = .ok (.bipush (-2), 2) := by decide +kernel
theorem dX6_mark_43 : decode cX6_mark 43 = .ok (.invokevirtual 71, 3) := by decide +kernel
theorem dX6_mark_46 : decode cX6_mark 46 = .ok (.ireturn, 1) := by decide +kernel
theorem dX6_mark_47 : decode cX6_mark 47 = .ok (.aload_n 0, 1) := by decide +kernel
theorem dX6_mark_48 : decode cX6_mark 48 = .ok (.getfield 7, 3) := by decide +kernel
theorem dX6_mark_51 : decode cX6_mark 51 = .ok (.iconst 5, 1) := by decide +kernel
theorem dX6_mark_52 : decode cX6_mark 52 = .ok (.iaload, 1) := by decide +kernel
theorem dX6_mark_53 : decode cX6_mark 53 = .ok (.bipush 6, 2) := by decide +kernel
theorem dX6_mark_55 : decode cX6_mark 55 = .ok (.if_icmp .ne 8, 3) := by decide +kernel
theorem dX6_mark_58 : decode cX6_mark 58 = .ok (.aload_n 0, 1) := by decide +kernel
theorem dX6_mark_59 : decode cX6_mark 59 = .ok (.invokevirtual 75, 3) := by decide +kernel
theorem dX6_mark_62 : decode cX6_mark 62 = .ok (.ireturn, 1) := by decide +kernel
theorem dX6_mark_63 : decode cX6_mark 63 = .ok (.aload_n 0, 1) := by decide +kernel
theorem dX6_mark_64 : decode cX6_mark 64 = .ok (.bipush 82, 2) := by decide +kernel
theorem dX6_mark_66 : decode cX6_mark 66 = .ok (.iconst 4, 1) := by decide +kernel
theorem dX6_mark_67 : decode cX6_mark 67 = .ok (.aload_n 0, 1) := by decide +kernel
theorem dX6_mark_68 : decode cX6_mark 68 = .ok (.getfield 7, 3) := by decide +kernel
theorem dX6_mark_71 : decode cX6_mark 71 = .ok (.iconst 5, 1) := by decide +kernel
theorem dX6_mark_72 : decode cX6_mark 72 = .ok (.iaload, 1) := by decide +kernel
theorem dX6_mark_73 : decode cX6_mark 73 = .ok (.imul, 1) := by decide +kernel
theorem dX6_mark_74 : decode cX6_mark 74 = .ok (.iadd, 1) := by decide +kernel
theorem dX6_mark_75 : decode cX6_mark 75 = .ok (.iload_n 1, 1) := by decide +kernel
theorem dX6_mark_76 : decode cX6_mark 76 = .ok (.iload_n 2, 1) := by decide +kernel
theorem dX6_mark_77 : decode cX6_mark 77 = .ok (.iload_n 3, 1) := by decide +kernel
theorem dX6_mark_78 : decode cX6_mark 78 = .ok (.iload 4, 2) := by decide +kernel
theorem dX6_mark_80 : decode cX6_mark 80 = .ok (.invokevirtual 179, 3) := by decide +kernel
theorem dX6_mark_83 : decode cX6_mark 83 = .ok (.aload_n 0, 1) := by decide +kernel
theorem dX6_mark_84 : decode cX6_mark 84 = .ok (.getfield 7, 3) := by decide +kernel
theorem dX6_mark_87 : decode cX6_mark 87 = .ok (.iconst 5, 1) := by decide +kernel
theorem dX6_mark_88 : decode cX6_mark 88 = .ok (.dup2, 1) := by decide +kernel
theorem dX6_mark_89 : decode cX6_mark 89 = .ok (.iaload, 1) := by decide +kernel
theorem dX6_mark_90 : decode cX6_mark 90 = .ok (.iconst 1, 1) := by decide +kernel
theorem dX6_mark_91 : decode cX6_mark 91 = .ok (.iadd, 1) := by decide +kernel
theorem dX6_mark_92 : decode cX6_mark 92 = .ok (.iastore, 1) := by decide +kernel
theorem dX6_mark_93 : decode cX6_mark 93 = .ok (.aload_n 0, 1) := by decide +kernel
theorem dX6_mark_94 : decode cX6_mark 94 = .ok (.getfield 7, 3) := by decide +kernel
theorem dX6_mark_97 : decode cX6_mark 97 = .ok (.iconst 5, 1) := by decide +kernel
theorem dX6_mark_98 : decode cX6_mark 98 = .ok (.iaload, 1) := by decide +kernel
theorem dX6_mark_99 : decode cX6_mark 99 = .ok (.ireturn, 1) := by decide +kernel
theorem dX6_forget_0 : decode cX6_forget 0 = .ok (.iload_n 1, 1) := by decide +kernel
theorem dX6_forget_1 : decode cX6_forget 1 = .ok (.i2l, 1) := by decide +kernel
theorem dX6_forget_2 : decode cX6_forget 2 = .ok (.lconst 0, 1) := by decide +kernel
theorem dX6_forget_3 : decode cX6_forget 3 = .ok (.ldc2_w 147, 3) := by decide +kernel
theorem dX6_forget_6 : decode cX6_forget 6 = .ok (.invokestatic 56, 3) := by decide +kernel
theorem dX6_forget_9 : decode cX6_forget 9 = .ok (.ifCond .ne 10, 3) := by decide +kernel
theorem dX6_forget_12 : decode cX6_forget 12 = .ok (.aload_n 0, 1) := by decide +kernel
theorem dX6_forget_13 : decode cX6_forget 13 = .ok (.bipush (-2), 2) := by decide +kernel
theorem dX6_forget_15 : decode cX6_forget 15 = .ok (.invokevirtual 71, 3) := by decide +kernel
theorem dX6_forget_18 : decode cX6_forget 18 = .ok (.ireturn, 1) := by decide +kernel
theorem dX6_forget_19 : decode cX6_forget 19 = .ok (.aload_n 0, 1) := by decide +kernel
theorem dX6_forget_20 : decode cX6_forget 20 = .ok (.getfield 7, 3) := by decide +kernel
theorem dX6_forget_23 : decode cX6_forget 23 = .ok (.iconst 3, 1) := by decide +kernel
theorem dX6_forget_24 : decode cX6_forget 24 = .ok (.iload_n 1, 1) := by decide +kernel
theorem dX6_forget_25 : decode cX6_forget 25 = .ok (.iadd, 1) := by decide +kernel
theorem dX6_forget_26 : decode cX6_forget 26 = .ok (.iaload, 1) := by decide +kernel
theorem dX6_forget_27 : decode cX6_forget 27 = .ok (.istore_n 2, 1) := by decide +kernel
theorem dX6_forget_28 : decode cX6_forget 28 = .ok (.aload_n 0, 1) := by decide +kernel
theorem dX6_forget_29 : decode cX6_forget 29 = .ok (.getfield 7, 3) := by decide +kernel
theorem dX6_forget_32 : decode cX6_forget 32 = .ok (.iconst 3, 1) := by decide +kernel
theorem dX6_forget_33 : decode cX6_forget 33 = .ok (.iload_n 1, 1) := by decide +kernel
theorem dX6_forget_34 : decode cX6_forget 34 = .ok (.iadd, 1) := by decide +kernel
theorem dX6_forget_35 : decode cX6_forget 35 = .ok (.iconst 0, 1) := by decide +kernel
theorem dX6_forget_36 : decode cX6_forget 36 = .ok (.iastore, 1) := by decide +kernel
theorem dX6_forget_37 : decode cX6_forget 37 = .ok (.iload_n 2, 1) := by decide +kernel
theorem dX6_forget_38 : decode cX6_forget 38 = .ok (.ireturn, 1) := by decide +kernel
theorem dX6_kindsOfPromise_0 : decode cX6_kindsOfPromise 0 = .ok (.iconst 0, 1) := by decide +kernel
theorem dX6_kindsOfPromise_1 : decode cX6_kindsOfPromise 1 = .ok (.istore_n 2, 1) := by decide +kernel
theorem dX6_kindsOfPromise_2 : decode cX6_kindsOfPromise 2 = .ok (.iconst 0, 1) := by decide +kernel
theorem dX6_kindsOfPromise_3 : decode cX6_kindsOfPromise 3 = .ok (.istore_n 3, 1) := by decide +kernel
theorem dX6_kindsOfPromise_4 : decode cX6_kindsOfPromise 4 = .ok (.iload_n 3, 1) := by decide +kernel
theorem dX6_kindsOfPromise_5 : decode cX6_kindsOfPromise 5 = .ok (.bipush 6, 2) := by decide +kernel
theorem dX6_kindsOfPromise_7 : decode cX6_kindsOfPromise 7 = .ok (.if_icmp .ge 113, 3) := by decide +kernel
theorem dX6_kindsOfPromise_10 : decode cX6_kindsOfPromise 10 = .ok (.iconst 1, 1) := by decide +kernel
theorem dX6_kindsOfPromise_11 : decode cX6_kindsOfPromise 11 = .ok (.istore 4, 2) := by decide +kernel
theorem dX6_kindsOfPromise_13 : decode cX6_kindsOfPromise 13 = .ok (.iconst 0, 1) := by decide +kernel
theorem dX6_kindsOfPromise_14 : decode cX6_kindsOfPromise 14 = .ok (.istore 5, 2) := by decide +kernel
theorem dX6_kindsOfPromise_16 : decode cX6_kindsOfPromise 16 = .ok (.iload 5, 2) := by decide +kernel
theorem dX6_kindsOfPromise_18 : decode cX6_kindsOfPromise 18 = .ok (.aload_n 0, 1) := by decide +kernel
theorem dX6_kindsOfPromise_19 : decode cX6_kindsOfPromise 19 = .ok (.getfield 7, 3) := by decide +kernel
theorem dX6_kindsOfPromise_22 : decode cX6_kindsOfPromise 22 = .ok (.iconst 4, 1) := by decide +kernel
theorem dX6_kindsOfPromise_23 : decode cX6_kindsOfPromise 23 = .ok (.iaload, 1) := by decide +kernel
theorem dX6_kindsOfPromise_24 : decode cX6_kindsOfPromise 24 = .ok (.if_icmp .ge 75, 3) := by decide +kernel
theorem dX6_kindsOfPromise_27 : decode cX6_kindsOfPromise 27 = .ok (.bipush 58, 2) := by decide +kernel
theorem dX6_kindsOfPromise_29 : decode cX6_kindsOfPromise 29 = .ok (.iconst 4, 1) := by decide +kernel
theorem dX6_kindsOfPromise_30 : decode cX6_kindsOfPromise 30 = .ok (.iload 5, 2) := by decide +kernel
theorem dX6_kindsOfPromise_32 : decode cX6_kindsOfPromise 32 = .ok (.imul, 1) := by decide +kernel
theorem dX6_kindsOfPromise_33 : decode cX6_kindsOfPromise 33 = .ok (.iadd, 1) := by decide +kernel
theorem dX6_kindsOfPromise_34 : decode cX6_kindsOfPromise 34 = .ok (.istore 6, 2) := by decide +kernel
theorem dX6_kindsOfPromise_36 : decode cX6_kindsOfPromise 36 = .ok (.iload 4, 2) := by decide +kernel
theorem dX6_kindsOfPromise_38 : decode cX6_kindsOfPromise 38 = .ok (.ifCond .eq 52, 3) := by decide +kernel
theorem dX6_kindsOfPromise_41 : decode cX6_kindsOfPromise 41 = .ok (.aload_n 0, 1) := by decide +kernel
theorem dX6_kindsOfPromise_42 : decode cX6_kindsOfPromise 42 = .ok (.getfield 7, 3) := by decide +kernel
theorem dX6_kindsOfPromise_45 : decode cX6_kindsOfPromise 45 = .ok (.iload 6, 2) := by decide +kernel
theorem dX6_kindsOfPromise_47 : decode cX6_kindsOfPromise 47 = .ok (.iaload, 1) := by decide +kernel
theorem dX6_kindsOfPromise_48 : decode cX6_kindsOfPromise 48 = .ok (.iload_n 1, 1) := by decide +kernel
theorem dX6_kindsOfPromise_49 : decode cX6_kindsOfPromise 49 = .ok (.if_icmp .ne 37, 3) := by decide +kernel
theorem dX6_kindsOfPromise_52 : decode cX6_kindsOfPromise 52 = .ok (.iload_n 3, 1) := by decide +kernel
theorem dX6_kindsOfPromise_53 : decode cX6_kindsOfPromise 53 = .ok (.aload_n 0, 1) := by decide +kernel
theorem dX6_kindsOfPromise_54 : decode cX6_kindsOfPromise 54 = .ok (.getfield 7, 3) := by decide +kernel
theorem dX6_kindsOfPromise_57 : decode cX6_kindsOfPromise 57 = .ok (.iload 6, 2) := by decide +kernel
theorem dX6_kindsOfPromise_59 : decode cX6_kindsOfPromise 59 = .ok (.iconst 1, 1) := by decide +kernel
theorem dX6_kindsOfPromise_60 : decode cX6_kindsOfPromise 60 = .ok (.iadd, 1) := by decide +kernel
theorem dX6_kindsOfPromise_61 : decode cX6_kindsOfPromise 61 = .ok (.iaload, 1) := by decide +kernel
theorem dX6_kindsOfPromise_62 : decode cX6_kindsOfPromise 62 = .ok (.aload_n 0, 1) := by decide +kernel
theorem dX6_kindsOfPromise_63 : decode cX6_kindsOfPromise 63 = .ok (.getfield 7, 3) := by decide +kernel
theorem dX6_kindsOfPromise_66 : decode cX6_kindsOfPromise 66 = .ok (.iload 6, 2) := by decide +kernel
theorem dX6_kindsOfPromise_68 : decode cX6_kindsOfPromise 68 = .ok (.iconst 2, 1) := by decide +kernel
theorem dX6_kindsOfPromise_69 : decode cX6_kindsOfPromise 69 = .ok (.iadd, 1) := by decide +kernel
theorem dX6_kindsOfPromise_70 : decode cX6_kindsOfPromise 70 = .ok (.iaload, 1) := by decide +kernel
theorem dX6_kindsOfPromise_71 : decode cX6_kindsOfPromise 71 = .ok (.invokestatic 84, 3) := by decide +kernel
theorem dX6_kindsOfPromise_74 : decode cX6_kindsOfPromise 74 = .ok (.aload_n 0, 1) := by decide +kernel
theorem dX6_kindsOfPromise_75 : decode cX6_kindsOfPromise 75 = .ok (.getfield 7, 3) := by decide +kernel
theorem dX6_kindsOfPromise_78 : decode cX6_kindsOfPromise 78 = .ok (.iload 6, 2) := by decide +kernel
theorem dX6_kindsOfPromise_80 : decode cX6_kindsOfPromise 80 = .ok (.iconst 3, 1) := by decide +kernel
theorem dX6_kindsOfPromise_81 : decode cX6_kindsOfPromise 81 = .ok (.iadd, 1) := by decide +kernel
theorem dX6_kindsOfPromise_82 : decode cX6_kindsOfPromise 82 = .ok (.iaload, 1) := by decide +kernel
theorem dX6_kindsOfPromise_83 : decode cX6_kindsOfPromise 83 = .ok (.if_icmp .ne 7, 3) := by decide +kernel
theorem dX6_kindsOfPromise_86 : decode cX6_kindsOfPromise 86 = .ok (.iconst 1, 1) := by decide +kernel
theorem dX6_kindsOfPromise_87 : decode cX6_kindsOfPromise 87 = .ok (.goto 4, 3) := by decide +kernel
theorem dX6_kindsOfPromise_90 : decode cX6_kindsOfPromise 90 = .ok (.iconst 0, 1) := by decide +kernel
theorem dX6_kindsOfPromise_91 : decode cX6_kindsOfPromise 91 = .ok (.istore 4, 2) := by decide +kernel
theorem dX6_kindsOfPromise_93 : decode cX6_kindsOfPromise 93 = .ok (.iinc 5 1, 3) := by decide +kernel
theorem dX6_kindsOfPromise_96 : decode cX6_kindsOfPromise 96 = .ok (.goto (-80), 3) := by decide +kernel
theorem dX6_kindsOfPromise_99 : decode cX6_kindsOfPromise 99 = .ok (.iload_n 2, 1) := by decide +kernel
theorem dX6_kindsOfPromise_100 : decode cX6_kindsOfPromise 100 = .ok (.iload 4, 2) := by decide +kernel
theorem dX6_kindsOfPromise_102 : decode cX6_kindsOfPromise 102 = .ok (.ifCond .eq 9, 3) := by decide +kernel
theorem dX6_kindsOfPromise_105 : decode cX6_kindsOfPromise 105 = .ok (.iconst 1, 1) := by decide +kernel
theorem dX6_kindsOfPromise_106 : decode cX6_kindsOfPromise 106 = .ok (.iload_n 3, 1) := by decide +kernel
theorem dX6_kindsOfPromise_107 : decode cX6_kindsOfPromise 107 = .ok (.ishl, 1) := by decide +kernel
theorem dX6_kindsOfPromise_108 : decode cX6_kindsOfPromise 108 = .ok (.goto 4, 3) := by decide +kernel
theorem dX6_kindsOfPromise_111 : decode cX6_kindsOfPromise 111 = .ok (.iconst 0, 1) := by decide +kernel
theorem dX6_kindsOfPromise_112 : decode cX6_kindsOfPromise 112 = .ok (.ior, 1) := by decide +kernel
theorem dX6_kindsOfPromise_113 : decode cX6_kindsOfPromise 113 = .ok (.istore_n 2, 1) := by decide +kernel
theorem dX6_kindsOfPromise_114 : decode cX6_kindsOfPromise 114 = .ok (.iinc 3 1, 3) := by decide +kernel
theorem dX6_kindsOfPromise_117 : decode cX6_kindsOfPromise 117 = .ok (.goto (-113), 3) := by decide +kernel
theorem dX6_kindsOfPromise_120 : decode cX6_kindsOfPromise 120 = .ok (.iload_n 2, 1) := by decide +kernel
theorem dX6_kindsOfPromise_121 : decode cX6_kindsOfPromise 121 = .ok (.ireturn, 1) := by decide +kernel
theorem dX6_kindsOfHearer_0 : decode cX6_kindsOfHearer 0 = .ok (.iconst 0, 1) := by decide +kernel
theorem dX6_kindsOfHearer_1 : decode cX6_kindsOfHearer 1 = .ok (.istore_n 2, 1) := by decide +kernel
theorem dX6_kindsOfHearer_2 : decode cX6_kindsOfHearer 2 = .ok (.iconst 0, 1) := by decide +kernel
theorem dX6_kindsOfHearer_3 : decode cX6_kindsOfHearer 3 = .ok (.istore_n 3, 1) := by decide +kernel
theorem dX6_kindsOfHearer_4 : decode cX6_kindsOfHearer 4 = .ok (.iload_n 3, 1) := by decide +kernel
theorem dX6_kindsOfHearer_5 : decode cX6_kindsOfHearer 5 = .ok (.bipush 6, 2) := by decide +kernel
theorem dX6_kindsOfHearer_7 : decode cX6_kindsOfHearer 7 = .ok (.if_icmp .ge 113, 3) := by decide +kernel
theorem dX6_kindsOfHearer_10 : decode cX6_kindsOfHearer 10 = .ok (.iconst 1, 1) := by decide +kernel
theorem dX6_kindsOfHearer_11 : decode cX6_kindsOfHearer 11 = .ok (.istore 4, 2) := by decide +kernel
theorem dX6_kindsOfHearer_13 : decode cX6_kindsOfHearer 13 = .ok (.iconst 0, 1) := by decide +kernel
theorem dX6_kindsOfHearer_14 : decode cX6_kindsOfHearer 14 = .ok (.istore 5, 2) := by decide +kernel
theorem dX6_kindsOfHearer_16 : decode cX6_kindsOfHearer 16 = .ok (.iload 5, 2) := by decide +kernel
theorem dX6_kindsOfHearer_18 : decode cX6_kindsOfHearer 18 = .ok (.aload_n 0, 1) := by decide +kernel
theorem dX6_kindsOfHearer_19 : decode cX6_kindsOfHearer 19 = .ok (.getfield 7, 3) := by decide +kernel
theorem dX6_kindsOfHearer_22 : decode cX6_kindsOfHearer 22 = .ok (.iconst 5, 1) := by decide +kernel
theorem dX6_kindsOfHearer_23 : decode cX6_kindsOfHearer 23 = .ok (.iaload, 1) := by decide +kernel
theorem dX6_kindsOfHearer_24 : decode cX6_kindsOfHearer 24 = .ok (.if_icmp .ge 75, 3) := by decide +kernel
theorem dX6_kindsOfHearer_27 : decode cX6_kindsOfHearer 27 = .ok (.bipush 82, 2) := by decide +kernel
theorem dX6_kindsOfHearer_29 : decode cX6_kindsOfHearer 29 = .ok (.iconst 4, 1) := by decide +kernel
theorem dX6_kindsOfHearer_30 : decode cX6_kindsOfHearer 30 = .ok (.iload 5, 2) := by decide +kernel
theorem dX6_kindsOfHearer_32 : decode cX6_kindsOfHearer 32 = .ok (.imul, 1) := by decide +kernel
theorem dX6_kindsOfHearer_33 : decode cX6_kindsOfHearer 33 = .ok (.iadd, 1) := by decide +kernel
theorem dX6_kindsOfHearer_34 : decode cX6_kindsOfHearer 34 = .ok (.istore 6, 2) := by decide +kernel
theorem dX6_kindsOfHearer_36 : decode cX6_kindsOfHearer 36 = .ok (.iload 4, 2) := by decide +kernel
theorem dX6_kindsOfHearer_38 : decode cX6_kindsOfHearer 38 = .ok (.ifCond .eq 52, 3) := by decide +kernel
theorem dX6_kindsOfHearer_41 : decode cX6_kindsOfHearer 41 = .ok (.aload_n 0, 1) := by decide +kernel
theorem dX6_kindsOfHearer_42 : decode cX6_kindsOfHearer 42 = .ok (.getfield 7, 3) := by decide +kernel
theorem dX6_kindsOfHearer_45 : decode cX6_kindsOfHearer 45 = .ok (.iload 6, 2) := by decide +kernel
theorem dX6_kindsOfHearer_47 : decode cX6_kindsOfHearer 47 = .ok (.iaload, 1) := by decide +kernel
theorem dX6_kindsOfHearer_48 : decode cX6_kindsOfHearer 48 = .ok (.iload_n 1, 1) := by decide +kernel
theorem dX6_kindsOfHearer_49 : decode cX6_kindsOfHearer 49 = .ok (.if_icmp .ne 37, 3) := by decide +kernel
theorem dX6_kindsOfHearer_52 : decode cX6_kindsOfHearer 52 = .ok (.iload_n 3, 1) := by decide +kernel
theorem dX6_kindsOfHearer_53 : decode cX6_kindsOfHearer 53 = .ok (.aload_n 0, 1) := by decide +kernel
theorem dX6_kindsOfHearer_54 : decode cX6_kindsOfHearer 54 = .ok (.getfield 7, 3) := by decide +kernel
theorem dX6_kindsOfHearer_57 : decode cX6_kindsOfHearer 57 = .ok (.iload 6, 2) := by decide +kernel
theorem dX6_kindsOfHearer_59 : decode cX6_kindsOfHearer 59 = .ok (.iconst 2, 1) := by decide +kernel
theorem dX6_kindsOfHearer_60 : decode cX6_kindsOfHearer 60 = .ok (.iadd, 1) := by decide +kernel
theorem dX6_kindsOfHearer_61 : decode cX6_kindsOfHearer 61 = .ok (.iaload, 1) := by decide +kernel
theorem dX6_kindsOfHearer_62 : decode cX6_kindsOfHearer 62 = .ok (.aload_n 0, 1) := by decide +kernel
theorem dX6_kindsOfHearer_63 : decode cX6_kindsOfHearer 63 = .ok (.getfield 7, 3) := by decide +kernel
theorem dX6_kindsOfHearer_66 : decode cX6_kindsOfHearer 66 = .ok (.iload 6, 2) := by decide +kernel
theorem dX6_kindsOfHearer_68 : decode cX6_kindsOfHearer 68 = .ok (.iconst 1, 1) := by decide +kernel
theorem dX6_kindsOfHearer_69 : decode cX6_kindsOfHearer 69 = .ok (.iadd, 1) := by decide +kernel
theorem dX6_kindsOfHearer_70 : decode cX6_kindsOfHearer 70 = .ok (.iaload, 1) := by decide +kernel
theorem dX6_kindsOfHearer_71 : decode cX6_kindsOfHearer 71 = .ok (.invokestatic 92, 3) := by decide +kernel
theorem dX6_kindsOfHearer_74 : decode cX6_kindsOfHearer 74 = .ok (.aload_n 0, 1) := by decide +kernel
theorem dX6_kindsOfHearer_75 : decode cX6_kindsOfHearer 75 = .ok (.getfield 7, 3) := by decide +kernel
theorem dX6_kindsOfHearer_78 : decode cX6_kindsOfHearer 78 = .ok (.iload 6, 2) := by decide +kernel
theorem dX6_kindsOfHearer_80 : decode cX6_kindsOfHearer 80 = .ok (.iconst 3, 1) := by decide +kernel
theorem dX6_kindsOfHearer_81 : decode cX6_kindsOfHearer 81 = .ok (.iadd, 1) := by decide +kernel
theorem dX6_kindsOfHearer_82 : decode cX6_kindsOfHearer 82 = .ok (.iaload, 1) := by decide +kernel
theorem dX6_kindsOfHearer_83 : decode cX6_kindsOfHearer 83 = .ok (.if_icmp .ne 7, 3) := by decide +kernel
theorem dX6_kindsOfHearer_86 : decode cX6_kindsOfHearer 86 = .ok (.iconst 1, 1) := by decide +kernel
theorem dX6_kindsOfHearer_87 : decode cX6_kindsOfHearer 87 = .ok (.goto 4, 3) := by decide +kernel
theorem dX6_kindsOfHearer_90 : decode cX6_kindsOfHearer 90 = .ok (.iconst 0, 1) := by decide +kernel
theorem dX6_kindsOfHearer_91 : decode cX6_kindsOfHearer 91 = .ok (.istore 4, 2) := by decide +kernel
theorem dX6_kindsOfHearer_93 : decode cX6_kindsOfHearer 93 = .ok (.iinc 5 1, 3) := by decide +kernel
theorem dX6_kindsOfHearer_96 : decode cX6_kindsOfHearer 96 = .ok (.goto (-80), 3) := by decide +kernel
theorem dX6_kindsOfHearer_99 : decode cX6_kindsOfHearer 99 = .ok (.iload_n 2, 1) := by decide +kernel
theorem dX6_kindsOfHearer_100 : decode cX6_kindsOfHearer 100 = .ok (.iload 4, 2) := by decide +kernel
theorem dX6_kindsOfHearer_102 : decode cX6_kindsOfHearer 102 = .ok (.ifCond .eq 9, 3) := by decide +kernel
theorem dX6_kindsOfHearer_105 : decode cX6_kindsOfHearer 105 = .ok (.iconst 1, 1) := by decide +kernel
theorem dX6_kindsOfHearer_106 : decode cX6_kindsOfHearer 106 = .ok (.iload_n 3, 1) := by decide +kernel
theorem dX6_kindsOfHearer_107 : decode cX6_kindsOfHearer 107 = .ok (.ishl, 1) := by decide +kernel
theorem dX6_kindsOfHearer_108 : decode cX6_kindsOfHearer 108 = .ok (.goto 4, 3) := by decide +kernel
theorem dX6_kindsOfHearer_111 : decode cX6_kindsOfHearer 111 = .ok (.iconst 0, 1) := by decide +kernel
theorem dX6_kindsOfHearer_112 : decode cX6_kindsOfHearer 112 = .ok (.ior, 1) := by decide +kernel
theorem dX6_kindsOfHearer_113 : decode cX6_kindsOfHearer 113 = .ok (.istore_n 2, 1) := by decide +kernel
theorem dX6_kindsOfHearer_114 : decode cX6_kindsOfHearer 114 = .ok (.iinc 3 1, 3) := by decide +kernel
theorem dX6_kindsOfHearer_117 : decode cX6_kindsOfHearer 117 = .ok (.goto (-113), 3) := by decide +kernel
theorem dX6_kindsOfHearer_120 : decode cX6_kindsOfHearer 120 = .ok (.iload_n 2, 1) := by decide +kernel
theorem dX6_kindsOfHearer_121 : decode cX6_kindsOfHearer 121 = .ok (.ireturn, 1) := by decide +kernel
theorem dX6_is_0 : decode cX6_is 0 = .ok (.aload_n 0, 1) := by decide +kernel
theorem dX6_is_1 : decode cX6_is 1 = .ok (.iload_n 1, 1) := by decide +kernel
theorem dX6_is_2 : decode cX6_is 2 = .ok (.invokevirtual 121, 3) := by decide +kernel
theorem dX6_is_5 : decode cX6_is 5 = .ok (.ifCond .eq 11, 3) := by decide +kernel
theorem dX6_is_8 : decode cX6_is 8 = .ok (.aload_n 0, 1) := by decide +kernel
theorem dX6_is_9 : decode cX6_is 9 = .ok (.iload_n 1, 1) := by decide +kernel
theorem dX6_is_10 : decode cX6_is 10 = .ok (.invokevirtual 185, 3) := by decide +kernel
theorem dX6_is_13 : decode cX6_is 13 = .ok (.goto 9, 3) := by decide +kernel
theorem dX6_is_16 : decode cX6_is 16 = .ok (.aload_n 0, 1) := by decide +kernel
theorem dX6_is_17 : decode cX6_is 17 = .ok (.bipush (-2), 2) := by decide +kernel
theorem dX6_is_19 : decode cX6_is 19 = .ok (.invokevirtual 71, 3) := by decide +kernel
theorem dX6_is_22 : decode cX6_is 22 = .ok (.ireturn, 1) := by decide +kernel
theorem dX6_look_0 : decode cX6_look 0 = .ok (.aload_n 0, 1) := by decide +kernel
theorem dX6_look_1 : decode cX6_look 1 = .ok (.iload_n 1, 1) := by decide +kernel
theorem dX6_look_2 : decode cX6_look 2 = .ok (.invokevirtual 121, 3) := by decide +kernel
theorem dX6_look_5 : decode cX6_look 5 = .ok (.ifCond .ne 10, 3) := by decide +kernel
theorem dX6_look_8 : decode cX6_look 8 = .ok (.aload_n 0, 1) := by decide +kernel
theorem dX6_look_9 : decode cX6_look 9 = .ok (.bipush (-2), 2) := by decide +kernel
theorem dX6_look_11 : decode cX6_look 11 = .ok (.invokevirtual 71, 3) := by decide +kernel
theorem dX6_look_14 : decode cX6_look 14 = .ok (.ireturn, 1) := by decide +kernel
theorem dX6_look_15 : decode cX6_look 15 = .ok (.aload_n 0, 1) := by decide +kernel
theorem dX6_look_16 : decode cX6_look 16 = .ok (.iload_n 1, 1) := by decide +kernel
theorem dX6_look_17 : decode cX6_look 17 = .ok (.invokevirtual 185, 3) := by decide +kernel
theorem dX6_look_20 : decode cX6_look 20 = .ok (.istore_n 2, 1) := by decide +kernel
theorem dX6_look_21 : decode cX6_look 21 = .ok (.iconst (-1), 1) := by decide +kernel
theorem dX6_look_22 : decode cX6_look 22 = .ok (.istore_n 3, 1) := by decide +kernel
theorem dX6_look_23 : decode cX6_look 23 = .ok (.ldc 172, 2) := by decide +kernel
theorem dX6_look_25 : decode cX6_look 25 = .ok (.istore 4, 2) := by decide +kernel
theorem dX6_look_27 : decode cX6_look 27 = .ok (.iconst 0, 1) := by decide +kernel
theorem dX6_look_28 : decode cX6_look 28 = .ok (.istore 5, 2) := by decide +kernel
theorem dX6_look_30 : decode cX6_look 30 = .ok (.iload 5, 2) := by decide +kernel
theorem dX6_look_32 : decode cX6_look 32 = .ok (.bipush 60, 2) := by decide +kernel
theorem dX6_look_34 : decode cX6_look 34 = .ok (.if_icmp .gt 89, 3) := by decide +kernel
theorem dX6_look_37 : decode cX6_look 37 = .ok (.iload_n 2, 1) := by decide +kernel
theorem dX6_look_38 : decode cX6_look 38 = .ok (.ifCond .le 85, 3) := by decide +kernel
theorem dX6_look_41 : decode cX6_look 41 = .ok (.iconst 0, 1) := by decide +kernel
theorem dX6_look_42 : decode cX6_look 42 = .ok (.istore 6, 2) := by decide +kernel
theorem dX6_look_44 : decode cX6_look 44 = .ok (.iload 6, 2) := by decide +kernel
theorem dX6_look_46 : decode cX6_look 46 = .ok (.bipush 6, 2) := by decide +kernel
theorem dX6_look_48 : decode cX6_look 48 = .ok (.if_icmp .ge 32, 3) := by decide +kernel
theorem dX6_look_51 : decode cX6_look 51 = .ok (.aload_n 0, 1) := by decide +kernel
theorem dX6_look_52 : decode cX6_look 52 = .ok (.getfield 33, 3) := by decide +kernel
theorem dX6_look_55 : decode cX6_look 55 = .ok (.iload 6, 2) := by decide +kernel
theorem dX6_look_57 : decode cX6_look 57 = .ok (.iload 6, 2) := by decide +kernel
theorem dX6_look_59 : decode cX6_look 59 = .ok (.aload_n 0, 1) := by decide +kernel
theorem dX6_look_60 : decode cX6_look 60 = .ok (.getfield 7, 3) := by decide +kernel
theorem dX6_look_63 : decode cX6_look 63 = .ok (.bipush 33, 2) := by decide +kernel
theorem dX6_look_65 : decode cX6_look 65 = .ok (.iload_n 1, 1) := by decide +kernel
theorem dX6_look_66 : decode cX6_look 66 = .ok (.iadd, 1) := by decide +kernel
theorem dX6_look_67 : decode cX6_look 67 = .ok (.iaload, 1) := by decide +kernel
theorem dX6_look_68 : decode cX6_look 68 = .ok (.iload 5, 2) := by decide +kernel
theorem dX6_look_70 : decode cX6_look 70 = .ok (.invokestatic 84, 3) := by decide +kernel
theorem dX6_look_73 : decode cX6_look 73 = .ok (.iastore, 1) := by decide +kernel
theorem dX6_look_74 : decode cX6_look 74 = .ok (.iinc 6 1, 3) := by decide +kernel
theorem dX6_look_77 : decode cX6_look 77 = .ok (.goto (-33), 3) := by decide +kernel
theorem dX6_look_80 : decode cX6_look 80 = .ok (.aload_n 0, 1) := by decide +kernel
theorem dX6_look_81 : decode cX6_look 81 = .ok (.iload_n 2, 1) := by decide +kernel
theorem dX6_look_82 : decode cX6_look 82 = .ok (.invokevirtual 176, 3) := by decide +kernel
theorem dX6_look_85 : decode cX6_look 85 = .ok (.istore 6, 2) := by decide +kernel
theorem dX6_look_87 : decode cX6_look 87 = .ok (.iload 6, 2) := by decide +kernel
theorem dX6_look_89 : decode cX6_look 89 = .ok (.iload 4, 2) := by decide +kernel
theorem dX6_look_91 : decode cX6_look 91 = .ok (.if_icmp .ge 8, 3) := by decide +kernel
theorem dX6_look_94 : decode cX6_look 94 = .ok (.iload 5, 2) := by decide +kernel
theorem dX6_look_96 : decode cX6_look 96 = .ok (.goto 4, 3) := by decide +kernel
theorem dX6_look_99 : decode cX6_look 99 = .ok (.iload_n 3, 1) := by decide +kernel
theorem dX6_look_100 : decode cX6_look 100 = .ok (.istore_n 3, 1) := by decide +kernel
theorem dX6_look_101 : decode cX6_look 101 = .ok (.iload 6, 2) := by decide +kernel
theorem dX6_look_103 : decode cX6_look 103 = .ok (.iload 4, 2) := by decide +kernel
theorem dX6_look_105 : decode cX6_look 105 = .ok (.if_icmp .ge 8, 3) := by decide +kernel
theorem dX6_look_108 : decode cX6_look 108 = .ok (.iload 6, 2) := by decide +kernel
theorem dX6_look_110 : decode cX6_look 110 = .ok (.goto 5, 3) := by decide +kernel
theorem dX6_look_113 : decode cX6_look 113 = .ok (.iload 4, 2) := by decide +kernel
theorem dX6_look_115 : decode cX6_look 115 = .ok (.istore 4, 2) := by decide +kernel
theorem dX6_look_117 : decode cX6_look 117 = .ok (.iinc 5 1, 3) := by decide +kernel
theorem dX6_look_120 : decode cX6_look 120 = .ok (.goto (-90), 3) := by decide +kernel
theorem dX6_look_123 : decode cX6_look 123 = .ok (.iload_n 3, 1) := by decide +kernel
theorem dX6_look_124 : decode cX6_look 124 = .ok (.ireturn, 1) := by decide +kernel
theorem dX6_kinds_0 : decode cX6_kinds 0 = .ok (.aload_n 0, 1) := by decide +kernel
theorem dX6_kinds_1 : decode cX6_kinds 1 = .ok (.iload_n 1, 1) := by decide +kernel
theorem dX6_kinds_2 : decode cX6_kinds 2 = .ok (.invokevirtual 134, 3) := by decide +kernel
theorem dX6_kinds_5 : decode cX6_kinds 5 = .ok (.ifCond .eq 11, 3) := by decide +kernel
theorem dX6_kinds_8 : decode cX6_kinds 8 = .ok (.aload_n 0, 1) := by decide +kernel
theorem dX6_kinds_9 : decode cX6_kinds 9 = .ok (.iload_n 1, 1) := by decide +kernel
theorem dX6_kinds_10 : decode cX6_kinds 10 = .ok (.invokevirtual 188, 3) := by decide +kernel
theorem dX6_kinds_13 : decode cX6_kinds 13 = .ok (.goto 9, 3) := by decide +kernel
theorem dX6_kinds_16 : decode cX6_kinds 16 = .ok (.aload_n 0, 1) := by decide +kernel
theorem dX6_kinds_17 : decode cX6_kinds 17 = .ok (.bipush (-2), 2) := by decide +kernel
theorem dX6_kinds_19 : decode cX6_kinds 19 = .ok (.invokevirtual 71, 3) := by decide +kernel
theorem dX6_kinds_22 : decode cX6_kinds 22 = .ok (.ireturn, 1) := by decide +kernel
theorem dX6_ask_0 : decode cX6_ask 0 = .ok (.aload_n 0, 1) := by decide +kernel
theorem dX6_ask_1 : decode cX6_ask 1 = .ok (.iload_n 1, 1) := by decide +kernel
theorem dX6_ask_2 : decode cX6_ask 2 = .ok (.invokevirtual 134, 3) := by decide +kernel
theorem dX6_ask_5 : decode cX6_ask 5 = .ok (.ifCond .ne 10, 3) := by decide +kernel
theorem dX6_ask_8 : decode cX6_ask 8 = .ok (.aload_n 0, 1) := by decide +kernel
theorem dX6_ask_9 : decode cX6_ask 9 = .ok (.bipush (-2), 2) := by decide +kernel
theorem dX6_ask_11 : decode cX6_ask 11 = .ok (.invokevirtual 71, 3) := by decide +kernel
theorem dX6_ask_14 : decode cX6_ask 14 = .ok (.ireturn, 1) := by decide +kernel
theorem dX6_ask_15 : decode cX6_ask 15 = .ok (.aload_n 0, 1) := by decide +kernel
theorem dX6_ask_16 : decode cX6_ask 16 = .ok (.iload_n 1, 1) := by decide +kernel
theorem dX6_ask_17 : decode cX6_ask 17 = .ok (.invokevirtual 188, 3) := by decide +kernel
theorem dX6_ask_20 : decode cX6_ask 20 = .ok (.istore_n 2, 1) := by decide +kernel
theorem dX6_ask_21 : decode cX6_ask 21 = .ok (.iconst (-1), 1) := by decide +kernel
theorem dX6_ask_22 : decode cX6_ask 22 = .ok (.istore_n 3, 1) := by decide +kernel
theorem dX6_ask_23 : decode cX6_ask 23 = .ok (.ldc 172, 2) := by decide +kernel
theorem dX6_ask_25 : decode cX6_ask 25 = .ok (.istore 4, 2) := by decide +kernel
theorem dX6_ask_27 : decode cX6_ask 27 = .ok (.iconst 0, 1) := by decide +kernel
theorem dX6_ask_28 : decode cX6_ask 28 = .ok (.istore 5, 2) := by decide +kernel
theorem dX6_ask_30 : decode cX6_ask 30 = .ok (.iload 5, 2) := by decide +kernel
theorem dX6_ask_32 : decode cX6_ask 32 = .ok (.bipush 30, 2) := by decide +kernel
theorem dX6_ask_34 : decode cX6_ask 34 = .ok (.if_icmp .gt 89, 3) := by decide +kernel
theorem dX6_ask_37 : decode cX6_ask 37 = .ok (.iload_n 2, 1) := by decide +kernel
theorem dX6_ask_38 : decode cX6_ask 38 = .ok (.ifCond .le 85, 3) := by decide +kernel
theorem dX6_ask_41 : decode cX6_ask 41 = .ok (.iconst 0, 1) := by decide +kernel
theorem dX6_ask_42 : decode cX6_ask 42 = .ok (.istore 6, 2) := by decide +kernel
theorem dX6_ask_44 : decode cX6_ask 44 = .ok (.iload 6, 2) := by decide +kernel
theorem dX6_ask_46 : decode cX6_ask 46 = .ok (.bipush 6, 2) := by decide +kernel
theorem dX6_ask_48 : decode cX6_ask 48 = .ok (.if_icmp .ge 32, 3) := by decide +kernel
theorem dX6_ask_51 : decode cX6_ask 51 = .ok (.aload_n 0, 1) := by decide +kernel
theorem dX6_ask_52 : decode cX6_ask 52 = .ok (.getfield 33, 3) := by decide +kernel
theorem dX6_ask_55 : decode cX6_ask 55 = .ok (.iload 6, 2) := by decide +kernel
theorem dX6_ask_57 : decode cX6_ask 57 = .ok (.iload 6, 2) := by decide +kernel
theorem dX6_ask_59 : decode cX6_ask 59 = .ok (.iload 5, 2) := by decide +kernel
theorem dX6_ask_61 : decode cX6_ask 61 = .ok (.aload_n 0, 1) := by decide +kernel
theorem dX6_ask_62 : decode cX6_ask 62 = .ok (.getfield 7, 3) := by decide +kernel
theorem dX6_ask_65 : decode cX6_ask 65 = .ok (.bipush 44, 2) := by decide +kernel
theorem dX6_ask_67 : decode cX6_ask 67 = .ok (.iload_n 1, 1) := by decide +kernel
theorem dX6_ask_68 : decode cX6_ask 68 = .ok (.iadd, 1) := by decide +kernel
theorem dX6_ask_69 : decode cX6_ask 69 = .ok (.iaload, 1) := by decide +kernel
theorem dX6_ask_70 : decode cX6_ask 70 = .ok (.invokestatic 92, 3) := by decide +kernel
theorem dX6_ask_73 : decode cX6_ask 73 = .ok (.iastore, 1) := by decide +kernel
theorem dX6_ask_74 : decode cX6_ask 74 = .ok (.iinc 6 1, 3) := by decide +kernel
theorem dX6_ask_77 : decode cX6_ask 77 = .ok (.goto (-33), 3) := by decide +kernel
theorem dX6_ask_80 : decode cX6_ask 80 = .ok (.aload_n 0, 1) := by decide +kernel
theorem dX6_ask_81 : decode cX6_ask 81 = .ok (.iload_n 2, 1) := by decide +kernel
theorem dX6_ask_82 : decode cX6_ask 82 = .ok (.invokevirtual 176, 3) := by decide +kernel
theorem dX6_ask_85 : decode cX6_ask 85 = .ok (.istore 6, 2) := by decide +kernel
theorem dX6_ask_87 : decode cX6_ask 87 = .ok (.iload 6, 2) := by decide +kernel
theorem dX6_ask_89 : decode cX6_ask 89 = .ok (.iload 4, 2) := by decide +kernel
theorem dX6_ask_91 : decode cX6_ask 91 = .ok (.if_icmp .ge 8, 3) := by decide +kernel
theorem dX6_ask_94 : decode cX6_ask 94 = .ok (.iload 5, 2) := by decide +kernel
theorem dX6_ask_96 : decode cX6_ask 96 = .ok (.goto 4, 3) := by decide +kernel
theorem dX6_ask_99 : decode cX6_ask 99 = .ok (.iload_n 3, 1) := by decide +kernel
theorem dX6_ask_100 : decode cX6_ask 100 = .ok (.istore_n 3, 1) := by decide +kernel
theorem dX6_ask_101 : decode cX6_ask 101 = .ok (.iload 6, 2) := by decide +kernel
theorem dX6_ask_103 : decode cX6_ask 103 = .ok (.iload 4, 2) := by decide +kernel
theorem dX6_ask_105 : decode cX6_ask 105 = .ok (.if_icmp .ge 8, 3) := by decide +kernel
theorem dX6_ask_108 : decode cX6_ask 108 = .ok (.iload 6, 2) := by decide +kernel
theorem dX6_ask_110 : decode cX6_ask 110 = .ok (.goto 5, 3) := by decide +kernel
theorem dX6_ask_113 : decode cX6_ask 113 = .ok (.iload 4, 2) := by decide +kernel
theorem dX6_ask_115 : decode cX6_ask 115 = .ok (.istore 4, 2) := by decide +kernel
theorem dX6_ask_117 : decode cX6_ask 117 = .ok (.iinc 5 1, 3) := by decide +kernel
theorem dX6_ask_120 : decode cX6_ask 120 = .ok (.goto (-90), 3) := by decide +kernel
theorem dX6_ask_123 : decode cX6_ask 123 = .ok (.iload_n 3, 1) := by decide +kernel
theorem dX6_ask_124 : decode cX6_ask 124 = .ok (.ireturn, 1) := by decide +kernel
theorem dX6_getsBy_0 : decode cX6_getsBy 0 = .ok (.iload_n 0, 1) := by decide +kernel
theorem dX6_getsBy_1 : decode cX6_getsBy 1 = .ok (.iload_n 1, 1) := by decide +kernel
theorem dX6_getsBy_2 : decode cX6_getsBy 2 = .ok (.if_icmp .gt 12, 3) := by decide +kernel
theorem dX6_getsBy_5 : decode cX6_getsBy 5 = .ok (.iload_n 0, 1) := by decide +kernel
theorem dX6_getsBy_6 : decode cX6_getsBy 6 = .ok (.iload_n 1, 1) := by decide +kernel
theorem dX6_getsBy_7 : decode cX6_getsBy 7 = .ok (.if_icmp .ne 11, 3) := by decide +kernel
theorem dX6_getsBy_10 : decode cX6_getsBy 10 = .ok (.iload_n 2, 1) := by decide +kernel
theorem dX6_getsBy_11 : decode cX6_getsBy 11 = .ok (.ifCond .eq 7, 3) := by decide +kernel
theorem dX6_getsBy_14 : decode cX6_getsBy 14 = .ok (.iconst 1, 1) := by decide +kernel
theorem dX6_getsBy_15 : decode cX6_getsBy 15 = .ok (.goto 4, 3) := by decide +kernel
theorem dX6_getsBy_18 : decode cX6_getsBy 18 = .ok (.iconst 0, 1) := by decide +kernel
theorem dX6_getsBy_19 : decode cX6_getsBy 19 = .ok (.istore 4, 2) := by decide +kernel
theorem dX6_getsBy_21 : decode cX6_getsBy 21 = .ok (.iload 4, 2) := by decide +kernel
theorem dX6_getsBy_23 : decode cX6_getsBy 23 = .ok (.ifCond .eq 11, 3) := by decide +kernel
theorem dX6_getsBy_26 : decode cX6_getsBy 26 = .ok (.iload_n 3, 1) := by decide +kernel
theorem dX6_getsBy_27 : decode cX6_getsBy 27 = .ok (.iload_n 0, 1) := by decide +kernel
theorem dX6_getsBy_28 : decode cX6_getsBy 28 = .ok (.iconst 3, 1) := by decide +kernel
theorem dX6_getsBy_29 : decode cX6_getsBy 29 = .ok (.idiv, 1) := by decide +kernel
theorem dX6_getsBy_30 : decode cX6_getsBy 30 = .ok (.isub, 1) := by decide +kernel
theorem dX6_getsBy_31 : decode cX6_getsBy 31 = .ok (.goto 13, 3) := by decide +kernel
theorem dX6_getsBy_34 : decode cX6_getsBy 34 = .ok (.iload_n 1, 1) := by decide +kernel
theorem dX6_getsBy_35 : decode cX6_getsBy 35 = .ok (.iconst 5, 1) := by decide +kernel
theorem dX6_getsBy_36 : decode cX6_getsBy 36 = .ok (.if_icmp .le 7, 3) := by decide +kernel
theorem dX6_getsBy_39 : decode cX6_getsBy 39 = .ok (.iconst 1, 1) := by decide +kernel
theorem dX6_getsBy_40 : decode cX6_getsBy 40 = .ok (.goto 4, 3) := by decide +kernel
theorem dX6_getsBy_43 : decode cX6_getsBy 43 = .ok (.iconst 0, 1) := by decide +kernel
theorem dX6_getsBy_44 : decode cX6_getsBy 44 = .ok (.ireturn, 1) := by decide +kernel
theorem dX6_rests_0 : decode cX6_rests 0 = .ok (.iconst 1, 1) := by decide +kernel
theorem dX6_rests_1 : decode cX6_rests 1 = .ok (.istore_n 3, 1) := by decide +kernel
theorem dX6_rests_2 : decode cX6_rests 2 = .ok (.iconst 0, 1) := by decide +kernel
theorem dX6_rests_3 : decode cX6_rests 3 = .ok (.istore 4, 2) := by decide +kernel
theorem dX6_rests_5 : decode cX6_rests 5 = .ok (.iload 4, 2) := by decide +kernel
theorem dX6_rests_7 : decode cX6_rests 7 = .ok (.bipush 10, 2) := by decide +kernel
theorem dX6_rests_9 : decode cX6_rests 9 = .ok (.if_icmp .ge 55, 3) := by decide +kernel
theorem dX6_rests_12 : decode cX6_rests 12 = .ok (.iload_n 3, 1) := by decide +kernel
theorem dX6_rests_13 : decode cX6_rests 13 = .ok (.ifCond .eq 51, 3) := by decide +kernel
theorem dX6_rests_16 : decode cX6_rests 16 = .ok (.iload 4, 2) := by decide +kernel
theorem dX6_rests_18 : decode cX6_rests 18 = .ok (.iload_n 1, 1) := by decide +kernel
theorem dX6_rests_19 : decode cX6_rests 19 = .ok (.iconst 1, 1) := by decide +kernel
theorem dX6_rests_20 : decode cX6_rests 20 = .ok (.iload_n 2, 1) := by decide +kernel
theorem dX6_rests_21 : decode cX6_rests 21 = .ok (.invokestatic 191, 3) := by decide +kernel
theorem dX6_rests_24 : decode cX6_rests 24 = .ok (.iload_n 0, 1) := by decide +kernel
theorem dX6_rests_25 : decode cX6_rests 25 = .ok (.iload_n 1, 1) := by decide +kernel
theorem dX6_rests_26 : decode cX6_rests 26 = .ok (.iconst 1, 1) := by decide +kernel
theorem dX6_rests_27 : decode cX6_rests 27 = .ok (.iload_n 2, 1) := by decide +kernel
theorem dX6_rests_28 : decode cX6_rests 28 = .ok (.invokestatic 191, 3) := by decide +kernel
theorem dX6_rests_31 : decode cX6_rests 31 = .ok (.if_icmp .gt 25, 3) := by decide +kernel
theorem dX6_rests_34 : decode cX6_rests 34 = .ok (.iload 4, 2) := by decide +kernel
theorem dX6_rests_36 : decode cX6_rests 36 = .ok (.iload_n 0, 1) := by decide +kernel
theorem dX6_rests_37 : decode cX6_rests 37 = .ok (.iconst 0, 1) := by decide +kernel
theorem dX6_rests_38 : decode cX6_rests 38 = .ok (.iload_n 2, 1) := by decide +kernel
theorem dX6_rests_39 : decode cX6_rests 39 = .ok (.invokestatic 191, 3) := by decide +kernel
theorem dX6_rests_42 : decode cX6_rests 42 = .ok (.iload_n 1, 1) := by decide +kernel
theorem dX6_rests_43 : decode cX6_rests 43 = .ok (.iload_n 0, 1) := by decide +kernel
theorem dX6_rests_44 : decode cX6_rests 44 = .ok (.iconst 0, 1) := by decide +kernel
theorem dX6_rests_45 : decode cX6_rests 45 = .ok (.iload_n 2, 1) := by decide +kernel
theorem dX6_rests_46 : decode cX6_rests 46 = .ok (.invokestatic 191, 3) := by decide +kernel
theorem dX6_rests_49 : decode cX6_rests 49 = .ok (.if_icmp .gt 7, 3) := by decide +kernel
theorem dX6_rests_52 : decode cX6_rests 52 = .ok (.iconst 1, 1) := by decide +kernel
theorem dX6_rests_53 : decode cX6_rests 53 = .ok (.goto 4, 3) := by decide +kernel
theorem dX6_rests_56 : decode cX6_rests 56 = .ok (.iconst 0, 1) := by decide +kernel
theorem dX6_rests_57 : decode cX6_rests 57 = .ok (.istore_n 3, 1) := by decide +kernel
theorem dX6_rests_58 : decode cX6_rests 58 = .ok (.iinc 4 1, 3) := by decide +kernel
theorem dX6_rests_61 : decode cX6_rests 61 = .ok (.goto (-56), 3) := by decide +kernel
theorem dX6_rests_64 : decode cX6_rests 64 = .ok (.iload_n 3, 1) := by decide +kernel
theorem dX6_rests_65 : decode cX6_rests 65 = .ok (.ireturn, 1) := by decide +kernel
theorem dX6_bids_0 : decode cX6_bids 0 = .ok (.aload_n 0, 1) := by decide +kernel
theorem dX6_bids_1 : decode cX6_bids 1 = .ok (.iload_n 1, 1) := by decide +kernel
theorem dX6_bids_2 : decode cX6_bids 2 = .ok (.invokevirtual 118, 3) := by decide +kernel
theorem dX6_bids_5 : decode cX6_bids 5 = .ok (.ifCond .eq 39, 3) := by decide +kernel
theorem dX6_bids_8 : decode cX6_bids 8 = .ok (.aload_n 0, 1) := by decide +kernel
theorem dX6_bids_9 : decode cX6_bids 9 = .ok (.iload_n 2, 1) := by decide +kernel
theorem dX6_bids_10 : decode cX6_bids 10 = .ok (.invokevirtual 118, 3) := by decide +kernel
theorem dX6_bids_13 : decode cX6_bids 13 = .ok (.ifCond .eq 31, 3) := by decide +kernel
theorem dX6_bids_16 : decode cX6_bids 16 = .ok (.iload_n 1, 1) := by decide +kernel
theorem dX6_bids_17 : decode cX6_bids 17 = .ok (.iload_n 2, 1) := by decide +kernel
theorem dX6_bids_18 : decode cX6_bids 18 = .ok (.if_icmp .eq 26, 3) := by decide +kernel
theorem dX6_bids_21 : decode cX6_bids 21 = .ok (.aload_n 0, 1) := by decide +kernel
theorem dX6_bids_22 : decode cX6_bids 22 = .ok (.iload_n 3, 1) := by decide +kernel
theorem dX6_bids_23 : decode cX6_bids 23 = .ok (.invokevirtual 121, 3) := by decide +kernel
theorem dX6_bids_26 : decode cX6_bids 26 = .ok (.ifCond .eq 18, 3) := by decide +kernel
theorem dX6_bids_29 : decode cX6_bids 29 = .ok (.aload_n 0, 1) := by decide +kernel
theorem dX6_bids_30 : decode cX6_bids 30 = .ok (.iload 4, 2) := by decide +kernel
theorem dX6_bids_32 : decode cX6_bids 32 = .ok (.invokevirtual 134, 3) := by decide +kernel
theorem dX6_bids_35 : decode cX6_bids 35 = .ok (.ifCond .eq 9, 3) := by decide +kernel
theorem dX6_bids_38 : decode cX6_bids 38 = .ok (.iload 5, 2) := by decide +kernel
theorem dX6_bids_40 : decode cX6_bids 40 = .ok (.iconst (-1), 1) := by decide +kernel
theorem dX6_bids_41 : decode cX6_bids 41 = .ok (.if_icmp .ge 10, 3) := by decide +kernel
theorem dX6_bids_44 : decode cX6_bids 44 = .ok (.aload_n 0, 1) := by decide +kernel
theorem dX6_bids_45 : decode cX6_bids 45 = .ok (.bipush (-10), 2) := by decide +kernel
theorem dX6_bids_47 : decode cX6_bids 47 = .ok (.invokevirtual 71, 3) := by decide +kernel
theorem dX6_bids_50 : decode cX6_bids 50 = .ok (.ireturn, 1) := by decide +kernel
theorem dX6_bids_51 : decode cX6_bids 51 = .ok (.iconst 0, 1) := by decide +kernel
theorem dX6_bids_52 : decode cX6_bids 52 = .ok (.istore 6, 2) := by decide +kernel
theorem dX6_bids_54 : decode cX6_bids 54 = .ok (.aload_n 0, 1) := by decide +kernel
theorem dX6_bids_55 : decode cX6_bids 55 = .ok (.getfield 7, 3) := by decide +kernel
theorem dX6_bids_58 : decode cX6_bids 58 = .ok (.iload_n 3, 1) := by decide +kernel
theorem dX6_bids_59 : decode cX6_bids 59 = .ok (.iload 4, 2) := by decide +kernel
theorem dX6_bids_61 : decode cX6_bids 61 = .ok (.invokestatic 114, 3) := by decide +kernel
theorem dX6_bids_64 : decode cX6_bids 64 = .ok (.istore 7, 2) := by decide +kernel
theorem dX6_bids_66 : decode cX6_bids 66 = .ok (.iconst 0, 1) := by decide +kernel
theorem dX6_bids_67 : decode cX6_bids 67 = .ok (.istore 8, 2) := by decide +kernel
theorem dX6_bids_69 : decode cX6_bids 69 = .ok (.iload 8, 2) := by decide +kernel
theorem dX6_bids_71 : decode cX6_bids 71 = .ok (.bipush 100, 2) := by decide +kernel
theorem dX6_bids_73 : decode cX6_bids 73 = .ok (.if_icmp .ge 40, 3) := by decide +kernel
theorem dX6_bids_76 : decode cX6_bids 76 = .ok (.iload 8, 2) := by decide +kernel
theorem dX6_bids_78 : decode cX6_bids 78 = .ok (.bipush 10, 2) := by decide +kernel
theorem dX6_bids_80 : decode cX6_bids 80 = .ok (.idiv, 1) := by decide +kernel
theorem dX6_bids_81 : decode cX6_bids 81 = .ok (.iload 8, 2) := by decide +kernel
theorem dX6_bids_83 : decode cX6_bids 83 = .ok (.bipush 10, 2) := by decide +kernel
theorem dX6_bids_85 : decode cX6_bids 85 = .ok (.irem, 1) := by decide +kernel
theorem dX6_bids_86 : decode cX6_bids 86 = .ok (.iload 7, 2) := by decide +kernel
theorem dX6_bids_88 : decode cX6_bids 88 = .ok (.invokestatic 195, 3) := by decide +kernel
theorem dX6_bids_91 : decode cX6_bids 91 = .ok (.ifCond .eq 16, 3) := by decide +kernel
theorem dX6_bids_94 : decode cX6_bids 94 = .ok (.iload 6, 2) := by decide +kernel
theorem dX6_bids_96 : decode cX6_bids 96 = .ok (.iload 5, 2) := by decide +kernel
theorem dX6_bids_98 : decode cX6_bids 98 = .ok (.if_icmp .ne 6, 3) := by decide +kernel
theorem dX6_bids_101 : decode cX6_bids 101 = .ok (.iload 8, 2) := by decide +kernel
theorem dX6_bids_103 : decode cX6_bids 103 = .ok (.ireturn, 1) := by decide +kernel
theorem dX6_bids_104 : decode cX6_bids 104 = .ok (.iinc 6 1, 3) := by decide +kernel
theorem dX6_bids_107 : decode cX6_bids 107 = .ok (.iinc 8 1, 3) := by decide +kernel
theorem dX6_bids_110 : decode cX6_bids 110 = .ok (.goto (-41), 3) := by decide +kernel
theorem dX6_bids_113 : decode cX6_bids 113 = .ok (.iload 5, 2) := by decide +kernel
theorem dX6_bids_115 : decode cX6_bids 115 = .ok (.iconst (-1), 1) := by decide +kernel
theorem dX6_bids_116 : decode cX6_bids 116 = .ok (.if_icmp .ne 8, 3) := by decide +kernel
theorem dX6_bids_119 : decode cX6_bids 119 = .ok (.iload 6, 2) := by decide +kernel
theorem dX6_bids_121 : decode cX6_bids 121 = .ok (.goto 5, 3) := by decide +kernel
theorem dX6_bids_124 : decode cX6_bids 124 = .ok (.bipush (-5), 2) := by decide +kernel
theorem dX6_bids_126 : decode cX6_bids 126 = .ok (.ireturn, 1) := by decide +kernel
theorem dX6_fraction_0 : decode cX6_fraction 0 = .ok (.lload_n 1, 1) := by decide +kernel
theorem dX6_fraction_1 : decode cX6_fraction 1 = .ok (.lstore 5, 2) := by decide +kernel
theorem dX6_fraction_3 : decode cX6_fraction 3 = .ok (.lload_n 3, 1) := by decide +kernel
theorem dX6_fraction_4 : decode cX6_fraction 4 = .ok (.lstore 7, 2) := by decide +kernel
theorem dX6_fraction_6 : decode cX6_fraction 6 = .ok (.lload 7, 2) := by decide +kernel
theorem dX6_fraction_8 : decode cX6_fraction 8 = .ok (.lconst 0, 1) := by decide +kernel
theorem dX6_fraction_9 : decode cX6_fraction 9 = .ok (.lcmp, 1) := by decide +kernel
theorem dX6_fraction_10 : decode cX6_fraction 10 = .ok (.ifCond .eq 21, 3) := by decide +kernel
theorem dX6_fraction_13 : decode cX6_fraction 13 = .ok (.lload 5, 2) := by decide +kernel
theorem dX6_fraction_15 : decode cX6_fraction 15 = .ok (.lload 7, 2) := by decide +kernel
theorem dX6_fraction_17 : decode cX6_fraction 17 = .ok (.lrem, 1) := by decide +kernel
theorem dX6_fraction_18 : decode cX6_fraction 18 = .ok (.lstore 9, 2) := by decide +kernel
theorem dX6_fraction_20 : decode cX6_fraction 20 = .ok (.lload 7, 2) := by decide +kernel
theorem dX6_fraction_22 : decode cX6_fraction 22 = .ok (.lstore 5, 2) := by decide +kernel
theorem dX6_fraction_24 : decode cX6_fraction 24 = .ok (.lload 9, 2) := by decide +kernel
theorem dX6_fraction_26 : decode cX6_fraction 26 = .ok (.lstore 7, 2) := by decide +kernel
theorem dX6_fraction_28 : decode cX6_fraction 28 = .ok (.goto (-22), 3) := by decide +kernel
theorem dX6_fraction_31 : decode cX6_fraction 31 = .ok (.aload_n 0, 1) := by decide +kernel
theorem dX6_fraction_32 : decode cX6_fraction 32 = .ok (.lload_n 1, 1) := by decide +kernel
theorem dX6_fraction_33 : decode cX6_fraction 33 = .ok (.lload 5, 2) := by decide +kernel
theorem dX6_fraction_35 : decode cX6_fraction 35 = .ok (.ldiv, 1) := by decide +kernel
theorem dX6_fraction_36 : decode cX6_fraction 36 = .ok (.putfield 199, 3) := by decide +kernel
theorem dX6_fraction_39 : decode cX6_fraction 39 = .ok (.aload_n 0, 1) := by decide +kernel
theorem dX6_fraction_40 : decode cX6_fraction 40 = .ok (.lload_n 3, 1) := by decide +kernel
theorem dX6_fraction_41 : decode cX6_fraction 41 = .ok (.lload 5, 2) := by decide +kernel
theorem dX6_fraction_43 : decode cX6_fraction 43 = .ok (.ldiv, 1) := by decide +kernel
theorem dX6_fraction_44 : decode cX6_fraction 44 = .ok (.putfield 23, 3) := by decide +kernel
theorem dX6_fraction_47 : decode cX6_fraction 47 = .ok (.return_, 1) := by decide +kernel
theorem dX6_redeemed_0 : decode cX6_redeemed 0 = .ok (.iload_n 1, 1) := by decide +kernel
theorem dX6_redeemed_1 : decode cX6_redeemed 1 = .ok (.i2l, 1) := by decide +kernel
theorem dX6_redeemed_2 : decode cX6_redeemed 2 = .ok (.lconst 0, 1) := by decide +kernel
theorem dX6_redeemed_3 : decode cX6_redeemed 3 = .ok (.ldc2_w 202, 3) := by decide +kernel
theorem dX6_redeemed_6 : decode cX6_redeemed 6 = .ok (.invokestatic 56, 3) := by decide +kernel
theorem dX6_redeemed_9 : decode cX6_redeemed 9 = .ok (.ifCond .ne 10, 3) := by decide +kernel
theorem dX6_redeemed_12 : decode cX6_redeemed 12 = .ok (.aload_n 0, 1) := by decide +kernel
theorem dX6_redeemed_13 : decode cX6_redeemed 13 = .ok (.bipush (-2), 2) := by decide +kernel
theorem dX6_redeemed_15 : decode cX6_redeemed 15 = .ok (.invokevirtual 71, 3) := by decide +kernel
theorem dX6_redeemed_18 : decode cX6_redeemed 18 = .ok (.ireturn, 1) := by decide +kernel
theorem dX6_redeemed_19 : decode cX6_redeemed 19 = .ok (.lconst 0, 1) := by decide +kernel
theorem dX6_redeemed_20 : decode cX6_redeemed 20 = .ok (.lstore_n 2, 1) := by decide +kernel
theorem dX6_redeemed_21 : decode cX6_redeemed 21 = .ok (.iconst 0, 1) := by decide +kernel
theorem dX6_redeemed_22 : decode cX6_redeemed 22 = .ok (.istore 4, 2) := by decide +kernel
theorem dX6_redeemed_24 : decode cX6_redeemed 24 = .ok (.iload 4, 2) := by decide +kernel
theorem dX6_redeemed_26 : decode cX6_redeemed 26 = .ok (.aload_n 0, 1) := by decide +kernel
theorem dX6_redeemed_27 : decode cX6_redeemed 27 = .ok (.invokevirtual 52, 3) := by decide +kernel
theorem dX6_redeemed_30 : decode cX6_redeemed 30 = .ok (.if_icmp .ge 43, 3) := by decide +kernel
theorem dX6_redeemed_33 : decode cX6_redeemed 33 = .ok (.lload_n 2, 1) := by decide +kernel
theorem dX6_redeemed_34 : decode cX6_redeemed 34 = .ok (.aload_n 0, 1) := by decide +kernel
theorem dX6_redeemed_35 : decode cX6_redeemed 35 = .ok (.getfield 7, 3) := by decide +kernel
theorem dX6_redeemed_38 : decode cX6_redeemed 38 = .ok (.iload 4, 2) := by decide +kernel
theorem dX6_redeemed_40 : decode cX6_redeemed 40 = .ok (.invokestatic 95, 3) := by decide +kernel
theorem dX6_redeemed_43 : decode cX6_redeemed 43 = .ok (.ifCond .eq 21, 3) := by decide +kernel
theorem dX6_redeemed_46 : decode cX6_redeemed 46 = .ok (.bipush 10, 2) := by decide +kernel
theorem dX6_redeemed_48 : decode cX6_redeemed 48 = .ok (.iload_n 1, 1) := by decide +kernel
theorem dX6_redeemed_49 : decode cX6_redeemed 49 = .ok (.isub, 1) := by decide +kernel
theorem dX6_redeemed_50 : decode cX6_redeemed 50 = .ok (.aload_n 0, 1) := by decide +kernel
theorem dX6_redeemed_51 : decode cX6_redeemed 51 = .ok (.getfield 7, 3) := by decide +kernel
theorem dX6_redeemed_54 : decode cX6_redeemed 54 = .ok (.iload 4, 2) := by decide +kernel
theorem dX6_redeemed_56 : decode cX6_redeemed 56 = .ok (.invokestatic 111, 3) := by decide +kernel
theorem dX6_redeemed_59 : decode cX6_redeemed 59 = .ok (.imul, 1) := by decide +kernel
theorem dX6_redeemed_60 : decode cX6_redeemed 60 = .ok (.i2l, 1) := by decide +kernel
theorem dX6_redeemed_61 : decode cX6_redeemed 61 = .ok (.goto 4, 3) := by decide +kernel
theorem dX6_redeemed_64 : decode cX6_redeemed 64 = .ok (.lconst 0, 1) := by decide +kernel
theorem dX6_redeemed_65 : decode cX6_redeemed 65 = .ok (.ladd, 1) := by decide +kernel
theorem dX6_redeemed_66 : decode cX6_redeemed 66 = .ok (.lstore_n 2, 1) := by decide +kernel
theorem dX6_redeemed_67 : decode cX6_redeemed 67 = .ok (.iinc 4 1, 3) := by decide +kernel
theorem dX6_redeemed_70 : decode cX6_redeemed 70 = .ok (.goto (-46), 3) := by decide +kernel
theorem dX6_redeemed_73 : decode cX6_redeemed 73 = .ok (.aload_n 0, 1) := by decide +kernel
theorem dX6_redeemed_74 : decode cX6_redeemed 74 = .ok (.lload_n 2, 1) := by decide +kernel
theorem dX6_redeemed_75 : decode cX6_redeemed 75 = .ok (.ldc2_w 202, 3) := by decide +kernel
theorem dX6_redeemed_78 : decode cX6_redeemed 78 = .ok (.invokevirtual 204, 3) := by decide +kernel
theorem dX6_redeemed_81 : decode cX6_redeemed 81 = .ok (.iconst 1, 1) := by decide +kernel
theorem dX6_redeemed_82 : decode cX6_redeemed 82 = .ok (.ireturn, 1) := by decide +kernel
theorem dX6_years_0 : decode cX6_years 0 = .ok (.iload_n 1, 1) := by decide +kernel
theorem dX6_years_1 : decode cX6_years 1 = .ok (.i2l, 1) := by decide +kernel
theorem dX6_years_2 : decode cX6_years 2 = .ok (.lconst 0, 1) := by decide +kernel
theorem dX6_years_3 : decode cX6_years 3 = .ok (.ldc2_w 208, 3) := by decide +kernel
theorem dX6_years_6 : decode cX6_years 6 = .ok (.invokestatic 56, 3) := by decide +kernel
theorem dX6_years_9 : decode cX6_years 9 = .ok (.ifCond .eq 15, 3) := by decide +kernel
theorem dX6_years_12 : decode cX6_years 12 = .ok (.iload_n 2, 1) := by decide +kernel
theorem dX6_years_13 : decode cX6_years 13 = .ok (.i2l, 1) := by decide +kernel
theorem dX6_years_14 : decode cX6_years 14 = .ok (.lconst 0, 1) := by decide +kernel
theorem dX6_years_15 : decode cX6_years 15 = .ok (.ldc2_w 152, 3) := by decide +kernel
theorem dX6_years_18 : decode cX6_years 18 = .ok (.invokestatic 56, 3) := by decide +kernel
theorem dX6_years_21 : decode cX6_years 21 = .ok (.ifCond .ne 10, 3) := by decide +kernel
theorem dX6_years_24 : decode cX6_years 24 = .ok (.aload_n 0, 1) := by decide +kernel
theorem dX6_years_25 : decode cX6_years 25 = .ok (.bipush (-2), 2) := by decide +kernel
theorem dX6_years_27 : decode cX6_years 27 = .ok (.invokevirtual 71, 3) := by decide +kernel
theorem dX6_years_30 : decode cX6_years 30 = .ok (.ireturn, 1) := by decide +kernel
theorem dX6_years_31 : decode cX6_years 31 = .ok (.iload_n 1, 1) := by decide +kernel
theorem dX6_years_32 : decode cX6_years 32 = .ok (.i2l, 1) := by decide +kernel
theorem dX6_years_33 : decode cX6_years 33 = .ok (.lstore_n 3, 1) := by decide +kernel
theorem dX6_years_34 : decode cX6_years 34 = .ok (.iconst 0, 1) := by decide +kernel
theorem dX6_years_35 : decode cX6_years 35 = .ok (.istore 5, 2) := by decide +kernel
theorem dX6_years_37 : decode cX6_years 37 = .ok (.iload 5, 2) := by decide +kernel
theorem dX6_years_39 : decode cX6_years 39 = .ok (.bipush 48, 2) := by decide +kernel
theorem dX6_years_41 : decode cX6_years 41 = .ok (.if_icmp .ge 23, 3) := by decide +kernel
theorem dX6_years_44 : decode cX6_years 44 = .ok (.aload_n 0, 1) := by decide +kernel
theorem dX6_years_45 : decode cX6_years 45 = .ok (.getfield 36, 3) := by decide +kernel
theorem dX6_years_48 : decode cX6_years 48 = .ok (.iload 5, 2) := by decide +kernel
theorem dX6_years_50 : decode cX6_years 50 = .ok (.aload_n 0, 1) := by decide +kernel
theorem dX6_years_51 : decode cX6_years 51 = .ok (.getfield 7, 3) := by decide +kernel
theorem dX6_years_54 : decode cX6_years 54 = .ok (.iload 5, 2) := by decide +kernel
theorem dX6_years_56 : decode cX6_years 56 = .ok (.iaload, 1) := by decide +kernel
theorem dX6_years_57 : decode cX6_years 57 = .ok (.iastore, 1) := by decide +kernel
theorem dX6_years_58 : decode cX6_years 58 = .ok (.iinc 5 1, 3) := by decide +kernel
theorem dX6_years_61 : decode cX6_years 61 = .ok (.goto (-24), 3) := by decide +kernel
theorem dX6_years_64 : decode cX6_years 64 = .ok (.iconst 0, 1) := by decide +kernel
theorem dX6_years_65 : decode cX6_years 65 = .ok (.istore 5, 2) := by decide +kernel
theorem dX6_years_67 : decode cX6_years 67 = .ok (.iload 5, 2) := by decide +kernel
theorem dX6_years_69 : decode cX6_years 69 = .ok (.iload_n 2, 1) := by decide +kernel
theorem dX6_years_70 : decode cX6_years 70 = .ok (.if_icmp .ge 95, 3) := by decide +kernel
theorem dX6_years_73 : decode cX6_years 73 = .ok (.lload_n 3, 1) := by decide +kernel
theorem dX6_years_74 : decode cX6_years 74 = .ok (.ldc2_w 210, 3) := by decide +kernel
theorem dX6_years_77 : decode cX6_years 77 = .ok (.lmul, 1) := by decide +kernel
theorem dX6_years_78 : decode cX6_years 78 = .ok (.ldc2_w 212, 3) := by decide +kernel
theorem dX6_years_81 : decode cX6_years 81 = .ok (.ladd, 1) := by decide +kernel
theorem dX6_years_82 : decode cX6_years 82 = .ok (.ldc2_w 214, 3) := by decide +kernel
theorem dX6_years_85 : decode cX6_years 85 = .ok (.lrem, 1) := by decide +kernel
theorem dX6_years_86 : decode cX6_years 86 = .ok (.lstore_n 3, 1) := by decide +kernel
theorem dX6_years_87 : decode cX6_years 87 = .ok (.lload_n 3, 1) := by decide +kernel
theorem dX6_years_88 : decode cX6_years 88 = .ok (.ldc2_w 216, 3) := by decide +kernel
theorem dX6_years_91 : decode cX6_years 91 = .ok (.ldiv, 1) := by decide +kernel
theorem dX6_years_92 : decode cX6_years 92 = .ok (.ldc2_w 218, 3) := by decide +kernel
theorem dX6_years_95 : decode cX6_years 95 = .ok (.lrem, 1) := by decide +kernel
theorem dX6_years_96 : decode cX6_years 96 = .ok (.l2i, 1) := by decide +kernel
theorem dX6_years_97 : decode cX6_years 97 = .ok (.istore 6, 2) := by decide +kernel
theorem dX6_years_99 : decode cX6_years 99 = .ok (.lload_n 3, 1) := by decide +kernel
theorem dX6_years_100 : decode cX6_years 100 = .ok (.ldc2_w 220, 3) := by decide +kernel
theorem dX6_years_103 : decode cX6_years 103 = .ok (.ldiv, 1) := by decide +kernel
theorem dX6_years_104 : decode cX6_years 104 = .ok (.ldc2_w 222, 3) := by decide +kernel
theorem dX6_years_107 : decode cX6_years 107 = .ok (.lrem, 1) := by decide +kernel
theorem dX6_years_108 : decode cX6_years 108 = .ok (.l2i, 1) := by decide +kernel
theorem dX6_years_109 : decode cX6_years 109 = .ok (.istore 7, 2) := by decide +kernel
theorem dX6_years_111 : decode cX6_years 111 = .ok (.aload_n 0, 1) := by decide +kernel
theorem dX6_years_112 : decode cX6_years 112 = .ok (.iload 6, 2) := by decide +kernel
theorem dX6_years_114 : decode cX6_years 114 = .ok (.invokevirtual 121, 3) := by decide +kernel
theorem dX6_years_117 : decode cX6_years 117 = .ok (.ifCond .eq 35, 3) := by decide +kernel
theorem dX6_years_120 : decode cX6_years 120 = .ok (.aload_n 0, 1) := by decide +kernel
theorem dX6_years_121 : decode cX6_years 121 = .ok (.getfield 36, 3) := by decide +kernel
theorem dX6_years_124 : decode cX6_years 124 = .ok (.iload 6, 2) := by decide +kernel
theorem dX6_years_126 : decode cX6_years 126 = .ok (.invokestatic 95, 3) := by decide +kernel
theorem dX6_years_129 : decode cX6_years 129 = .ok (.ifCond .eq 23, 3) := by decide +kernel
theorem dX6_years_132 : decode cX6_years 132 = .ok (.aload_n 0, 1) := by decide +kernel
theorem dX6_years_133 : decode cX6_years 133 = .ok (.iload 7, 2) := by decide +kernel
theorem dX6_years_135 : decode cX6_years 135 = .ok (.invokevirtual 134, 3) := by decide +kernel
theorem dX6_years_138 : decode cX6_years 138 = .ok (.ifCond .eq 14, 3) := by decide +kernel
theorem dX6_years_141 : decode cX6_years 141 = .ok (.aload_n 0, 1) := by decide +kernel
theorem dX6_years_142 : decode cX6_years 142 = .ok (.getfield 36, 3) := by decide +kernel
theorem dX6_years_145 : decode cX6_years 145 = .ok (.iload 6, 2) := by decide +kernel
theorem dX6_years_147 : decode cX6_years 147 = .ok (.iload 7, 2) := by decide +kernel
theorem dX6_years_149 : decode cX6_years 149 = .ok (.invokestatic 140, 3) := by decide +kernel
theorem dX6_years_152 : decode cX6_years 152 = .ok (.aload_n 0, 1) := by decide +kernel
theorem dX6_years_153 : decode cX6_years 153 = .ok (.getfield 36, 3) := by decide +kernel
theorem dX6_years_156 : decode cX6_years 156 = .ok (.invokestatic 99, 3) := by decide +kernel
theorem dX6_years_159 : decode cX6_years 159 = .ok (.iinc 5 1, 3) := by decide +kernel
theorem dX6_years_162 : decode cX6_years 162 = .ok (.goto (-95), 3) := by decide +kernel
theorem dX6_years_165 : decode cX6_years 165 = .ok (.aload_n 0, 1) := by decide +kernel
theorem dX6_years_166 : decode cX6_years 166 = .ok (.getfield 36, 3) := by decide +kernel
theorem dX6_years_169 : decode cX6_years 169 = .ok (.bipush 24, 2) := by decide +kernel
theorem dX6_years_171 : decode cX6_years 171 = .ok (.iaload, 1) := by decide +kernel
theorem dX6_years_172 : decode cX6_years 172 = .ok (.ireturn, 1) := by decide +kernel
theorem dX6_type_0 : decode cX6_type 0 = .ok (.iload_n 1, 1) := by decide +kernel
theorem dX6_type_1 : decode cX6_type 1 = .ok (.i2l, 1) := by decide +kernel
theorem dX6_type_2 : decode cX6_type 2 = .ok (.lconst 0, 1) := by decide +kernel
theorem dX6_type_3 : decode cX6_type 3 = .ok (.ldc2_w 224, 3) := by decide +kernel
theorem dX6_type_6 : decode cX6_type 6 = .ok (.invokestatic 56, 3) := by decide +kernel
theorem dX6_type_9 : decode cX6_type 9 = .ok (.ifCond .ne 10, 3) := by decide +kernel
theorem dX6_type_12 : decode cX6_type 12 = .ok (.aload_n 0, 1) := by decide +kernel
theorem dX6_type_13 : decode cX6_type 13 = .ok (.bipush (-2), 2) := by decide +kernel
theorem dX6_type_15 : decode cX6_type 15 = .ok (.invokevirtual 71, 3) := by decide +kernel
theorem dX6_type_18 : decode cX6_type 18 = .ok (.ireturn, 1) := by decide +kernel
theorem dX6_type_19 : decode cX6_type 19 = .ok (.aload_n 0, 1) := by decide +kernel
theorem dX6_type_20 : decode cX6_type 20 = .ok (.getfield 226, 3) := by decide +kernel
theorem dX6_type_23 : decode cX6_type 23 = .ok (.sipush 150, 3) := by decide +kernel
theorem dX6_type_26 : decode cX6_type 26 = .ok (.if_icmp .ne 8, 3) := by decide +kernel
theorem dX6_type_29 : decode cX6_type 29 = .ok (.aload_n 0, 1) := by decide +kernel
theorem dX6_type_30 : decode cX6_type 30 = .ok (.invokevirtual 75, 3) := by decide +kernel
theorem dX6_type_33 : decode cX6_type 33 = .ok (.ireturn, 1) := by decide +kernel
theorem dX6_type_34 : decode cX6_type 34 = .ok (.aload_n 0, 1) := by decide +kernel
theorem dX6_type_35 : decode cX6_type 35 = .ok (.getfield 39, 3) := by decide +kernel
theorem dX6_type_38 : decode cX6_type 38 = .ok (.aload_n 0, 1) := by decide +kernel
theorem dX6_type_39 : decode cX6_type 39 = .ok (.getfield 226, 3) := by decide +kernel
theorem dX6_type_42 : decode cX6_type 42 = .ok (.iload_n 1, 1) := by decide +kernel
theorem dX6_type_43 : decode cX6_type 43 = .ok (.iastore, 1) := by decide +kernel
theorem dX6_type_44 : decode cX6_type 44 = .ok (.aload_n 0, 1) := by decide +kernel
theorem dX6_type_45 : decode cX6_type 45 = .ok (.dup, 1) := by decide +kernel
theorem dX6_type_46 : decode cX6_type 46 = .ok (.getfield 226, 3) := by decide +kernel
theorem dX6_type_49 : decode cX6_type 49 = .ok (.iconst 1, 1) := by decide +kernel
theorem dX6_type_50 : decode cX6_type 50 = .ok (.iadd, 1) := by decide +kernel
theorem dX6_type_51 : decode cX6_type 51 = .ok (.putfield 226, 3) := by decide +kernel
theorem dX6_type_54 : decode cX6_type 54 = .ok (.aload_n 0, 1) := by decide +kernel
theorem dX6_type_55 : decode cX6_type 55 = .ok (.getfield 226, 3) := by decide +kernel
theorem dX6_type_58 : decode cX6_type 58 = .ok (.ireturn, 1) := by decide +kernel
theorem dX6_clear_0 : decode cX6_clear 0 = .ok (.aload_n 0, 1) := by decide +kernel
theorem dX6_clear_1 : decode cX6_clear 1 = .ok (.getfield 226, 3) := by decide +kernel
theorem dX6_clear_4 : decode cX6_clear 4 = .ok (.istore_n 1, 1) := by decide +kernel
theorem dX6_clear_5 : decode cX6_clear 5 = .ok (.aload_n 0, 1) := by decide +kernel
theorem dX6_clear_6 : decode cX6_clear 6 = .ok (.iconst 0, 1) := by decide +kernel
theorem dX6_clear_7 : decode cX6_clear 7 = .ok (.putfield 226, 3) := by decide +kernel
theorem dX6_clear_10 : decode cX6_clear 10 = .ok (.iload_n 1, 1) := by decide +kernel
theorem dX6_clear_11 : decode cX6_clear 11 = .ok (.ireturn, 1) := by decide +kernel
theorem dX6_isSmall_0 : decode cX6_isSmall 0 = .ok (.iload_n 0, 1) := by decide +kernel
theorem dX6_isSmall_1 : decode cX6_isSmall 1 = .ok (.i2l, 1) := by decide +kernel
theorem dX6_isSmall_2 : decode cX6_isSmall 2 = .ok (.ldc2_w 230, 3) := by decide +kernel
theorem dX6_isSmall_5 : decode cX6_isSmall 5 = .ok (.ldc2_w 232, 3) := by decide +kernel
theorem dX6_isSmall_8 : decode cX6_isSmall 8 = .ok (.invokestatic 56, 3) := by decide +kernel
theorem dX6_isSmall_11 : decode cX6_isSmall 11 = .ok (.ireturn, 1) := by decide +kernel
theorem dX6_isFigure_0 : decode cX6_isFigure 0 = .ok (.iload_n 0, 1) := by decide +kernel
theorem dX6_isFigure_1 : decode cX6_isFigure 1 = .ok (.i2l, 1) := by decide +kernel
theorem dX6_isFigure_2 : decode cX6_isFigure 2 = .ok (.ldc2_w 234, 3) := by decide +kernel
theorem dX6_isFigure_5 : decode cX6_isFigure 5 = .ok (.ldc2_w 236, 3) := by decide +kernel
theorem dX6_isFigure_8 : decode cX6_isFigure 8 = .ok (.invokestatic 56, 3) := by decide +kernel
theorem dX6_isFigure_11 : decode cX6_isFigure 11 = .ok (.ireturn, 1) := by decide +kernel
theorem dX6_lookAt_0 : decode cX6_lookAt 0 = .ok (.aload_n 0, 1) := by decide +kernel
theorem dX6_lookAt_1 : decode cX6_lookAt 1 = .ok (.iload_n 1, 1) := by decide +kernel
theorem dX6_lookAt_2 : decode cX6_lookAt 2 = .ok (.putfield 238, 3) := by decide +kernel
theorem dX6_lookAt_5 : decode cX6_lookAt 5 = .ok (.aload_n 0, 1) := by decide +kernel
theorem dX6_lookAt_6 : decode cX6_lookAt 6 = .ok (.getfield 238, 3) := by decide +kernel
theorem dX6_lookAt_9 : decode cX6_lookAt 9 = .ok (.aload_n 0, 1) := by decide +kernel
theorem dX6_lookAt_10 : decode cX6_lookAt 10 = .ok (.getfield 226, 3) := by decide +kernel
theorem dX6_lookAt_13 : decode cX6_lookAt 13 = .ok (.if_icmp .ge 30, 3) := by decide +kernel
theorem dX6_lookAt_16 : decode cX6_lookAt 16 = .ok (.aload_n 0, 1) := by decide +kernel
theorem dX6_lookAt_17 : decode cX6_lookAt 17 = .ok (.getfield 39, 3) := by decide +kernel
theorem dX6_lookAt_20 : decode cX6_lookAt 20 = .ok (.aload_n 0, 1) := by decide +kernel
theorem dX6_lookAt_21 : decode cX6_lookAt 21 = .ok (.getfield 238, 3) := by decide +kernel
theorem dX6_lookAt_24 : decode cX6_lookAt 24 = .ok (.iaload, 1) := by decide +kernel
theorem dX6_lookAt_25 : decode cX6_lookAt 25 = .ok (.bipush 32, 2) := by decide +kernel
theorem dX6_lookAt_27 : decode cX6_lookAt 27 = .ok (.if_icmp .ne 16, 3) := by decide +kernel
theorem dX6_lookAt_30 : decode cX6_lookAt 30 = .ok (.aload_n 0, 1) := by decide +kernel
theorem dX6_lookAt_31 : decode cX6_lookAt 31 = .ok (.dup, 1) := by decide +kernel
theorem dX6_lookAt_32 : decode cX6_lookAt 32 = .ok (.getfield 238, 3) := by decide +kernel
theorem dX6_lookAt_35 : decode cX6_lookAt 35 = .ok (.iconst 1, 1) := by decide +kernel
theorem dX6_lookAt_36 : decode cX6_lookAt 36 = .ok (.iadd, 1) := by decide +kernel
theorem dX6_lookAt_37 : decode cX6_lookAt 37 = .ok (.putfield 238, 3) := by decide +kernel
theorem dX6_lookAt_40 : decode cX6_lookAt 40 = .ok (.goto (-35), 3) := by decide +kernel
theorem dX6_lookAt_43 : decode cX6_lookAt 43 = .ok (.aload_n 0, 1) := by decide +kernel
theorem dX6_lookAt_44 : decode cX6_lookAt 44 = .ok (.iconst 0, 1) := by decide +kernel
theorem dX6_lookAt_45 : decode cX6_lookAt 45 = .ok (.putfield 241, 3) := by decide +kernel
theorem dX6_lookAt_48 : decode cX6_lookAt 48 = .ok (.aload_n 0, 1) := by decide +kernel
theorem dX6_lookAt_49 : decode cX6_lookAt 49 = .ok (.iconst 0, 1) := by decide +kernel
theorem dX6_lookAt_50 : decode cX6_lookAt 50 = .ok (.putfield 244, 3) := by decide +kernel
theorem dX6_lookAt_53 : decode cX6_lookAt 53 = .ok (.aload_n 0, 1) := by decide +kernel
theorem dX6_lookAt_54 : decode cX6_lookAt 54 = .ok (.iconst 0, 1) := by decide +kernel
theorem dX6_lookAt_55 : decode cX6_lookAt 55 = .ok (.putfield 247, 3) := by decide +kernel
theorem dX6_lookAt_58 : decode cX6_lookAt 58 = .ok (.aload_n 0, 1) := by decide +kernel
theorem dX6_lookAt_59 : decode cX6_lookAt 59 = .ok (.getfield 238, 3) := by decide +kernel
theorem dX6_lookAt_62 : decode cX6_lookAt 62 = .ok (.aload_n 0, 1) := by decide +kernel
theorem dX6_lookAt_63 : decode cX6_lookAt 63 = .ok (.getfield 226, 3) := by decide +kernel
theorem dX6_lookAt_66 : decode cX6_lookAt 66 = .ok (.if_icmp .ne 4, 3) := by decide +kernel
theorem dX6_lookAt_69 : decode cX6_lookAt 69 = .ok (.return_, 1) := by decide +kernel
theorem dX6_lookAt_70 : decode cX6_lookAt 70 = .ok (.aload_n 0, 1) := by decide +kernel
theorem dX6_lookAt_71 : decode cX6_lookAt 71 = .ok (.getfield 39, 3) := by decide +kernel
theorem dX6_lookAt_74 : decode cX6_lookAt 74 = .ok (.aload_n 0, 1) := by decide +kernel
theorem dX6_lookAt_75 : decode cX6_lookAt 75 = .ok (.getfield 238, 3) := by decide +kernel
theorem dX6_lookAt_78 : decode cX6_lookAt 78 = .ok (.iaload, 1) := by decide +kernel
theorem dX6_lookAt_79 : decode cX6_lookAt 79 = .ok (.istore_n 2, 1) := by decide +kernel
theorem dX6_lookAt_80 : decode cX6_lookAt 80 = .ok (.aload_n 0, 1) := by decide +kernel
theorem dX6_lookAt_81 : decode cX6_lookAt 81 = .ok (.iload_n 2, 1) := by decide +kernel
theorem dX6_lookAt_82 : decode cX6_lookAt 82 = .ok (.invokestatic 250, 3) := by decide +kernel
theorem dX6_lookAt_85 : decode cX6_lookAt 85 = .ok (.ifCond .eq 7, 3) := by decide +kernel
theorem dX6_lookAt_88 : decode cX6_lookAt 88 = .ok (.iconst 1, 1) := by decide +kernel
theorem dX6_lookAt_89 : decode cX6_lookAt 89 = .ok (.goto 25, 3) := by decide +kernel
theorem dX6_lookAt_92 : decode cX6_lookAt 92 = .ok (.iload_n 2, 1) := by decide +kernel
theorem dX6_lookAt_93 : decode cX6_lookAt 93 = .ok (.invokestatic 253, 3) := by decide +kernel
theorem dX6_lookAt_96 : decode cX6_lookAt 96 = .ok (.ifCond .eq 7, 3) := by decide +kernel
theorem dX6_lookAt_99 : decode cX6_lookAt 99 = .ok (.iconst 2, 1) := by decide +kernel
theorem dX6_lookAt_100 : decode cX6_lookAt 100 = .ok (.goto 14, 3) := by decide +kernel
theorem dX6_lookAt_103 : decode cX6_lookAt 103 = .ok (.iload_n 2, 1) := by decide +kernel
theorem dX6_lookAt_104 : decode cX6_lookAt 104 = .ok (.bipush 59, 2) := by decide +kernel
theorem dX6_lookAt_106 : decode cX6_lookAt 106 = .ok (.if_icmp .ne 7, 3) := by decide +kernel
theorem dX6_lookAt_109 : decode cX6_lookAt 109 = .ok (.iconst 3, 1) := by decide +kernel
theorem dX6_lookAt_110 : decode cX6_lookAt 110 = .ok (.goto 4, 3) := by decide +kernel
theorem dX6_lookAt_113 : decode cX6_lookAt 113 = .ok (.iconst 4, 1) := by decide +kernel
theorem dX6_lookAt_114 : decode cX6_lookAt 114 = .ok (.putfield 244, 3) := by decide +kernel
theorem dX6_lookAt_117 : decode cX6_lookAt 117 = .ok (.aload_n 0, 1) := by decide +kernel
theorem dX6_lookAt_118 : decode cX6_lookAt 118 = .ok (.iconst 1, 1) := by decide +kernel
theorem dX6_lookAt_119 : decode cX6_lookAt 119 = .ok (.putfield 241, 3) := by decide +kernel
theorem dX6_lookAt_122 : decode cX6_lookAt 122 = .ok (.aload_n 0, 1) := by decide +kernel
theorem dX6_lookAt_123 : decode cX6_lookAt 123 = .ok (.getfield 244, 3) := by decide +kernel
theorem dX6_lookAt_126 : decode cX6_lookAt 126 = .ok (.iconst 3, 1) := by decide +kernel
theorem dX6_lookAt_127 : decode cX6_lookAt 127 = .ok (.if_icmp .ge 7, 3) := by decide +kernel
theorem dX6_lookAt_130 : decode cX6_lookAt 130 = .ok (.iconst 1, 1) := by decide +kernel
theorem dX6_lookAt_131 : decode cX6_lookAt 131 = .ok (.goto 4, 3) := by decide +kernel
theorem dX6_lookAt_134 : decode cX6_lookAt 134 = .ok (.iconst 0, 1) := by decide +kernel
theorem dX6_lookAt_135 : decode cX6_lookAt 135 = .ok (.istore_n 3, 1) := by decide +kernel
theorem dX6_lookAt_136 : decode cX6_lookAt 136 = .ok (.iload_n 3, 1) := by decide +kernel
theorem dX6_lookAt_137 : decode cX6_lookAt 137 = .ok (.ifCond .eq 78, 3) := by decide +kernel
theorem dX6_lookAt_140 : decode cX6_lookAt 140 = .ok (.aload_n 0, 1) := by decide +kernel
theorem dX6_lookAt_141 : decode cX6_lookAt 141 = .ok (.getfield 238, 3) := by decide +kernel
theorem dX6_lookAt_144 : decode cX6_lookAt 144 = .ok (.aload_n 0, 1) := by decide +kernel
theorem dX6_lookAt_145 : decode cX6_lookAt 145 = .ok (.getfield 241, 3) := by decide +kernel
theorem dX6_lookAt_148 : decode cX6_lookAt 148 = .ok (.iadd, 1) := by decide +kernel
theorem dX6_lookAt_149 : decode cX6_lookAt 149 = .ok (.aload_n 0, 1) := by decide +kernel
theorem dX6_lookAt_150 : decode cX6_lookAt 150 = .ok (.getfield 226, 3) := by decide +kernel
theorem dX6_lookAt_153 : decode cX6_lookAt 153 = .ok (.if_icmp .ge 62, 3) := by decide +kernel
theorem dX6_lookAt_156 : decode cX6_lookAt 156 = .ok (.aload_n 0, 1) := by decide +kernel
theorem dX6_lookAt_157 : decode cX6_lookAt 157 = .ok (.getfield 39, 3) := by decide +kernel
theorem dX6_lookAt_160 : decode cX6_lookAt 160 = .ok (.aload_n 0, 1) := by decide +kernel
theorem dX6_lookAt_161 : decode cX6_lookAt 161 = .ok (.getfield 238, 3) := by decide +kernel
theorem dX6_lookAt_164 : decode cX6_lookAt 164 = .ok (.aload_n 0, 1) := by decide +kernel
theorem dX6_lookAt_165 : decode cX6_lookAt 165 = .ok (.getfield 241, 3) := by decide +kernel
theorem dX6_lookAt_168 : decode cX6_lookAt 168 = .ok (.iadd, 1) := by decide +kernel
theorem dX6_lookAt_169 : decode cX6_lookAt 169 = .ok (.iaload, 1) := by decide +kernel
theorem dX6_lookAt_170 : decode cX6_lookAt 170 = .ok (.istore 4, 2) := by decide +kernel
theorem dX6_lookAt_172 : decode cX6_lookAt 172 = .ok (.aload_n 0, 1) := by decide +kernel
theorem dX6_lookAt_173 : decode cX6_lookAt 173 = .ok (.getfield 244, 3) := by decide +kernel
theorem dX6_lookAt_176 : decode cX6_lookAt 176 = .ok (.iconst 1, 1) := by decide +kernel
theorem dX6_lookAt_177 : decode cX6_lookAt 177 = .ok (.if_icmp .ne 11, 3) := by decide +kernel
theorem dX6_lookAt_180 : decode cX6_lookAt 180 = .ok (.iload 4, 2) := by decide +kernel
theorem dX6_lookAt_182 : decode cX6_lookAt 182 = .ok (.invokestatic 250, 3) := by decide +kernel
theorem dX6_lookAt_185 : decode cX6_lookAt 185 = .ok (.goto 8, 3) := by decide +kernel
theorem dX6_lookAt_188 : decode cX6_lookAt 188 = .ok (.iload 4, 2) := by decide +kernel
theorem dX6_lookAt_190 : decode cX6_lookAt 190 = .ok (.invokestatic 253, 3) := by decide +kernel
theorem dX6_lookAt_193 : decode cX6_lookAt 193 = .ok (.istore_n 3, 1) := by decide +kernel
theorem dX6_lookAt_194 : decode cX6_lookAt 194 = .ok (.aload_n 0, 1) := by decide +kernel
theorem dX6_lookAt_195 : decode cX6_lookAt 195 = .ok (.dup, 1) := by decide +kernel
theorem dX6_lookAt_196 : decode cX6_lookAt 196 = .ok (.getfield 241, 3) := by decide +kernel
theorem dX6_lookAt_199 : decode cX6_lookAt 199 = .ok (.iload_n 3, 1) := by decide +kernel
theorem dX6_lookAt_200 : decode cX6_lookAt 200 = .ok (.ifCond .eq 7, 3) := by decide +kernel
theorem dX6_lookAt_203 : decode cX6_lookAt 203 = .ok (.iconst 1, 1) := by decide +kernel
theorem dX6_lookAt_204 : decode cX6_lookAt 204 = .ok (.goto 4, 3) := by decide +kernel
theorem dX6_lookAt_207 : decode cX6_lookAt 207 = .ok (.iconst 0, 1) := by decide +kernel
theorem dX6_lookAt_208 : decode cX6_lookAt 208 = .ok (.iadd, 1) := by decide +kernel
theorem dX6_lookAt_209 : decode cX6_lookAt 209 = .ok (.putfield 241, 3) := by decide +kernel
theorem dX6_lookAt_212 : decode cX6_lookAt 212 = .ok (.goto (-76), 3) := by decide +kernel
theorem dX6_lookAt_215 : decode cX6_lookAt 215 = .ok (.iconst 0, 1) := by decide +kernel
theorem dX6_lookAt_216 : decode cX6_lookAt 216 = .ok (.istore 4, 2) := by decide +kernel
theorem dX6_lookAt_218 : decode cX6_lookAt 218 = .ok (.iload 4, 2) := by decide +kernel
theorem dX6_lookAt_220 : decode cX6_lookAt 220 = .ok (.aload_n 0, 1) := by decide +kernel
theorem dX6_lookAt_221 : decode cX6_lookAt 221 = .ok (.getfield 241, 3) := by decide +kernel
theorem dX6_lookAt_224 : decode cX6_lookAt 224 = .ok (.if_icmp .ge 50, 3) := by decide +kernel
theorem dX6_lookAt_227 : decode cX6_lookAt 227 = .ok (.iload 4, 2) := by decide +kernel
theorem dX6_lookAt_229 : decode cX6_lookAt 229 = .ok (.iconst 2, 1) := by decide +kernel
theorem dX6_lookAt_230 : decode cX6_lookAt 230 = .ok (.if_icmp .ge 44, 3) := by decide +kernel
theorem dX6_lookAt_233 : decode cX6_lookAt 233 = .ok (.aload_n 0, 1) := by decide +kernel
theorem dX6_lookAt_234 : decode cX6_lookAt 234 = .ok (.getfield 244, 3) := by decide +kernel
theorem dX6_lookAt_237 : decode cX6_lookAt 237 = .ok (.iconst 2, 1) := by decide +kernel
theorem dX6_lookAt_238 : decode cX6_lookAt 238 = .ok (.if_icmp .ne 36, 3) := by decide +kernel
theorem dX6_lookAt_241 : decode cX6_lookAt 241 = .ok (.aload_n 0, 1) := by decide +kernel
theorem dX6_lookAt_242 : decode cX6_lookAt 242 = .ok (.bipush 10, 2) := by decide +kernel
theorem dX6_lookAt_244 : decode cX6_lookAt 244 = .ok (.aload_n 0, 1) := by decide +kernel
theorem dX6_lookAt_245 : decode cX6_lookAt 245 = .ok (.getfield 247, 3) := by decide +kernel
theorem dX6_lookAt_248 : decode cX6_lookAt 248 = .ok (.imul, 1) := by decide +kernel
theorem dX6_lookAt_249 : decode cX6_lookAt 249 = .ok (.aload_n 0, 1) := by decide +kernel
theorem dX6_lookAt_250 : decode cX6_lookAt 250 = .ok (.getfield 39, 3) := by decide +kernel
theorem dX6_lookAt_253 : decode cX6_lookAt 253 = .ok (.aload_n 0, 1) := by decide +kernel
theorem dX6_lookAt_254 : decode cX6_lookAt 254 = .ok (.getfield 238, 3) := by decide +kernel
theorem dX6_lookAt_257 : decode cX6_lookAt 257 = .ok (.iload 4, 2) := by decide +kernel
theorem dX6_lookAt_259 : decode cX6_lookAt 259 = .ok (.iadd, 1) := by decide +kernel
theorem dX6_lookAt_260 : decode cX6_lookAt 260 = .ok (.iaload, 1) := by decide +kernel
theorem dX6_lookAt_261 : decode cX6_lookAt 261 = .ok (.iadd, 1) := by decide +kernel
theorem dX6_lookAt_262 : decode cX6_lookAt 262 = .ok (.bipush 48, 2) := by decide +kernel
theorem dX6_lookAt_264 : decode cX6_lookAt 264 = .ok (.isub, 1) := by decide +kernel
theorem dX6_lookAt_265 : decode cX6_lookAt 265 = .ok (.putfield 247, 3) := by decide +kernel
theorem dX6_lookAt_268 : decode cX6_lookAt 268 = .ok (.iinc 4 1, 3) := by decide +kernel
theorem dX6_lookAt_271 : decode cX6_lookAt 271 = .ok (.goto (-53), 3) := by decide +kernel
theorem dX6_lookAt_274 : decode cX6_lookAt 274 = .ok (.aload_n 0, 1) := by decide +kernel
theorem dX6_lookAt_275 : decode cX6_lookAt 275 = .ok (.aload_n 0, 1) := by decide +kernel
theorem dX6_lookAt_276 : decode cX6_lookAt 276 = .ok (.getfield 244, 3) := by decide +kernel
theorem dX6_lookAt_279 : decode cX6_lookAt 279 = .ok (.iconst 2, 1) := by decide +kernel
theorem dX6_lookAt_280 : decode cX6_lookAt 280 = .ok (.if_icmp .ne 15, 3) := by decide +kernel
theorem dX6_lookAt_283 : decode cX6_lookAt 283 = .ok (.aload_n 0, 1) := by decide +kernel
theorem dX6_lookAt_284 : decode cX6_lookAt 284 = .ok (.getfield 241, 3) := by decide +kernel
theorem dX6_lookAt_287 : decode cX6_lookAt 287 = .ok (.iconst 2, 1) := by decide +kernel
theorem dX6_lookAt_288 : decode cX6_lookAt 288 = .ok (.if_icmp .le 7, 3) := by decide +kernel
theorem dX6_lookAt_291 : decode cX6_lookAt 291 = .ok (.iconst 4, 1) := by decide +kernel
theorem dX6_lookAt_292 : decode cX6_lookAt 292 = .ok (.goto 7, 3) := by decide +kernel
theorem dX6_lookAt_295 : decode cX6_lookAt 295 = .ok (.aload_n 0, 1) := by decide +kernel
theorem dX6_lookAt_296 : decode cX6_lookAt 296 = .ok (.getfield 244, 3) := by decide +kernel
theorem dX6_lookAt_299 : decode cX6_lookAt 299 = .ok (.putfield 244, 3) := by decide +kernel
theorem dX6_lookAt_302 : decode cX6_lookAt 302 = .ok (.return_, 1) := by decide +kernel
theorem dX6_goBehind_0 : decode cX6_goBehind 0 = .ok (.aload_n 0, 1) := by decide +kernel
theorem dX6_goBehind_1 : decode cX6_goBehind 1 = .ok (.aload_n 0, 1) := by decide +kernel
theorem dX6_goBehind_2 : decode cX6_goBehind 2 = .ok (.getfield 238, 3) := by decide +kernel
theorem dX6_goBehind_5 : decode cX6_goBehind 5 = .ok (.aload_n 0, 1) := by decide +kernel
theorem dX6_goBehind_6 : decode cX6_goBehind 6 = .ok (.getfield 241, 3) := by decide +kernel
theorem dX6_goBehind_9 : decode cX6_goBehind 9 = .ok (.iadd, 1) := by decide +kernel
theorem dX6_goBehind_10 : decode cX6_goBehind 10 = .ok (.invokevirtual 256, 3) := by decide +kernel
theorem dX6_goBehind_13 : decode cX6_goBehind 13 = .ok (.return_, 1) := by decide +kernel
theorem dX6_spells_0 : decode cX6_spells 0 = .ok (.aload_n 0, 1) := by decide +kernel
theorem dX6_spells_1 : decode cX6_spells 1 = .ok (.getfield 244, 3) := by decide +kernel
theorem dX6_spells_4 : decode cX6_spells 4 = .ok (.iconst 1, 1) := by decide +kernel
theorem dX6_spells_5 : decode cX6_spells 5 = .ok (.if_icmp .ne 15, 3) := by decide +kernel
theorem dX6_spells_8 : decode cX6_spells 8 = .ok (.aload_n 0, 1) := by decide +kernel
theorem dX6_spells_9 : decode cX6_spells 9 = .ok (.getfield 241, 3) := by decide +kernel
theorem dX6_spells_12 : decode cX6_spells 12 = .ok (.iload_n 1, 1) := by decide +kernel
theorem dX6_spells_13 : decode cX6_spells 13 = .ok (.if_icmp .ne 7, 3) := by decide +kernel
theorem dX6_spells_16 : decode cX6_spells 16 = .ok (.iconst 1, 1) := by decide +kernel
theorem dX6_spells_17 : decode cX6_spells 17 = .ok (.goto 4, 3) := by decide +kernel
theorem dX6_spells_20 : decode cX6_spells 20 = .ok (.iconst 0, 1) := by decide +kernel
theorem dX6_spells_21 : decode cX6_spells 21 = .ok (.istore 8, 2) := by decide +kernel
theorem dX6_spells_23 : decode cX6_spells 23 = .ok (.iconst 0, 1) := by decide +kernel
theorem dX6_spells_24 : decode cX6_spells 24 = .ok (.istore 9, 2) := by decide +kernel
theorem dX6_spells_26 : decode cX6_spells 26 = .ok (.iload 9, 2) := by decide +kernel
theorem dX6_spells_28 : decode cX6_spells 28 = .ok (.iload_n 1, 1) := by decide +kernel
theorem dX6_spells_29 : decode cX6_spells 29 = .ok (.if_icmp .ge 90, 3) := by decide +kernel
theorem dX6_spells_32 : decode cX6_spells 32 = .ok (.iload 8, 2) := by decide +kernel
theorem dX6_spells_34 : decode cX6_spells 34 = .ok (.ifCond .eq 85, 3) := by decide +kernel
theorem dX6_spells_37 : decode cX6_spells 37 = .ok (.aload_n 0, 1) := by decide +kernel
theorem dX6_spells_38 : decode cX6_spells 38 = .ok (.getfield 39, 3) := by decide +kernel
theorem dX6_spells_41 : decode cX6_spells 41 = .ok (.aload_n 0, 1) := by decide +kernel
theorem dX6_spells_42 : decode cX6_spells 42 = .ok (.getfield 238, 3) := by decide +kernel
theorem dX6_spells_45 : decode cX6_spells 45 = .ok (.iload 9, 2) := by decide +kernel
theorem dX6_spells_47 : decode cX6_spells 47 = .ok (.iadd, 1) := by decide +kernel
theorem dX6_spells_48 : decode cX6_spells 48 = .ok (.iaload, 1) := by decide +kernel
theorem dX6_spells_49 : decode cX6_spells 49 = .ok (.iload 9, 2) := by decide +kernel
theorem dX6_spells_51 : decode cX6_spells 51 = .ok (.ifCond .ne 7, 3) := by decide +kernel
theorem dX6_spells_54 : decode cX6_spells 54 = .ok (.iload_n 2, 1) := by decide +kernel
theorem dX6_spells_55 : decode cX6_spells 55 = .ok (.goto 48, 3) := by decide +kernel
theorem dX6_spells_58 : decode cX6_spells 58 = .ok (.iload 9, 2) := by decide +kernel
theorem dX6_spells_60 : decode cX6_spells 60 = .ok (.iconst 1, 1) := by decide +kernel
theorem dX6_spells_61 : decode cX6_spells 61 = .ok (.if_icmp .ne 7, 3) := by decide +kernel
theorem dX6_spells_64 : decode cX6_spells 64 = .ok (.iload_n 3, 1) := by decide +kernel
theorem dX6_spells_65 : decode cX6_spells 65 = .ok (.goto 38, 3) := by decide +kernel
theorem dX6_spells_68 : decode cX6_spells 68 = .ok (.iload 9, 2) := by decide +kernel
theorem dX6_spells_70 : decode cX6_spells 70 = .ok (.iconst 2, 1) := by decide +kernel
theorem dX6_spells_71 : decode cX6_spells 71 = .ok (.if_icmp .ne 8, 3) := by decide +kernel
theorem dX6_spells_74 : decode cX6_spells 74 = .ok (.iload 4, 2) := by decide +kernel
theorem dX6_spells_76 : decode cX6_spells 76 = .ok (.goto 27, 3) := by decide +kernel
theorem dX6_spells_79 : decode cX6_spells 79 = .ok (.iload 9, 2) := by decide +kernel
theorem dX6_spells_81 : decode cX6_spells 81 = .ok (.iconst 3, 1) := by decide +kernel
theorem dX6_spells_82 : decode cX6_spells 82 = .ok (.if_icmp .ne 8, 3) := by decide +kernel
theorem dX6_spells_85 : decode cX6_spells 85 = .ok (.iload 5, 2) := by decide +kernel
theorem dX6_spells_87 : decode cX6_spells 87 = .ok (.goto 16, 3) := by decide +kernel
theorem dX6_spells_90 : decode cX6_spells 90 = .ok (.iload 9, 2) := by decide +kernel
theorem dX6_spells_92 : decode cX6_spells 92 = .ok (.iconst 4, 1) := by decide +kernel
theorem dX6_spells_93 : decode cX6_spells 93 = .ok (.if_icmp .ne 8, 3) := by decide +kernel
theorem dX6_spells_96 : decode cX6_spells 96 = .ok (.iload 6, 2) := by decide +kernel
theorem dX6_spells_98 : decode cX6_spells 98 = .ok (.goto 5, 3) := by decide +kernel
theorem dX6_spells_101 : decode cX6_spells 101 = .ok (.iload 7, 2) := by decide +kernel
theorem dX6_spells_103 : decode cX6_spells 103 = .ok (.if_icmp .ne 7, 3) := by decide +kernel
theorem dX6_spells_106 : decode cX6_spells 106 = .ok (.iconst 1, 1) := by decide +kernel
theorem dX6_spells_107 : decode cX6_spells 107 = .ok (.goto 4, 3) := by decide +kernel
theorem dX6_spells_110 : decode cX6_spells 110 = .ok (.iconst 0, 1) := by decide +kernel
theorem dX6_spells_111 : decode cX6_spells 111 = .ok (.istore 8, 2) := by decide +kernel
theorem dX6_spells_113 : decode cX6_spells 113 = .ok (.iinc 9 1, 3) := by decide +kernel
theorem dX6_spells_116 : decode cX6_spells 116 = .ok (.goto (-90), 3) := by decide +kernel
theorem dX6_spells_119 : decode cX6_spells 119 = .ok (.iload 8, 2) := by decide +kernel
theorem dX6_spells_121 : decode cX6_spells 121 = .ok (.ireturn, 1) := by decide +kernel
theorem dX6_takes_0 : decode cX6_takes 0 = .ok (.aload_n 0, 1) := by decide +kernel
theorem dX6_takes_1 : decode cX6_takes 1 = .ok (.getfield 244, 3) := by decide +kernel
theorem dX6_takes_4 : decode cX6_takes 4 = .ok (.iconst 2, 1) := by decide +kernel
theorem dX6_takes_5 : decode cX6_takes 5 = .ok (.if_icmp .ne 18, 3) := by decide +kernel
theorem dX6_takes_8 : decode cX6_takes 8 = .ok (.aload_n 0, 1) := by decide +kernel
theorem dX6_takes_9 : decode cX6_takes 9 = .ok (.getfield 247, 3) := by decide +kernel
theorem dX6_takes_12 : decode cX6_takes 12 = .ok (.i2l, 1) := by decide +kernel
theorem dX6_takes_13 : decode cX6_takes 13 = .ok (.iload_n 2, 1) := by decide +kernel
theorem dX6_takes_14 : decode cX6_takes 14 = .ok (.i2l, 1) := by decide +kernel
theorem dX6_takes_15 : decode cX6_takes 15 = .ok (.iload_n 3, 1) := by decide +kernel
theorem dX6_takes_16 : decode cX6_takes 16 = .ok (.i2l, 1) := by decide +kernel
theorem dX6_takes_17 : decode cX6_takes 17 = .ok (.invokestatic 56, 3) := by decide +kernel
theorem dX6_takes_20 : decode cX6_takes 20 = .ok (.ifCond .ne 5, 3) := by decide +kernel
theorem dX6_takes_23 : decode cX6_takes 23 = .ok (.iconst 0, 1) := by decide +kernel
theorem dX6_takes_24 : decode cX6_takes 24 = .ok (.ireturn, 1) := by decide +kernel
theorem dX6_takes_25 : decode cX6_takes 25 = .ok (.aload_n 0, 1) := by decide +kernel
theorem dX6_takes_26 : decode cX6_takes 26 = .ok (.getfield 45, 3) := by decide +kernel
theorem dX6_takes_29 : decode cX6_takes 29 = .ok (.iload_n 1, 1) := by decide +kernel
theorem dX6_takes_30 : decode cX6_takes 30 = .ok (.aload_n 0, 1) := by decide +kernel
theorem dX6_takes_31 : decode cX6_takes 31 = .ok (.getfield 247, 3) := by decide +kernel
theorem dX6_takes_34 : decode cX6_takes 34 = .ok (.iastore, 1) := by decide +kernel
theorem dX6_takes_35 : decode cX6_takes 35 = .ok (.aload_n 0, 1) := by decide +kernel
theorem dX6_takes_36 : decode cX6_takes 36 = .ok (.invokevirtual 260, 3) := by decide +kernel
theorem dX6_takes_39 : decode cX6_takes 39 = .ok (.iconst 1, 1) := by decide +kernel
theorem dX6_takes_40 : decode cX6_takes 40 = .ok (.ireturn, 1) := by decide +kernel
theorem dX6_takesPromise_0 : decode cX6_takesPromise 0 = .ok (.aload_n 0, 1) := by decide +kernel
theorem dX6_takesPromise_1 : decode cX6_takesPromise 1 = .ok (.getfield 42, 3) := by decide +kernel
theorem dX6_takesPromise_4 : decode cX6_takesPromise 4 = .ok (.iconst 0, 1) := by decide +kernel
theorem dX6_takesPromise_5 : decode cX6_takesPromise 5 = .ok (.iaload, 1) := by decide +kernel
theorem dX6_takesPromise_6 : decode cX6_takesPromise 6 = .ok (.bipush 7, 2) := by decide +kernel
theorem dX6_takesPromise_8 : decode cX6_takesPromise 8 = .ok (.if_icmp .ne 5, 3) := by decide +kernel
theorem dX6_takesPromise_11 : decode cX6_takesPromise 11 = .ok (.iconst 0, 1) := by decide +kernel
theorem dX6_takesPromise_12 : decode cX6_takesPromise 12 = .ok (.ireturn, 1) := by decide +kernel
theorem dX6_takesPromise_13 : decode cX6_takesPromise 13 = .ok (.aload_n 0, 1) := by decide +kernel
theorem dX6_takesPromise_14 : decode cX6_takesPromise 14 = .ok (.invokevirtual 260, 3) := by decide +kernel
theorem dX6_takesPromise_17 : decode cX6_takesPromise 17 = .ok (.aload_n 0, 1) := by decide +kernel
theorem dX6_takesPromise_18 : decode cX6_takesPromise 18 = .ok (.iconst 0, 1) := by decide +kernel
theorem dX6_takesPromise_19 : decode cX6_takesPromise 19 = .ok (.iconst 0, 1) := by decide +kernel
theorem dX6_takesPromise_20 : decode cX6_takesPromise 20 = .ok (.iconst 5, 1) := by decide +kernel
theorem dX6_takesPromise_21 : decode cX6_takesPromise 21 = .ok (.invokevirtual 263, 3) := by decide +kernel
theorem dX6_takesPromise_24 : decode cX6_takesPromise 24 = .ok (.ifCond .eq 14, 3) := by decide +kernel
theorem dX6_takesPromise_27 : decode cX6_takesPromise 27 = .ok (.aload_n 0, 1) := by decide +kernel
theorem dX6_takesPromise_28 : decode cX6_takesPromise 28 = .ok (.iconst 1, 1) := by decide +kernel
theorem dX6_takesPromise_29 : decode cX6_takesPromise 29 = .ok (.iconst 1, 1) := by decide +kernel
theorem dX6_takesPromise_30 : decode cX6_takesPromise 30 = .ok (.bipush 9, 2) := by decide +kernel
theorem dX6_takesPromise_32 : decode cX6_takesPromise 32 = .ok (.invokevirtual 263, 3) := by decide +kernel
theorem dX6_takesPromise_35 : decode cX6_takesPromise 35 = .ok (.ifCond .ne 5, 3) := by decide +kernel
theorem dX6_takesPromise_38 : decode cX6_takesPromise 38 = .ok (.iconst 0, 1) := by decide +kernel
theorem dX6_takesPromise_39 : decode cX6_takesPromise 39 = .ok (.ireturn, 1) := by decide +kernel
theorem dX6_takesPromise_40 : decode cX6_takesPromise 40 = .ok (.aload_n 0, 1) := by decide +kernel
theorem dX6_takesPromise_41 : decode cX6_takesPromise 41 = .ok (.getfield 42, 3) := by decide +kernel
theorem dX6_takesPromise_44 : decode cX6_takesPromise 44 = .ok (.aload_n 0, 1) := by decide +kernel
theorem dX6_takesPromise_45 : decode cX6_takesPromise 45 = .ok (.getfield 45, 3) := by decide +kernel
theorem dX6_takesPromise_48 : decode cX6_takesPromise 48 = .ok (.iconst 0, 1) := by decide +kernel
theorem dX6_takesPromise_49 : decode cX6_takesPromise 49 = .ok (.iaload, 1) := by decide +kernel
theorem dX6_takesPromise_50 : decode cX6_takesPromise 50 = .ok (.aload_n 0, 1) := by decide +kernel
theorem dX6_takesPromise_51 : decode cX6_takesPromise 51 = .ok (.getfield 45, 3) := by decide +kernel
theorem dX6_takesPromise_54 : decode cX6_takesPromise 54 = .ok (.iconst 1, 1) := by decide +kernel
theorem dX6_takesPromise_55 : decode cX6_takesPromise 55 = .ok (.iaload, 1) := by decide +kernel
theorem dX6_takesPromise_56 : decode cX6_takesPromise 56 = .ok (.invokestatic 78, 3) := by decide +kernel
theorem dX6_takesPromise_59 : decode cX6_takesPromise 59 = .ok (.iconst 1, 1) := by decide +kernel
theorem dX6_takesPromise_60 : decode cX6_takesPromise 60 = .ok (.ireturn, 1) := by decide +kernel
theorem dX6_takesHearer_0 : decode cX6_takesHearer 0 = .ok (.aload_n 0, 1) := by decide +kernel
theorem dX6_takesHearer_1 : decode cX6_takesHearer 1 = .ok (.getfield 42, 3) := by decide +kernel
theorem dX6_takesHearer_4 : decode cX6_takesHearer 4 = .ok (.iconst 1, 1) := by decide +kernel
theorem dX6_takesHearer_5 : decode cX6_takesHearer 5 = .ok (.iaload, 1) := by decide +kernel
theorem dX6_takesHearer_6 : decode cX6_takesHearer 6 = .ok (.iconst 4, 1) := by decide +kernel
theorem dX6_takesHearer_7 : decode cX6_takesHearer 7 = .ok (.if_icmp .ne 5, 3) := by decide +kernel
theorem dX6_takesHearer_10 : decode cX6_takesHearer 10 = .ok (.iconst 0, 1) := by decide +kernel
theorem dX6_takesHearer_11 : decode cX6_takesHearer 11 = .ok (.ireturn, 1) := by decide +kernel
theorem dX6_takesHearer_12 : decode cX6_takesHearer 12 = .ok (.aload_n 0, 1) := by decide +kernel
theorem dX6_takesHearer_13 : decode cX6_takesHearer 13 = .ok (.invokevirtual 260, 3) := by decide +kernel
theorem dX6_takesHearer_16 : decode cX6_takesHearer 16 = .ok (.aload_n 0, 1) := by decide +kernel
theorem dX6_takesHearer_17 : decode cX6_takesHearer 17 = .ok (.iconst 0, 1) := by decide +kernel
theorem dX6_takesHearer_18 : decode cX6_takesHearer 18 = .ok (.iconst 0, 1) := by decide +kernel
theorem dX6_takesHearer_19 : decode cX6_takesHearer 19 = .ok (.iconst 5, 1) := by decide +kernel
theorem dX6_takesHearer_20 : decode cX6_takesHearer 20 = .ok (.invokevirtual 263, 3) := by decide +kernel
theorem dX6_takesHearer_23 : decode cX6_takesHearer 23 = .ok (.ifCond .eq 14, 3) := by decide +kernel
theorem dX6_takesHearer_26 : decode cX6_takesHearer 26 = .ok (.aload_n 0, 1) := by decide +kernel
theorem dX6_takesHearer_27 : decode cX6_takesHearer 27 = .ok (.iconst 1, 1) := by decide +kernel
theorem dX6_takesHearer_28 : decode cX6_takesHearer 28 = .ok (.iconst 1, 1) := by decide +kernel
theorem dX6_takesHearer_29 : decode cX6_takesHearer 29 = .ok (.bipush 9, 2) := by decide +kernel
theorem dX6_takesHearer_31 : decode cX6_takesHearer 31 = .ok (.invokevirtual 263, 3) := by decide +kernel
theorem dX6_takesHearer_34 : decode cX6_takesHearer 34 = .ok (.ifCond .ne 5, 3) := by decide +kernel
theorem dX6_takesHearer_37 : decode cX6_takesHearer 37 = .ok (.iconst 0, 1) := by decide +kernel
theorem dX6_takesHearer_38 : decode cX6_takesHearer 38 = .ok (.ireturn, 1) := by decide +kernel
theorem dX6_takesHearer_39 : decode cX6_takesHearer 39 = .ok (.aload_n 0, 1) := by decide +kernel
theorem dX6_takesHearer_40 : decode cX6_takesHearer 40 = .ok (.getfield 42, 3) := by decide +kernel
theorem dX6_takesHearer_43 : decode cX6_takesHearer 43 = .ok (.bipush 40, 2) := by decide +kernel
theorem dX6_takesHearer_45 : decode cX6_takesHearer 45 = .ok (.aload_n 0, 1) := by decide +kernel
theorem dX6_takesHearer_46 : decode cX6_takesHearer 46 = .ok (.getfield 42, 3) := by decide +kernel
theorem dX6_takesHearer_49 : decode cX6_takesHearer 49 = .ok (.iconst 1, 1) := by decide +kernel
theorem dX6_takesHearer_50 : decode cX6_takesHearer 50 = .ok (.iaload, 1) := by decide +kernel
theorem dX6_takesHearer_51 : decode cX6_takesHearer 51 = .ok (.iadd, 1) := by decide +kernel
theorem dX6_takesHearer_52 : decode cX6_takesHearer 52 = .ok (.aload_n 0, 1) := by decide +kernel
theorem dX6_takesHearer_53 : decode cX6_takesHearer 53 = .ok (.getfield 45, 3) := by decide +kernel
theorem dX6_takesHearer_56 : decode cX6_takesHearer 56 = .ok (.iconst 0, 1) := by decide +kernel
theorem dX6_takesHearer_57 : decode cX6_takesHearer 57 = .ok (.iaload, 1) := by decide +kernel
theorem dX6_takesHearer_58 : decode cX6_takesHearer 58 = .ok (.iastore, 1) := by decide +kernel
theorem dX6_takesHearer_59 : decode cX6_takesHearer 59 = .ok (.aload_n 0, 1) := by decide +kernel
theorem dX6_takesHearer_60 : decode cX6_takesHearer 60 = .ok (.getfield 42, 3) := by decide +kernel
theorem dX6_takesHearer_63 : decode cX6_takesHearer 63 = .ok (.bipush 44, 2) := by decide +kernel
theorem dX6_takesHearer_65 : decode cX6_takesHearer 65 = .ok (.aload_n 0, 1) := by decide +kernel
theorem dX6_takesHearer_66 : decode cX6_takesHearer 66 = .ok (.getfield 42, 3) := by decide +kernel
theorem dX6_takesHearer_69 : decode cX6_takesHearer 69 = .ok (.iconst 1, 1) := by decide +kernel
theorem dX6_takesHearer_70 : decode cX6_takesHearer 70 = .ok (.iaload, 1) := by decide +kernel
theorem dX6_takesHearer_71 : decode cX6_takesHearer 71 = .ok (.iadd, 1) := by decide +kernel
theorem dX6_takesHearer_72 : decode cX6_takesHearer 72 = .ok (.aload_n 0, 1) := by decide +kernel
theorem dX6_takesHearer_73 : decode cX6_takesHearer 73 = .ok (.getfield 45, 3) := by decide +kernel
theorem dX6_takesHearer_76 : decode cX6_takesHearer 76 = .ok (.iconst 1, 1) := by decide +kernel
theorem dX6_takesHearer_77 : decode cX6_takesHearer 77 = .ok (.iaload, 1) := by decide +kernel
theorem dX6_takesHearer_78 : decode cX6_takesHearer 78 = .ok (.iastore, 1) := by decide +kernel
theorem dX6_takesHearer_79 : decode cX6_takesHearer 79 = .ok (.aload_n 0, 1) := by decide +kernel
theorem dX6_takesHearer_80 : decode cX6_takesHearer 80 = .ok (.getfield 42, 3) := by decide +kernel
theorem dX6_takesHearer_83 : decode cX6_takesHearer 83 = .ok (.iconst 1, 1) := by decide +kernel
theorem dX6_takesHearer_84 : decode cX6_takesHearer 84 = .ok (.dup2, 1) := by decide +kernel
theorem dX6_takesHearer_85 : decode cX6_takesHearer 85 = .ok (.iaload, 1) := by decide +kernel
theorem dX6_takesHearer_86 : decode cX6_takesHearer 86 = .ok (.iconst 1, 1) := by decide +kernel
theorem dX6_takesHearer_87 : decode cX6_takesHearer 87 = .ok (.iadd, 1) := by decide +kernel
theorem dX6_takesHearer_88 : decode cX6_takesHearer 88 = .ok (.iastore, 1) := by decide +kernel
theorem dX6_takesHearer_89 : decode cX6_takesHearer 89 = .ok (.iconst 1, 1) := by decide +kernel
theorem dX6_takesHearer_90 : decode cX6_takesHearer 90 = .ok (.ireturn, 1) := by decide +kernel
theorem dX6_takesBuyer_0 : decode cX6_takesBuyer 0 = .ok (.aload_n 0, 1) := by decide +kernel
theorem dX6_takesBuyer_1 : decode cX6_takesBuyer 1 = .ok (.getfield 42, 3) := by decide +kernel
theorem dX6_takesBuyer_4 : decode cX6_takesBuyer 4 = .ok (.iconst 2, 1) := by decide +kernel
theorem dX6_takesBuyer_5 : decode cX6_takesBuyer 5 = .ok (.iaload, 1) := by decide +kernel
theorem dX6_takesBuyer_6 : decode cX6_takesBuyer 6 = .ok (.iconst 3, 1) := by decide +kernel
theorem dX6_takesBuyer_7 : decode cX6_takesBuyer 7 = .ok (.if_icmp .ne 5, 3) := by decide +kernel
theorem dX6_takesBuyer_10 : decode cX6_takesBuyer 10 = .ok (.iconst 0, 1) := by decide +kernel
theorem dX6_takesBuyer_11 : decode cX6_takesBuyer 11 = .ok (.ireturn, 1) := by decide +kernel
theorem dX6_takesBuyer_12 : decode cX6_takesBuyer 12 = .ok (.aload_n 0, 1) := by decide +kernel
theorem dX6_takesBuyer_13 : decode cX6_takesBuyer 13 = .ok (.invokevirtual 260, 3) := by decide +kernel
theorem dX6_takesBuyer_16 : decode cX6_takesBuyer 16 = .ok (.aload_n 0, 1) := by decide +kernel
theorem dX6_takesBuyer_17 : decode cX6_takesBuyer 17 = .ok (.iconst 0, 1) := by decide +kernel
theorem dX6_takesBuyer_18 : decode cX6_takesBuyer 18 = .ok (.iconst 0, 1) := by decide +kernel
theorem dX6_takesBuyer_19 : decode cX6_takesBuyer 19 = .ok (.bipush 99, 2) := by decide +kernel
theorem dX6_takesBuyer_21 : decode cX6_takesBuyer 21 = .ok (.invokevirtual 263, 3) := by decide +kernel
theorem dX6_takesBuyer_24 : decode cX6_takesBuyer 24 = .ok (.ifCond .ne 5, 3) := by decide +kernel
theorem dX6_takesBuyer_27 : decode cX6_takesBuyer 27 = .ok (.iconst 0, 1) := by decide +kernel
theorem dX6_takesBuyer_28 : decode cX6_takesBuyer 28 = .ok (.ireturn, 1) := by decide +kernel
theorem dX6_takesBuyer_29 : decode cX6_takesBuyer 29 = .ok (.aload_n 0, 1) := by decide +kernel
theorem dX6_takesBuyer_30 : decode cX6_takesBuyer 30 = .ok (.getfield 42, 3) := by decide +kernel
theorem dX6_takesBuyer_33 : decode cX6_takesBuyer 33 = .ok (.bipush 21, 2) := by decide +kernel
theorem dX6_takesBuyer_35 : decode cX6_takesBuyer 35 = .ok (.aload_n 0, 1) := by decide +kernel
theorem dX6_takesBuyer_36 : decode cX6_takesBuyer 36 = .ok (.getfield 42, 3) := by decide +kernel
theorem dX6_takesBuyer_39 : decode cX6_takesBuyer 39 = .ok (.iconst 2, 1) := by decide +kernel
theorem dX6_takesBuyer_40 : decode cX6_takesBuyer 40 = .ok (.iaload, 1) := by decide +kernel
theorem dX6_takesBuyer_41 : decode cX6_takesBuyer 41 = .ok (.iadd, 1) := by decide +kernel
theorem dX6_takesBuyer_42 : decode cX6_takesBuyer 42 = .ok (.aload_n 0, 1) := by decide +kernel
theorem dX6_takesBuyer_43 : decode cX6_takesBuyer 43 = .ok (.getfield 45, 3) := by decide +kernel
theorem dX6_takesBuyer_46 : decode cX6_takesBuyer 46 = .ok (.iconst 0, 1) := by decide +kernel
theorem dX6_takesBuyer_47 : decode cX6_takesBuyer 47 = .ok (.iaload, 1) := by decide +kernel
theorem dX6_takesBuyer_48 : decode cX6_takesBuyer 48 = .ok (.iastore, 1) := by decide +kernel
theorem dX6_takesBuyer_49 : decode cX6_takesBuyer 49 = .ok (.aload_n 0, 1) := by decide +kernel
theorem dX6_takesBuyer_50 : decode cX6_takesBuyer 50 = .ok (.getfield 42, 3) := by decide +kernel
theorem dX6_takesBuyer_53 : decode cX6_takesBuyer 53 = .ok (.iconst 2, 1) := by decide +kernel
theorem dX6_takesBuyer_54 : decode cX6_takesBuyer 54 = .ok (.dup2, 1) := by decide +kernel
theorem dX6_takesBuyer_55 : decode cX6_takesBuyer 55 = .ok (.iaload, 1) := by decide +kernel
theorem dX6_takesBuyer_56 : decode cX6_takesBuyer 56 = .ok (.iconst 1, 1) := by decide +kernel
theorem dX6_takesBuyer_57 : decode cX6_takesBuyer 57 = .ok (.iadd, 1) := by decide +kernel
theorem dX6_takesBuyer_58 : decode cX6_takesBuyer 58 = .ok (.iastore, 1) := by decide +kernel
theorem dX6_takesBuyer_59 : decode cX6_takesBuyer 59 = .ok (.iconst 1, 1) := by decide +kernel
theorem dX6_takesBuyer_60 : decode cX6_takesBuyer 60 = .ok (.ireturn, 1) := by decide +kernel
theorem dX6_takesBuy_0 : decode cX6_takesBuy 0 = .ok (.aload_n 0, 1) := by decide +kernel
theorem dX6_takesBuy_1 : decode cX6_takesBuy 1 = .ok (.invokevirtual 260, 3) := by decide +kernel
theorem dX6_takesBuy_4 : decode cX6_takesBuy 4 = .ok (.aload_n 0, 1) := by decide +kernel
theorem dX6_takesBuy_5 : decode cX6_takesBuy 5 = .ok (.iconst 0, 1) := by decide +kernel
theorem dX6_takesBuy_6 : decode cX6_takesBuy 6 = .ok (.iconst 0, 1) := by decide +kernel
theorem dX6_takesBuy_7 : decode cX6_takesBuy 7 = .ok (.aload_n 0, 1) := by decide +kernel
theorem dX6_takesBuy_8 : decode cX6_takesBuy 8 = .ok (.getfield 42, 3) := by decide +kernel
theorem dX6_takesBuy_11 : decode cX6_takesBuy 11 = .ok (.iconst 2, 1) := by decide +kernel
theorem dX6_takesBuy_12 : decode cX6_takesBuy 12 = .ok (.iaload, 1) := by decide +kernel
theorem dX6_takesBuy_13 : decode cX6_takesBuy 13 = .ok (.iconst 1, 1) := by decide +kernel
theorem dX6_takesBuy_14 : decode cX6_takesBuy 14 = .ok (.isub, 1) := by decide +kernel
theorem dX6_takesBuy_15 : decode cX6_takesBuy 15 = .ok (.invokevirtual 263, 3) := by decide +kernel
theorem dX6_takesBuy_18 : decode cX6_takesBuy 18 = .ok (.ifCond .eq 52, 3) := by decide +kernel
theorem dX6_takesBuy_21 : decode cX6_takesBuy 21 = .ok (.aload_n 0, 1) := by decide +kernel
theorem dX6_takesBuy_22 : decode cX6_takesBuy 22 = .ok (.getfield 244, 3) := by decide +kernel
theorem dX6_takesBuy_25 : decode cX6_takesBuy 25 = .ok (.iconst 2, 1) := by decide +kernel
theorem dX6_takesBuy_26 : decode cX6_takesBuy 26 = .ok (.if_icmp .ne 44, 3) := by decide +kernel
theorem dX6_takesBuy_29 : decode cX6_takesBuy 29 = .ok (.aload_n 0, 1) := by decide +kernel
theorem dX6_takesBuy_30 : decode cX6_takesBuy 30 = .ok (.getfield 247, 3) := by decide +kernel
theorem dX6_takesBuy_33 : decode cX6_takesBuy 33 = .ok (.i2l, 1) := by decide +kernel
theorem dX6_takesBuy_34 : decode cX6_takesBuy 34 = .ok (.lconst 0, 1) := by decide +kernel
theorem dX6_takesBuy_35 : decode cX6_takesBuy 35 = .ok (.aload_n 0, 1) := by decide +kernel
theorem dX6_takesBuy_36 : decode cX6_takesBuy 36 = .ok (.getfield 42, 3) := by decide +kernel
theorem dX6_takesBuy_39 : decode cX6_takesBuy 39 = .ok (.iconst 0, 1) := by decide +kernel
theorem dX6_takesBuy_40 : decode cX6_takesBuy 40 = .ok (.iaload, 1) := by decide +kernel
theorem dX6_takesBuy_41 : decode cX6_takesBuy 41 = .ok (.iconst 1, 1) := by decide +kernel
theorem dX6_takesBuy_42 : decode cX6_takesBuy 42 = .ok (.isub, 1) := by decide +kernel
theorem dX6_takesBuy_43 : decode cX6_takesBuy 43 = .ok (.i2l, 1) := by decide +kernel
theorem dX6_takesBuy_44 : decode cX6_takesBuy 44 = .ok (.invokestatic 56, 3) := by decide +kernel
theorem dX6_takesBuy_47 : decode cX6_takesBuy 47 = .ok (.ifCond .eq 23, 3) := by decide +kernel
theorem dX6_takesBuy_50 : decode cX6_takesBuy 50 = .ok (.aload_n 0, 1) := by decide +kernel
theorem dX6_takesBuy_51 : decode cX6_takesBuy 51 = .ok (.getfield 42, 3) := by decide +kernel
theorem dX6_takesBuy_54 : decode cX6_takesBuy 54 = .ok (.aload_n 0, 1) := by decide +kernel
theorem dX6_takesBuy_55 : decode cX6_takesBuy 55 = .ok (.getfield 45, 3) := by decide +kernel
theorem dX6_takesBuy_58 : decode cX6_takesBuy 58 = .ok (.iconst 0, 1) := by decide +kernel
theorem dX6_takesBuy_59 : decode cX6_takesBuy 59 = .ok (.iaload, 1) := by decide +kernel
theorem dX6_takesBuy_60 : decode cX6_takesBuy 60 = .ok (.aload_n 0, 1) := by decide +kernel
theorem dX6_takesBuy_61 : decode cX6_takesBuy 61 = .ok (.getfield 247, 3) := by decide +kernel
theorem dX6_takesBuy_64 : decode cX6_takesBuy 64 = .ok (.invokestatic 124, 3) := by decide +kernel
theorem dX6_takesBuy_67 : decode cX6_takesBuy 67 = .ok (.ifCond .ne 5, 3) := by decide +kernel
theorem dX6_takesBuy_70 : decode cX6_takesBuy 70 = .ok (.iconst 0, 1) := by decide +kernel
theorem dX6_takesBuy_71 : decode cX6_takesBuy 71 = .ok (.ireturn, 1) := by decide +kernel
theorem dX6_takesBuy_72 : decode cX6_takesBuy 72 = .ok (.aload_n 0, 1) := by decide +kernel
theorem dX6_takesBuy_73 : decode cX6_takesBuy 73 = .ok (.getfield 42, 3) := by decide +kernel
theorem dX6_takesBuy_76 : decode cX6_takesBuy 76 = .ok (.aload_n 0, 1) := by decide +kernel
theorem dX6_takesBuy_77 : decode cX6_takesBuy 77 = .ok (.getfield 45, 3) := by decide +kernel
theorem dX6_takesBuy_80 : decode cX6_takesBuy 80 = .ok (.iconst 0, 1) := by decide +kernel
theorem dX6_takesBuy_81 : decode cX6_takesBuy 81 = .ok (.iaload, 1) := by decide +kernel
theorem dX6_takesBuy_82 : decode cX6_takesBuy 82 = .ok (.aload_n 0, 1) := by decide +kernel
theorem dX6_takesBuy_83 : decode cX6_takesBuy 83 = .ok (.getfield 247, 3) := by decide +kernel
theorem dX6_takesBuy_86 : decode cX6_takesBuy 86 = .ok (.invokestatic 131, 3) := by decide +kernel
theorem dX6_takesBuy_89 : decode cX6_takesBuy 89 = .ok (.aload_n 0, 1) := by decide +kernel
theorem dX6_takesBuy_90 : decode cX6_takesBuy 90 = .ok (.invokevirtual 260, 3) := by decide +kernel
theorem dX6_takesBuy_93 : decode cX6_takesBuy 93 = .ok (.iconst 1, 1) := by decide +kernel
theorem dX6_takesBuy_94 : decode cX6_takesBuy 94 = .ok (.ireturn, 1) := by decide +kernel
theorem dX6_takesKeep_0 : decode cX6_takesKeep 0 = .ok (.aload_n 0, 1) := by decide +kernel
theorem dX6_takesKeep_1 : decode cX6_takesKeep 1 = .ok (.invokevirtual 260, 3) := by decide +kernel
theorem dX6_takesKeep_4 : decode cX6_takesKeep 4 = .ok (.aload_n 0, 1) := by decide +kernel
theorem dX6_takesKeep_5 : decode cX6_takesKeep 5 = .ok (.getfield 244, 3) := by decide +kernel
theorem dX6_takesKeep_8 : decode cX6_takesKeep 8 = .ok (.iconst 2, 1) := by decide +kernel
theorem dX6_takesKeep_9 : decode cX6_takesKeep 9 = .ok (.if_icmp .ne 66, 3) := by decide +kernel
theorem dX6_takesKeep_12 : decode cX6_takesKeep 12 = .ok (.aload_n 0, 1) := by decide +kernel
theorem dX6_takesKeep_13 : decode cX6_takesKeep 13 = .ok (.getfield 247, 3) := by decide +kernel
theorem dX6_takesKeep_16 : decode cX6_takesKeep 16 = .ok (.i2l, 1) := by decide +kernel
theorem dX6_takesKeep_17 : decode cX6_takesKeep 17 = .ok (.lconst 0, 1) := by decide +kernel
theorem dX6_takesKeep_18 : decode cX6_takesKeep 18 = .ok (.aload_n 0, 1) := by decide +kernel
theorem dX6_takesKeep_19 : decode cX6_takesKeep 19 = .ok (.getfield 42, 3) := by decide +kernel
theorem dX6_takesKeep_22 : decode cX6_takesKeep 22 = .ok (.iconst 0, 1) := by decide +kernel
theorem dX6_takesKeep_23 : decode cX6_takesKeep 23 = .ok (.iaload, 1) := by decide +kernel
theorem dX6_takesKeep_24 : decode cX6_takesKeep 24 = .ok (.iconst 1, 1) := by decide +kernel
theorem dX6_takesKeep_25 : decode cX6_takesKeep 25 = .ok (.isub, 1) := by decide +kernel
theorem dX6_takesKeep_26 : decode cX6_takesKeep 26 = .ok (.i2l, 1) := by decide +kernel
theorem dX6_takesKeep_27 : decode cX6_takesKeep 27 = .ok (.invokestatic 56, 3) := by decide +kernel
theorem dX6_takesKeep_30 : decode cX6_takesKeep 30 = .ok (.ifCond .eq 45, 3) := by decide +kernel
theorem dX6_takesKeep_33 : decode cX6_takesKeep 33 = .ok (.aload_n 0, 1) := by decide +kernel
theorem dX6_takesKeep_34 : decode cX6_takesKeep 34 = .ok (.getfield 42, 3) := by decide +kernel
theorem dX6_takesKeep_37 : decode cX6_takesKeep 37 = .ok (.aload_n 0, 1) := by decide +kernel
theorem dX6_takesKeep_38 : decode cX6_takesKeep 38 = .ok (.getfield 247, 3) := by decide +kernel
theorem dX6_takesKeep_41 : decode cX6_takesKeep 41 = .ok (.invokestatic 137, 3) := by decide +kernel
theorem dX6_takesKeep_44 : decode cX6_takesKeep 44 = .ok (.ifCond .eq 31, 3) := by decide +kernel
theorem dX6_takesKeep_47 : decode cX6_takesKeep 47 = .ok (.aload_n 0, 1) := by decide +kernel
theorem dX6_takesKeep_48 : decode cX6_takesKeep 48 = .ok (.iconst 0, 1) := by decide +kernel
theorem dX6_takesKeep_49 : decode cX6_takesKeep 49 = .ok (.iconst 0, 1) := by decide +kernel
theorem dX6_takesKeep_50 : decode cX6_takesKeep 50 = .ok (.bipush 6, 2) := by decide +kernel
theorem dX6_takesKeep_52 : decode cX6_takesKeep 52 = .ok (.invokevirtual 263, 3) := by decide +kernel
theorem dX6_takesKeep_55 : decode cX6_takesKeep 55 = .ok (.ifCond .eq 20, 3) := by decide +kernel
theorem dX6_takesKeep_58 : decode cX6_takesKeep 58 = .ok (.aload_n 0, 1) := by decide +kernel
theorem dX6_takesKeep_59 : decode cX6_takesKeep 59 = .ok (.iconst 1, 1) := by decide +kernel
theorem dX6_takesKeep_60 : decode cX6_takesKeep 60 = .ok (.iconst 0, 1) := by decide +kernel
theorem dX6_takesKeep_61 : decode cX6_takesKeep 61 = .ok (.aload_n 0, 1) := by decide +kernel
theorem dX6_takesKeep_62 : decode cX6_takesKeep 62 = .ok (.getfield 42, 3) := by decide +kernel
theorem dX6_takesKeep_65 : decode cX6_takesKeep 65 = .ok (.iconst 1, 1) := by decide +kernel
theorem dX6_takesKeep_66 : decode cX6_takesKeep 66 = .ok (.iaload, 1) := by decide +kernel
theorem dX6_takesKeep_67 : decode cX6_takesKeep 67 = .ok (.iconst 1, 1) := by decide +kernel
theorem dX6_takesKeep_68 : decode cX6_takesKeep 68 = .ok (.isub, 1) := by decide +kernel
theorem dX6_takesKeep_69 : decode cX6_takesKeep 69 = .ok (.invokevirtual 263, 3) := by decide +kernel
theorem dX6_takesKeep_72 : decode cX6_takesKeep 72 = .ok (.ifCond .ne 5, 3) := by decide +kernel
theorem dX6_takesKeep_75 : decode cX6_takesKeep 75 = .ok (.iconst 0, 1) := by decide +kernel
theorem dX6_takesKeep_76 : decode cX6_takesKeep 76 = .ok (.ireturn, 1) := by decide +kernel
theorem dX6_takesKeep_77 : decode cX6_takesKeep 77 = .ok (.aload_n 0, 1) := by decide +kernel
theorem dX6_takesKeep_78 : decode cX6_takesKeep 78 = .ok (.getfield 42, 3) := by decide +kernel
theorem dX6_takesKeep_81 : decode cX6_takesKeep 81 = .ok (.aload_n 0, 1) := by decide +kernel
theorem dX6_takesKeep_82 : decode cX6_takesKeep 82 = .ok (.getfield 45, 3) := by decide +kernel
theorem dX6_takesKeep_85 : decode cX6_takesKeep 85 = .ok (.iconst 0, 1) := by decide +kernel
theorem dX6_takesKeep_86 : decode cX6_takesKeep 86 = .ok (.iaload, 1) := by decide +kernel
theorem dX6_takesKeep_87 : decode cX6_takesKeep 87 = .ok (.aload_n 0, 1) := by decide +kernel
theorem dX6_takesKeep_88 : decode cX6_takesKeep 88 = .ok (.getfield 45, 3) := by decide +kernel
theorem dX6_takesKeep_91 : decode cX6_takesKeep 91 = .ok (.iconst 1, 1) := by decide +kernel
theorem dX6_takesKeep_92 : decode cX6_takesKeep 92 = .ok (.iaload, 1) := by decide +kernel
theorem dX6_takesKeep_93 : decode cX6_takesKeep 93 = .ok (.invokestatic 140, 3) := by decide +kernel
theorem dX6_takesKeep_96 : decode cX6_takesKeep 96 = .ok (.iconst 1, 1) := by decide +kernel
theorem dX6_takesKeep_97 : decode cX6_takesKeep 97 = .ok (.ireturn, 1) := by decide +kernel
theorem dX6_takesDays_0 : decode cX6_takesDays 0 = .ok (.aload_n 0, 1) := by decide +kernel
theorem dX6_takesDays_1 : decode cX6_takesDays 1 = .ok (.invokevirtual 260, 3) := by decide +kernel
theorem dX6_takesDays_4 : decode cX6_takesDays 4 = .ok (.aload_n 0, 1) := by decide +kernel
theorem dX6_takesDays_5 : decode cX6_takesDays 5 = .ok (.iconst 0, 1) := by decide +kernel
theorem dX6_takesDays_6 : decode cX6_takesDays 6 = .ok (.iconst 1, 1) := by decide +kernel
theorem dX6_takesDays_7 : decode cX6_takesDays 7 = .ok (.bipush 99, 2) := by decide +kernel
theorem dX6_takesDays_9 : decode cX6_takesDays 9 = .ok (.invokevirtual 263, 3) := by decide +kernel
theorem dX6_takesDays_12 : decode cX6_takesDays 12 = .ok (.ifCond .ne 5, 3) := by decide +kernel
theorem dX6_takesDays_15 : decode cX6_takesDays 15 = .ok (.iconst 0, 1) := by decide +kernel
theorem dX6_takesDays_16 : decode cX6_takesDays 16 = .ok (.ireturn, 1) := by decide +kernel
theorem dX6_takesDays_17 : decode cX6_takesDays 17 = .ok (.aload_n 0, 1) := by decide +kernel
theorem dX6_takesDays_18 : decode cX6_takesDays 18 = .ok (.getfield 42, 3) := by decide +kernel
theorem dX6_takesDays_21 : decode cX6_takesDays 21 = .ok (.aload_n 0, 1) := by decide +kernel
theorem dX6_takesDays_22 : decode cX6_takesDays 22 = .ok (.getfield 45, 3) := by decide +kernel
theorem dX6_takesDays_25 : decode cX6_takesDays 25 = .ok (.iconst 0, 1) := by decide +kernel
theorem dX6_takesDays_26 : decode cX6_takesDays 26 = .ok (.iaload, 1) := by decide +kernel
theorem dX6_takesDays_27 : decode cX6_takesDays 27 = .ok (.invokestatic 107, 3) := by decide +kernel
theorem dX6_takesDays_30 : decode cX6_takesDays 30 = .ok (.iconst 1, 1) := by decide +kernel
theorem dX6_takesDays_31 : decode cX6_takesDays 31 = .ok (.ireturn, 1) := by decide +kernel
theorem dX6_spellsPromise_0 : decode cX6_spellsPromise 0 = .ok (.aload_n 0, 1) := by decide +kernel
theorem dX6_spellsPromise_1 : decode cX6_spellsPromise 1 = .ok (.getfield 244, 3) := by decide +kernel
theorem dX6_spellsPromise_4 : decode cX6_spellsPromise 4 = .ok (.iconst 1, 1) := by decide +kernel
theorem dX6_spellsPromise_5 : decode cX6_spellsPromise 5 = .ok (.if_icmp .ne 16, 3) := by decide +kernel
theorem dX6_spellsPromise_8 : decode cX6_spellsPromise 8 = .ok (.aload_n 0, 1) := by decide +kernel
theorem dX6_spellsPromise_9 : decode cX6_spellsPromise 9 = .ok (.getfield 241, 3) := by decide +kernel
theorem dX6_spellsPromise_12 : decode cX6_spellsPromise 12 = .ok (.bipush 7, 2) := by decide +kernel
theorem dX6_spellsPromise_14 : decode cX6_spellsPromise 14 = .ok (.if_icmp .ne 7, 3) := by decide +kernel
theorem dX6_spellsPromise_17 : decode cX6_spellsPromise 17 = .ok (.iconst 1, 1) := by decide +kernel
theorem dX6_spellsPromise_18 : decode cX6_spellsPromise 18 = .ok (.goto 4, 3) := by decide +kernel
theorem dX6_spellsPromise_21 : decode cX6_spellsPromise 21 = .ok (.iconst 0, 1) := by decide +kernel
theorem dX6_spellsPromise_22 : decode cX6_spellsPromise 22 = .ok (.istore_n 1, 1) := by decide +kernel
theorem dX6_spellsPromise_23 : decode cX6_spellsPromise 23 = .ok (.iload_n 1, 1) := by decide +kernel
theorem dX6_spellsPromise_24 : decode cX6_spellsPromise 24 = .ok (.ifCond .eq 118, 3) := by decide +kernel
theorem dX6_spellsPromise_27 : decode cX6_spellsPromise 27 = .ok (.aload_n 0, 1) := by decide +kernel
theorem dX6_spellsPromise_28 : decode cX6_spellsPromise 28 = .ok (.getfield 39, 3) := by decide +kernel
theorem dX6_spellsPromise_31 : decode cX6_spellsPromise 31 = .ok (.aload_n 0, 1) := by decide +kernel
theorem dX6_spellsPromise_32 : decode cX6_spellsPromise 32 = .ok (.getfield 238, 3) := by decide +kernel
theorem dX6_spellsPromise_35 : decode cX6_spellsPromise 35 = .ok (.iaload, 1) := by decide +kernel
theorem dX6_spellsPromise_36 : decode cX6_spellsPromise 36 = .ok (.bipush 112, 2) := by decide +kernel
theorem dX6_spellsPromise_38 : decode cX6_spellsPromise 38 = .ok (.if_icmp .ne 104, 3) := by decide +kernel
theorem dX6_spellsPromise_41 : decode cX6_spellsPromise 41 = .ok (.aload_n 0, 1) := by decide +kernel
theorem dX6_spellsPromise_42 : decode cX6_spellsPromise 42 = .ok (.getfield 39, 3) := by decide +kernel
theorem dX6_spellsPromise_45 : decode cX6_spellsPromise 45 = .ok (.aload_n 0, 1) := by decide +kernel
theorem dX6_spellsPromise_46 : decode cX6_spellsPromise 46 = .ok (.getfield 238, 3) := by decide +kernel
theorem dX6_spellsPromise_49 : decode cX6_spellsPromise 49 = .ok (.iconst 1, 1) := by decide +kernel
theorem dX6_spellsPromise_50 : decode cX6_spellsPromise 50 = .ok (.iadd, 1) := by decide +kernel
theorem dX6_spellsPromise_51 : decode cX6_spellsPromise 51 = .ok (.iaload, 1) := by decide +kernel
theorem dX6_spellsPromise_52 : decode cX6_spellsPromise 52 = .ok (.bipush 114, 2) := by decide +kernel
theorem dX6_spellsPromise_54 : decode cX6_spellsPromise 54 = .ok (.if_icmp .ne 88, 3) := by decide +kernel
theorem dX6_spellsPromise_57 : decode cX6_spellsPromise 57 = .ok (.aload_n 0, 1) := by decide +kernel
theorem dX6_spellsPromise_58 : decode cX6_spellsPromise 58 = .ok (.getfield 39, 3) := by decide +kernel
theorem dX6_spellsPromise_61 : decode cX6_spellsPromise 61 = .ok (.aload_n 0, 1) := by decide +kernel
theorem dX6_spellsPromise_62 : decode cX6_spellsPromise 62 = .ok (.getfield 238, 3) := by decide +kernel
theorem dX6_spellsPromise_65 : decode cX6_spellsPromise 65 = .ok (.iconst 2, 1) := by decide +kernel
theorem dX6_spellsPromise_66 : decode cX6_spellsPromise 66 = .ok (.iadd, 1) := by decide +kernel
theorem dX6_spellsPromise_67 : decode cX6_spellsPromise 67 = .ok (.iaload, 1) := by decide +kernel
theorem dX6_spellsPromise_68 : decode cX6_spellsPromise 68 = .ok (.bipush 111, 2) := by decide +kernel
theorem dX6_spellsPromise_70 : decode cX6_spellsPromise 70 = .ok (.if_icmp .ne 72, 3) := by decide +kernel
theorem dX6_spellsPromise_73 : decode cX6_spellsPromise 73 = .ok (.aload_n 0, 1) := by decide +kernel
theorem dX6_spellsPromise_74 : decode cX6_spellsPromise 74 = .ok (.getfield 39, 3) := by decide +kernel
theorem dX6_spellsPromise_77 : decode cX6_spellsPromise 77 = .ok (.aload_n 0, 1) := by decide +kernel
theorem dX6_spellsPromise_78 : decode cX6_spellsPromise 78 = .ok (.getfield 238, 3) := by decide +kernel
theorem dX6_spellsPromise_81 : decode cX6_spellsPromise 81 = .ok (.iconst 3, 1) := by decide +kernel
theorem dX6_spellsPromise_82 : decode cX6_spellsPromise 82 = .ok (.iadd, 1) := by decide +kernel
theorem dX6_spellsPromise_83 : decode cX6_spellsPromise 83 = .ok (.iaload, 1) := by decide +kernel
theorem dX6_spellsPromise_84 : decode cX6_spellsPromise 84 = .ok (.bipush 109, 2) := by decide +kernel
theorem dX6_spellsPromise_86 : decode cX6_spellsPromise 86 = .ok (.if_icmp .ne 56, 3) := by decide +kernel
theorem dX6_spellsPromise_89 : decode cX6_spellsPromise 89 = .ok (.aload_n 0, 1) := by decide +kernel
theorem dX6_spellsPromise_90 : decode cX6_spellsPromise 90 = .ok (.getfield 39, 3) := by decide +kernel
theorem dX6_spellsPromise_93 : decode cX6_spellsPromise 93 = .ok (.aload_n 0, 1) := by decide +kernel
theorem dX6_spellsPromise_94 : decode cX6_spellsPromise 94 = .ok (.getfield 238, 3) := by decide +kernel
theorem dX6_spellsPromise_97 : decode cX6_spellsPromise 97 = .ok (.iconst 4, 1) := by decide +kernel
theorem dX6_spellsPromise_98 : decode cX6_spellsPromise 98 = .ok (.iadd, 1) := by decide +kernel
theorem dX6_spellsPromise_99 : decode cX6_spellsPromise 99 = .ok (.iaload, 1) := by decide +kernel
theorem dX6_spellsPromise_100 : decode cX6_spellsPromise 100 = .ok (.bipush 105, 2) := by decide +kernel
theorem dX6_spellsPromise_102 : decode cX6_spellsPromise 102 = .ok (.if_icmp .ne 40, 3) := by decide +kernel
theorem dX6_spellsPromise_105 : decode cX6_spellsPromise 105 = .ok (.aload_n 0, 1) := by decide +kernel
theorem dX6_spellsPromise_106 : decode cX6_spellsPromise 106 = .ok (.getfield 39, 3) := by decide +kernel
theorem dX6_spellsPromise_109 : decode cX6_spellsPromise 109 = .ok (.aload_n 0, 1) := by decide +kernel
theorem dX6_spellsPromise_110 : decode cX6_spellsPromise 110 = .ok (.getfield 238, 3) := by decide +kernel
theorem dX6_spellsPromise_113 : decode cX6_spellsPromise 113 = .ok (.iconst 5, 1) := by decide +kernel
theorem dX6_spellsPromise_114 : decode cX6_spellsPromise 114 = .ok (.iadd, 1) := by decide +kernel
theorem dX6_spellsPromise_115 : decode cX6_spellsPromise 115 = .ok (.iaload, 1) := by decide +kernel
theorem dX6_spellsPromise_116 : decode cX6_spellsPromise 116 = .ok (.bipush 115, 2) := by decide +kernel
theorem dX6_spellsPromise_118 : decode cX6_spellsPromise 118 = .ok (.if_icmp .ne 24, 3) := by decide +kernel
theorem dX6_spellsPromise_121 : decode cX6_spellsPromise 121 = .ok (.aload_n 0, 1) := by decide +kernel
theorem dX6_spellsPromise_122 : decode cX6_spellsPromise 122 = .ok (.getfield 39, 3) := by decide +kernel
theorem dX6_spellsPromise_125 : decode cX6_spellsPromise 125 = .ok (.aload_n 0, 1) := by decide +kernel
theorem dX6_spellsPromise_126 : decode cX6_spellsPromise 126 = .ok (.getfield 238, 3) := by decide +kernel
theorem dX6_spellsPromise_129 : decode cX6_spellsPromise 129 = .ok (.bipush 6, 2) := by decide +kernel
theorem dX6_spellsPromise_131 : decode cX6_spellsPromise 131 = .ok (.iadd, 1) := by decide +kernel
theorem dX6_spellsPromise_132 : decode cX6_spellsPromise 132 = .ok (.iaload, 1) := by decide +kernel
theorem dX6_spellsPromise_133 : decode cX6_spellsPromise 133 = .ok (.bipush 101, 2) := by decide +kernel
theorem dX6_spellsPromise_135 : decode cX6_spellsPromise 135 = .ok (.if_icmp .ne 7, 3) := by decide +kernel
theorem dX6_spellsPromise_138 : decode cX6_spellsPromise 138 = .ok (.iconst 1, 1) := by decide +kernel
theorem dX6_spellsPromise_139 : decode cX6_spellsPromise 139 = .ok (.goto 4, 3) := by decide +kernel
theorem dX6_spellsPromise_142 : decode cX6_spellsPromise 142 = .ok (.iconst 0, 1) := by decide +kernel
theorem dX6_spellsPromise_143 : decode cX6_spellsPromise 143 = .ok (.ireturn, 1) := by decide +kernel
theorem dX6_takesItem_0 : decode cX6_takesItem 0 = .ok (.aload_n 0, 1) := by decide +kernel
theorem dX6_takesItem_1 : decode cX6_takesItem 1 = .ok (.invokevirtual 266, 3) := by decide +kernel
theorem dX6_takesItem_4 : decode cX6_takesItem 4 = .ok (.ifCond .eq 8, 3) := by decide +kernel
theorem dX6_takesItem_7 : decode cX6_takesItem 7 = .ok (.aload_n 0, 1) := by decide +kernel
theorem dX6_takesItem_8 : decode cX6_takesItem 8 = .ok (.invokevirtual 270, 3) := by decide +kernel
theorem dX6_takesItem_11 : decode cX6_takesItem 11 = .ok (.ireturn, 1) := by decide +kernel
theorem dX6_takesItem_12 : decode cX6_takesItem 12 = .ok (.aload_n 0, 1) := by decide +kernel
theorem dX6_takesItem_13 : decode cX6_takesItem 13 = .ok (.bipush 6, 2) := by decide +kernel
theorem dX6_takesItem_15 : decode cX6_takesItem 15 = .ok (.bipush 104, 2) := by decide +kernel
theorem dX6_takesItem_17 : decode cX6_takesItem 17 = .ok (.bipush 101, 2) := by decide +kernel
theorem dX6_takesItem_19 : decode cX6_takesItem 19 = .ok (.bipush 97, 2) := by decide +kernel
theorem dX6_takesItem_21 : decode cX6_takesItem 21 = .ok (.bipush 114, 2) := by decide +kernel
theorem dX6_takesItem_23 : decode cX6_takesItem 23 = .ok (.bipush 101, 2) := by decide +kernel
theorem dX6_takesItem_25 : decode cX6_takesItem 25 = .ok (.bipush 114, 2) := by decide +kernel
theorem dX6_takesItem_27 : decode cX6_takesItem 27 = .ok (.invokevirtual 273, 3) := by decide +kernel
theorem dX6_takesItem_30 : decode cX6_takesItem 30 = .ok (.ifCond .eq 8, 3) := by decide +kernel
theorem dX6_takesItem_33 : decode cX6_takesItem 33 = .ok (.aload_n 0, 1) := by decide +kernel
theorem dX6_takesItem_34 : decode cX6_takesItem 34 = .ok (.invokevirtual 277, 3) := by decide +kernel
theorem dX6_takesItem_37 : decode cX6_takesItem 37 = .ok (.ireturn, 1) := by decide +kernel
theorem dX6_takesItem_38 : decode cX6_takesItem 38 = .ok (.aload_n 0, 1) := by decide +kernel
theorem dX6_takesItem_39 : decode cX6_takesItem 39 = .ok (.iconst 5, 1) := by decide +kernel
theorem dX6_takesItem_40 : decode cX6_takesItem 40 = .ok (.bipush 98, 2) := by decide +kernel
theorem dX6_takesItem_42 : decode cX6_takesItem 42 = .ok (.bipush 117, 2) := by decide +kernel
theorem dX6_takesItem_44 : decode cX6_takesItem 44 = .ok (.bipush 121, 2) := by decide +kernel
theorem dX6_takesItem_46 : decode cX6_takesItem 46 = .ok (.bipush 101, 2) := by decide +kernel
theorem dX6_takesItem_48 : decode cX6_takesItem 48 = .ok (.bipush 114, 2) := by decide +kernel
theorem dX6_takesItem_50 : decode cX6_takesItem 50 = .ok (.iconst 0, 1) := by decide +kernel
theorem dX6_takesItem_51 : decode cX6_takesItem 51 = .ok (.invokevirtual 273, 3) := by decide +kernel
theorem dX6_takesItem_54 : decode cX6_takesItem 54 = .ok (.ifCond .eq 8, 3) := by decide +kernel
theorem dX6_takesItem_57 : decode cX6_takesItem 57 = .ok (.aload_n 0, 1) := by decide +kernel
theorem dX6_takesItem_58 : decode cX6_takesItem 58 = .ok (.invokevirtual 280, 3) := by decide +kernel
theorem dX6_takesItem_61 : decode cX6_takesItem 61 = .ok (.ireturn, 1) := by decide +kernel
theorem dX6_takesItem_62 : decode cX6_takesItem 62 = .ok (.aload_n 0, 1) := by decide +kernel
theorem dX6_takesItem_63 : decode cX6_takesItem 63 = .ok (.iconst 3, 1) := by decide +kernel
theorem dX6_takesItem_64 : decode cX6_takesItem 64 = .ok (.bipush 98, 2) := by decide +kernel
theorem dX6_takesItem_66 : decode cX6_takesItem 66 = .ok (.bipush 117, 2) := by decide +kernel
theorem dX6_takesItem_68 : decode cX6_takesItem 68 = .ok (.bipush 121, 2) := by decide +kernel
theorem dX6_takesItem_70 : decode cX6_takesItem 70 = .ok (.iconst 0, 1) := by decide +kernel
theorem dX6_takesItem_71 : decode cX6_takesItem 71 = .ok (.iconst 0, 1) := by decide +kernel
theorem dX6_takesItem_72 : decode cX6_takesItem 72 = .ok (.iconst 0, 1) := by decide +kernel
theorem dX6_takesItem_73 : decode cX6_takesItem 73 = .ok (.invokevirtual 273, 3) := by decide +kernel
theorem dX6_takesItem_76 : decode cX6_takesItem 76 = .ok (.ifCond .eq 8, 3) := by decide +kernel
theorem dX6_takesItem_79 : decode cX6_takesItem 79 = .ok (.aload_n 0, 1) := by decide +kernel
theorem dX6_takesItem_80 : decode cX6_takesItem 80 = .ok (.invokevirtual 283, 3) := by decide +kernel
theorem dX6_takesItem_83 : decode cX6_takesItem 83 = .ok (.ireturn, 1) := by decide +kernel
theorem dX6_takesItem_84 : decode cX6_takesItem 84 = .ok (.aload_n 0, 1) := by decide +kernel
theorem dX6_takesItem_85 : decode cX6_takesItem 85 = .ok (.iconst 4, 1) := by decide +kernel
theorem dX6_takesItem_86 : decode cX6_takesItem 86 = .ok (.bipush 107, 2) := by decide +kernel
theorem dX6_takesItem_88 : decode cX6_takesItem 88 = .ok (.bipush 101, 2) := by decide +kernel
theorem dX6_takesItem_90 : decode cX6_takesItem 90 = .ok (.bipush 101, 2) := by decide +kernel
theorem dX6_takesItem_92 : decode cX6_takesItem 92 = .ok (.bipush 112, 2) := by decide +kernel
theorem dX6_takesItem_94 : decode cX6_takesItem 94 = .ok (.iconst 0, 1) := by decide +kernel
theorem dX6_takesItem_95 : decode cX6_takesItem 95 = .ok (.iconst 0, 1) := by decide +kernel
theorem dX6_takesItem_96 : decode cX6_takesItem 96 = .ok (.invokevirtual 273, 3) := by decide +kernel
theorem dX6_takesItem_99 : decode cX6_takesItem 99 = .ok (.ifCond .eq 8, 3) := by decide +kernel
theorem dX6_takesItem_102 : decode cX6_takesItem 102 = .ok (.aload_n 0, 1) := by decide +kernel
theorem dX6_takesItem_103 : decode cX6_takesItem 103 = .ok (.invokevirtual 286, 3) := by decide +kernel
theorem dX6_takesItem_106 : decode cX6_takesItem 106 = .ok (.ireturn, 1) := by decide +kernel
theorem dX6_takesItem_107 : decode cX6_takesItem 107 = .ok (.aload_n 0, 1) := by decide +kernel
theorem dX6_takesItem_108 : decode cX6_takesItem 108 = .ok (.iconst 4, 1) := by decide +kernel
theorem dX6_takesItem_109 : decode cX6_takesItem 109 = .ok (.bipush 100, 2) := by decide +kernel
theorem dX6_takesItem_111 : decode cX6_takesItem 111 = .ok (.bipush 97, 2) := by decide +kernel
theorem dX6_takesItem_113 : decode cX6_takesItem 113 = .ok (.bipush 121, 2) := by decide +kernel
theorem dX6_takesItem_115 : decode cX6_takesItem 115 = .ok (.bipush 115, 2) := by decide +kernel
theorem dX6_takesItem_117 : decode cX6_takesItem 117 = .ok (.iconst 0, 1) := by decide +kernel
theorem dX6_takesItem_118 : decode cX6_takesItem 118 = .ok (.iconst 0, 1) := by decide +kernel
theorem dX6_takesItem_119 : decode cX6_takesItem 119 = .ok (.invokevirtual 273, 3) := by decide +kernel
theorem dX6_takesItem_122 : decode cX6_takesItem 122 = .ok (.ifCond .eq 14, 3) := by decide +kernel
theorem dX6_takesItem_125 : decode cX6_takesItem 125 = .ok (.aload_n 0, 1) := by decide +kernel
theorem dX6_takesItem_126 : decode cX6_takesItem 126 = .ok (.invokevirtual 289, 3) := by decide +kernel
theorem dX6_takesItem_129 : decode cX6_takesItem 129 = .ok (.ifCond .eq 7, 3) := by decide +kernel
theorem dX6_takesItem_132 : decode cX6_takesItem 132 = .ok (.iconst 1, 1) := by decide +kernel
theorem dX6_takesItem_133 : decode cX6_takesItem 133 = .ok (.goto 4, 3) := by decide +kernel
theorem dX6_takesItem_136 : decode cX6_takesItem 136 = .ok (.iconst 0, 1) := by decide +kernel
theorem dX6_takesItem_137 : decode cX6_takesItem 137 = .ok (.ireturn, 1) := by decide +kernel
theorem dX6_read_0 : decode cX6_read 0 = .ok (.aload_n 0, 1) := by decide +kernel
theorem dX6_read_1 : decode cX6_read 1 = .ok (.iconst 0, 1) := by decide +kernel
theorem dX6_read_2 : decode cX6_read 2 = .ok (.invokevirtual 256, 3) := by decide +kernel
theorem dX6_read_5 : decode cX6_read 5 = .ok (.aload_n 0, 1) := by decide +kernel
theorem dX6_read_6 : decode cX6_read 6 = .ok (.iconst 4, 1) := by decide +kernel
theorem dX6_read_7 : decode cX6_read 7 = .ok (.bipush 116, 2) := by decide +kernel
theorem dX6_read_9 : decode cX6_read 9 = .ok (.bipush 111, 2) := by decide +kernel
theorem dX6_read_11 : decode cX6_read 11 = .ok (.bipush 119, 2) := by decide +kernel
theorem dX6_read_13 : decode cX6_read 13 = .ok (.bipush 110, 2) := by decide +kernel
theorem dX6_read_15 : decode cX6_read 15 = .ok (.iconst 0, 1) := by decide +kernel
theorem dX6_read_16 : decode cX6_read 16 = .ok (.iconst 0, 1) := by decide +kernel
theorem dX6_read_17 : decode cX6_read 17 = .ok (.invokevirtual 273, 3) := by decide +kernel
theorem dX6_read_20 : decode cX6_read 20 = .ok (.ifCond .ne 11, 3) := by decide +kernel
theorem dX6_read_23 : decode cX6_read 23 = .ok (.bipush (-10), 2) := by decide +kernel
theorem dX6_read_25 : decode cX6_read 25 = .ok (.aload_n 0, 1) := by decide +kernel
theorem dX6_read_26 : decode cX6_read 26 = .ok (.getfield 238, 3) := by decide +kernel
theorem dX6_read_29 : decode cX6_read 29 = .ok (.isub, 1) := by decide +kernel
theorem dX6_read_30 : decode cX6_read 30 = .ok (.ireturn, 1) := by decide +kernel
theorem dX6_read_31 : decode cX6_read 31 = .ok (.aload_n 0, 1) := by decide +kernel
theorem dX6_read_32 : decode cX6_read 32 = .ok (.invokevirtual 260, 3) := by decide +kernel
theorem dX6_read_35 : decode cX6_read 35 = .ok (.aload_n 0, 1) := by decide +kernel
theorem dX6_read_36 : decode cX6_read 36 = .ok (.getfield 244, 3) := by decide +kernel
theorem dX6_read_39 : decode cX6_read 39 = .ok (.iconst 3, 1) := by decide +kernel
theorem dX6_read_40 : decode cX6_read 40 = .ok (.if_icmp .eq 11, 3) := by decide +kernel
theorem dX6_read_43 : decode cX6_read 43 = .ok (.bipush (-10), 2) := by decide +kernel
theorem dX6_read_45 : decode cX6_read 45 = .ok (.aload_n 0, 1) := by decide +kernel
theorem dX6_read_46 : decode cX6_read 46 = .ok (.getfield 238, 3) := by decide +kernel
theorem dX6_read_49 : decode cX6_read 49 = .ok (.isub, 1) := by decide +kernel
theorem dX6_read_50 : decode cX6_read 50 = .ok (.ireturn, 1) := by decide +kernel
theorem dX6_read_51 : decode cX6_read 51 = .ok (.aload_n 0, 1) := by decide +kernel
theorem dX6_read_52 : decode cX6_read 52 = .ok (.invokevirtual 260, 3) := by decide +kernel
theorem dX6_read_55 : decode cX6_read 55 = .ok (.aload_n 0, 1) := by decide +kernel
theorem dX6_read_56 : decode cX6_read 56 = .ok (.getfield 42, 3) := by decide +kernel
theorem dX6_read_59 : decode cX6_read 59 = .ok (.invokestatic 48, 3) := by decide +kernel
theorem dX6_read_62 : decode cX6_read 62 = .ok (.iconst 1, 1) := by decide +kernel
theorem dX6_read_63 : decode cX6_read 63 = .ok (.istore_n 1, 1) := by decide +kernel
theorem dX6_read_64 : decode cX6_read 64 = .ok (.aload_n 0, 1) := by decide +kernel
theorem dX6_read_65 : decode cX6_read 65 = .ok (.getfield 244, 3) := by decide +kernel
theorem dX6_read_68 : decode cX6_read 68 = .ok (.ifCond .eq 36, 3) := by decide +kernel
theorem dX6_read_71 : decode cX6_read 71 = .ok (.aload_n 0, 1) := by decide +kernel
theorem dX6_read_72 : decode cX6_read 72 = .ok (.invokevirtual 292, 3) := by decide +kernel
theorem dX6_read_75 : decode cX6_read 75 = .ok (.ifCond .eq 11, 3) := by decide +kernel
theorem dX6_read_78 : decode cX6_read 78 = .ok (.aload_n 0, 1) := by decide +kernel
theorem dX6_read_79 : decode cX6_read 79 = .ok (.getfield 244, 3) := by decide +kernel
theorem dX6_read_82 : decode cX6_read 82 = .ok (.iconst 3, 1) := by decide +kernel
theorem dX6_read_83 : decode cX6_read 83 = .ok (.if_icmp .eq 11, 3) := by decide +kernel
theorem dX6_read_86 : decode cX6_read 86 = .ok (.bipush (-10), 2) := by decide +kernel
theorem dX6_read_88 : decode cX6_read 88 = .ok (.aload_n 0, 1) := by decide +kernel
theorem dX6_read_89 : decode cX6_read 89 = .ok (.getfield 238, 3) := by decide +kernel
theorem dX6_read_92 : decode cX6_read 92 = .ok (.isub, 1) := by decide +kernel
theorem dX6_read_93 : decode cX6_read 93 = .ok (.ireturn, 1) := by decide +kernel
theorem dX6_read_94 : decode cX6_read 94 = .ok (.aload_n 0, 1) := by decide +kernel
theorem dX6_read_95 : decode cX6_read 95 = .ok (.invokevirtual 260, 3) := by decide +kernel
theorem dX6_read_98 : decode cX6_read 98 = .ok (.iinc 1 1, 3) := by decide +kernel
theorem dX6_read_101 : decode cX6_read 101 = .ok (.goto (-37), 3) := by decide +kernel
theorem dX6_read_104 : decode cX6_read 104 = .ok (.iconst 0, 1) := by decide +kernel
theorem dX6_read_105 : decode cX6_read 105 = .ok (.istore_n 2, 1) := by decide +kernel
theorem dX6_read_106 : decode cX6_read 106 = .ok (.iload_n 2, 1) := by decide +kernel
theorem dX6_read_107 : decode cX6_read 107 = .ok (.bipush 106, 2) := by decide +kernel
theorem dX6_read_109 : decode cX6_read 109 = .ok (.if_icmp .ge 21, 3) := by decide +kernel
theorem dX6_read_112 : decode cX6_read 112 = .ok (.aload_n 0, 1) := by decide +kernel
theorem dX6_read_113 : decode cX6_read 113 = .ok (.getfield 7, 3) := by decide +kernel
theorem dX6_read_116 : decode cX6_read 116 = .ok (.iload_n 2, 1) := by decide +kernel
theorem dX6_read_117 : decode cX6_read 117 = .ok (.aload_n 0, 1) := by decide +kernel
theorem dX6_read_118 : decode cX6_read 118 = .ok (.getfield 42, 3) := by decide +kernel
theorem dX6_read_121 : decode cX6_read 121 = .ok (.iload_n 2, 1) := by decide +kernel
theorem dX6_read_122 : decode cX6_read 122 = .ok (.iaload, 1) := by decide +kernel
theorem dX6_read_123 : decode cX6_read 123 = .ok (.iastore, 1) := by decide +kernel
theorem dX6_read_124 : decode cX6_read 124 = .ok (.iinc 2 1, 3) := by decide +kernel
theorem dX6_read_127 : decode cX6_read 127 = .ok (.goto (-21), 3) := by decide +kernel
theorem dX6_read_130 : decode cX6_read 130 = .ok (.iload_n 1, 1) := by decide +kernel
theorem dX6_read_131 : decode cX6_read 131 = .ok (.ireturn, 1) := by decide +kernel
theorem dX6_part_0 : decode cX6_part 0 = .ok (.iload_n 1, 1) := by decide +kernel
theorem dX6_part_1 : decode cX6_part 1 = .ok (.ifCond .ne 10, 3) := by decide +kernel
theorem dX6_part_4 : decode cX6_part 4 = .ok (.aload_n 0, 1) := by decide +kernel
theorem dX6_part_5 : decode cX6_part 5 = .ok (.getfield 199, 3) := by decide +kernel
theorem dX6_part_8 : decode cX6_part 8 = .ok (.goto 22, 3) := by decide +kernel
theorem dX6_part_11 : decode cX6_part 11 = .ok (.iload_n 1, 1) := by decide +kernel
theorem dX6_part_12 : decode cX6_part 12 = .ok (.iconst 1, 1) := by decide +kernel
theorem dX6_part_13 : decode cX6_part 13 = .ok (.if_icmp .ne 10, 3) := by decide +kernel
theorem dX6_part_16 : decode cX6_part 16 = .ok (.aload_n 0, 1) := by decide +kernel
theorem dX6_part_17 : decode cX6_part 17 = .ok (.getfield 23, 3) := by decide +kernel
theorem dX6_part_20 : decode cX6_part 20 = .ok (.goto 10, 3) := by decide +kernel
theorem dX6_part_23 : decode cX6_part 23 = .ok (.aload_n 0, 1) := by decide +kernel
theorem dX6_part_24 : decode cX6_part 24 = .ok (.bipush (-2), 2) := by decide +kernel
theorem dX6_part_26 : decode cX6_part 26 = .ok (.invokevirtual 71, 3) := by decide +kernel
theorem dX6_part_29 : decode cX6_part 29 = .ok (.i2l, 1) := by decide +kernel
theorem dX6_part_30 : decode cX6_part 30 = .ok (.lreturn, 1) := by decide +kernel
theorem dX6_image_0 : decode cX6_image 0 = .ok (.iload_n 1, 1) := by decide +kernel
theorem dX6_image_1 : decode cX6_image 1 = .ok (.i2l, 1) := by decide +kernel
theorem dX6_image_2 : decode cX6_image 2 = .ok (.lconst 0, 1) := by decide +kernel
theorem dX6_image_3 : decode cX6_image 3 = .ok (.lconst 1, 1) := by decide +kernel
theorem dX6_image_4 : decode cX6_image 4 = .ok (.invokestatic 56, 3) := by decide +kernel
theorem dX6_image_7 : decode cX6_image 7 = .ok (.ifCond .ne 10, 3) := by decide +kernel
theorem dX6_image_10 : decode cX6_image 10 = .ok (.aload_n 0, 1) := by decide +kernel
theorem dX6_image_11 : decode cX6_image 11 = .ok (.bipush (-2), 2) := by decide +kernel
theorem dX6_image_13 : decode cX6_image 13 = .ok (.invokevirtual 71, 3) := by decide +kernel
theorem dX6_image_16 : decode cX6_image 16 = .ok (.ireturn, 1) := by decide +kernel
theorem dX6_image_17 : decode cX6_image 17 = .ok (.iconst 0, 1) := by decide +kernel
theorem dX6_image_18 : decode cX6_image 18 = .ok (.istore_n 2, 1) := by decide +kernel
theorem dX6_image_19 : decode cX6_image 19 = .ok (.iload_n 2, 1) := by decide +kernel
theorem dX6_image_20 : decode cX6_image 20 = .ok (.sipush 258, 3) := by decide +kernel
theorem dX6_image_23 : decode cX6_image 23 = .ok (.if_icmp .ge 27, 3) := by decide +kernel
theorem dX6_image_26 : decode cX6_image 26 = .ok (.aload_n 0, 1) := by decide +kernel
theorem dX6_image_27 : decode cX6_image 27 = .ok (.getfield 13, 3) := by decide +kernel
theorem dX6_image_30 : decode cX6_image 30 = .ok (.sipush 258, 3) := by decide +kernel
theorem dX6_image_33 : decode cX6_image 33 = .ok (.iload_n 1, 1) := by decide +kernel
theorem dX6_image_34 : decode cX6_image 34 = .ok (.imul, 1) := by decide +kernel
theorem dX6_image_35 : decode cX6_image 35 = .ok (.iload_n 2, 1) := by decide +kernel
theorem dX6_image_36 : decode cX6_image 36 = .ok (.iadd, 1) := by decide +kernel
theorem dX6_image_37 : decode cX6_image 37 = .ok (.aload_n 0, 1) := by decide +kernel
theorem dX6_image_38 : decode cX6_image 38 = .ok (.getfield 7, 3) := by decide +kernel
theorem dX6_image_41 : decode cX6_image 41 = .ok (.iload_n 2, 1) := by decide +kernel
theorem dX6_image_42 : decode cX6_image 42 = .ok (.iaload, 1) := by decide +kernel
theorem dX6_image_43 : decode cX6_image 43 = .ok (.iastore, 1) := by decide +kernel
theorem dX6_image_44 : decode cX6_image 44 = .ok (.iinc 2 1, 3) := by decide +kernel
theorem dX6_image_47 : decode cX6_image 47 = .ok (.goto (-28), 3) := by decide +kernel
theorem dX6_image_50 : decode cX6_image 50 = .ok (.aload_n 0, 1) := by decide +kernel
theorem dX6_image_51 : decode cX6_image 51 = .ok (.getfield 16, 3) := by decide +kernel
theorem dX6_image_54 : decode cX6_image 54 = .ok (.iload_n 1, 1) := by decide +kernel
theorem dX6_image_55 : decode cX6_image 55 = .ok (.iconst 1, 1) := by decide +kernel
theorem dX6_image_56 : decode cX6_image 56 = .ok (.bastore, 1) := by decide +kernel
theorem dX6_image_57 : decode cX6_image 57 = .ok (.iconst 1, 1) := by decide +kernel
theorem dX6_image_58 : decode cX6_image 58 = .ok (.ireturn, 1) := by decide +kernel
theorem dX6_from_0 : decode cX6_from 0 = .ok (.iload_n 1, 1) := by decide +kernel
theorem dX6_from_1 : decode cX6_from 1 = .ok (.i2l, 1) := by decide +kernel
theorem dX6_from_2 : decode cX6_from 2 = .ok (.lconst 0, 1) := by decide +kernel
theorem dX6_from_3 : decode cX6_from 3 = .ok (.lconst 1, 1) := by decide +kernel
theorem dX6_from_4 : decode cX6_from 4 = .ok (.invokestatic 56, 3) := by decide +kernel
theorem dX6_from_7 : decode cX6_from 7 = .ok (.ifCond .ne 10, 3) := by decide +kernel
theorem dX6_from_10 : decode cX6_from 10 = .ok (.aload_n 0, 1) := by decide +kernel
theorem dX6_from_11 : decode cX6_from 11 = .ok (.bipush (-2), 2) := by decide +kernel
theorem dX6_from_13 : decode cX6_from 13 = .ok (.invokevirtual 71, 3) := by decide +kernel
theorem dX6_from_16 : decode cX6_from 16 = .ok (.ireturn, 1) := by decide +kernel
theorem dX6_from_17 : decode cX6_from 17 = .ok (.aload_n 0, 1) := by decide +kernel
theorem dX6_from_18 : decode cX6_from 18 = .ok (.getfield 16, 3) := by decide +kernel
theorem dX6_from_21 : decode cX6_from 21 = .ok (.iload_n 1, 1) := by decide +kernel
theorem dX6_from_22 : decode cX6_from 22 = .ok (.baload, 1) := by decide +kernel
theorem dX6_from_23 : decode cX6_from 23 = .ok (.ifCond .ne 8, 3) := by decide +kernel
theorem dX6_from_26 : decode cX6_from 26 = .ok (.aload_n 0, 1) := by decide +kernel
theorem dX6_from_27 : decode cX6_from 27 = .ok (.invokevirtual 128, 3) := by decide +kernel
theorem dX6_from_30 : decode cX6_from 30 = .ok (.ireturn, 1) := by decide +kernel
theorem dX6_from_31 : decode cX6_from 31 = .ok (.iconst 0, 1) := by decide +kernel
theorem dX6_from_32 : decode cX6_from 32 = .ok (.istore_n 2, 1) := by decide +kernel
theorem dX6_from_33 : decode cX6_from 33 = .ok (.iload_n 2, 1) := by decide +kernel
theorem dX6_from_34 : decode cX6_from 34 = .ok (.sipush 258, 3) := by decide +kernel
theorem dX6_from_37 : decode cX6_from 37 = .ok (.if_icmp .ge 27, 3) := by decide +kernel
theorem dX6_from_40 : decode cX6_from 40 = .ok (.aload_n 0, 1) := by decide +kernel
theorem dX6_from_41 : decode cX6_from 41 = .ok (.getfield 7, 3) := by decide +kernel
theorem dX6_from_44 : decode cX6_from 44 = .ok (.iload_n 2, 1) := by decide +kernel
theorem dX6_from_45 : decode cX6_from 45 = .ok (.aload_n 0, 1) := by decide +kernel
theorem dX6_from_46 : decode cX6_from 46 = .ok (.getfield 13, 3) := by decide +kernel
theorem dX6_from_49 : decode cX6_from 49 = .ok (.sipush 258, 3) := by decide +kernel
theorem dX6_from_52 : decode cX6_from 52 = .ok (.iload_n 1, 1) := by decide +kernel
theorem dX6_from_53 : decode cX6_from 53 = .ok (.imul, 1) := by decide +kernel
theorem dX6_from_54 : decode cX6_from 54 = .ok (.iload_n 2, 1) := by decide +kernel
theorem dX6_from_55 : decode cX6_from 55 = .ok (.iadd, 1) := by decide +kernel
theorem dX6_from_56 : decode cX6_from 56 = .ok (.iaload, 1) := by decide +kernel
theorem dX6_from_57 : decode cX6_from 57 = .ok (.iastore, 1) := by decide +kernel
theorem dX6_from_58 : decode cX6_from 58 = .ok (.iinc 2 1, 3) := by decide +kernel
theorem dX6_from_61 : decode cX6_from 61 = .ok (.goto (-28), 3) := by decide +kernel
theorem dX6_from_64 : decode cX6_from 64 = .ok (.iconst 1, 1) := by decide +kernel
theorem dX6_from_65 : decode cX6_from 65 = .ok (.ireturn, 1) := by decide +kernel
theorem dX6_status_0 : decode cX6_status 0 = .ok (.iload_n 1, 1) := by decide +kernel
theorem dX6_status_1 : decode cX6_status 1 = .ok (.i2l, 1) := by decide +kernel
theorem dX6_status_2 : decode cX6_status 2 = .ok (.lconst 0, 1) := by decide +kernel
theorem dX6_status_3 : decode cX6_status 3 = .ok (.ldc2_w 147, 3) := by decide +kernel
theorem dX6_status_6 : decode cX6_status 6 = .ok (.invokestatic 56, 3) := by decide +kernel
theorem dX6_status_9 : decode cX6_status 9 = .ok (.ifCond .eq 12, 3) := by decide +kernel
theorem dX6_status_12 : decode cX6_status 12 = .ok (.aload_n 0, 1) := by decide +kernel
theorem dX6_status_13 : decode cX6_status 13 = .ok (.getfield 20, 3) := by decide +kernel
theorem dX6_status_16 : decode cX6_status 16 = .ok (.iload_n 1, 1) := by decide +kernel
theorem dX6_status_17 : decode cX6_status 17 = .ok (.iaload, 1) := by decide +kernel
theorem dX6_status_18 : decode cX6_status 18 = .ok (.goto 8, 3) := by decide +kernel
theorem dX6_status_21 : decode cX6_status 21 = .ok (.aload_n 0, 1) := by decide +kernel
theorem dX6_status_22 : decode cX6_status 22 = .ok (.iconst (-1), 1) := by decide +kernel
theorem dX6_status_23 : decode cX6_status 23 = .ok (.invokevirtual 71, 3) := by decide +kernel
theorem dX6_status_26 : decode cX6_status 26 = .ok (.ireturn, 1) := by decide +kernel
theorem dX6_counted_0 : decode cX6_counted 0 = .ok (.iconst 0, 1) := by decide +kernel
theorem dX6_counted_1 : decode cX6_counted 1 = .ok (.istore_n 2, 1) := by decide +kernel
theorem dX6_counted_2 : decode cX6_counted 2 = .ok (.iconst 0, 1) := by decide +kernel
theorem dX6_counted_3 : decode cX6_counted 3 = .ok (.istore_n 3, 1) := by decide +kernel
theorem dX6_counted_4 : decode cX6_counted 4 = .ok (.iconst 0, 1) := by decide +kernel
theorem dX6_counted_5 : decode cX6_counted 5 = .ok (.istore 4, 2) := by decide +kernel
theorem dX6_counted_7 : decode cX6_counted 7 = .ok (.iload 4, 2) := by decide +kernel
theorem dX6_counted_9 : decode cX6_counted 9 = .ok (.aload_n 0, 1) := by decide +kernel
theorem dX6_counted_10 : decode cX6_counted 10 = .ok (.invokevirtual 52, 3) := by decide +kernel
theorem dX6_counted_13 : decode cX6_counted 13 = .ok (.if_icmp .ge 52, 3) := by decide +kernel
theorem dX6_counted_16 : decode cX6_counted 16 = .ok (.iload_n 2, 1) := by decide +kernel
theorem dX6_counted_17 : decode cX6_counted 17 = .ok (.aload_n 0, 1) := by decide +kernel
theorem dX6_counted_18 : decode cX6_counted 18 = .ok (.getfield 7, 3) := by decide +kernel
theorem dX6_counted_21 : decode cX6_counted 21 = .ok (.iload 4, 2) := by decide +kernel
theorem dX6_counted_23 : decode cX6_counted 23 = .ok (.invokestatic 95, 3) := by decide +kernel
theorem dX6_counted_26 : decode cX6_counted 26 = .ok (.ifCond .eq 7, 3) := by decide +kernel
theorem dX6_counted_29 : decode cX6_counted 29 = .ok (.iconst 1, 1) := by decide +kernel
theorem dX6_counted_30 : decode cX6_counted 30 = .ok (.goto 4, 3) := by decide +kernel
theorem dX6_counted_33 : decode cX6_counted 33 = .ok (.iconst 0, 1) := by decide +kernel
theorem dX6_counted_34 : decode cX6_counted 34 = .ok (.iadd, 1) := by decide +kernel
theorem dX6_counted_35 : decode cX6_counted 35 = .ok (.istore_n 2, 1) := by decide +kernel
theorem dX6_counted_36 : decode cX6_counted 36 = .ok (.iload_n 3, 1) := by decide +kernel
theorem dX6_counted_37 : decode cX6_counted 37 = .ok (.aload_n 0, 1) := by decide +kernel
theorem dX6_counted_38 : decode cX6_counted 38 = .ok (.getfield 7, 3) := by decide +kernel
theorem dX6_counted_41 : decode cX6_counted 41 = .ok (.bipush 7, 2) := by decide +kernel
theorem dX6_counted_43 : decode cX6_counted 43 = .ok (.iload 4, 2) := by decide +kernel
theorem dX6_counted_45 : decode cX6_counted 45 = .ok (.iadd, 1) := by decide +kernel
theorem dX6_counted_46 : decode cX6_counted 46 = .ok (.iaload, 1) := by decide +kernel
theorem dX6_counted_47 : decode cX6_counted 47 = .ok (.bipush 10, 2) := by decide +kernel
theorem dX6_counted_49 : decode cX6_counted 49 = .ok (.if_icmp .lt 7, 3) := by decide +kernel
theorem dX6_counted_52 : decode cX6_counted 52 = .ok (.iconst 1, 1) := by decide +kernel
theorem dX6_counted_53 : decode cX6_counted 53 = .ok (.goto 4, 3) := by decide +kernel
theorem dX6_counted_56 : decode cX6_counted 56 = .ok (.iconst 0, 1) := by decide +kernel
theorem dX6_counted_57 : decode cX6_counted 57 = .ok (.iadd, 1) := by decide +kernel
theorem dX6_counted_58 : decode cX6_counted 58 = .ok (.istore_n 3, 1) := by decide +kernel
theorem dX6_counted_59 : decode cX6_counted 59 = .ok (.iinc 4 1, 3) := by decide +kernel
theorem dX6_counted_62 : decode cX6_counted 62 = .ok (.goto (-55), 3) := by decide +kernel
theorem dX6_counted_65 : decode cX6_counted 65 = .ok (.iload_n 1, 1) := by decide +kernel
theorem dX6_counted_66 : decode cX6_counted 66 = .ok (.tableswitch 75 3 11 #[50, 58, 60, 62, 75, 75, 75, 75, 70], 50) := by decide +kernel
theorem dX6_counted_116 : decode cX6_counted 116 = .ok (.aload_n 0, 1) := by decide +kernel
theorem dX6_counted_117 : decode cX6_counted 117 = .ok (.getfield 7, 3) := by decide +kernel
theorem dX6_counted_120 : decode cX6_counted 120 = .ok (.bipush 25, 2) := by decide +kernel
theorem dX6_counted_122 : decode cX6_counted 122 = .ok (.iaload, 1) := by decide +kernel
theorem dX6_counted_123 : decode cX6_counted 123 = .ok (.ireturn, 1) := by decide +kernel
theorem dX6_counted_124 : decode cX6_counted 124 = .ok (.iload_n 2, 1) := by decide +kernel
theorem dX6_counted_125 : decode cX6_counted 125 = .ok (.ireturn, 1) := by decide +kernel
theorem dX6_counted_126 : decode cX6_counted 126 = .ok (.iload_n 3, 1) := by decide +kernel
theorem dX6_counted_127 : decode cX6_counted 127 = .ok (.ireturn, 1) := by decide +kernel
theorem dX6_counted_128 : decode cX6_counted 128 = .ok (.aload_n 0, 1) := by decide +kernel
theorem dX6_counted_129 : decode cX6_counted 129 = .ok (.getfield 7, 3) := by decide +kernel
theorem dX6_counted_132 : decode cX6_counted 132 = .ok (.bipush 24, 2) := by decide +kernel
theorem dX6_counted_134 : decode cX6_counted 134 = .ok (.iaload, 1) := by decide +kernel
theorem dX6_counted_135 : decode cX6_counted 135 = .ok (.ireturn, 1) := by decide +kernel
theorem dX6_counted_136 : decode cX6_counted 136 = .ok (.aload_n 0, 1) := by decide +kernel
theorem dX6_counted_137 : decode cX6_counted 137 = .ok (.getfield 226, 3) := by decide +kernel
theorem dX6_counted_140 : decode cX6_counted 140 = .ok (.ireturn, 1) := by decide +kernel
theorem dX6_counted_141 : decode cX6_counted 141 = .ok (.iload_n 1, 1) := by decide +kernel
theorem dX6_counted_142 : decode cX6_counted 142 = .ok (.iconst 3, 1) := by decide +kernel
theorem dX6_counted_143 : decode cX6_counted 143 = .ok (.if_icmp .ge 12, 3) := by decide +kernel
theorem dX6_counted_146 : decode cX6_counted 146 = .ok (.aload_n 0, 1) := by decide +kernel
theorem dX6_counted_147 : decode cX6_counted 147 = .ok (.getfield 7, 3) := by decide +kernel
theorem dX6_counted_150 : decode cX6_counted 150 = .ok (.iload_n 1, 1) := by decide +kernel
theorem dX6_counted_151 : decode cX6_counted 151 = .ok (.iaload, 1) := by decide +kernel
theorem dX6_counted_152 : decode cX6_counted 152 = .ok (.goto 14, 3) := by decide +kernel
theorem dX6_counted_155 : decode cX6_counted 155 = .ok (.aload_n 0, 1) := by decide +kernel
theorem dX6_counted_156 : decode cX6_counted 156 = .ok (.getfield 7, 3) := by decide +kernel
theorem dX6_counted_159 : decode cX6_counted 159 = .ok (.iconst 3, 1) := by decide +kernel
theorem dX6_counted_160 : decode cX6_counted 160 = .ok (.iload_n 1, 1) := by decide +kernel
theorem dX6_counted_161 : decode cX6_counted 161 = .ok (.iadd, 1) := by decide +kernel
theorem dX6_counted_162 : decode cX6_counted 162 = .ok (.bipush 7, 2) := by decide +kernel
theorem dX6_counted_164 : decode cX6_counted 164 = .ok (.isub, 1) := by decide +kernel
theorem dX6_counted_165 : decode cX6_counted 165 = .ok (.iaload, 1) := by decide +kernel
theorem dX6_counted_166 : decode cX6_counted 166 = .ok (.ireturn, 1) := by decide +kernel
theorem dX6_count_0 : decode cX6_count 0 = .ok (.iload_n 1, 1) := by decide +kernel
theorem dX6_count_1 : decode cX6_count 1 = .ok (.i2l, 1) := by decide +kernel
theorem dX6_count_2 : decode cX6_count 2 = .ok (.lconst 0, 1) := by decide +kernel
theorem dX6_count_3 : decode cX6_count 3 = .ok (.ldc2_w 295, 3) := by decide +kernel
theorem dX6_count_6 : decode cX6_count 6 = .ok (.invokestatic 56, 3) := by decide +kernel
theorem dX6_count_9 : decode cX6_count 9 = .ok (.ifCond .eq 11, 3) := by decide +kernel
theorem dX6_count_12 : decode cX6_count 12 = .ok (.aload_n 0, 1) := by decide +kernel
theorem dX6_count_13 : decode cX6_count 13 = .ok (.iload_n 1, 1) := by decide +kernel
theorem dX6_count_14 : decode cX6_count 14 = .ok (.invokevirtual 297, 3) := by decide +kernel
theorem dX6_count_17 : decode cX6_count 17 = .ok (.goto 9, 3) := by decide +kernel
theorem dX6_count_20 : decode cX6_count 20 = .ok (.aload_n 0, 1) := by decide +kernel
theorem dX6_count_21 : decode cX6_count 21 = .ok (.bipush (-2), 2) := by decide +kernel
theorem dX6_count_23 : decode cX6_count 23 = .ok (.invokevirtual 71, 3) := by decide +kernel
theorem dX6_count_26 : decode cX6_count 26 = .ok (.ireturn, 1) := by decide +kernel
theorem dX6_sums_0 : decode cX6_sums 0 = .ok (.lload_n 1, 1) := by decide +kernel
theorem dX6_sums_1 : decode cX6_sums 1 = .ok (.lstore 5, 2) := by decide +kernel
theorem dX6_sums_3 : decode cX6_sums 3 = .ok (.iconst 0, 1) := by decide +kernel
theorem dX6_sums_4 : decode cX6_sums 4 = .ok (.istore 7, 2) := by decide +kernel
theorem dX6_sums_6 : decode cX6_sums 6 = .ok (.iload 7, 2) := by decide +kernel
theorem dX6_sums_8 : decode cX6_sums 8 = .ok (.iload 4, 2) := by decide +kernel
theorem dX6_sums_10 : decode cX6_sums 10 = .ok (.if_icmp .ge 28, 3) := by decide +kernel
theorem dX6_sums_13 : decode cX6_sums 13 = .ok (.ldc2_w 300, 3) := by decide +kernel
theorem dX6_sums_16 : decode cX6_sums 16 = .ok (.lload 5, 2) := by decide +kernel
theorem dX6_sums_18 : decode cX6_sums 18 = .ok (.lmul, 1) := by decide +kernel
theorem dX6_sums_19 : decode cX6_sums 19 = .ok (.aload_n 0, 1) := by decide +kernel
theorem dX6_sums_20 : decode cX6_sums 20 = .ok (.getfield 7, 3) := by decide +kernel
theorem dX6_sums_23 : decode cX6_sums 23 = .ok (.iload_n 3, 1) := by decide +kernel
theorem dX6_sums_24 : decode cX6_sums 24 = .ok (.iload 7, 2) := by decide +kernel
theorem dX6_sums_26 : decode cX6_sums 26 = .ok (.iadd, 1) := by decide +kernel
theorem dX6_sums_27 : decode cX6_sums 27 = .ok (.iaload, 1) := by decide +kernel
theorem dX6_sums_28 : decode cX6_sums 28 = .ok (.i2l, 1) := by decide +kernel
theorem dX6_sums_29 : decode cX6_sums 29 = .ok (.ladd, 1) := by decide +kernel
theorem dX6_sums_30 : decode cX6_sums 30 = .ok (.lstore 5, 2) := by decide +kernel
theorem dX6_sums_32 : decode cX6_sums 32 = .ok (.iinc 7 1, 3) := by decide +kernel
theorem dX6_sums_35 : decode cX6_sums 35 = .ok (.goto (-29), 3) := by decide +kernel
theorem dX6_sums_38 : decode cX6_sums 38 = .ok (.lload 5, 2) := by decide +kernel
theorem dX6_sums_40 : decode cX6_sums 40 = .ok (.lreturn, 1) := by decide +kernel
theorem dX6_digest_0 : decode cX6_digest 0 = .ok (.ldc2_w 302, 3) := by decide +kernel
theorem dX6_digest_3 : decode cX6_digest 3 = .ok (.lstore_n 1, 1) := by decide +kernel
theorem dX6_digest_4 : decode cX6_digest 4 = .ok (.iconst 0, 1) := by decide +kernel
theorem dX6_digest_5 : decode cX6_digest 5 = .ok (.istore_n 3, 1) := by decide +kernel
theorem dX6_digest_6 : decode cX6_digest 6 = .ok (.iload_n 3, 1) := by decide +kernel
theorem dX6_digest_7 : decode cX6_digest 7 = .ok (.bipush 12, 2) := by decide +kernel
theorem dX6_digest_9 : decode cX6_digest 9 = .ok (.if_icmp .ge 22, 3) := by decide +kernel
theorem dX6_digest_12 : decode cX6_digest 12 = .ok (.ldc2_w 300, 3) := by decide +kernel
theorem dX6_digest_15 : decode cX6_digest 15 = .ok (.lload_n 1, 1) := by decide +kernel
theorem dX6_digest_16 : decode cX6_digest 16 = .ok (.lmul, 1) := by decide +kernel
theorem dX6_digest_17 : decode cX6_digest 17 = .ok (.aload_n 0, 1) := by decide +kernel
theorem dX6_digest_18 : decode cX6_digest 18 = .ok (.iload_n 3, 1) := by decide +kernel
theorem dX6_digest_19 : decode cX6_digest 19 = .ok (.invokevirtual 297, 3) := by decide +kernel
theorem dX6_digest_22 : decode cX6_digest 22 = .ok (.i2l, 1) := by decide +kernel
theorem dX6_digest_23 : decode cX6_digest 23 = .ok (.ladd, 1) := by decide +kernel
theorem dX6_digest_24 : decode cX6_digest 24 = .ok (.lstore_n 1, 1) := by decide +kernel
theorem dX6_digest_25 : decode cX6_digest 25 = .ok (.iinc 3 1, 3) := by decide +kernel
theorem dX6_digest_28 : decode cX6_digest 28 = .ok (.goto (-22), 3) := by decide +kernel
theorem dX6_digest_31 : decode cX6_digest 31 = .ok (.iconst 0, 1) := by decide +kernel
theorem dX6_digest_32 : decode cX6_digest 32 = .ok (.istore_n 3, 1) := by decide +kernel
theorem dX6_digest_33 : decode cX6_digest 33 = .ok (.iload_n 3, 1) := by decide +kernel
theorem dX6_digest_34 : decode cX6_digest 34 = .ok (.aload_n 0, 1) := by decide +kernel
theorem dX6_digest_35 : decode cX6_digest 35 = .ok (.invokevirtual 52, 3) := by decide +kernel
theorem dX6_digest_38 : decode cX6_digest 38 = .ok (.if_icmp .ge 39, 3) := by decide +kernel
theorem dX6_digest_41 : decode cX6_digest 41 = .ok (.iconst 0, 1) := by decide +kernel
theorem dX6_digest_42 : decode cX6_digest 42 = .ok (.istore 4, 2) := by decide +kernel
theorem dX6_digest_44 : decode cX6_digest 44 = .ok (.iload 4, 2) := by decide +kernel
theorem dX6_digest_46 : decode cX6_digest 46 = .ok (.iconst 4, 1) := by decide +kernel
theorem dX6_digest_47 : decode cX6_digest 47 = .ok (.if_icmp .ge 24, 3) := by decide +kernel
theorem dX6_digest_50 : decode cX6_digest 50 = .ok (.ldc2_w 300, 3) := by decide +kernel
theorem dX6_digest_53 : decode cX6_digest 53 = .ok (.lload_n 1, 1) := by decide +kernel
theorem dX6_digest_54 : decode cX6_digest 54 = .ok (.lmul, 1) := by decide +kernel
theorem dX6_digest_55 : decode cX6_digest 55 = .ok (.aload_n 0, 1) := by decide +kernel
theorem dX6_digest_56 : decode cX6_digest 56 = .ok (.iload_n 3, 1) := by decide +kernel
theorem dX6_digest_57 : decode cX6_digest 57 = .ok (.iload 4, 2) := by decide +kernel
theorem dX6_digest_59 : decode cX6_digest 59 = .ok (.invokevirtual 143, 3) := by decide +kernel
theorem dX6_digest_62 : decode cX6_digest 62 = .ok (.i2l, 1) := by decide +kernel
theorem dX6_digest_63 : decode cX6_digest 63 = .ok (.ladd, 1) := by decide +kernel
theorem dX6_digest_64 : decode cX6_digest 64 = .ok (.lstore_n 1, 1) := by decide +kernel
theorem dX6_digest_65 : decode cX6_digest 65 = .ok (.iinc 4 1, 3) := by decide +kernel
theorem dX6_digest_68 : decode cX6_digest 68 = .ok (.goto (-24), 3) := by decide +kernel
theorem dX6_digest_71 : decode cX6_digest 71 = .ok (.iinc 3 1, 3) := by decide +kernel
theorem dX6_digest_74 : decode cX6_digest 74 = .ok (.goto (-41), 3) := by decide +kernel
theorem dX6_digest_77 : decode cX6_digest 77 = .ok (.iconst 0, 1) := by decide +kernel
theorem dX6_digest_78 : decode cX6_digest 78 = .ok (.istore_n 3, 1) := by decide +kernel
theorem dX6_digest_79 : decode cX6_digest 79 = .ok (.iload_n 3, 1) := by decide +kernel
theorem dX6_digest_80 : decode cX6_digest 80 = .ok (.aload_n 0, 1) := by decide +kernel
theorem dX6_digest_81 : decode cX6_digest 81 = .ok (.getfield 7, 3) := by decide +kernel
theorem dX6_digest_84 : decode cX6_digest 84 = .ok (.iconst 1, 1) := by decide +kernel
theorem dX6_digest_85 : decode cX6_digest 85 = .ok (.iaload, 1) := by decide +kernel
theorem dX6_digest_86 : decode cX6_digest 86 = .ok (.if_icmp .ge 41, 3) := by decide +kernel
theorem dX6_digest_89 : decode cX6_digest 89 = .ok (.ldc2_w 300, 3) := by decide +kernel
theorem dX6_digest_92 : decode cX6_digest 92 = .ok (.ldc2_w 300, 3) := by decide +kernel
theorem dX6_digest_95 : decode cX6_digest 95 = .ok (.lload_n 1, 1) := by decide +kernel
theorem dX6_digest_96 : decode cX6_digest 96 = .ok (.lmul, 1) := by decide +kernel
theorem dX6_digest_97 : decode cX6_digest 97 = .ok (.aload_n 0, 1) := by decide +kernel
theorem dX6_digest_98 : decode cX6_digest 98 = .ok (.getfield 7, 3) := by decide +kernel
theorem dX6_digest_101 : decode cX6_digest 101 = .ok (.bipush 40, 2) := by decide +kernel
theorem dX6_digest_103 : decode cX6_digest 103 = .ok (.iload_n 3, 1) := by decide +kernel
theorem dX6_digest_104 : decode cX6_digest 104 = .ok (.iadd, 1) := by decide +kernel
theorem dX6_digest_105 : decode cX6_digest 105 = .ok (.iaload, 1) := by decide +kernel
theorem dX6_digest_106 : decode cX6_digest 106 = .ok (.i2l, 1) := by decide +kernel
theorem dX6_digest_107 : decode cX6_digest 107 = .ok (.ladd, 1) := by decide +kernel
theorem dX6_digest_108 : decode cX6_digest 108 = .ok (.lmul, 1) := by decide +kernel
theorem dX6_digest_109 : decode cX6_digest 109 = .ok (.aload_n 0, 1) := by decide +kernel
theorem dX6_digest_110 : decode cX6_digest 110 = .ok (.getfield 7, 3) := by decide +kernel
theorem dX6_digest_113 : decode cX6_digest 113 = .ok (.bipush 44, 2) := by decide +kernel
theorem dX6_digest_115 : decode cX6_digest 115 = .ok (.iload_n 3, 1) := by decide +kernel
theorem dX6_digest_116 : decode cX6_digest 116 = .ok (.iadd, 1) := by decide +kernel
theorem dX6_digest_117 : decode cX6_digest 117 = .ok (.iaload, 1) := by decide +kernel
theorem dX6_digest_118 : decode cX6_digest 118 = .ok (.i2l, 1) := by decide +kernel
theorem dX6_digest_119 : decode cX6_digest 119 = .ok (.ladd, 1) := by decide +kernel
theorem dX6_digest_120 : decode cX6_digest 120 = .ok (.lstore_n 1, 1) := by decide +kernel
theorem dX6_digest_121 : decode cX6_digest 121 = .ok (.iinc 3 1, 3) := by decide +kernel
theorem dX6_digest_124 : decode cX6_digest 124 = .ok (.goto (-45), 3) := by decide +kernel
theorem dX6_digest_127 : decode cX6_digest 127 = .ok (.aload_n 0, 1) := by decide +kernel
theorem dX6_digest_128 : decode cX6_digest 128 = .ok (.lload_n 1, 1) := by decide +kernel
theorem dX6_digest_129 : decode cX6_digest 129 = .ok (.bipush 21, 2) := by decide +kernel
theorem dX6_digest_131 : decode cX6_digest 131 = .ok (.aload_n 0, 1) := by decide +kernel
theorem dX6_digest_132 : decode cX6_digest 132 = .ok (.getfield 7, 3) := by decide +kernel
theorem dX6_digest_135 : decode cX6_digest 135 = .ok (.iconst 2, 1) := by decide +kernel
theorem dX6_digest_136 : decode cX6_digest 136 = .ok (.iaload, 1) := by decide +kernel
theorem dX6_digest_137 : decode cX6_digest 137 = .ok (.invokevirtual 304, 3) := by decide +kernel
theorem dX6_digest_140 : decode cX6_digest 140 = .ok (.lstore_n 1, 1) := by decide +kernel
theorem dX6_digest_141 : decode cX6_digest 141 = .ok (.aload_n 0, 1) := by decide +kernel
theorem dX6_digest_142 : decode cX6_digest 142 = .ok (.lload_n 1, 1) := by decide +kernel
theorem dX6_digest_143 : decode cX6_digest 143 = .ok (.bipush 48, 2) := by decide +kernel
theorem dX6_digest_145 : decode cX6_digest 145 = .ok (.iconst 2, 1) := by decide +kernel
theorem dX6_digest_146 : decode cX6_digest 146 = .ok (.aload_n 0, 1) := by decide +kernel
theorem dX6_digest_147 : decode cX6_digest 147 = .ok (.getfield 7, 3) := by decide +kernel
theorem dX6_digest_150 : decode cX6_digest 150 = .ok (.iconst 3, 1) := by decide +kernel
theorem dX6_digest_151 : decode cX6_digest 151 = .ok (.iaload, 1) := by decide +kernel
theorem dX6_digest_152 : decode cX6_digest 152 = .ok (.imul, 1) := by decide +kernel
theorem dX6_digest_153 : decode cX6_digest 153 = .ok (.invokevirtual 304, 3) := by decide +kernel
theorem dX6_digest_156 : decode cX6_digest 156 = .ok (.lstore_n 1, 1) := by decide +kernel
theorem dX6_digest_157 : decode cX6_digest 157 = .ok (.aload_n 0, 1) := by decide +kernel
theorem dX6_digest_158 : decode cX6_digest 158 = .ok (.lload_n 1, 1) := by decide +kernel
theorem dX6_digest_159 : decode cX6_digest 159 = .ok (.bipush 58, 2) := by decide +kernel
theorem dX6_digest_161 : decode cX6_digest 161 = .ok (.iconst 4, 1) := by decide +kernel
theorem dX6_digest_162 : decode cX6_digest 162 = .ok (.aload_n 0, 1) := by decide +kernel
theorem dX6_digest_163 : decode cX6_digest 163 = .ok (.getfield 7, 3) := by decide +kernel
theorem dX6_digest_166 : decode cX6_digest 166 = .ok (.iconst 4, 1) := by decide +kernel
theorem dX6_digest_167 : decode cX6_digest 167 = .ok (.iaload, 1) := by decide +kernel
theorem dX6_digest_168 : decode cX6_digest 168 = .ok (.imul, 1) := by decide +kernel
theorem dX6_digest_169 : decode cX6_digest 169 = .ok (.invokevirtual 304, 3) := by decide +kernel
theorem dX6_digest_172 : decode cX6_digest 172 = .ok (.lstore_n 1, 1) := by decide +kernel
theorem dX6_digest_173 : decode cX6_digest 173 = .ok (.aload_n 0, 1) := by decide +kernel
theorem dX6_digest_174 : decode cX6_digest 174 = .ok (.lload_n 1, 1) := by decide +kernel
theorem dX6_digest_175 : decode cX6_digest 175 = .ok (.bipush 82, 2) := by decide +kernel
theorem dX6_digest_177 : decode cX6_digest 177 = .ok (.iconst 4, 1) := by decide +kernel
theorem dX6_digest_178 : decode cX6_digest 178 = .ok (.aload_n 0, 1) := by decide +kernel
theorem dX6_digest_179 : decode cX6_digest 179 = .ok (.getfield 7, 3) := by decide +kernel
theorem dX6_digest_182 : decode cX6_digest 182 = .ok (.iconst 5, 1) := by decide +kernel
theorem dX6_digest_183 : decode cX6_digest 183 = .ok (.iaload, 1) := by decide +kernel
theorem dX6_digest_184 : decode cX6_digest 184 = .ok (.imul, 1) := by decide +kernel
theorem dX6_digest_185 : decode cX6_digest 185 = .ok (.invokevirtual 304, 3) := by decide +kernel
theorem dX6_digest_188 : decode cX6_digest 188 = .ok (.lstore_n 1, 1) := by decide +kernel
theorem dX6_digest_189 : decode cX6_digest 189 = .ok (.ldc2_w 300, 3) := by decide +kernel
theorem dX6_digest_192 : decode cX6_digest 192 = .ok (.ldc2_w 300, 3) := by decide +kernel
theorem dX6_digest_195 : decode cX6_digest 195 = .ok (.lload_n 1, 1) := by decide +kernel
theorem dX6_digest_196 : decode cX6_digest 196 = .ok (.lmul, 1) := by decide +kernel
theorem dX6_digest_197 : decode cX6_digest 197 = .ok (.aload_n 0, 1) := by decide +kernel
theorem dX6_digest_198 : decode cX6_digest 198 = .ok (.getfield 199, 3) := by decide +kernel
theorem dX6_digest_201 : decode cX6_digest 201 = .ok (.ladd, 1) := by decide +kernel
theorem dX6_digest_202 : decode cX6_digest 202 = .ok (.lmul, 1) := by decide +kernel
theorem dX6_digest_203 : decode cX6_digest 203 = .ok (.aload_n 0, 1) := by decide +kernel
theorem dX6_digest_204 : decode cX6_digest 204 = .ok (.getfield 23, 3) := by decide +kernel
theorem dX6_digest_207 : decode cX6_digest 207 = .ok (.ladd, 1) := by decide +kernel
theorem dX6_digest_208 : decode cX6_digest 208 = .ok (.lreturn, 1) := by decide +kernel
