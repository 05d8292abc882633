theorem dX0_init_0 : decode cX0_init 0 = .ok (.aload_n 0, 1) := by decide +kernel
theorem dX0_init_1 : decode cX0_init 1 = .ok (.invokespecial 1, 3) := by decide +kernel
theorem dX0_init_4 : decode cX0_init 4 = .ok (.aload_n 0, 1) := by decide +kernel
theorem dX0_init_5 : decode cX0_init 5 = .ok (.iconst 0, 1) := by decide +kernel
theorem dX0_init_6 : decode cX0_init 6 = .ok (.putfield 7, 3) := by decide +kernel
theorem dX0_init_9 : decode cX0_init 9 = .ok (.aload_n 0, 1) := by decide +kernel
theorem dX0_init_10 : decode cX0_init 10 = .ok (.iconst 0, 1) := by decide +kernel
theorem dX0_init_11 : decode cX0_init 11 = .ok (.iload_n 1, 1) := by decide +kernel
theorem dX0_init_12 : decode cX0_init 12 = .ok (.invokestatic 13, 3) := by decide +kernel
theorem dX0_init_15 : decode cX0_init 15 = .ok (.putfield 19, 3) := by decide +kernel
theorem dX0_init_18 : decode cX0_init 18 = .ok (.aload_n 0, 1) := by decide +kernel
theorem dX0_init_19 : decode cX0_init 19 = .ok (.aload_n 0, 1) := by decide +kernel
theorem dX0_init_20 : decode cX0_init 20 = .ok (.getfield 19, 3) := by decide +kernel
theorem dX0_init_23 : decode cX0_init 23 = .ok (.iconst 4, 1) := by decide +kernel
theorem dX0_init_24 : decode cX0_init 24 = .ok (.imul, 1) := by decide +kernel
theorem dX0_init_25 : decode cX0_init 25 = .ok (.newarray .int, 2) := by decide +kernel
theorem dX0_init_27 : decode cX0_init 27 = .ok (.putfield 22, 3) := by decide +kernel
theorem dX0_init_30 : decode cX0_init 30 = .ok (.return_, 1) := by decide +kernel
theorem dX0_take_0 : decode cX0_take 0 = .ok (.aload_n 1, 1) := by decide +kernel
theorem dX0_take_1 : decode cX0_take 1 = .ok (.ifnonnull 4, 3) := by decide +kernel
theorem dX0_take_4 : decode cX0_take 4 = .ok (.return_, 1) := by decide +kernel
theorem dX0_take_5 : decode cX0_take 5 = .ok (.aload_n 1, 1) := by decide +kernel
theorem dX0_take_6 : decode cX0_take 6 = .ok (.getfield 22, 3) := by decide +kernel
theorem dX0_take_9 : decode cX0_take 9 = .ok (.aload_n 0, 1) := by decide +kernel
theorem dX0_take_10 : decode cX0_take 10 = .ok (.getfield 22, 3) := by decide +kernel
theorem dX0_take_13 : decode cX0_take 13 = .ok (.invokestatic 26, 3) := by decide +kernel
theorem dX0_take_16 : decode cX0_take 16 = .ok (.aload_n 0, 1) := by decide +kernel
theorem dX0_take_17 : decode cX0_take 17 = .ok (.aload_n 1, 1) := by decide +kernel
theorem dX0_take_18 : decode cX0_take 18 = .ok (.getfield 7, 3) := by decide +kernel
theorem dX0_take_21 : decode cX0_take 21 = .ok (.putfield 7, 3) := by decide +kernel
theorem dX0_take_24 : decode cX0_take 24 = .ok (.return_, 1) := by decide +kernel
theorem dX0_isFull_0 : decode cX0_isFull 0 = .ok (.aload_n 0, 1) := by decide +kernel
theorem dX0_isFull_1 : decode cX0_isFull 1 = .ok (.getfield 7, 3) := by decide +kernel
theorem dX0_isFull_4 : decode cX0_isFull 4 = .ok (.aload_n 0, 1) := by decide +kernel
theorem dX0_isFull_5 : decode cX0_isFull 5 = .ok (.getfield 19, 3) := by decide +kernel
theorem dX0_isFull_8 : decode cX0_isFull 8 = .ok (.if_icmp .lt 7, 3) := by decide +kernel
theorem dX0_isFull_11 : decode cX0_isFull 11 = .ok (.iconst 1, 1) := by decide +kernel
theorem dX0_isFull_12 : decode cX0_isFull 12 = .ok (.goto 4, 3) := by decide +kernel
theorem dX0_isFull_15 : decode cX0_isFull 15 = .ok (.iconst 0, 1) := by decide +kernel
theorem dX0_isFull_16 : decode cX0_isFull 16 = .ok (.ireturn, 1) := by decide +kernel
theorem dX0_add_0 : decode cX0_add 0 = .ok (.aload_n 0, 1) := by decide +kernel
theorem dX0_add_1 : decode cX0_add 1 = .ok (.getfield 7, 3) := by decide +kernel
theorem dX0_add_4 : decode cX0_add 4 = .ok (.iconst 4, 1) := by decide +kernel
theorem dX0_add_5 : decode cX0_add 5 = .ok (.imul, 1) := by decide +kernel
theorem dX0_add_6 : decode cX0_add 6 = .ok (.istore 5, 2) := by decide +kernel
theorem dX0_add_8 : decode cX0_add 8 = .ok (.aload_n 0, 1) := by decide +kernel
theorem dX0_add_9 : decode cX0_add 9 = .ok (.getfield 22, 3) := by decide +kernel
theorem dX0_add_12 : decode cX0_add 12 = .ok (.iload 5, 2) := by decide +kernel
theorem dX0_add_14 : decode cX0_add 14 = .ok (.iconst 0, 1) := by decide +kernel
theorem dX0_add_15 : decode cX0_add 15 = .ok (.iadd, 1) := by decide +kernel
theorem dX0_add_16 : decode cX0_add 16 = .ok (.iload_n 1, 1) := by decide +kernel
theorem dX0_add_17 : decode cX0_add 17 = .ok (.invokestatic 32, 3) := by decide +kernel
theorem dX0_add_20 : decode cX0_add 20 = .ok (.aload_n 0, 1) := by decide +kernel
theorem dX0_add_21 : decode cX0_add 21 = .ok (.getfield 22, 3) := by decide +kernel
theorem dX0_add_24 : decode cX0_add 24 = .ok (.iload 5, 2) := by decide +kernel
theorem dX0_add_26 : decode cX0_add 26 = .ok (.iconst 1, 1) := by decide +kernel
theorem dX0_add_27 : decode cX0_add 27 = .ok (.iadd, 1) := by decide +kernel
theorem dX0_add_28 : decode cX0_add 28 = .ok (.iload_n 2, 1) := by decide +kernel
theorem dX0_add_29 : decode cX0_add 29 = .ok (.invokestatic 32, 3) := by decide +kernel
theorem dX0_add_32 : decode cX0_add 32 = .ok (.aload_n 0, 1) := by decide +kernel
theorem dX0_add_33 : decode cX0_add 33 = .ok (.getfield 22, 3) := by decide +kernel
theorem dX0_add_36 : decode cX0_add 36 = .ok (.iload 5, 2) := by decide +kernel
theorem dX0_add_38 : decode cX0_add 38 = .ok (.iconst 2, 1) := by decide +kernel
theorem dX0_add_39 : decode cX0_add 39 = .ok (.iadd, 1) := by decide +kernel
theorem dX0_add_40 : decode cX0_add 40 = .ok (.iload_n 3, 1) := by decide +kernel
theorem dX0_add_41 : decode cX0_add 41 = .ok (.invokestatic 32, 3) := by decide +kernel
theorem dX0_add_44 : decode cX0_add 44 = .ok (.aload_n 0, 1) := by decide +kernel
theorem dX0_add_45 : decode cX0_add 45 = .ok (.getfield 22, 3) := by decide +kernel
theorem dX0_add_48 : decode cX0_add 48 = .ok (.iload 5, 2) := by decide +kernel
theorem dX0_add_50 : decode cX0_add 50 = .ok (.iconst 3, 1) := by decide +kernel
theorem dX0_add_51 : decode cX0_add 51 = .ok (.iadd, 1) := by decide +kernel
theorem dX0_add_52 : decode cX0_add 52 = .ok (.iload 4, 2) := by decide +kernel
theorem dX0_add_54 : decode cX0_add 54 = .ok (.invokestatic 32, 3) := by decide +kernel
theorem dX0_add_57 : decode cX0_add 57 = .ok (.aload_n 0, 1) := by decide +kernel
theorem dX0_add_58 : decode cX0_add 58 = .ok (.dup, 1) := by decide +kernel
theorem dX0_add_59 : decode cX0_add 59 = .ok (.getfield 7, 3) := by decide +kernel
theorem dX0_add_62 : decode cX0_add 62 = .ok (.iconst 1, 1) := by decide +kernel
theorem dX0_add_63 : decode cX0_add 63 = .ok (.iadd, 1) := by decide +kernel
theorem dX0_add_64 : decode cX0_add 64 = .ok (.putfield 7, 3) := by decide +kernel
theorem dX0_add_67 : decode cX0_add 67 = .ok (.aload_n 0, 1) := by decide +kernel
theorem dX0_add_68 : decode cX0_add 68 = .ok (.getfield 7, 3) := by decide +kernel
theorem dX0_add_71 : decode cX0_add 71 = .ok (.ireturn, 1) := by decide +kernel
theorem dX0_cell_0 : decode cX0_cell 0 = .ok (.aload_n 0, 1) := by decide +kernel
theorem dX0_cell_1 : decode cX0_cell 1 = .ok (.getfield 22, 3) := by decide +kernel
theorem dX0_cell_4 : decode cX0_cell 4 = .ok (.iload_n 1, 1) := by decide +kernel
theorem dX0_cell_5 : decode cX0_cell 5 = .ok (.iconst 4, 1) := by decide +kernel
theorem dX0_cell_6 : decode cX0_cell 6 = .ok (.imul, 1) := by decide +kernel
theorem dX0_cell_7 : decode cX0_cell 7 = .ok (.iload_n 2, 1) := by decide +kernel
theorem dX0_cell_8 : decode cX0_cell 8 = .ok (.iadd, 1) := by decide +kernel
theorem dX0_cell_9 : decode cX0_cell 9 = .ok (.invokestatic 36, 3) := by decide +kernel
theorem dX0_cell_12 : decode cX0_cell 12 = .ok (.ireturn, 1) := by decide +kernel
theorem dX0_digestOn_0 : decode cX0_digestOn 0 = .ok (.lload_n 1, 1) := by decide +kernel
theorem dX0_digestOn_1 : decode cX0_digestOn 1 = .ok (.lstore 4, 2) := by decide +kernel
theorem dX0_digestOn_3 : decode cX0_digestOn 3 = .ok (.iconst 0, 1) := by decide +kernel
theorem dX0_digestOn_4 : decode cX0_digestOn 4 = .ok (.istore 6, 2) := by decide +kernel
theorem dX0_digestOn_6 : decode cX0_digestOn 6 = .ok (.iload 6, 2) := by decide +kernel
theorem dX0_digestOn_8 : decode cX0_digestOn 8 = .ok (.aload_n 0, 1) := by decide +kernel
theorem dX0_digestOn_9 : decode cX0_digestOn 9 = .ok (.getfield 7, 3) := by decide +kernel
theorem dX0_digestOn_12 : decode cX0_digestOn 12 = .ok (.if_icmp .ge 42, 3) := by decide +kernel
theorem dX0_digestOn_15 : decode cX0_digestOn 15 = .ok (.iload_n 3, 1) := by decide +kernel
theorem dX0_digestOn_16 : decode cX0_digestOn 16 = .ok (.istore 7, 2) := by decide +kernel
theorem dX0_digestOn_18 : decode cX0_digestOn 18 = .ok (.iload 7, 2) := by decide +kernel
theorem dX0_digestOn_20 : decode cX0_digestOn 20 = .ok (.iconst 4, 1) := by decide +kernel
theorem dX0_digestOn_21 : decode cX0_digestOn 21 = .ok (.if_icmp .ge 27, 3) := by decide +kernel
theorem dX0_digestOn_24 : decode cX0_digestOn 24 = .ok (.ldc2_w 40, 3) := by decide +kernel
theorem dX0_digestOn_27 : decode cX0_digestOn 27 = .ok (.lload 4, 2) := by decide +kernel
theorem dX0_digestOn_29 : decode cX0_digestOn 29 = .ok (.lmul, 1) := by decide +kernel
theorem dX0_digestOn_30 : decode cX0_digestOn 30 = .ok (.aload_n 0, 1) := by decide +kernel
theorem dX0_digestOn_31 : decode cX0_digestOn 31 = .ok (.iload 6, 2) := by decide +kernel
theorem dX0_digestOn_33 : decode cX0_digestOn 33 = .ok (.iload 7, 2) := by decide +kernel
theorem dX0_digestOn_35 : decode cX0_digestOn 35 = .ok (.invokevirtual 42, 3) := by decide +kernel
theorem dX0_digestOn_38 : decode cX0_digestOn 38 = .ok (.i2l, 1) := by decide +kernel
theorem dX0_digestOn_39 : decode cX0_digestOn 39 = .ok (.ladd, 1) := by decide +kernel
theorem dX0_digestOn_40 : decode cX0_digestOn 40 = .ok (.lstore 4, 2) := by decide +kernel
theorem dX0_digestOn_42 : decode cX0_digestOn 42 = .ok (.iinc 7 1, 3) := by decide +kernel
theorem dX0_digestOn_45 : decode cX0_digestOn 45 = .ok (.goto (-27), 3) := by decide +kernel
theorem dX0_digestOn_48 : decode cX0_digestOn 48 = .ok (.iinc 6 1, 3) := by decide +kernel
theorem dX0_digestOn_51 : decode cX0_digestOn 51 = .ok (.goto (-45), 3) := by decide +kernel
theorem dX0_digestOn_54 : decode cX0_digestOn 54 = .ok (.lload 4, 2) := by decide +kernel
theorem dX0_digestOn_56 : decode cX0_digestOn 56 = .ok (.lreturn, 1) := by decide +kernel
theorem dX1_init_0 : decode cX1_init 0 = .ok (.aload_n 0, 1) := by decide +kernel
theorem dX1_init_1 : decode cX1_init 1 = .ok (.invokespecial 5, 3) := by decide +kernel
theorem dX1_init_4 : decode cX1_init 4 = .ok (.aload_n 0, 1) := by decide +kernel
theorem dX1_init_5 : decode cX1_init 5 = .ok (.sipush 152, 3) := by decide +kernel
theorem dX1_init_8 : decode cX1_init 8 = .ok (.newarray .int, 2) := by decide +kernel
theorem dX1_init_10 : decode cX1_init 10 = .ok (.putfield 11, 3) := by decide +kernel
theorem dX1_init_13 : decode cX1_init 13 = .ok (.aload_n 0, 1) := by decide +kernel
theorem dX1_init_14 : decode cX1_init 14 = .ok (.iconst 0, 1) := by decide +kernel
theorem dX1_init_15 : decode cX1_init 15 = .ok (.putfield 15, 3) := by decide +kernel
theorem dX1_init_18 : decode cX1_init 18 = .ok (.return_, 1) := by decide +kernel
theorem dX1_take_0 : decode cX1_take 0 = .ok (.aload_n 1, 1) := by decide +kernel
theorem dX1_take_1 : decode cX1_take 1 = .ok (.ifnonnull 4, 3) := by decide +kernel
theorem dX1_take_4 : decode cX1_take 4 = .ok (.return_, 1) := by decide +kernel
theorem dX1_take_5 : decode cX1_take 5 = .ok (.aload_n 1, 1) := by decide +kernel
theorem dX1_take_6 : decode cX1_take 6 = .ok (.getfield 11, 3) := by decide +kernel
theorem dX1_take_9 : decode cX1_take 9 = .ok (.aload_n 0, 1) := by decide +kernel
theorem dX1_take_10 : decode cX1_take 10 = .ok (.getfield 11, 3) := by decide +kernel
theorem dX1_take_13 : decode cX1_take 13 = .ok (.invokestatic 19, 3) := by decide +kernel
theorem dX1_take_16 : decode cX1_take 16 = .ok (.aload_n 0, 1) := by decide +kernel
theorem dX1_take_17 : decode cX1_take 17 = .ok (.aload_n 1, 1) := by decide +kernel
theorem dX1_take_18 : decode cX1_take 18 = .ok (.getfield 15, 3) := by decide +kernel
theorem dX1_take_21 : decode cX1_take 21 = .ok (.putfield 15, 3) := by decide +kernel
theorem dX1_take_24 : decode cX1_take 24 = .ok (.return_, 1) := by decide +kernel
theorem dX1_save_0 : decode cX1_save 0 = .ok (.aload_n 1, 1) := by decide +kernel
theorem dX1_save_1 : decode cX1_save 1 = .ok (.ifnonnull 4, 3) := by decide +kernel
theorem dX1_save_4 : decode cX1_save 4 = .ok (.return_, 1) := by decide +kernel
theorem dX1_save_5 : decode cX1_save 5 = .ok (.aload_n 0, 1) := by decide +kernel
theorem dX1_save_6 : decode cX1_save 6 = .ok (.getfield 15, 3) := by decide +kernel
theorem dX1_save_9 : decode cX1_save 9 = .ok (.bipush 8, 2) := by decide +kernel
theorem dX1_save_11 : decode cX1_save 11 = .ok (.if_icmp .lt 26, 3) := by decide +kernel
theorem dX1_save_14 : decode cX1_save 14 = .ok (.aload_n 0, 1) := by decide +kernel
theorem dX1_save_15 : decode cX1_save 15 = .ok (.getfield 11, 3) := by decide +kernel
theorem dX1_save_18 : decode cX1_save 18 = .ok (.bipush 19, 2) := by decide +kernel
theorem dX1_save_20 : decode cX1_save 20 = .ok (.aload_n 0, 1) := by decide +kernel
theorem dX1_save_21 : decode cX1_save 21 = .ok (.getfield 11, 3) := by decide +kernel
theorem dX1_save_24 : decode cX1_save 24 = .ok (.iconst 0, 1) := by decide +kernel
theorem dX1_save_25 : decode cX1_save 25 = .ok (.sipush 133, 3) := by decide +kernel
theorem dX1_save_28 : decode cX1_save 28 = .ok (.invokestatic 23, 3) := by decide +kernel
theorem dX1_save_31 : decode cX1_save 31 = .ok (.aload_n 0, 1) := by decide +kernel
theorem dX1_save_32 : decode cX1_save 32 = .ok (.bipush 7, 2) := by decide +kernel
theorem dX1_save_34 : decode cX1_save 34 = .ok (.putfield 15, 3) := by decide +kernel
theorem dX1_save_37 : decode cX1_save 37 = .ok (.aload_n 0, 1) := by decide +kernel
theorem dX1_save_38 : decode cX1_save 38 = .ok (.getfield 15, 3) := by decide +kernel
theorem dX1_save_41 : decode cX1_save 41 = .ok (.bipush 19, 2) := by decide +kernel
theorem dX1_save_43 : decode cX1_save 43 = .ok (.imul, 1) := by decide +kernel
theorem dX1_save_44 : decode cX1_save 44 = .ok (.istore_n 2, 1) := by decide +kernel
theorem dX1_save_45 : decode cX1_save 45 = .ok (.aload_n 1, 1) := by decide +kernel
theorem dX1_save_46 : decode cX1_save 46 = .ok (.getfield 27, 3) := by decide +kernel
theorem dX1_save_49 : decode cX1_save 49 = .ok (.iconst 0, 1) := by decide +kernel
theorem dX1_save_50 : decode cX1_save 50 = .ok (.aload_n 0, 1) := by decide +kernel
theorem dX1_save_51 : decode cX1_save 51 = .ok (.getfield 11, 3) := by decide +kernel
theorem dX1_save_54 : decode cX1_save 54 = .ok (.iload_n 2, 1) := by decide +kernel
theorem dX1_save_55 : decode cX1_save 55 = .ok (.bipush 7, 2) := by decide +kernel
theorem dX1_save_57 : decode cX1_save 57 = .ok (.invokestatic 23, 3) := by decide +kernel
theorem dX1_save_60 : decode cX1_save 60 = .ok (.aload_n 1, 1) := by decide +kernel
theorem dX1_save_61 : decode cX1_save 61 = .ok (.getfield 32, 3) := by decide +kernel
theorem dX1_save_64 : decode cX1_save 64 = .ok (.iconst 0, 1) := by decide +kernel
theorem dX1_save_65 : decode cX1_save 65 = .ok (.aload_n 0, 1) := by decide +kernel
theorem dX1_save_66 : decode cX1_save 66 = .ok (.getfield 11, 3) := by decide +kernel
theorem dX1_save_69 : decode cX1_save 69 = .ok (.iload_n 2, 1) := by decide +kernel
theorem dX1_save_70 : decode cX1_save 70 = .ok (.bipush 7, 2) := by decide +kernel
theorem dX1_save_72 : decode cX1_save 72 = .ok (.iadd, 1) := by decide +kernel
theorem dX1_save_73 : decode cX1_save 73 = .ok (.bipush 7, 2) := by decide +kernel
theorem dX1_save_75 : decode cX1_save 75 = .ok (.invokestatic 23, 3) := by decide +kernel
theorem dX1_save_78 : decode cX1_save 78 = .ok (.aload_n 1, 1) := by decide +kernel
theorem dX1_save_79 : decode cX1_save 79 = .ok (.getfield 35, 3) := by decide +kernel
theorem dX1_save_82 : decode cX1_save 82 = .ok (.iconst 0, 1) := by decide +kernel
theorem dX1_save_83 : decode cX1_save 83 = .ok (.aload_n 0, 1) := by decide +kernel
theorem dX1_save_84 : decode cX1_save 84 = .ok (.getfield 11, 3) := by decide +kernel
theorem dX1_save_87 : decode cX1_save 87 = .ok (.iload_n 2, 1) := by decide +kernel
theorem dX1_save_88 : decode cX1_save 88 = .ok (.bipush 14, 2) := by decide +kernel
theorem dX1_save_90 : decode cX1_save 90 = .ok (.iadd, 1) := by decide +kernel
theorem dX1_save_91 : decode cX1_save 91 = .ok (.iconst 3, 1) := by decide +kernel
theorem dX1_save_92 : decode cX1_save 92 = .ok (.invokestatic 23, 3) := by decide +kernel
theorem dX1_save_95 : decode cX1_save 95 = .ok (.aload_n 0, 1) := by decide +kernel
theorem dX1_save_96 : decode cX1_save 96 = .ok (.getfield 11, 3) := by decide +kernel
theorem dX1_save_99 : decode cX1_save 99 = .ok (.iload_n 2, 1) := by decide +kernel
theorem dX1_save_100 : decode cX1_save 100 = .ok (.bipush 17, 2) := by decide +kernel
theorem dX1_save_102 : decode cX1_save 102 = .ok (.iadd, 1) := by decide +kernel
theorem dX1_save_103 : decode cX1_save 103 = .ok (.aload_n 1, 1) := by decide +kernel
theorem dX1_save_104 : decode cX1_save 104 = .ok (.getfield 38, 3) := by decide +kernel
theorem dX1_save_107 : decode cX1_save 107 = .ok (.invokestatic 41, 3) := by decide +kernel
theorem dX1_save_110 : decode cX1_save 110 = .ok (.aload_n 0, 1) := by decide +kernel
theorem dX1_save_111 : decode cX1_save 111 = .ok (.getfield 11, 3) := by decide +kernel
theorem dX1_save_114 : decode cX1_save 114 = .ok (.iload_n 2, 1) := by decide +kernel
theorem dX1_save_115 : decode cX1_save 115 = .ok (.bipush 18, 2) := by decide +kernel
theorem dX1_save_117 : decode cX1_save 117 = .ok (.iadd, 1) := by decide +kernel
theorem dX1_save_118 : decode cX1_save 118 = .ok (.aload_n 1, 1) := by decide +kernel
theorem dX1_save_119 : decode cX1_save 119 = .ok (.getfield 45, 3) := by decide +kernel
theorem dX1_save_122 : decode cX1_save 122 = .ok (.invokestatic 41, 3) := by decide +kernel
theorem dX1_save_125 : decode cX1_save 125 = .ok (.aload_n 0, 1) := by decide +kernel
theorem dX1_save_126 : decode cX1_save 126 = .ok (.dup, 1) := by decide +kernel
theorem dX1_save_127 : decode cX1_save 127 = .ok (.getfield 15, 3) := by decide +kernel
theorem dX1_save_130 : decode cX1_save 130 = .ok (.iconst 1, 1) := by decide +kernel
theorem dX1_save_131 : decode cX1_save 131 = .ok (.iadd, 1) := by decide +kernel
theorem dX1_save_132 : decode cX1_save 132 = .ok (.putfield 15, 3) := by decide +kernel
theorem dX1_save_135 : decode cX1_save 135 = .ok (.return_, 1) := by decide +kernel
theorem dX1_restore_0 : decode cX1_restore 0 = .ok (.aload_n 1, 1) := by decide +kernel
theorem dX1_restore_1 : decode cX1_restore 1 = .ok (.ifnull 10, 3) := by decide +kernel
theorem dX1_restore_4 : decode cX1_restore 4 = .ok (.aload_n 0, 1) := by decide +kernel
theorem dX1_restore_5 : decode cX1_restore 5 = .ok (.getfield 15, 3) := by decide +kernel
theorem dX1_restore_8 : decode cX1_restore 8 = .ok (.ifCond .gt 4, 3) := by decide +kernel
theorem dX1_restore_11 : decode cX1_restore 11 = .ok (.return_, 1) := by decide +kernel
theorem dX1_restore_12 : decode cX1_restore 12 = .ok (.aload_n 0, 1) := by decide +kernel
theorem dX1_restore_13 : decode cX1_restore 13 = .ok (.dup, 1) := by decide +kernel
theorem dX1_restore_14 : decode cX1_restore 14 = .ok (.getfield 15, 3) := by decide +kernel
theorem dX1_restore_17 : decode cX1_restore 17 = .ok (.iconst 1, 1) := by decide +kernel
theorem dX1_restore_18 : decode cX1_restore 18 = .ok (.isub, 1) := by decide +kernel
theorem dX1_restore_19 : decode cX1_restore 19 = .ok (.putfield 15, 3) := by decide +kernel
theorem dX1_restore_22 : decode cX1_restore 22 = .ok (.aload_n 0, 1) := by decide +kernel
theorem dX1_restore_23 : decode cX1_restore 23 = .ok (.getfield 15, 3) := by decide +kernel
theorem dX1_restore_26 : decode cX1_restore 26 = .ok (.bipush 19, 2) := by decide +kernel
theorem dX1_restore_28 : decode cX1_restore 28 = .ok (.imul, 1) := by decide +kernel
theorem dX1_restore_29 : decode cX1_restore 29 = .ok (.istore_n 2, 1) := by decide +kernel
theorem dX1_restore_30 : decode cX1_restore 30 = .ok (.aload_n 0, 1) := by decide +kernel
theorem dX1_restore_31 : decode cX1_restore 31 = .ok (.getfield 11, 3) := by decide +kernel
theorem dX1_restore_34 : decode cX1_restore 34 = .ok (.iload_n 2, 1) := by decide +kernel
theorem dX1_restore_35 : decode cX1_restore 35 = .ok (.aload_n 1, 1) := by decide +kernel
theorem dX1_restore_36 : decode cX1_restore 36 = .ok (.getfield 27, 3) := by decide +kernel
theorem dX1_restore_39 : decode cX1_restore 39 = .ok (.iconst 0, 1) := by decide +kernel
theorem dX1_restore_40 : decode cX1_restore 40 = .ok (.bipush 7, 2) := by decide +kernel
theorem dX1_restore_42 : decode cX1_restore 42 = .ok (.invokestatic 23, 3) := by decide +kernel
theorem dX1_restore_45 : decode cX1_restore 45 = .ok (.aload_n 0, 1) := by decide +kernel
theorem dX1_restore_46 : decode cX1_restore 46 = .ok (.getfield 11, 3) := by decide +kernel
theorem dX1_restore_49 : decode cX1_restore 49 = .ok (.iload_n 2, 1) := by decide +kernel
theorem dX1_restore_50 : decode cX1_restore 50 = .ok (.bipush 7, 2) := by decide +kernel
theorem dX1_restore_52 : decode cX1_restore 52 = .ok (.iadd, 1) := by decide +kernel
theorem dX1_restore_53 : decode cX1_restore 53 = .ok (.aload_n 1, 1) := by decide +kernel
theorem dX1_restore_54 : decode cX1_restore 54 = .ok (.getfield 32, 3) := by decide +kernel
theorem dX1_restore_57 : decode cX1_restore 57 = .ok (.iconst 0, 1) := by decide +kernel
theorem dX1_restore_58 : decode cX1_restore 58 = .ok (.bipush 7, 2) := by decide +kernel
theorem dX1_restore_60 : decode cX1_restore 60 = .ok (.invokestatic 23, 3) := by decide +kernel
theorem dX1_restore_63 : decode cX1_restore 63 = .ok (.aload_n 0, 1) := by decide +kernel
theorem dX1_restore_64 : decode cX1_restore 64 = .ok (.getfield 11, 3) := by decide +kernel
theorem dX1_restore_67 : decode cX1_restore 67 = .ok (.iload_n 2, 1) := by decide +kernel
theorem dX1_restore_68 : decode cX1_restore 68 = .ok (.bipush 14, 2) := by decide +kernel
theorem dX1_restore_70 : decode cX1_restore 70 = .ok (.iadd, 1) := by decide +kernel
theorem dX1_restore_71 : decode cX1_restore 71 = .ok (.aload_n 1, 1) := by decide +kernel
theorem dX1_restore_72 : decode cX1_restore 72 = .ok (.getfield 35, 3) := by decide +kernel
theorem dX1_restore_75 : decode cX1_restore 75 = .ok (.iconst 0, 1) := by decide +kernel
theorem dX1_restore_76 : decode cX1_restore 76 = .ok (.iconst 3, 1) := by decide +kernel
theorem dX1_restore_77 : decode cX1_restore 77 = .ok (.invokestatic 23, 3) := by decide +kernel
theorem dX1_restore_80 : decode cX1_restore 80 = .ok (.aload_n 1, 1) := by decide +kernel
theorem dX1_restore_81 : decode cX1_restore 81 = .ok (.aload_n 0, 1) := by decide +kernel
theorem dX1_restore_82 : decode cX1_restore 82 = .ok (.getfield 11, 3) := by decide +kernel
theorem dX1_restore_85 : decode cX1_restore 85 = .ok (.iload_n 2, 1) := by decide +kernel
theorem dX1_restore_86 : decode cX1_restore 86 = .ok (.bipush 17, 2) := by decide +kernel
theorem dX1_restore_88 : decode cX1_restore 88 = .ok (.iadd, 1) := by decide +kernel
theorem dX1_restore_89 : decode cX1_restore 89 = .ok (.invokestatic 48, 3) := by decide +kernel
theorem dX1_restore_92 : decode cX1_restore 92 = .ok (.putfield 38, 3) := by decide +kernel
theorem dX1_restore_95 : decode cX1_restore 95 = .ok (.aload_n 1, 1) := by decide +kernel
theorem dX1_restore_96 : decode cX1_restore 96 = .ok (.aload_n 0, 1) := by decide +kernel
theorem dX1_restore_97 : decode cX1_restore 97 = .ok (.getfield 11, 3) := by decide +kernel
theorem dX1_restore_100 : decode cX1_restore 100 = .ok (.iload_n 2, 1) := by decide +kernel
theorem dX1_restore_101 : decode cX1_restore 101 = .ok (.bipush 18, 2) := by decide +kernel
theorem dX1_restore_103 : decode cX1_restore 103 = .ok (.iadd, 1) := by decide +kernel
theorem dX1_restore_104 : decode cX1_restore 104 = .ok (.invokestatic 48, 3) := by decide +kernel
theorem dX1_restore_107 : decode cX1_restore 107 = .ok (.putfield 45, 3) := by decide +kernel
theorem dX1_restore_110 : decode cX1_restore 110 = .ok (.return_, 1) := by decide +kernel
theorem dX2_init_0 : decode cX2_init 0 = .ok (.aload_n 0, 1) := by decide +kernel
theorem dX2_init_1 : decode cX2_init 1 = .ok (.invokespecial 3, 3) := by decide +kernel
theorem dX2_init_4 : decode cX2_init 4 = .ok (.aload_n 0, 1) := by decide +kernel
theorem dX2_init_5 : decode cX2_init 5 = .ok (.sipush 150, 3) := by decide +kernel
theorem dX2_init_8 : decode cX2_init 8 = .ok (.newarray .int, 2) := by decide +kernel
theorem dX2_init_10 : decode cX2_init 10 = .ok (.putfield 9, 3) := by decide +kernel
theorem dX2_init_13 : decode cX2_init 13 = .ok (.aload_n 0, 1) := by decide +kernel
theorem dX2_init_14 : decode cX2_init 14 = .ok (.new 15, 3) := by decide +kernel
theorem dX2_init_17 : decode cX2_init 17 = .ok (.dup, 1) := by decide +kernel
theorem dX2_init_18 : decode cX2_init 18 = .ok (.invokespecial 17, 3) := by decide +kernel
theorem dX2_init_21 : decode cX2_init 21 = .ok (.putfield 18, 3) := by decide +kernel
theorem dX2_init_24 : decode cX2_init 24 = .ok (.aload_n 0, 1) := by decide +kernel
theorem dX2_init_25 : decode cX2_init 25 = .ok (.iconst 0, 1) := by decide +kernel
theorem dX2_init_26 : decode cX2_init 26 = .ok (.putfield 22, 3) := by decide +kernel
theorem dX2_init_29 : decode cX2_init 29 = .ok (.aload_n 0, 1) := by decide +kernel
theorem dX2_init_30 : decode cX2_init 30 = .ok (.iconst (-1), 1) := by decide +kernel
theorem dX2_init_31 : decode cX2_init 31 = .ok (.putfield 26, 3) := by decide +kernel
theorem dX2_init_34 : decode cX2_init 34 = .ok (.aload_n 0, 1) := by decide +kernel
theorem dX2_init_35 : decode cX2_init 35 = .ok (.iconst 0, 1) := by decide +kernel
theorem dX2_init_36 : decode cX2_init 36 = .ok (.putfield 29, 3) := by decide +kernel
theorem dX2_init_39 : decode cX2_init 39 = .ok (.aload_n 0, 1) := by decide +kernel
theorem dX2_init_40 : decode cX2_init 40 = .ok (.iconst 0, 1) := by decide +kernel
theorem dX2_init_41 : decode cX2_init 41 = .ok (.putfield 32, 3) := by decide +kernel
theorem dX2_init_44 : decode cX2_init 44 = .ok (.aload_n 0, 1) := by decide +kernel
theorem dX2_init_45 : decode cX2_init 45 = .ok (.iconst 0, 1) := by decide +kernel
theorem dX2_init_46 : decode cX2_init 46 = .ok (.putfield 35, 3) := by decide +kernel
theorem dX2_init_49 : decode cX2_init 49 = .ok (.aload_n 0, 1) := by decide +kernel
theorem dX2_init_50 : decode cX2_init 50 = .ok (.iconst 0, 1) := by decide +kernel
theorem dX2_init_51 : decode cX2_init 51 = .ok (.putfield 38, 3) := by decide +kernel
theorem dX2_init_54 : decode cX2_init 54 = .ok (.aload_n 0, 1) := by decide +kernel
theorem dX2_init_55 : decode cX2_init 55 = .ok (.iconst 0, 1) := by decide +kernel
theorem dX2_init_56 : decode cX2_init 56 = .ok (.putfield 41, 3) := by decide +kernel
theorem dX2_init_59 : decode cX2_init 59 = .ok (.return_, 1) := by decide +kernel
theorem dX2_begin_0 : decode cX2_begin 0 = .ok (.aload_n 0, 1) := by decide +kernel
theorem dX2_begin_1 : decode cX2_begin 1 = .ok (.getfield 18, 3) := by decide +kernel
theorem dX2_begin_4 : decode cX2_begin 4 = .ok (.invokevirtual 44, 3) := by decide +kernel
theorem dX2_begin_7 : decode cX2_begin 7 = .ok (.aload_n 0, 1) := by decide +kernel
theorem dX2_begin_8 : decode cX2_begin 8 = .ok (.iconst (-1), 1) := by decide +kernel
theorem dX2_begin_9 : decode cX2_begin 9 = .ok (.putfield 26, 3) := by decide +kernel
theorem dX2_begin_12 : decode cX2_begin 12 = .ok (.aload_n 0, 1) := by decide +kernel
theorem dX2_begin_13 : decode cX2_begin 13 = .ok (.iconst 0, 1) := by decide +kernel
theorem dX2_begin_14 : decode cX2_begin 14 = .ok (.putfield 29, 3) := by decide +kernel
theorem dX2_begin_17 : decode cX2_begin 17 = .ok (.aload_n 0, 1) := by decide +kernel
theorem dX2_begin_18 : decode cX2_begin 18 = .ok (.iconst 0, 1) := by decide +kernel
theorem dX2_begin_19 : decode cX2_begin 19 = .ok (.putfield 38, 3) := by decide +kernel
theorem dX2_begin_22 : decode cX2_begin 22 = .ok (.return_, 1) := by decide +kernel
theorem dX2_reachesItem_0 : decode cX2_reachesItem 0 = .ok (.aload_n 0, 1) := by decide +kernel
theorem dX2_reachesItem_1 : decode cX2_reachesItem 1 = .ok (.invokevirtual 47, 3) := by decide +kernel
theorem dX2_reachesItem_4 : decode cX2_reachesItem 4 = .ok (.aload_n 0, 1) := by decide +kernel
theorem dX2_reachesItem_5 : decode cX2_reachesItem 5 = .ok (.getfield 26, 3) := by decide +kernel
theorem dX2_reachesItem_8 : decode cX2_reachesItem 8 = .ok (.iconst (-1), 1) := by decide +kernel
theorem dX2_reachesItem_9 : decode cX2_reachesItem 9 = .ok (.if_icmp .ne 21, 3) := by decide +kernel
theorem dX2_reachesItem_12 : decode cX2_reachesItem 12 = .ok (.aload_n 0, 1) := by decide +kernel
theorem dX2_reachesItem_13 : decode cX2_reachesItem 13 = .ok (.getfield 32, 3) := by decide +kernel
theorem dX2_reachesItem_16 : decode cX2_reachesItem 16 = .ok (.ifCond .ne 10, 3) := by decide +kernel
theorem dX2_reachesItem_19 : decode cX2_reachesItem 19 = .ok (.aload_n 0, 1) := by decide +kernel
theorem dX2_reachesItem_20 : decode cX2_reachesItem 20 = .ok (.getfield 29, 3) := by decide +kernel
theorem dX2_reachesItem_23 : decode cX2_reachesItem 23 = .ok (.ifCond .ne 7, 3) := by decide +kernel
theorem dX2_reachesItem_26 : decode cX2_reachesItem 26 = .ok (.iconst 1, 1) := by decide +kernel
theorem dX2_reachesItem_27 : decode cX2_reachesItem 27 = .ok (.goto 4, 3) := by decide +kernel
theorem dX2_reachesItem_30 : decode cX2_reachesItem 30 = .ok (.iconst 0, 1) := by decide +kernel
theorem dX2_reachesItem_31 : decode cX2_reachesItem 31 = .ok (.ireturn, 1) := by decide +kernel
theorem dX2_readItem_0 : decode cX2_readItem 0 = .ok (.aload_n 0, 1) := by decide +kernel
theorem dX2_readItem_1 : decode cX2_readItem 1 = .ok (.invokevirtual 50, 3) := by decide +kernel
theorem dX2_readItem_4 : decode cX2_readItem 4 = .ok (.istore_n 1, 1) := by decide +kernel
theorem dX2_readItem_5 : decode cX2_readItem 5 = .ok (.aload_n 0, 1) := by decide +kernel
theorem dX2_readItem_6 : decode cX2_readItem 6 = .ok (.iload_n 1, 1) := by decide +kernel
theorem dX2_readItem_7 : decode cX2_readItem 7 = .ok (.invokevirtual 54, 3) := by decide +kernel
theorem dX2_readItem_10 : decode cX2_readItem 10 = .ok (.ifCond .ne 8, 3) := by decide +kernel
theorem dX2_readItem_13 : decode cX2_readItem 13 = .ok (.aload_n 0, 1) := by decide +kernel
theorem dX2_readItem_14 : decode cX2_readItem 14 = .ok (.invokevirtual 58, 3) := by decide +kernel
theorem dX2_readItem_17 : decode cX2_readItem 17 = .ok (.return_, 1) := by decide +kernel
theorem dX2_readItem_18 : decode cX2_readItem 18 = .ok (.iload_n 1, 1) := by decide +kernel
theorem dX2_readItem_19 : decode cX2_readItem 19 = .ok (.tableswitch 79 1 6 #[37, 44, 51, 58, 65, 72], 37) := by decide +kernel
theorem dX2_readItem_56 : decode cX2_readItem 56 = .ok (.aload_n 0, 1) := by decide +kernel
theorem dX2_readItem_57 : decode cX2_readItem 57 = .ok (.invokevirtual 61, 3) := by decide +kernel
theorem dX2_readItem_60 : decode cX2_readItem 60 = .ok (.goto 38, 3) := by decide +kernel
theorem dX2_readItem_63 : decode cX2_readItem 63 = .ok (.aload_n 0, 1) := by decide +kernel
theorem dX2_readItem_64 : decode cX2_readItem 64 = .ok (.invokevirtual 64, 3) := by decide +kernel
theorem dX2_readItem_67 : decode cX2_readItem 67 = .ok (.goto 31, 3) := by decide +kernel
theorem dX2_readItem_70 : decode cX2_readItem 70 = .ok (.aload_n 0, 1) := by decide +kernel
theorem dX2_readItem_71 : decode cX2_readItem 71 = .ok (.invokevirtual 67, 3) := by decide +kernel
theorem dX2_readItem_74 : decode cX2_readItem 74 = .ok (.goto 24, 3) := by decide +kernel
theorem dX2_readItem_77 : decode cX2_readItem 77 = .ok (.aload_n 0, 1) := by decide +kernel
theorem dX2_readItem_78 : decode cX2_readItem 78 = .ok (.invokevirtual 70, 3) := by decide +kernel
theorem dX2_readItem_81 : decode cX2_readItem 81 = .ok (.goto 17, 3) := by decide +kernel
theorem dX2_readItem_84 : decode cX2_readItem 84 = .ok (.aload_n 0, 1) := by decide +kernel
theorem dX2_readItem_85 : decode cX2_readItem 85 = .ok (.invokevirtual 73, 3) := by decide +kernel
theorem dX2_readItem_88 : decode cX2_readItem 88 = .ok (.goto 10, 3) := by decide +kernel
theorem dX2_readItem_91 : decode cX2_readItem 91 = .ok (.aload_n 0, 1) := by decide +kernel
theorem dX2_readItem_92 : decode cX2_readItem 92 = .ok (.invokevirtual 76, 3) := by decide +kernel
theorem dX2_readItem_95 : decode cX2_readItem 95 = .ok (.goto 3, 3) := by decide +kernel
theorem dX2_readItem_98 : decode cX2_readItem 98 = .ok (.aload_n 0, 1) := by decide +kernel
theorem dX2_readItem_99 : decode cX2_readItem 99 = .ok (.invokevirtual 79, 3) := by decide +kernel
theorem dX2_readItem_102 : decode cX2_readItem 102 = .ok (.return_, 1) := by decide +kernel
theorem dX2_mayStand_0 : decode cX2_mayStand 0 = .ok (.aload_n 0, 1) := by decide +kernel
theorem dX2_mayStand_1 : decode cX2_mayStand 1 = .ok (.getfield 29, 3) := by decide +kernel
theorem dX2_mayStand_4 : decode cX2_mayStand 4 = .ok (.ifCond .ne 13, 3) := by decide +kernel
theorem dX2_mayStand_7 : decode cX2_mayStand 7 = .ok (.iload_n 1, 1) := by decide +kernel
theorem dX2_mayStand_8 : decode cX2_mayStand 8 = .ok (.ifCond .ne 7, 3) := by decide +kernel
theorem dX2_mayStand_11 : decode cX2_mayStand 11 = .ok (.iconst 1, 1) := by decide +kernel
theorem dX2_mayStand_12 : decode cX2_mayStand 12 = .ok (.goto 4, 3) := by decide +kernel
theorem dX2_mayStand_15 : decode cX2_mayStand 15 = .ok (.iconst 0, 1) := by decide +kernel
theorem dX2_mayStand_16 : decode cX2_mayStand 16 = .ok (.ireturn, 1) := by decide +kernel
theorem dX2_mayStand_17 : decode cX2_mayStand 17 = .ok (.iload_n 1, 1) := by decide +kernel
theorem dX2_mayStand_18 : decode cX2_mayStand 18 = .ok (.tableswitch 78 1 3 #[26, 44, 61], 26) := by decide +kernel
theorem dX2_mayStand_44 : decode cX2_mayStand 44 = .ok (.aload_n 0, 1) := by decide +kernel
theorem dX2_mayStand_45 : decode cX2_mayStand 45 = .ok (.getfield 18, 3) := by decide +kernel
theorem dX2_mayStand_48 : decode cX2_mayStand 48 = .ok (.getfield 82, 3) := by decide +kernel
theorem dX2_mayStand_51 : decode cX2_mayStand 51 = .ok (.bipush 7, 2) := by decide +kernel
theorem dX2_mayStand_53 : decode cX2_mayStand 53 = .ok (.if_icmp .ge 7, 3) := by decide +kernel
theorem dX2_mayStand_56 : decode cX2_mayStand 56 = .ok (.iconst 1, 1) := by decide +kernel
theorem dX2_mayStand_57 : decode cX2_mayStand 57 = .ok (.goto 4, 3) := by decide +kernel
theorem dX2_mayStand_60 : decode cX2_mayStand 60 = .ok (.iconst 0, 1) := by decide +kernel
theorem dX2_mayStand_61 : decode cX2_mayStand 61 = .ok (.ireturn, 1) := by decide +kernel
theorem dX2_mayStand_62 : decode cX2_mayStand 62 = .ok (.aload_n 0, 1) := by decide +kernel
theorem dX2_mayStand_63 : decode cX2_mayStand 63 = .ok (.getfield 18, 3) := by decide +kernel
theorem dX2_mayStand_66 : decode cX2_mayStand 66 = .ok (.getfield 85, 3) := by decide +kernel
theorem dX2_mayStand_69 : decode cX2_mayStand 69 = .ok (.iconst 4, 1) := by decide +kernel
theorem dX2_mayStand_70 : decode cX2_mayStand 70 = .ok (.if_icmp .ge 7, 3) := by decide +kernel
theorem dX2_mayStand_73 : decode cX2_mayStand 73 = .ok (.iconst 1, 1) := by decide +kernel
theorem dX2_mayStand_74 : decode cX2_mayStand 74 = .ok (.goto 4, 3) := by decide +kernel
theorem dX2_mayStand_77 : decode cX2_mayStand 77 = .ok (.iconst 0, 1) := by decide +kernel
theorem dX2_mayStand_78 : decode cX2_mayStand 78 = .ok (.ireturn, 1) := by decide +kernel
theorem dX2_mayStand_79 : decode cX2_mayStand 79 = .ok (.aload_n 0, 1) := by decide +kernel
theorem dX2_mayStand_80 : decode cX2_mayStand 80 = .ok (.getfield 18, 3) := by decide +kernel
theorem dX2_mayStand_83 : decode cX2_mayStand 83 = .ok (.getfield 88, 3) := by decide +kernel
theorem dX2_mayStand_86 : decode cX2_mayStand 86 = .ok (.iconst 3, 1) := by decide +kernel
theorem dX2_mayStand_87 : decode cX2_mayStand 87 = .ok (.if_icmp .ge 7, 3) := by decide +kernel
theorem dX2_mayStand_90 : decode cX2_mayStand 90 = .ok (.iconst 1, 1) := by decide +kernel
theorem dX2_mayStand_91 : decode cX2_mayStand 91 = .ok (.goto 4, 3) := by decide +kernel
theorem dX2_mayStand_94 : decode cX2_mayStand 94 = .ok (.iconst 0, 1) := by decide +kernel
theorem dX2_mayStand_95 : decode cX2_mayStand 95 = .ok (.ireturn, 1) := by decide +kernel
theorem dX2_mayStand_96 : decode cX2_mayStand 96 = .ok (.iload_n 1, 1) := by decide +kernel
theorem dX2_mayStand_97 : decode cX2_mayStand 97 = .ok (.iconst 4, 1) := by decide +kernel
theorem dX2_mayStand_98 : decode cX2_mayStand 98 = .ok (.bipush 6, 2) := by decide +kernel
theorem dX2_mayStand_100 : decode cX2_mayStand 100 = .ok (.invokestatic 91, 3) := by decide +kernel
theorem dX2_mayStand_103 : decode cX2_mayStand 103 = .ok (.ireturn, 1) := by decide +kernel
theorem dX2_readPromise_0 : decode cX2_readPromise 0 = .ok (.aload_n 0, 1) := by decide +kernel
theorem dX2_readPromise_1 : decode cX2_readPromise 1 = .ok (.iconst 0, 1) := by decide +kernel
theorem dX2_readPromise_2 : decode cX2_readPromise 2 = .ok (.iconst 5, 1) := by decide +kernel
theorem dX2_readPromise_3 : decode cX2_readPromise 3 = .ok (.invokevirtual 95, 3) := by decide +kernel
theorem dX2_readPromise_6 : decode cX2_readPromise 6 = .ok (.istore_n 1, 1) := by decide +kernel
theorem dX2_readPromise_7 : decode cX2_readPromise 7 = .ok (.aload_n 0, 1) := by decide +kernel
theorem dX2_readPromise_8 : decode cX2_readPromise 8 = .ok (.iconst 1, 1) := by decide +kernel
theorem dX2_readPromise_9 : decode cX2_readPromise 9 = .ok (.bipush 9, 2) := by decide +kernel
theorem dX2_readPromise_11 : decode cX2_readPromise 11 = .ok (.invokevirtual 95, 3) := by decide +kernel
theorem dX2_readPromise_14 : decode cX2_readPromise 14 = .ok (.istore_n 2, 1) := by decide +kernel
theorem dX2_readPromise_15 : decode cX2_readPromise 15 = .ok (.aload_n 0, 1) := by decide +kernel
theorem dX2_readPromise_16 : decode cX2_readPromise 16 = .ok (.getfield 26, 3) := by decide +kernel
theorem dX2_readPromise_19 : decode cX2_readPromise 19 = .ok (.iconst (-1), 1) := by decide +kernel
theorem dX2_readPromise_20 : decode cX2_readPromise 20 = .ok (.if_icmp .ne 13, 3) := by decide +kernel
theorem dX2_readPromise_23 : decode cX2_readPromise 23 = .ok (.aload_n 0, 1) := by decide +kernel
theorem dX2_readPromise_24 : decode cX2_readPromise 24 = .ok (.getfield 18, 3) := by decide +kernel
theorem dX2_readPromise_27 : decode cX2_readPromise 27 = .ok (.iload_n 1, 1) := by decide +kernel
theorem dX2_readPromise_28 : decode cX2_readPromise 28 = .ok (.iload_n 2, 1) := by decide +kernel
theorem dX2_readPromise_29 : decode cX2_readPromise 29 = .ok (.invokevirtual 99, 3) := by decide +kernel
theorem dX2_readPromise_32 : decode cX2_readPromise 32 = .ok (.pop, 1) := by decide +kernel
theorem dX2_readPromise_33 : decode cX2_readPromise 33 = .ok (.return_, 1) := by decide +kernel
theorem dX2_readHearer_0 : decode cX2_readHearer 0 = .ok (.aload_n 0, 1) := by decide +kernel
theorem dX2_readHearer_1 : decode cX2_readHearer 1 = .ok (.iconst 0, 1) := by decide +kernel
theorem dX2_readHearer_2 : decode cX2_readHearer 2 = .ok (.iconst 5, 1) := by decide +kernel
theorem dX2_readHearer_3 : decode cX2_readHearer 3 = .ok (.invokevirtual 95, 3) := by decide +kernel
theorem dX2_readHearer_6 : decode cX2_readHearer 6 = .ok (.istore_n 1, 1) := by decide +kernel
theorem dX2_readHearer_7 : decode cX2_readHearer 7 = .ok (.aload_n 0, 1) := by decide +kernel
theorem dX2_readHearer_8 : decode cX2_readHearer 8 = .ok (.iconst 1, 1) := by decide +kernel
theorem dX2_readHearer_9 : decode cX2_readHearer 9 = .ok (.bipush 9, 2) := by decide +kernel
theorem dX2_readHearer_11 : decode cX2_readHearer 11 = .ok (.invokevirtual 95, 3) := by decide +kernel
theorem dX2_readHearer_14 : decode cX2_readHearer 14 = .ok (.istore_n 2, 1) := by decide +kernel
theorem dX2_readHearer_15 : decode cX2_readHearer 15 = .ok (.aload_n 0, 1) := by decide +kernel
theorem dX2_readHearer_16 : decode cX2_readHearer 16 = .ok (.getfield 26, 3) := by decide +kernel
theorem dX2_readHearer_19 : decode cX2_readHearer 19 = .ok (.iconst (-1), 1) := by decide +kernel
theorem dX2_readHearer_20 : decode cX2_readHearer 20 = .ok (.if_icmp .ne 13, 3) := by decide +kernel
theorem dX2_readHearer_23 : decode cX2_readHearer 23 = .ok (.aload_n 0, 1) := by decide +kernel
theorem dX2_readHearer_24 : decode cX2_readHearer 24 = .ok (.getfield 18, 3) := by decide +kernel
theorem dX2_readHearer_27 : decode cX2_readHearer 27 = .ok (.iload_n 1, 1) := by decide +kernel
theorem dX2_readHearer_28 : decode cX2_readHearer 28 = .ok (.iload_n 2, 1) := by decide +kernel
theorem dX2_readHearer_29 : decode cX2_readHearer 29 = .ok (.invokevirtual 102, 3) := by decide +kernel
theorem dX2_readHearer_32 : decode cX2_readHearer 32 = .ok (.pop, 1) := by decide +kernel
theorem dX2_readHearer_33 : decode cX2_readHearer 33 = .ok (.return_, 1) := by decide +kernel
theorem dX2_readBuyer_0 : decode cX2_readBuyer 0 = .ok (.aload_n 0, 1) := by decide +kernel
theorem dX2_readBuyer_1 : decode cX2_readBuyer 1 = .ok (.iconst 0, 1) := by decide +kernel
theorem dX2_readBuyer_2 : decode cX2_readBuyer 2 = .ok (.bipush 99, 2) := by decide +kernel
theorem dX2_readBuyer_4 : decode cX2_readBuyer 4 = .ok (.invokevirtual 95, 3) := by decide +kernel
theorem dX2_readBuyer_7 : decode cX2_readBuyer 7 = .ok (.istore_n 1, 1) := by decide +kernel
theorem dX2_readBuyer_8 : decode cX2_readBuyer 8 = .ok (.aload_n 0, 1) := by decide +kernel
theorem dX2_readBuyer_9 : decode cX2_readBuyer 9 = .ok (.getfield 26, 3) := by decide +kernel
theorem dX2_readBuyer_12 : decode cX2_readBuyer 12 = .ok (.iconst (-1), 1) := by decide +kernel
theorem dX2_readBuyer_13 : decode cX2_readBuyer 13 = .ok (.if_icmp .ne 12, 3) := by decide +kernel
theorem dX2_readBuyer_16 : decode cX2_readBuyer 16 = .ok (.aload_n 0, 1) := by decide +kernel
theorem dX2_readBuyer_17 : decode cX2_readBuyer 17 = .ok (.getfield 18, 3) := by decide +kernel
theorem dX2_readBuyer_20 : decode cX2_readBuyer 20 = .ok (.iload_n 1, 1) := by decide +kernel
theorem dX2_readBuyer_21 : decode cX2_readBuyer 21 = .ok (.invokevirtual 105, 3) := by decide +kernel
theorem dX2_readBuyer_24 : decode cX2_readBuyer 24 = .ok (.pop, 1) := by decide +kernel
theorem dX2_readBuyer_25 : decode cX2_readBuyer 25 = .ok (.return_, 1) := by decide +kernel
theorem dX2_readBuy_0 : decode cX2_readBuy 0 = .ok (.aload_n 0, 1) := by decide +kernel
theorem dX2_readBuy_1 : decode cX2_readBuy 1 = .ok (.iconst 0, 1) := by decide +kernel
theorem dX2_readBuy_2 : decode cX2_readBuy 2 = .ok (.aload_n 0, 1) := by decide +kernel
theorem dX2_readBuy_3 : decode cX2_readBuy 3 = .ok (.getfield 18, 3) := by decide +kernel
theorem dX2_readBuy_6 : decode cX2_readBuy 6 = .ok (.getfield 88, 3) := by decide +kernel
theorem dX2_readBuy_9 : decode cX2_readBuy 9 = .ok (.iconst 1, 1) := by decide +kernel
theorem dX2_readBuy_10 : decode cX2_readBuy 10 = .ok (.isub, 1) := by decide +kernel
theorem dX2_readBuy_11 : decode cX2_readBuy 11 = .ok (.invokevirtual 95, 3) := by decide +kernel
theorem dX2_readBuy_14 : decode cX2_readBuy 14 = .ok (.istore_n 1, 1) := by decide +kernel
theorem dX2_readBuy_15 : decode cX2_readBuy 15 = .ok (.aload_n 0, 1) := by decide +kernel
theorem dX2_readBuy_16 : decode cX2_readBuy 16 = .ok (.iconst 0, 1) := by decide +kernel
theorem dX2_readBuy_17 : decode cX2_readBuy 17 = .ok (.aload_n 0, 1) := by decide +kernel
theorem dX2_readBuy_18 : decode cX2_readBuy 18 = .ok (.getfield 18, 3) := by decide +kernel
theorem dX2_readBuy_21 : decode cX2_readBuy 21 = .ok (.getfield 82, 3) := by decide +kernel
theorem dX2_readBuy_24 : decode cX2_readBuy 24 = .ok (.iconst 1, 1) := by decide +kernel
theorem dX2_readBuy_25 : decode cX2_readBuy 25 = .ok (.isub, 1) := by decide +kernel
theorem dX2_readBuy_26 : decode cX2_readBuy 26 = .ok (.invokevirtual 95, 3) := by decide +kernel
theorem dX2_readBuy_29 : decode cX2_readBuy 29 = .ok (.istore_n 2, 1) := by decide +kernel
theorem dX2_readBuy_30 : decode cX2_readBuy 30 = .ok (.aload_n 0, 1) := by decide +kernel
theorem dX2_readBuy_31 : decode cX2_readBuy 31 = .ok (.getfield 18, 3) := by decide +kernel
theorem dX2_readBuy_34 : decode cX2_readBuy 34 = .ok (.iload_n 1, 1) := by decide +kernel
theorem dX2_readBuy_35 : decode cX2_readBuy 35 = .ok (.iload_n 2, 1) := by decide +kernel
theorem dX2_readBuy_36 : decode cX2_readBuy 36 = .ok (.invokevirtual 109, 3) := by decide +kernel
theorem dX2_readBuy_39 : decode cX2_readBuy 39 = .ok (.ifCond .ne 7, 3) := by decide +kernel
theorem dX2_readBuy_42 : decode cX2_readBuy 42 = .ok (.aload_n 0, 1) := by decide +kernel
theorem dX2_readBuy_43 : decode cX2_readBuy 43 = .ok (.invokevirtual 58, 3) := by decide +kernel
theorem dX2_readBuy_46 : decode cX2_readBuy 46 = .ok (.aload_n 0, 1) := by decide +kernel
theorem dX2_readBuy_47 : decode cX2_readBuy 47 = .ok (.getfield 26, 3) := by decide +kernel
theorem dX2_readBuy_50 : decode cX2_readBuy 50 = .ok (.iconst (-1), 1) := by decide +kernel
theorem dX2_readBuy_51 : decode cX2_readBuy 51 = .ok (.if_icmp .ne 12, 3) := by decide +kernel
theorem dX2_readBuy_54 : decode cX2_readBuy 54 = .ok (.aload_n 0, 1) := by decide +kernel
theorem dX2_readBuy_55 : decode cX2_readBuy 55 = .ok (.getfield 18, 3) := by decide +kernel
theorem dX2_readBuy_58 : decode cX2_readBuy 58 = .ok (.iload_n 1, 1) := by decide +kernel
theorem dX2_readBuy_59 : decode cX2_readBuy 59 = .ok (.iload_n 2, 1) := by decide +kernel
theorem dX2_readBuy_60 : decode cX2_readBuy 60 = .ok (.invokevirtual 113, 3) := by decide +kernel
theorem dX2_readBuy_63 : decode cX2_readBuy 63 = .ok (.return_, 1) := by decide +kernel
theorem dX2_readKeep_0 : decode cX2_readKeep 0 = .ok (.aload_n 0, 1) := by decide +kernel
theorem dX2_readKeep_1 : decode cX2_readKeep 1 = .ok (.iconst 0, 1) := by decide +kernel
theorem dX2_readKeep_2 : decode cX2_readKeep 2 = .ok (.aload_n 0, 1) := by decide +kernel
theorem dX2_readKeep_3 : decode cX2_readKeep 3 = .ok (.getfield 18, 3) := by decide +kernel
theorem dX2_readKeep_6 : decode cX2_readKeep 6 = .ok (.getfield 82, 3) := by decide +kernel
theorem dX2_readKeep_9 : decode cX2_readKeep 9 = .ok (.iconst 1, 1) := by decide +kernel
theorem dX2_readKeep_10 : decode cX2_readKeep 10 = .ok (.isub, 1) := by decide +kernel
theorem dX2_readKeep_11 : decode cX2_readKeep 11 = .ok (.invokevirtual 95, 3) := by decide +kernel
theorem dX2_readKeep_14 : decode cX2_readKeep 14 = .ok (.istore_n 1, 1) := by decide +kernel
theorem dX2_readKeep_15 : decode cX2_readKeep 15 = .ok (.aload_n 0, 1) := by decide +kernel
theorem dX2_readKeep_16 : decode cX2_readKeep 16 = .ok (.getfield 18, 3) := by decide +kernel
theorem dX2_readKeep_19 : decode cX2_readKeep 19 = .ok (.iload_n 1, 1) := by decide +kernel
theorem dX2_readKeep_20 : decode cX2_readKeep 20 = .ok (.invokevirtual 117, 3) := by decide +kernel
theorem dX2_readKeep_23 : decode cX2_readKeep 23 = .ok (.ifCond .ne 7, 3) := by decide +kernel
theorem dX2_readKeep_26 : decode cX2_readKeep 26 = .ok (.aload_n 0, 1) := by decide +kernel
theorem dX2_readKeep_27 : decode cX2_readKeep 27 = .ok (.invokevirtual 58, 3) := by decide +kernel
theorem dX2_readKeep_30 : decode cX2_readKeep 30 = .ok (.aload_n 0, 1) := by decide +kernel
theorem dX2_readKeep_31 : decode cX2_readKeep 31 = .ok (.iconst 0, 1) := by decide +kernel
theorem dX2_readKeep_32 : decode cX2_readKeep 32 = .ok (.aload_n 0, 1) := by decide +kernel
theorem dX2_readKeep_33 : decode cX2_readKeep 33 = .ok (.getfield 18, 3) := by decide +kernel
theorem dX2_readKeep_36 : decode cX2_readKeep 36 = .ok (.getfield 85, 3) := by decide +kernel
theorem dX2_readKeep_39 : decode cX2_readKeep 39 = .ok (.iconst 1, 1) := by decide +kernel
theorem dX2_readKeep_40 : decode cX2_readKeep 40 = .ok (.isub, 1) := by decide +kernel
theorem dX2_readKeep_41 : decode cX2_readKeep 41 = .ok (.invokevirtual 95, 3) := by decide +kernel
theorem dX2_readKeep_44 : decode cX2_readKeep 44 = .ok (.istore_n 2, 1) := by decide +kernel
theorem dX2_readKeep_45 : decode cX2_readKeep 45 = .ok (.aload_n 0, 1) := by decide +kernel
theorem dX2_readKeep_46 : decode cX2_readKeep 46 = .ok (.getfield 26, 3) := by decide +kernel
theorem dX2_readKeep_49 : decode cX2_readKeep 49 = .ok (.iconst (-1), 1) := by decide +kernel
theorem dX2_readKeep_50 : decode cX2_readKeep 50 = .ok (.if_icmp .ne 13, 3) := by decide +kernel
theorem dX2_readKeep_53 : decode cX2_readKeep 53 = .ok (.aload_n 0, 1) := by decide +kernel
theorem dX2_readKeep_54 : decode cX2_readKeep 54 = .ok (.getfield 18, 3) := by decide +kernel
theorem dX2_readKeep_57 : decode cX2_readKeep 57 = .ok (.iload_n 1, 1) := by decide +kernel
theorem dX2_readKeep_58 : decode cX2_readKeep 58 = .ok (.iload_n 2, 1) := by decide +kernel
theorem dX2_readKeep_59 : decode cX2_readKeep 59 = .ok (.invokevirtual 120, 3) := by decide +kernel
theorem dX2_readKeep_62 : decode cX2_readKeep 62 = .ok (.pop, 1) := by decide +kernel
theorem dX2_readKeep_63 : decode cX2_readKeep 63 = .ok (.return_, 1) := by decide +kernel
theorem dX2_readDays_0 : decode cX2_readDays 0 = .ok (.aload_n 0, 1) := by decide +kernel
theorem dX2_readDays_1 : decode cX2_readDays 1 = .ok (.iconst 1, 1) := by decide +kernel
theorem dX2_readDays_2 : decode cX2_readDays 2 = .ok (.bipush 99, 2) := by decide +kernel
theorem dX2_readDays_4 : decode cX2_readDays 4 = .ok (.invokevirtual 95, 3) := by decide +kernel
theorem dX2_readDays_7 : decode cX2_readDays 7 = .ok (.istore_n 1, 1) := by decide +kernel
theorem dX2_readDays_8 : decode cX2_readDays 8 = .ok (.aload_n 0, 1) := by decide +kernel
theorem dX2_readDays_9 : decode cX2_readDays 9 = .ok (.getfield 26, 3) := by decide +kernel
theorem dX2_readDays_12 : decode cX2_readDays 12 = .ok (.iconst (-1), 1) := by decide +kernel
theorem dX2_readDays_13 : decode cX2_readDays 13 = .ok (.if_icmp .ne 11, 3) := by decide +kernel
theorem dX2_readDays_16 : decode cX2_readDays 16 = .ok (.aload_n 0, 1) := by decide +kernel
theorem dX2_readDays_17 : decode cX2_readDays 17 = .ok (.getfield 18, 3) := by decide +kernel
theorem dX2_readDays_20 : decode cX2_readDays 20 = .ok (.iload_n 1, 1) := by decide +kernel
theorem dX2_readDays_21 : decode cX2_readDays 21 = .ok (.invokevirtual 123, 3) := by decide +kernel
theorem dX2_readDays_24 : decode cX2_readDays 24 = .ok (.return_, 1) := by decide +kernel
theorem dX2_readNumber_0 : decode cX2_readNumber 0 = .ok (.aload_n 0, 1) := by decide +kernel
theorem dX2_readNumber_1 : decode cX2_readNumber 1 = .ok (.invokevirtual 47, 3) := by decide +kernel
theorem dX2_readNumber_4 : decode cX2_readNumber 4 = .ok (.aload_n 0, 1) := by decide +kernel
theorem dX2_readNumber_5 : decode cX2_readNumber 5 = .ok (.getfield 32, 3) := by decide +kernel
theorem dX2_readNumber_8 : decode cX2_readNumber 8 = .ok (.iconst 2, 1) := by decide +kernel
theorem dX2_readNumber_9 : decode cX2_readNumber 9 = .ok (.if_icmp .ne 15, 3) := by decide +kernel
theorem dX2_readNumber_12 : decode cX2_readNumber 12 = .ok (.aload_n 0, 1) := by decide +kernel
theorem dX2_readNumber_13 : decode cX2_readNumber 13 = .ok (.getfield 41, 3) := by decide +kernel
theorem dX2_readNumber_16 : decode cX2_readNumber 16 = .ok (.iload_n 1, 1) := by decide +kernel
theorem dX2_readNumber_17 : decode cX2_readNumber 17 = .ok (.iload_n 2, 1) := by decide +kernel
theorem dX2_readNumber_18 : decode cX2_readNumber 18 = .ok (.invokestatic 91, 3) := by decide +kernel
theorem dX2_readNumber_21 : decode cX2_readNumber 21 = .ok (.ifCond .ne 7, 3) := by decide +kernel
theorem dX2_readNumber_24 : decode cX2_readNumber 24 = .ok (.aload_n 0, 1) := by decide +kernel
theorem dX2_readNumber_25 : decode cX2_readNumber 25 = .ok (.invokevirtual 58, 3) := by decide +kernel
theorem dX2_readNumber_28 : decode cX2_readNumber 28 = .ok (.aload_n 0, 1) := by decide +kernel
theorem dX2_readNumber_29 : decode cX2_readNumber 29 = .ok (.getfield 41, 3) := by decide +kernel
theorem dX2_readNumber_32 : decode cX2_readNumber 32 = .ok (.ireturn, 1) := by decide +kernel
theorem dX2_readStop_0 : decode cX2_readStop 0 = .ok (.aload_n 0, 1) := by decide +kernel
theorem dX2_readStop_1 : decode cX2_readStop 1 = .ok (.invokevirtual 47, 3) := by decide +kernel
theorem dX2_readStop_4 : decode cX2_readStop 4 = .ok (.aload_n 0, 1) := by decide +kernel
theorem dX2_readStop_5 : decode cX2_readStop 5 = .ok (.getfield 32, 3) := by decide +kernel
theorem dX2_readStop_8 : decode cX2_readStop 8 = .ok (.iconst 3, 1) := by decide +kernel
theorem dX2_readStop_9 : decode cX2_readStop 9 = .ok (.if_icmp .eq 7, 3) := by decide +kernel
theorem dX2_readStop_12 : decode cX2_readStop 12 = .ok (.aload_n 0, 1) := by decide +kernel
theorem dX2_readStop_13 : decode cX2_readStop 13 = .ok (.invokevirtual 58, 3) := by decide +kernel
theorem dX2_readStop_16 : decode cX2_readStop 16 = .ok (.aload_n 0, 1) := by decide +kernel
theorem dX2_readStop_17 : decode cX2_readStop 17 = .ok (.getfield 26, 3) := by decide +kernel
theorem dX2_readStop_20 : decode cX2_readStop 20 = .ok (.iconst (-1), 1) := by decide +kernel
theorem dX2_readStop_21 : decode cX2_readStop 21 = .ok (.if_icmp .ne 13, 3) := by decide +kernel
theorem dX2_readStop_24 : decode cX2_readStop 24 = .ok (.aload_n 0, 1) := by decide +kernel
theorem dX2_readStop_25 : decode cX2_readStop 25 = .ok (.dup, 1) := by decide +kernel
theorem dX2_readStop_26 : decode cX2_readStop 26 = .ok (.getfield 29, 3) := by decide +kernel
theorem dX2_readStop_29 : decode cX2_readStop 29 = .ok (.iconst 1, 1) := by decide +kernel
theorem dX2_readStop_30 : decode cX2_readStop 30 = .ok (.iadd, 1) := by decide +kernel
theorem dX2_readStop_31 : decode cX2_readStop 31 = .ok (.putfield 29, 3) := by decide +kernel
theorem dX2_readStop_34 : decode cX2_readStop 34 = .ok (.return_, 1) := by decide +kernel
theorem dX2_fail_0 : decode cX2_fail 0 = .ok (.aload_n 0, 1) := by decide +kernel
theorem dX2_fail_1 : decode cX2_fail 1 = .ok (.getfield 26, 3) := by decide +kernel
theorem dX2_fail_4 : decode cX2_fail 4 = .ok (.iconst (-1), 1) := by decide +kernel
theorem dX2_fail_5 : decode cX2_fail 5 = .ok (.if_icmp .ne 11, 3) := by decide +kernel
theorem dX2_fail_8 : decode cX2_fail 8 = .ok (.aload_n 0, 1) := by decide +kernel
theorem dX2_fail_9 : decode cX2_fail 9 = .ok (.aload_n 0, 1) := by decide +kernel
theorem dX2_fail_10 : decode cX2_fail 10 = .ok (.getfield 35, 3) := by decide +kernel
theorem dX2_fail_13 : decode cX2_fail 13 = .ok (.putfield 26, 3) := by decide +kernel
theorem dX2_fail_16 : decode cX2_fail 16 = .ok (.return_, 1) := by decide +kernel
theorem dX2_advance_0 : decode cX2_advance 0 = .ok (.aload_n 0, 1) := by decide +kernel
theorem dX2_advance_1 : decode cX2_advance 1 = .ok (.getfield 26, 3) := by decide +kernel
theorem dX2_advance_4 : decode cX2_advance 4 = .ok (.iconst (-1), 1) := by decide +kernel
theorem dX2_advance_5 : decode cX2_advance 5 = .ok (.if_icmp .eq 4, 3) := by decide +kernel
theorem dX2_advance_8 : decode cX2_advance 8 = .ok (.return_, 1) := by decide +kernel
theorem dX2_advance_9 : decode cX2_advance 9 = .ok (.aload_n 0, 1) := by decide +kernel
theorem dX2_advance_10 : decode cX2_advance 10 = .ok (.aload_n 0, 1) := by decide +kernel
theorem dX2_advance_11 : decode cX2_advance 11 = .ok (.aload_n 0, 1) := by decide +kernel
theorem dX2_advance_12 : decode cX2_advance 12 = .ok (.getfield 38, 3) := by decide +kernel
theorem dX2_advance_15 : decode cX2_advance 15 = .ok (.bipush 32, 2) := by decide +kernel
theorem dX2_advance_17 : decode cX2_advance 17 = .ok (.bipush 32, 2) := by decide +kernel
theorem dX2_advance_19 : decode cX2_advance 19 = .ok (.invokevirtual 127, 3) := by decide +kernel
theorem dX2_advance_22 : decode cX2_advance 22 = .ok (.putfield 35, 3) := by decide +kernel
theorem dX2_advance_25 : decode cX2_advance 25 = .ok (.aload_n 0, 1) := by decide +kernel
theorem dX2_advance_26 : decode cX2_advance 26 = .ok (.iconst 0, 1) := by decide +kernel
theorem dX2_advance_27 : decode cX2_advance 27 = .ok (.putfield 41, 3) := by decide +kernel
theorem dX2_advance_30 : decode cX2_advance 30 = .ok (.aload_n 0, 1) := by decide +kernel
theorem dX2_advance_31 : decode cX2_advance 31 = .ok (.getfield 9, 3) := by decide +kernel
theorem dX2_advance_34 : decode cX2_advance 34 = .ok (.aload_n 0, 1) := by decide +kernel
theorem dX2_advance_35 : decode cX2_advance 35 = .ok (.getfield 35, 3) := by decide +kernel
theorem dX2_advance_38 : decode cX2_advance 38 = .ok (.invokestatic 131, 3) := by decide +kernel
theorem dX2_advance_41 : decode cX2_advance 41 = .ok (.istore_n 1, 1) := by decide +kernel
theorem dX2_advance_42 : decode cX2_advance 42 = .ok (.aload_n 0, 1) := by decide +kernel
theorem dX2_advance_43 : decode cX2_advance 43 = .ok (.getfield 35, 3) := by decide +kernel
theorem dX2_advance_46 : decode cX2_advance 46 = .ok (.aload_n 0, 1) := by decide +kernel
theorem dX2_advance_47 : decode cX2_advance 47 = .ok (.getfield 22, 3) := by decide +kernel
theorem dX2_advance_50 : decode cX2_advance 50 = .ok (.if_icmp .lt 19, 3) := by decide +kernel
theorem dX2_advance_53 : decode cX2_advance 53 = .ok (.aload_n 0, 1) := by decide +kernel
theorem dX2_advance_54 : decode cX2_advance 54 = .ok (.iconst 0, 1) := by decide +kernel
theorem dX2_advance_55 : decode cX2_advance 55 = .ok (.putfield 32, 3) := by decide +kernel
theorem dX2_advance_58 : decode cX2_advance 58 = .ok (.aload_n 0, 1) := by decide +kernel
theorem dX2_advance_59 : decode cX2_advance 59 = .ok (.aload_n 0, 1) := by decide +kernel
theorem dX2_advance_60 : decode cX2_advance 60 = .ok (.getfield 35, 3) := by decide +kernel
theorem dX2_advance_63 : decode cX2_advance 63 = .ok (.putfield 38, 3) := by decide +kernel
theorem dX2_advance_66 : decode cX2_advance 66 = .ok (.goto 123, 3) := by decide +kernel
theorem dX2_advance_69 : decode cX2_advance 69 = .ok (.iload_n 1, 1) := by decide +kernel
theorem dX2_advance_70 : decode cX2_advance 70 = .ok (.bipush 97, 2) := by decide +kernel
theorem dX2_advance_72 : decode cX2_advance 72 = .ok (.bipush 122, 2) := by decide +kernel
theorem dX2_advance_74 : decode cX2_advance 74 = .ok (.invokestatic 91, 3) := by decide +kernel
theorem dX2_advance_77 : decode cX2_advance 77 = .ok (.ifCond .eq 27, 3) := by decide +kernel
theorem dX2_advance_80 : decode cX2_advance 80 = .ok (.aload_n 0, 1) := by decide +kernel
theorem dX2_advance_81 : decode cX2_advance 81 = .ok (.iconst 1, 1) := by decide +kernel
theorem dX2_advance_82 : decode cX2_advance 82 = .ok (.putfield 32, 3) := by decide +kernel
theorem dX2_advance_85 : decode cX2_advance 85 = .ok (.aload_n 0, 1) := by decide +kernel
theorem dX2_advance_86 : decode cX2_advance 86 = .ok (.aload_n 0, 1) := by decide +kernel
theorem dX2_advance_87 : decode cX2_advance 87 = .ok (.aload_n 0, 1) := by decide +kernel
theorem dX2_advance_88 : decode cX2_advance 88 = .ok (.getfield 35, 3) := by decide +kernel
theorem dX2_advance_91 : decode cX2_advance 91 = .ok (.bipush 97, 2) := by decide +kernel
theorem dX2_advance_93 : decode cX2_advance 93 = .ok (.bipush 122, 2) := by decide +kernel
theorem dX2_advance_95 : decode cX2_advance 95 = .ok (.invokevirtual 127, 3) := by decide +kernel
theorem dX2_advance_98 : decode cX2_advance 98 = .ok (.putfield 38, 3) := by decide +kernel
theorem dX2_advance_101 : decode cX2_advance 101 = .ok (.goto 88, 3) := by decide +kernel
theorem dX2_advance_104 : decode cX2_advance 104 = .ok (.iload_n 1, 1) := by decide +kernel
theorem dX2_advance_105 : decode cX2_advance 105 = .ok (.bipush 48, 2) := by decide +kernel
theorem dX2_advance_107 : decode cX2_advance 107 = .ok (.bipush 57, 2) := by decide +kernel
theorem dX2_advance_109 : decode cX2_advance 109 = .ok (.invokestatic 91, 3) := by decide +kernel
theorem dX2_advance_112 : decode cX2_advance 112 = .ok (.ifCond .eq 52, 3) := by decide +kernel
theorem dX2_advance_115 : decode cX2_advance 115 = .ok (.aload_n 0, 1) := by decide +kernel
theorem dX2_advance_116 : decode cX2_advance 116 = .ok (.aload_n 0, 1) := by decide +kernel
theorem dX2_advance_117 : decode cX2_advance 117 = .ok (.aload_n 0, 1) := by decide +kernel
theorem dX2_advance_118 : decode cX2_advance 118 = .ok (.getfield 35, 3) := by decide +kernel
theorem dX2_advance_121 : decode cX2_advance 121 = .ok (.bipush 48, 2) := by decide +kernel
theorem dX2_advance_123 : decode cX2_advance 123 = .ok (.bipush 57, 2) := by decide +kernel
theorem dX2_advance_125 : decode cX2_advance 125 = .ok (.invokevirtual 127, 3) := by decide +kernel
theorem dX2_advance_128 : decode cX2_advance 128 = .ok (.putfield 38, 3) := by decide +kernel
theorem dX2_advance_131 : decode cX2_advance 131 = .ok (.aload_n 0, 1) := by decide +kernel
theorem dX2_advance_132 : decode cX2_advance 132 = .ok (.aload_n 0, 1) := by decide +kernel
theorem dX2_advance_133 : decode cX2_advance 133 = .ok (.getfield 38, 3) := by decide +kernel
theorem dX2_advance_136 : decode cX2_advance 136 = .ok (.aload_n 0, 1) := by decide +kernel
theorem dX2_advance_137 : decode cX2_advance 137 = .ok (.getfield 35, 3) := by decide +kernel
theorem dX2_advance_140 : decode cX2_advance 140 = .ok (.isub, 1) := by decide +kernel
theorem dX2_advance_141 : decode cX2_advance 141 = .ok (.iconst 2, 1) := by decide +kernel
theorem dX2_advance_142 : decode cX2_advance 142 = .ok (.if_icmp .gt 7, 3) := by decide +kernel
theorem dX2_advance_145 : decode cX2_advance 145 = .ok (.iconst 2, 1) := by decide +kernel
theorem dX2_advance_146 : decode cX2_advance 146 = .ok (.goto 4, 3) := by decide +kernel
theorem dX2_advance_149 : decode cX2_advance 149 = .ok (.iconst 4, 1) := by decide +kernel
theorem dX2_advance_150 : decode cX2_advance 150 = .ok (.putfield 32, 3) := by decide +kernel
theorem dX2_advance_153 : decode cX2_advance 153 = .ok (.aload_n 0, 1) := by decide +kernel
theorem dX2_advance_154 : decode cX2_advance 154 = .ok (.aload_n 0, 1) := by decide +kernel
theorem dX2_advance_155 : decode cX2_advance 155 = .ok (.invokevirtual 135, 3) := by decide +kernel
theorem dX2_advance_158 : decode cX2_advance 158 = .ok (.putfield 41, 3) := by decide +kernel
theorem dX2_advance_161 : decode cX2_advance 161 = .ok (.goto 28, 3) := by decide +kernel
theorem dX2_advance_164 : decode cX2_advance 164 = .ok (.aload_n 0, 1) := by decide +kernel
theorem dX2_advance_165 : decode cX2_advance 165 = .ok (.iload_n 1, 1) := by decide +kernel
theorem dX2_advance_166 : decode cX2_advance 166 = .ok (.bipush 59, 2) := by decide +kernel
theorem dX2_advance_168 : decode cX2_advance 168 = .ok (.if_icmp .ne 7, 3) := by decide +kernel
theorem dX2_advance_171 : decode cX2_advance 171 = .ok (.iconst 3, 1) := by decide +kernel
theorem dX2_advance_172 : decode cX2_advance 172 = .ok (.goto 4, 3) := by decide +kernel
theorem dX2_advance_175 : decode cX2_advance 175 = .ok (.iconst 4, 1) := by decide +kernel
theorem dX2_advance_176 : decode cX2_advance 176 = .ok (.putfield 32, 3) := by decide +kernel
theorem dX2_advance_179 : decode cX2_advance 179 = .ok (.aload_n 0, 1) := by decide +kernel
theorem dX2_advance_180 : decode cX2_advance 180 = .ok (.aload_n 0, 1) := by decide +kernel
theorem dX2_advance_181 : decode cX2_advance 181 = .ok (.getfield 35, 3) := by decide +kernel
theorem dX2_advance_184 : decode cX2_advance 184 = .ok (.iconst 1, 1) := by decide +kernel
theorem dX2_advance_185 : decode cX2_advance 185 = .ok (.iadd, 1) := by decide +kernel
theorem dX2_advance_186 : decode cX2_advance 186 = .ok (.putfield 38, 3) := by decide +kernel
theorem dX2_advance_189 : decode cX2_advance 189 = .ok (.return_, 1) := by decide +kernel
theorem dX2_endOfRun_0 : decode cX2_endOfRun 0 = .ok (.iload_n 1, 1) := by decide +kernel
theorem dX2_endOfRun_1 : decode cX2_endOfRun 1 = .ok (.istore 4, 2) := by decide +kernel
theorem dX2_endOfRun_3 : decode cX2_endOfRun 3 = .ok (.iload 4, 2) := by decide +kernel
theorem dX2_endOfRun_5 : decode cX2_endOfRun 5 = .ok (.aload_n 0, 1) := by decide +kernel
theorem dX2_endOfRun_6 : decode cX2_endOfRun 6 = .ok (.getfield 22, 3) := by decide +kernel
theorem dX2_endOfRun_9 : decode cX2_endOfRun 9 = .ok (.if_icmp .ge 26, 3) := by decide +kernel
theorem dX2_endOfRun_12 : decode cX2_endOfRun 12 = .ok (.aload_n 0, 1) := by decide +kernel
theorem dX2_endOfRun_13 : decode cX2_endOfRun 13 = .ok (.getfield 9, 3) := by decide +kernel
theorem dX2_endOfRun_16 : decode cX2_endOfRun 16 = .ok (.iload 4, 2) := by decide +kernel
theorem dX2_endOfRun_18 : decode cX2_endOfRun 18 = .ok (.invokestatic 131, 3) := by decide +kernel
theorem dX2_endOfRun_21 : decode cX2_endOfRun 21 = .ok (.iload_n 2, 1) := by decide +kernel
theorem dX2_endOfRun_22 : decode cX2_endOfRun 22 = .ok (.iload_n 3, 1) := by decide +kernel
theorem dX2_endOfRun_23 : decode cX2_endOfRun 23 = .ok (.invokestatic 91, 3) := by decide +kernel
theorem dX2_endOfRun_26 : decode cX2_endOfRun 26 = .ok (.ifCond .eq 9, 3) := by decide +kernel
theorem dX2_endOfRun_29 : decode cX2_endOfRun 29 = .ok (.iinc 4 1, 3) := by decide +kernel
theorem dX2_endOfRun_32 : decode cX2_endOfRun 32 = .ok (.goto (-29), 3) := by decide +kernel
theorem dX2_endOfRun_35 : decode cX2_endOfRun 35 = .ok (.iload 4, 2) := by decide +kernel
theorem dX2_endOfRun_37 : decode cX2_endOfRun 37 = .ok (.ireturn, 1) := by decide +kernel
theorem dX2_numberAtHand_0 : decode cX2_numberAtHand 0 = .ok (.iconst 0, 1) := by decide +kernel
theorem dX2_numberAtHand_1 : decode cX2_numberAtHand 1 = .ok (.istore_n 1, 1) := by decide +kernel
theorem dX2_numberAtHand_2 : decode cX2_numberAtHand 2 = .ok (.aload_n 0, 1) := by decide +kernel
theorem dX2_numberAtHand_3 : decode cX2_numberAtHand 3 = .ok (.getfield 35, 3) := by decide +kernel
theorem dX2_numberAtHand_6 : decode cX2_numberAtHand 6 = .ok (.istore_n 2, 1) := by decide +kernel
theorem dX2_numberAtHand_7 : decode cX2_numberAtHand 7 = .ok (.iload_n 2, 1) := by decide +kernel
theorem dX2_numberAtHand_8 : decode cX2_numberAtHand 8 = .ok (.aload_n 0, 1) := by decide +kernel
theorem dX2_numberAtHand_9 : decode cX2_numberAtHand 9 = .ok (.getfield 38, 3) := by decide +kernel
theorem dX2_numberAtHand_12 : decode cX2_numberAtHand 12 = .ok (.if_icmp .ge 36, 3) := by decide +kernel
theorem dX2_numberAtHand_15 : decode cX2_numberAtHand 15 = .ok (.iload_n 2, 1) := by decide +kernel
theorem dX2_numberAtHand_16 : decode cX2_numberAtHand 16 = .ok (.aload_n 0, 1) := by decide +kernel
theorem dX2_numberAtHand_17 : decode cX2_numberAtHand 17 = .ok (.getfield 35, 3) := by decide +kernel
theorem dX2_numberAtHand_20 : decode cX2_numberAtHand 20 = .ok (.iconst 2, 1) := by decide +kernel
theorem dX2_numberAtHand_21 : decode cX2_numberAtHand 21 = .ok (.iadd, 1) := by decide +kernel
theorem dX2_numberAtHand_22 : decode cX2_numberAtHand 22 = .ok (.if_icmp .ge 26, 3) := by decide +kernel
theorem dX2_numberAtHand_25 : decode cX2_numberAtHand 25 = .ok (.bipush 10, 2) := by decide +kernel
theorem dX2_numberAtHand_27 : decode cX2_numberAtHand 27 = .ok (.iload_n 1, 1) := by decide +kernel
theorem dX2_numberAtHand_28 : decode cX2_numberAtHand 28 = .ok (.imul, 1) := by decide +kernel
theorem dX2_numberAtHand_29 : decode cX2_numberAtHand 29 = .ok (.aload_n 0, 1) := by decide +kernel
theorem dX2_numberAtHand_30 : decode cX2_numberAtHand 30 = .ok (.getfield 9, 3) := by decide +kernel
theorem dX2_numberAtHand_33 : decode cX2_numberAtHand 33 = .ok (.iload_n 2, 1) := by decide +kernel
theorem dX2_numberAtHand_34 : decode cX2_numberAtHand 34 = .ok (.invokestatic 131, 3) := by decide +kernel
theorem dX2_numberAtHand_37 : decode cX2_numberAtHand 37 = .ok (.iadd, 1) := by decide +kernel
theorem dX2_numberAtHand_38 : decode cX2_numberAtHand 38 = .ok (.bipush 48, 2) := by decide +kernel
theorem dX2_numberAtHand_40 : decode cX2_numberAtHand 40 = .ok (.isub, 1) := by decide +kernel
theorem dX2_numberAtHand_41 : decode cX2_numberAtHand 41 = .ok (.istore_n 1, 1) := by decide +kernel
theorem dX2_numberAtHand_42 : decode cX2_numberAtHand 42 = .ok (.iinc 2 1, 3) := by decide +kernel
theorem dX2_numberAtHand_45 : decode cX2_numberAtHand 45 = .ok (.goto (-38), 3) := by decide +kernel
theorem dX2_numberAtHand_48 : decode cX2_numberAtHand 48 = .ok (.iload_n 1, 1) := by decide +kernel
theorem dX2_numberAtHand_49 : decode cX2_numberAtHand 49 = .ok (.ireturn, 1) := by decide +kernel
theorem dX2_wordAtHand_0 : decode cX2_wordAtHand 0 = .ok (.iconst 0, 1) := by decide +kernel
theorem dX2_wordAtHand_1 : decode cX2_wordAtHand 1 = .ok (.istore_n 1, 1) := by decide +kernel
theorem dX2_wordAtHand_2 : decode cX2_wordAtHand 2 = .ok (.iload_n 1, 1) := by decide +kernel
theorem dX2_wordAtHand_3 : decode cX2_wordAtHand 3 = .ok (.bipush 7, 2) := by decide +kernel
theorem dX2_wordAtHand_5 : decode cX2_wordAtHand 5 = .ok (.if_icmp .ge 30, 3) := by decide +kernel
theorem dX2_wordAtHand_8 : decode cX2_wordAtHand 8 = .ok (.aload_n 0, 1) := by decide +kernel
theorem dX2_wordAtHand_9 : decode cX2_wordAtHand 9 = .ok (.getfield 32, 3) := by decide +kernel
theorem dX2_wordAtHand_12 : decode cX2_wordAtHand 12 = .ok (.iconst 1, 1) := by decide +kernel
theorem dX2_wordAtHand_13 : decode cX2_wordAtHand 13 = .ok (.if_icmp .ne 16, 3) := by decide +kernel
theorem dX2_wordAtHand_16 : decode cX2_wordAtHand 16 = .ok (.aload_n 0, 1) := by decide +kernel
theorem dX2_wordAtHand_17 : decode cX2_wordAtHand 17 = .ok (.iload_n 1, 1) := by decide +kernel
theorem dX2_wordAtHand_18 : decode cX2_wordAtHand 18 = .ok (.invokestatic 138, 3) := by decide +kernel
theorem dX2_wordAtHand_21 : decode cX2_wordAtHand 21 = .ok (.invokevirtual 142, 3) := by decide +kernel
theorem dX2_wordAtHand_24 : decode cX2_wordAtHand 24 = .ok (.ifCond .eq 5, 3) := by decide +kernel
theorem dX2_wordAtHand_27 : decode cX2_wordAtHand 27 = .ok (.iload_n 1, 1) := by decide +kernel
theorem dX2_wordAtHand_28 : decode cX2_wordAtHand 28 = .ok (.ireturn, 1) := by decide +kernel
theorem dX2_wordAtHand_29 : decode cX2_wordAtHand 29 = .ok (.iinc 1 1, 3) := by decide +kernel
theorem dX2_wordAtHand_32 : decode cX2_wordAtHand 32 = .ok (.goto (-30), 3) := by decide +kernel
theorem dX2_wordAtHand_35 : decode cX2_wordAtHand 35 = .ok (.iconst (-1), 1) := by decide +kernel
theorem dX2_wordAtHand_36 : decode cX2_wordAtHand 36 = .ok (.ireturn, 1) := by decide +kernel
theorem dX2_spelling_0 : decode cX2_spelling 0 = .ok (.iload_n 0, 1) := by decide +kernel
theorem dX2_spelling_1 : decode cX2_spelling 1 = .ok (.tableswitch 57 0 5 #[39, 42, 45, 48, 51, 54], 39) := by decide +kernel
theorem dX2_spelling_40 : decode cX2_spelling 40 = .ok (.ldc 146, 2) := by decide +kernel
theorem dX2_spelling_42 : decode cX2_spelling 42 = .ok (.areturn, 1) := by decide +kernel
theorem dX2_spelling_43 : decode cX2_spelling 43 = .ok (.ldc 148, 2) := by decide +kernel
theorem dX2_spelling_45 : decode cX2_spelling 45 = .ok (.areturn, 1) := by decide +kernel
theorem dX2_spelling_46 : decode cX2_spelling 46 = .ok (.ldc 150, 2) := by decide +kernel
theorem dX2_spelling_48 : decode cX2_spelling 48 = .ok (.areturn, 1) := by decide +kernel
theorem dX2_spelling_49 : decode cX2_spelling 49 = .ok (.ldc 152, 2) := by decide +kernel
theorem dX2_spelling_51 : decode cX2_spelling 51 = .ok (.areturn, 1) := by decide +kernel
theorem dX2_spelling_52 : decode cX2_spelling 52 = .ok (.ldc 154, 2) := by decide +kernel
theorem dX2_spelling_54 : decode cX2_spelling 54 = .ok (.areturn, 1) := by decide +kernel
theorem dX2_spelling_55 : decode cX2_spelling 55 = .ok (.ldc 156, 2) := by decide +kernel
theorem dX2_spelling_57 : decode cX2_spelling 57 = .ok (.areturn, 1) := by decide +kernel
theorem dX2_spelling_58 : decode cX2_spelling 58 = .ok (.ldc 158, 2) := by decide +kernel
theorem dX2_spelling_60 : decode cX2_spelling 60 = .ok (.areturn, 1) := by decide +kernel
theorem dX2_isAtHand_0 : decode cX2_isAtHand 0 = .ok (.aload_n 1, 1) := by decide +kernel
theorem dX2_isAtHand_1 : decode cX2_isAtHand 1 = .ok (.ifnull 19, 3) := by decide +kernel
theorem dX2_isAtHand_4 : decode cX2_isAtHand 4 = .ok (.aload_n 1, 1) := by decide +kernel
theorem dX2_isAtHand_5 : decode cX2_isAtHand 5 = .ok (.invokevirtual 160, 3) := by decide +kernel
theorem dX2_isAtHand_8 : decode cX2_isAtHand 8 = .ok (.aload_n 0, 1) := by decide +kernel
theorem dX2_isAtHand_9 : decode cX2_isAtHand 9 = .ok (.getfield 38, 3) := by decide +kernel
theorem dX2_isAtHand_12 : decode cX2_isAtHand 12 = .ok (.aload_n 0, 1) := by decide +kernel
theorem dX2_isAtHand_13 : decode cX2_isAtHand 13 = .ok (.getfield 35, 3) := by decide +kernel
theorem dX2_isAtHand_16 : decode cX2_isAtHand 16 = .ok (.isub, 1) := by decide +kernel
theorem dX2_isAtHand_17 : decode cX2_isAtHand 17 = .ok (.if_icmp .eq 5, 3) := by decide +kernel
theorem dX2_isAtHand_20 : decode cX2_isAtHand 20 = .ok (.iconst 0, 1) := by decide +kernel
theorem dX2_isAtHand_21 : decode cX2_isAtHand 21 = .ok (.ireturn, 1) := by decide +kernel
theorem dX2_isAtHand_22 : decode cX2_isAtHand 22 = .ok (.iconst 0, 1) := by decide +kernel
theorem dX2_isAtHand_23 : decode cX2_isAtHand 23 = .ok (.istore_n 2, 1) := by decide +kernel
theorem dX2_isAtHand_24 : decode cX2_isAtHand 24 = .ok (.iload_n 2, 1) := by decide +kernel
theorem dX2_isAtHand_25 : decode cX2_isAtHand 25 = .ok (.aload_n 1, 1) := by decide +kernel
theorem dX2_isAtHand_26 : decode cX2_isAtHand 26 = .ok (.invokevirtual 160, 3) := by decide +kernel
theorem dX2_isAtHand_29 : decode cX2_isAtHand 29 = .ok (.if_icmp .ge 32, 3) := by decide +kernel
theorem dX2_isAtHand_32 : decode cX2_isAtHand 32 = .ok (.aload_n 1, 1) := by decide +kernel
theorem dX2_isAtHand_33 : decode cX2_isAtHand 33 = .ok (.iload_n 2, 1) := by decide +kernel
theorem dX2_isAtHand_34 : decode cX2_isAtHand 34 = .ok (.invokevirtual 164, 3) := by decide +kernel
theorem dX2_isAtHand_37 : decode cX2_isAtHand 37 = .ok (.aload_n 0, 1) := by decide +kernel
theorem dX2_isAtHand_38 : decode cX2_isAtHand 38 = .ok (.getfield 9, 3) := by decide +kernel
theorem dX2_isAtHand_41 : decode cX2_isAtHand 41 = .ok (.aload_n 0, 1) := by decide +kernel
theorem dX2_isAtHand_42 : decode cX2_isAtHand 42 = .ok (.getfield 35, 3) := by decide +kernel
theorem dX2_isAtHand_45 : decode cX2_isAtHand 45 = .ok (.iload_n 2, 1) := by decide +kernel
theorem dX2_isAtHand_46 : decode cX2_isAtHand 46 = .ok (.iadd, 1) := by decide +kernel
theorem dX2_isAtHand_47 : decode cX2_isAtHand 47 = .ok (.invokestatic 131, 3) := by decide +kernel
theorem dX2_isAtHand_50 : decode cX2_isAtHand 50 = .ok (.if_icmp .eq 5, 3) := by decide +kernel
theorem dX2_isAtHand_53 : decode cX2_isAtHand 53 = .ok (.iconst 0, 1) := by decide +kernel
theorem dX2_isAtHand_54 : decode cX2_isAtHand 54 = .ok (.ireturn, 1) := by decide +kernel
theorem dX2_isAtHand_55 : decode cX2_isAtHand 55 = .ok (.iinc 2 1, 3) := by decide +kernel
theorem dX2_isAtHand_58 : decode cX2_isAtHand 58 = .ok (.goto (-34), 3) := by decide +kernel
theorem dX2_isAtHand_61 : decode cX2_isAtHand 61 = .ok (.iconst 1, 1) := by decide +kernel
theorem dX2_isAtHand_62 : decode cX2_isAtHand 62 = .ok (.ireturn, 1) := by decide +kernel
theorem dX3_init_0 : decode cX3_init 0 = .ok (.aload_n 0, 1) := by decide +kernel
theorem dX3_init_1 : decode cX3_init 1 = .ok (.invokespecial 3, 3) := by decide +kernel
theorem dX3_init_4 : decode cX3_init 4 = .ok (.aload_n 0, 1) := by decide +kernel
theorem dX3_init_5 : decode cX3_init 5 = .ok (.new 9, 3) := by decide +kernel
theorem dX3_init_8 : decode cX3_init 8 = .ok (.dup, 1) := by decide +kernel
theorem dX3_init_9 : decode cX3_init 9 = .ok (.invokespecial 11, 3) := by decide +kernel
theorem dX3_init_12 : decode cX3_init 12 = .ok (.putfield 12, 3) := by decide +kernel
theorem dX3_init_15 : decode cX3_init 15 = .ok (.aload_n 0, 1) := by decide +kernel
theorem dX3_init_16 : decode cX3_init 16 = .ok (.new 18, 3) := by decide +kernel
theorem dX3_init_19 : decode cX3_init 19 = .ok (.dup, 1) := by decide +kernel
theorem dX3_init_20 : decode cX3_init 20 = .ok (.invokespecial 20, 3) := by decide +kernel
theorem dX3_init_23 : decode cX3_init 23 = .ok (.putfield 21, 3) := by decide +kernel
theorem dX3_init_26 : decode cX3_init 26 = .ok (.aload_n 0, 1) := by decide +kernel
theorem dX3_init_27 : decode cX3_init 27 = .ok (.new 25, 3) := by decide +kernel
theorem dX3_init_30 : decode cX3_init 30 = .ok (.dup, 1) := by decide +kernel
theorem dX3_init_31 : decode cX3_init 31 = .ok (.iconst 5, 1) := by decide +kernel
theorem dX3_init_32 : decode cX3_init 32 = .ok (.invokespecial 27, 3) := by decide +kernel
theorem dX3_init_35 : decode cX3_init 35 = .ok (.putfield 30, 3) := by decide +kernel
theorem dX3_init_38 : decode cX3_init 38 = .ok (.aload_n 0, 1) := by decide +kernel
theorem dX3_init_39 : decode cX3_init 39 = .ok (.new 25, 3) := by decide +kernel
theorem dX3_init_42 : decode cX3_init 42 = .ok (.dup, 1) := by decide +kernel
theorem dX3_init_43 : decode cX3_init 43 = .ok (.bipush 6, 2) := by decide +kernel
theorem dX3_init_45 : decode cX3_init 45 = .ok (.invokespecial 27, 3) := by decide +kernel
theorem dX3_init_48 : decode cX3_init 48 = .ok (.putfield 34, 3) := by decide +kernel
theorem dX3_init_51 : decode cX3_init 51 = .ok (.aload_n 0, 1) := by decide +kernel
theorem dX3_init_52 : decode cX3_init 52 = .ok (.new 25, 3) := by decide +kernel
theorem dX3_init_55 : decode cX3_init 55 = .ok (.dup, 1) := by decide +kernel
theorem dX3_init_56 : decode cX3_init 56 = .ok (.bipush 6, 2) := by decide +kernel
theorem dX3_init_58 : decode cX3_init 58 = .ok (.invokespecial 27, 3) := by decide +kernel
theorem dX3_init_61 : decode cX3_init 61 = .ok (.putfield 37, 3) := by decide +kernel
theorem dX3_init_64 : decode cX3_init 64 = .ok (.aload_n 0, 1) := by decide +kernel
theorem dX3_init_65 : decode cX3_init 65 = .ok (.iconst 0, 1) := by decide +kernel
theorem dX3_init_66 : decode cX3_init 66 = .ok (.putfield 40, 3) := by decide +kernel
theorem dX3_init_69 : decode cX3_init 69 = .ok (.return_, 1) := by decide +kernel
theorem dX3_empty_0 : decode cX3_empty 0 = .ok (.aload_n 0, 1) := by decide +kernel
theorem dX3_empty_1 : decode cX3_empty 1 = .ok (.getfield 12, 3) := by decide +kernel
theorem dX3_empty_4 : decode cX3_empty 4 = .ok (.invokevirtual 44, 3) := by decide +kernel
theorem dX3_empty_7 : decode cX3_empty 7 = .ok (.aload_n 0, 1) := by decide +kernel
theorem dX3_empty_8 : decode cX3_empty 8 = .ok (.getfield 21, 3) := by decide +kernel
theorem dX3_empty_11 : decode cX3_empty 11 = .ok (.iconst 0, 1) := by decide +kernel
theorem dX3_empty_12 : decode cX3_empty 12 = .ok (.putfield 47, 3) := by decide +kernel
theorem dX3_empty_15 : decode cX3_empty 15 = .ok (.aload_n 0, 1) := by decide +kernel
theorem dX3_empty_16 : decode cX3_empty 16 = .ok (.getfield 30, 3) := by decide +kernel
theorem dX3_empty_19 : decode cX3_empty 19 = .ok (.iconst 0, 1) := by decide +kernel
theorem dX3_empty_20 : decode cX3_empty 20 = .ok (.putfield 51, 3) := by decide +kernel
theorem dX3_empty_23 : decode cX3_empty 23 = .ok (.aload_n 0, 1) := by decide +kernel
theorem dX3_empty_24 : decode cX3_empty 24 = .ok (.getfield 34, 3) := by decide +kernel
theorem dX3_empty_27 : decode cX3_empty 27 = .ok (.iconst 0, 1) := by decide +kernel
theorem dX3_empty_28 : decode cX3_empty 28 = .ok (.putfield 51, 3) := by decide +kernel
theorem dX3_empty_31 : decode cX3_empty 31 = .ok (.aload_n 0, 1) := by decide +kernel
theorem dX3_empty_32 : decode cX3_empty 32 = .ok (.getfield 37, 3) := by decide +kernel
theorem dX3_empty_35 : decode cX3_empty 35 = .ok (.iconst 0, 1) := by decide +kernel
theorem dX3_empty_36 : decode cX3_empty 36 = .ok (.putfield 51, 3) := by decide +kernel
theorem dX3_empty_39 : decode cX3_empty 39 = .ok (.return_, 1) := by decide +kernel
theorem dX3_take_0 : decode cX3_take 0 = .ok (.aload_n 1, 1) := by decide +kernel
theorem dX3_take_1 : decode cX3_take 1 = .ok (.ifnonnull 4, 3) := by decide +kernel
theorem dX3_take_4 : decode cX3_take 4 = .ok (.return_, 1) := by decide +kernel
theorem dX3_take_5 : decode cX3_take 5 = .ok (.aload_n 0, 1) := by decide +kernel
theorem dX3_take_6 : decode cX3_take 6 = .ok (.getfield 12, 3) := by decide +kernel
theorem dX3_take_9 : decode cX3_take 9 = .ok (.aload_n 1, 1) := by decide +kernel
theorem dX3_take_10 : decode cX3_take 10 = .ok (.getfield 12, 3) := by decide +kernel
theorem dX3_take_13 : decode cX3_take 13 = .ok (.invokevirtual 54, 3) := by decide +kernel
theorem dX3_take_16 : decode cX3_take 16 = .ok (.aload_n 0, 1) := by decide +kernel
theorem dX3_take_17 : decode cX3_take 17 = .ok (.getfield 21, 3) := by decide +kernel
theorem dX3_take_20 : decode cX3_take 20 = .ok (.aload_n 1, 1) := by decide +kernel
theorem dX3_take_21 : decode cX3_take 21 = .ok (.getfield 21, 3) := by decide +kernel
theorem dX3_take_24 : decode cX3_take 24 = .ok (.invokevirtual 58, 3) := by decide +kernel
theorem dX3_take_27 : decode cX3_take 27 = .ok (.aload_n 0, 1) := by decide +kernel
theorem dX3_take_28 : decode cX3_take 28 = .ok (.getfield 30, 3) := by decide +kernel
theorem dX3_take_31 : decode cX3_take 31 = .ok (.aload_n 1, 1) := by decide +kernel
theorem dX3_take_32 : decode cX3_take 32 = .ok (.getfield 30, 3) := by decide +kernel
theorem dX3_take_35 : decode cX3_take 35 = .ok (.invokevirtual 61, 3) := by decide +kernel
theorem dX3_take_38 : decode cX3_take 38 = .ok (.aload_n 0, 1) := by decide +kernel
theorem dX3_take_39 : decode cX3_take 39 = .ok (.getfield 34, 3) := by decide +kernel
theorem dX3_take_42 : decode cX3_take 42 = .ok (.aload_n 1, 1) := by decide +kernel
theorem dX3_take_43 : decode cX3_take 43 = .ok (.getfield 34, 3) := by decide +kernel
theorem dX3_take_46 : decode cX3_take 46 = .ok (.invokevirtual 61, 3) := by decide +kernel
theorem dX3_take_49 : decode cX3_take 49 = .ok (.aload_n 0, 1) := by decide +kernel
theorem dX3_take_50 : decode cX3_take 50 = .ok (.getfield 37, 3) := by decide +kernel
theorem dX3_take_53 : decode cX3_take 53 = .ok (.aload_n 1, 1) := by decide +kernel
theorem dX3_take_54 : decode cX3_take 54 = .ok (.getfield 37, 3) := by decide +kernel
theorem dX3_take_57 : decode cX3_take 57 = .ok (.invokevirtual 61, 3) := by decide +kernel
theorem dX3_take_60 : decode cX3_take 60 = .ok (.return_, 1) := by decide +kernel
theorem dX3_hintsOf_0 : decode cX3_hintsOf 0 = .ok (.iload_n 1, 1) := by decide +kernel
theorem dX3_hintsOf_1 : decode cX3_hintsOf 1 = .ok (.lookupswitch 37 #[(1, 27), (2, 32)], 27) := by decide +kernel
theorem dX3_hintsOf_28 : decode cX3_hintsOf 28 = .ok (.aload_n 0, 1) := by decide +kernel
theorem dX3_hintsOf_29 : decode cX3_hintsOf 29 = .ok (.getfield 34, 3) := by decide +kernel
theorem dX3_hintsOf_32 : decode cX3_hintsOf 32 = .ok (.areturn, 1) := by decide +kernel
theorem dX3_hintsOf_33 : decode cX3_hintsOf 33 = .ok (.aload_n 0, 1) := by decide +kernel
theorem dX3_hintsOf_34 : decode cX3_hintsOf 34 = .ok (.getfield 37, 3) := by decide +kernel
theorem dX3_hintsOf_37 : decode cX3_hintsOf 37 = .ok (.areturn, 1) := by decide +kernel
theorem dX3_hintsOf_38 : decode cX3_hintsOf 38 = .ok (.aload_n 0, 1) := by decide +kernel
theorem dX3_hintsOf_39 : decode cX3_hintsOf 39 = .ok (.getfield 30, 3) := by decide +kernel
theorem dX3_hintsOf_42 : decode cX3_hintsOf 42 = .ok (.areturn, 1) := by decide +kernel
theorem dX4_init_0 : decode cX4_init 0 = .ok (.aload_n 0, 1) := by decide +kernel
theorem dX4_init_1 : decode cX4_init 1 = .ok (.invokespecial 3, 3) := by decide +kernel
theorem dX4_init_4 : decode cX4_init 4 = .ok (.aload_n 0, 1) := by decide +kernel
theorem dX4_init_5 : decode cX4_init 5 = .ok (.bipush 7, 2) := by decide +kernel
theorem dX4_init_7 : decode cX4_init 7 = .ok (.newarray .int, 2) := by decide +kernel
theorem dX4_init_9 : decode cX4_init 9 = .ok (.putfield 9, 3) := by decide +kernel
theorem dX4_init_12 : decode cX4_init 12 = .ok (.aload_n 0, 1) := by decide +kernel
theorem dX4_init_13 : decode cX4_init 13 = .ok (.bipush 7, 2) := by decide +kernel
theorem dX4_init_15 : decode cX4_init 15 = .ok (.newarray .int, 2) := by decide +kernel
theorem dX4_init_17 : decode cX4_init 17 = .ok (.putfield 15, 3) := by decide +kernel
theorem dX4_init_20 : decode cX4_init 20 = .ok (.aload_n 0, 1) := by decide +kernel
theorem dX4_init_21 : decode cX4_init 21 = .ok (.bipush 7, 2) := by decide +kernel
theorem dX4_init_23 : decode cX4_init 23 = .ok (.newarray .int, 2) := by decide +kernel
theorem dX4_init_25 : decode cX4_init 25 = .ok (.putfield 18, 3) := by decide +kernel
theorem dX4_init_28 : decode cX4_init 28 = .ok (.aload_n 0, 1) := by decide +kernel
theorem dX4_init_29 : decode cX4_init 29 = .ok (.bipush 7, 2) := by decide +kernel
theorem dX4_init_31 : decode cX4_init 31 = .ok (.newarray .int, 2) := by decide +kernel
theorem dX4_init_33 : decode cX4_init 33 = .ok (.putfield 21, 3) := by decide +kernel
theorem dX4_init_36 : decode cX4_init 36 = .ok (.aload_n 0, 1) := by decide +kernel
theorem dX4_init_37 : decode cX4_init 37 = .ok (.iconst 4, 1) := by decide +kernel
theorem dX4_init_38 : decode cX4_init 38 = .ok (.newarray .int, 2) := by decide +kernel
theorem dX4_init_40 : decode cX4_init 40 = .ok (.putfield 24, 3) := by decide +kernel
theorem dX4_init_43 : decode cX4_init 43 = .ok (.aload_n 0, 1) := by decide +kernel
theorem dX4_init_44 : decode cX4_init 44 = .ok (.iconst 4, 1) := by decide +kernel
theorem dX4_init_45 : decode cX4_init 45 = .ok (.newarray .int, 2) := by decide +kernel
theorem dX4_init_47 : decode cX4_init 47 = .ok (.putfield 27, 3) := by decide +kernel
theorem dX4_init_50 : decode cX4_init 50 = .ok (.aload_n 0, 1) := by decide +kernel
theorem dX4_init_51 : decode cX4_init 51 = .ok (.iconst 3, 1) := by decide +kernel
theorem dX4_init_52 : decode cX4_init 52 = .ok (.newarray .int, 2) := by decide +kernel
theorem dX4_init_54 : decode cX4_init 54 = .ok (.putfield 30, 3) := by decide +kernel
theorem dX4_init_57 : decode cX4_init 57 = .ok (.aload_n 0, 1) := by decide +kernel
theorem dX4_init_58 : decode cX4_init 58 = .ok (.iconst 0, 1) := by decide +kernel
theorem dX4_init_59 : decode cX4_init 59 = .ok (.putfield 33, 3) := by decide +kernel
theorem dX4_init_62 : decode cX4_init 62 = .ok (.aload_n 0, 1) := by decide +kernel
theorem dX4_init_63 : decode cX4_init 63 = .ok (.iconst 0, 1) := by decide +kernel
theorem dX4_init_64 : decode cX4_init 64 = .ok (.putfield 37, 3) := by decide +kernel
theorem dX4_init_67 : decode cX4_init 67 = .ok (.aload_n 0, 1) := by decide +kernel
theorem dX4_init_68 : decode cX4_init 68 = .ok (.iconst 0, 1) := by decide +kernel
theorem dX4_init_69 : decode cX4_init 69 = .ok (.putfield 40, 3) := by decide +kernel
theorem dX4_init_72 : decode cX4_init 72 = .ok (.aload_n 0, 1) := by decide +kernel
theorem dX4_init_73 : decode cX4_init 73 = .ok (.iconst 0, 1) := by decide +kernel
theorem dX4_init_74 : decode cX4_init 74 = .ok (.putfield 43, 3) := by decide +kernel
theorem dX4_init_77 : decode cX4_init 77 = .ok (.aload_n 0, 1) := by decide +kernel
theorem dX4_init_78 : decode cX4_init 78 = .ok (.iconst 0, 1) := by decide +kernel
theorem dX4_init_79 : decode cX4_init 79 = .ok (.putfield 46, 3) := by decide +kernel
theorem dX4_init_82 : decode cX4_init 82 = .ok (.return_, 1) := by decide +kernel
theorem dX4_empty_0 : decode cX4_empty 0 = .ok (.aload_n 0, 1) := by decide +kernel
theorem dX4_empty_1 : decode cX4_empty 1 = .ok (.iconst 0, 1) := by decide +kernel
theorem dX4_empty_2 : decode cX4_empty 2 = .ok (.putfield 33, 3) := by decide +kernel
theorem dX4_empty_5 : decode cX4_empty 5 = .ok (.aload_n 0, 1) := by decide +kernel
theorem dX4_empty_6 : decode cX4_empty 6 = .ok (.iconst 0, 1) := by decide +kernel
theorem dX4_empty_7 : decode cX4_empty 7 = .ok (.putfield 37, 3) := by decide +kernel
theorem dX4_empty_10 : decode cX4_empty 10 = .ok (.aload_n 0, 1) := by decide +kernel
theorem dX4_empty_11 : decode cX4_empty 11 = .ok (.iconst 0, 1) := by decide +kernel
theorem dX4_empty_12 : decode cX4_empty 12 = .ok (.putfield 40, 3) := by decide +kernel
theorem dX4_empty_15 : decode cX4_empty 15 = .ok (.aload_n 0, 1) := by decide +kernel
theorem dX4_empty_16 : decode cX4_empty 16 = .ok (.iconst 0, 1) := by decide +kernel
theorem dX4_empty_17 : decode cX4_empty 17 = .ok (.putfield 43, 3) := by decide +kernel
theorem dX4_empty_20 : decode cX4_empty 20 = .ok (.aload_n 0, 1) := by decide +kernel
theorem dX4_empty_21 : decode cX4_empty 21 = .ok (.iconst 0, 1) := by decide +kernel
theorem dX4_empty_22 : decode cX4_empty 22 = .ok (.putfield 46, 3) := by decide +kernel
theorem dX4_empty_25 : decode cX4_empty 25 = .ok (.return_, 1) := by decide +kernel
theorem dX4_take_0 : decode cX4_take 0 = .ok (.aload_n 1, 1) := by decide +kernel
theorem dX4_take_1 : decode cX4_take 1 = .ok (.ifnonnull 4, 3) := by decide +kernel
theorem dX4_take_4 : decode cX4_take 4 = .ok (.return_, 1) := by decide +kernel
theorem dX4_take_5 : decode cX4_take 5 = .ok (.aload_n 1, 1) := by decide +kernel
theorem dX4_take_6 : decode cX4_take 6 = .ok (.getfield 9, 3) := by decide +kernel
theorem dX4_take_9 : decode cX4_take 9 = .ok (.aload_n 0, 1) := by decide +kernel
theorem dX4_take_10 : decode cX4_take 10 = .ok (.getfield 9, 3) := by decide +kernel
theorem dX4_take_13 : decode cX4_take 13 = .ok (.invokestatic 49, 3) := by decide +kernel
theorem dX4_take_16 : decode cX4_take 16 = .ok (.aload_n 1, 1) := by decide +kernel
theorem dX4_take_17 : decode cX4_take 17 = .ok (.getfield 15, 3) := by decide +kernel
theorem dX4_take_20 : decode cX4_take 20 = .ok (.aload_n 0, 1) := by decide +kernel
theorem dX4_take_21 : decode cX4_take 21 = .ok (.getfield 15, 3) := by decide +kernel
theorem dX4_take_24 : decode cX4_take 24 = .ok (.invokestatic 49, 3) := by decide +kernel
theorem dX4_take_27 : decode cX4_take 27 = .ok (.aload_n 1, 1) := by decide +kernel
theorem dX4_take_28 : decode cX4_take 28 = .ok (.getfield 18, 3) := by decide +kernel
theorem dX4_take_31 : decode cX4_take 31 = .ok (.aload_n 0, 1) := by decide +kernel
theorem dX4_take_32 : decode cX4_take 32 = .ok (.getfield 18, 3) := by decide +kernel
theorem dX4_take_35 : decode cX4_take 35 = .ok (.invokestatic 49, 3) := by decide +kernel
theorem dX4_take_38 : decode cX4_take 38 = .ok (.aload_n 1, 1) := by decide +kernel
theorem dX4_take_39 : decode cX4_take 39 = .ok (.getfield 21, 3) := by decide +kernel
theorem dX4_take_42 : decode cX4_take 42 = .ok (.aload_n 0, 1) := by decide +kernel
theorem dX4_take_43 : decode cX4_take 43 = .ok (.getfield 21, 3) := by decide +kernel
theorem dX4_take_46 : decode cX4_take 46 = .ok (.invokestatic 49, 3) := by decide +kernel
theorem dX4_take_49 : decode cX4_take 49 = .ok (.aload_n 1, 1) := by decide +kernel
theorem dX4_take_50 : decode cX4_take 50 = .ok (.getfield 24, 3) := by decide +kernel
theorem dX4_take_53 : decode cX4_take 53 = .ok (.aload_n 0, 1) := by decide +kernel
theorem dX4_take_54 : decode cX4_take 54 = .ok (.getfield 24, 3) := by decide +kernel
theorem dX4_take_57 : decode cX4_take 57 = .ok (.invokestatic 49, 3) := by decide +kernel
theorem dX4_take_60 : decode cX4_take 60 = .ok (.aload_n 1, 1) := by decide +kernel
theorem dX4_take_61 : decode cX4_take 61 = .ok (.getfield 27, 3) := by decide +kernel
theorem dX4_take_64 : decode cX4_take 64 = .ok (.aload_n 0, 1) := by decide +kernel
theorem dX4_take_65 : decode cX4_take 65 = .ok (.getfield 27, 3) := by decide +kernel
theorem dX4_take_68 : decode cX4_take 68 = .ok (.invokestatic 49, 3) := by decide +kernel
theorem dX4_take_71 : decode cX4_take 71 = .ok (.aload_n 1, 1) := by decide +kernel
theorem dX4_take_72 : decode cX4_take 72 = .ok (.getfield 30, 3) := by decide +kernel
theorem dX4_take_75 : decode cX4_take 75 = .ok (.aload_n 0, 1) := by decide +kernel
theorem dX4_take_76 : decode cX4_take 76 = .ok (.getfield 30, 3) := by decide +kernel
theorem dX4_take_79 : decode cX4_take 79 = .ok (.invokestatic 49, 3) := by decide +kernel
theorem dX4_take_82 : decode cX4_take 82 = .ok (.aload_n 0, 1) := by decide +kernel
theorem dX4_take_83 : decode cX4_take 83 = .ok (.aload_n 1, 1) := by decide +kernel
theorem dX4_take_84 : decode cX4_take 84 = .ok (.getfield 33, 3) := by decide +kernel
theorem dX4_take_87 : decode cX4_take 87 = .ok (.putfield 33, 3) := by decide +kernel
theorem dX4_take_90 : decode cX4_take 90 = .ok (.aload_n 0, 1) := by decide +kernel
theorem dX4_take_91 : decode cX4_take 91 = .ok (.aload_n 1, 1) := by decide +kernel
theorem dX4_take_92 : decode cX4_take 92 = .ok (.getfield 37, 3) := by decide +kernel
theorem dX4_take_95 : decode cX4_take 95 = .ok (.putfield 37, 3) := by decide +kernel
theorem dX4_take_98 : decode cX4_take 98 = .ok (.aload_n 0, 1) := by decide +kernel
theorem dX4_take_99 : decode cX4_take 99 = .ok (.aload_n 1, 1) := by decide +kernel
theorem dX4_take_100 : decode cX4_take 100 = .ok (.getfield 40, 3) := by decide +kernel
theorem dX4_take_103 : decode cX4_take 103 = .ok (.putfield 40, 3) := by decide +kernel
theorem dX4_take_106 : decode cX4_take 106 = .ok (.aload_n 0, 1) := by decide +kernel
theorem dX4_take_107 : decode cX4_take 107 = .ok (.aload_n 1, 1) := by decide +kernel
theorem dX4_take_108 : decode cX4_take 108 = .ok (.getfield 43, 3) := by decide +kernel
theorem dX4_take_111 : decode cX4_take 111 = .ok (.putfield 43, 3) := by decide +kernel
theorem dX4_take_114 : decode cX4_take 114 = .ok (.aload_n 0, 1) := by decide +kernel
theorem dX4_take_115 : decode cX4_take 115 = .ok (.aload_n 1, 1) := by decide +kernel
theorem dX4_take_116 : decode cX4_take 116 = .ok (.getfield 46, 3) := by decide +kernel
theorem dX4_take_119 : decode cX4_take 119 = .ok (.putfield 46, 3) := by decide +kernel
theorem dX4_take_122 : decode cX4_take 122 = .ok (.return_, 1) := by decide +kernel
theorem dX4_addPromise_0 : decode cX4_addPromise 0 = .ok (.aload_n 0, 1) := by decide +kernel
theorem dX4_addPromise_1 : decode cX4_addPromise 1 = .ok (.getfield 9, 3) := by decide +kernel
theorem dX4_addPromise_4 : decode cX4_addPromise 4 = .ok (.aload_n 0, 1) := by decide +kernel
theorem dX4_addPromise_5 : decode cX4_addPromise 5 = .ok (.getfield 33, 3) := by decide +kernel
theorem dX4_addPromise_8 : decode cX4_addPromise 8 = .ok (.iload_n 1, 1) := by decide +kernel
theorem dX4_addPromise_9 : decode cX4_addPromise 9 = .ok (.invokestatic 53, 3) := by decide +kernel
theorem dX4_addPromise_12 : decode cX4_addPromise 12 = .ok (.aload_n 0, 1) := by decide +kernel
theorem dX4_addPromise_13 : decode cX4_addPromise 13 = .ok (.getfield 15, 3) := by decide +kernel
theorem dX4_addPromise_16 : decode cX4_addPromise 16 = .ok (.aload_n 0, 1) := by decide +kernel
theorem dX4_addPromise_17 : decode cX4_addPromise 17 = .ok (.getfield 33, 3) := by decide +kernel
theorem dX4_addPromise_20 : decode cX4_addPromise 20 = .ok (.iload_n 2, 1) := by decide +kernel
theorem dX4_addPromise_21 : decode cX4_addPromise 21 = .ok (.invokestatic 53, 3) := by decide +kernel
theorem dX4_addPromise_24 : decode cX4_addPromise 24 = .ok (.aload_n 0, 1) := by decide +kernel
theorem dX4_addPromise_25 : decode cX4_addPromise 25 = .ok (.getfield 18, 3) := by decide +kernel
theorem dX4_addPromise_28 : decode cX4_addPromise 28 = .ok (.aload_n 0, 1) := by decide +kernel
theorem dX4_addPromise_29 : decode cX4_addPromise 29 = .ok (.getfield 33, 3) := by decide +kernel
theorem dX4_addPromise_32 : decode cX4_addPromise 32 = .ok (.iconst 0, 1) := by decide +kernel
theorem dX4_addPromise_33 : decode cX4_addPromise 33 = .ok (.invokestatic 53, 3) := by decide +kernel
theorem dX4_addPromise_36 : decode cX4_addPromise 36 = .ok (.aload_n 0, 1) := by decide +kernel
theorem dX4_addPromise_37 : decode cX4_addPromise 37 = .ok (.getfield 21, 3) := by decide +kernel
theorem dX4_addPromise_40 : decode cX4_addPromise 40 = .ok (.aload_n 0, 1) := by decide +kernel
theorem dX4_addPromise_41 : decode cX4_addPromise 41 = .ok (.getfield 33, 3) := by decide +kernel
theorem dX4_addPromise_44 : decode cX4_addPromise 44 = .ok (.iconst 0, 1) := by decide +kernel
theorem dX4_addPromise_45 : decode cX4_addPromise 45 = .ok (.invokestatic 53, 3) := by decide +kernel
theorem dX4_addPromise_48 : decode cX4_addPromise 48 = .ok (.aload_n 0, 1) := by decide +kernel
theorem dX4_addPromise_49 : decode cX4_addPromise 49 = .ok (.dup, 1) := by decide +kernel
theorem dX4_addPromise_50 : decode cX4_addPromise 50 = .ok (.getfield 33, 3) := by decide +kernel
theorem dX4_addPromise_53 : decode cX4_addPromise 53 = .ok (.iconst 1, 1) := by decide +kernel
theorem dX4_addPromise_54 : decode cX4_addPromise 54 = .ok (.iadd, 1) := by decide +kernel
theorem dX4_addPromise_55 : decode cX4_addPromise 55 = .ok (.putfield 33, 3) := by decide +kernel
theorem dX4_addPromise_58 : decode cX4_addPromise 58 = .ok (.aload_n 0, 1) := by decide +kernel
theorem dX4_addPromise_59 : decode cX4_addPromise 59 = .ok (.getfield 33, 3) := by decide +kernel
theorem dX4_addPromise_62 : decode cX4_addPromise 62 = .ok (.iconst 1, 1) := by decide +kernel
theorem dX4_addPromise_63 : decode cX4_addPromise 63 = .ok (.isub, 1) := by decide +kernel
theorem dX4_addPromise_64 : decode cX4_addPromise 64 = .ok (.ireturn, 1) := by decide +kernel
theorem dX4_addHearer_0 : decode cX4_addHearer 0 = .ok (.aload_n 0, 1) := by decide +kernel
theorem dX4_addHearer_1 : decode cX4_addHearer 1 = .ok (.getfield 24, 3) := by decide +kernel
theorem dX4_addHearer_4 : decode cX4_addHearer 4 = .ok (.aload_n 0, 1) := by decide +kernel
theorem dX4_addHearer_5 : decode cX4_addHearer 5 = .ok (.getfield 37, 3) := by decide +kernel
theorem dX4_addHearer_8 : decode cX4_addHearer 8 = .ok (.iload_n 1, 1) := by decide +kernel
theorem dX4_addHearer_9 : decode cX4_addHearer 9 = .ok (.invokestatic 53, 3) := by decide +kernel
theorem dX4_addHearer_12 : decode cX4_addHearer 12 = .ok (.aload_n 0, 1) := by decide +kernel
theorem dX4_addHearer_13 : decode cX4_addHearer 13 = .ok (.getfield 27, 3) := by decide +kernel
theorem dX4_addHearer_16 : decode cX4_addHearer 16 = .ok (.aload_n 0, 1) := by decide +kernel
theorem dX4_addHearer_17 : decode cX4_addHearer 17 = .ok (.getfield 37, 3) := by decide +kernel
theorem dX4_addHearer_20 : decode cX4_addHearer 20 = .ok (.iload_n 2, 1) := by decide +kernel
theorem dX4_addHearer_21 : decode cX4_addHearer 21 = .ok (.invokestatic 53, 3) := by decide +kernel
theorem dX4_addHearer_24 : decode cX4_addHearer 24 = .ok (.aload_n 0, 1) := by decide +kernel
theorem dX4_addHearer_25 : decode cX4_addHearer 25 = .ok (.dup, 1) := by decide +kernel
theorem dX4_addHearer_26 : decode cX4_addHearer 26 = .ok (.getfield 37, 3) := by decide +kernel
theorem dX4_addHearer_29 : decode cX4_addHearer 29 = .ok (.iconst 1, 1) := by decide +kernel
theorem dX4_addHearer_30 : decode cX4_addHearer 30 = .ok (.iadd, 1) := by decide +kernel
theorem dX4_addHearer_31 : decode cX4_addHearer 31 = .ok (.putfield 37, 3) := by decide +kernel
theorem dX4_addHearer_34 : decode cX4_addHearer 34 = .ok (.aload_n 0, 1) := by decide +kernel
theorem dX4_addHearer_35 : decode cX4_addHearer 35 = .ok (.getfield 37, 3) := by decide +kernel
theorem dX4_addHearer_38 : decode cX4_addHearer 38 = .ok (.iconst 1, 1) := by decide +kernel
theorem dX4_addHearer_39 : decode cX4_addHearer 39 = .ok (.isub, 1) := by decide +kernel
theorem dX4_addHearer_40 : decode cX4_addHearer 40 = .ok (.ireturn, 1) := by decide +kernel
theorem dX4_addBuyer_0 : decode cX4_addBuyer 0 = .ok (.aload_n 0, 1) := by decide +kernel
theorem dX4_addBuyer_1 : decode cX4_addBuyer 1 = .ok (.getfield 30, 3) := by decide +kernel
theorem dX4_addBuyer_4 : decode cX4_addBuyer 4 = .ok (.aload_n 0, 1) := by decide +kernel
theorem dX4_addBuyer_5 : decode cX4_addBuyer 5 = .ok (.getfield 40, 3) := by decide +kernel
theorem dX4_addBuyer_8 : decode cX4_addBuyer 8 = .ok (.iload_n 1, 1) := by decide +kernel
theorem dX4_addBuyer_9 : decode cX4_addBuyer 9 = .ok (.invokestatic 53, 3) := by decide +kernel
theorem dX4_addBuyer_12 : decode cX4_addBuyer 12 = .ok (.aload_n 0, 1) := by decide +kernel
theorem dX4_addBuyer_13 : decode cX4_addBuyer 13 = .ok (.dup, 1) := by decide +kernel
theorem dX4_addBuyer_14 : decode cX4_addBuyer 14 = .ok (.getfield 40, 3) := by decide +kernel
theorem dX4_addBuyer_17 : decode cX4_addBuyer 17 = .ok (.iconst 1, 1) := by decide +kernel
theorem dX4_addBuyer_18 : decode cX4_addBuyer 18 = .ok (.iadd, 1) := by decide +kernel
theorem dX4_addBuyer_19 : decode cX4_addBuyer 19 = .ok (.putfield 40, 3) := by decide +kernel
theorem dX4_addBuyer_22 : decode cX4_addBuyer 22 = .ok (.aload_n 0, 1) := by decide +kernel
theorem dX4_addBuyer_23 : decode cX4_addBuyer 23 = .ok (.getfield 40, 3) := by decide +kernel
theorem dX4_addBuyer_26 : decode cX4_addBuyer 26 = .ok (.iconst 1, 1) := by decide +kernel
theorem dX4_addBuyer_27 : decode cX4_addBuyer 27 = .ok (.isub, 1) := by decide +kernel
theorem dX4_addBuyer_28 : decode cX4_addBuyer 28 = .ok (.ireturn, 1) := by decide +kernel
theorem dX4_hasPromise_0 : decode cX4_hasPromise 0 = .ok (.iload_n 1, 1) := by decide +kernel
theorem dX4_hasPromise_1 : decode cX4_hasPromise 1 = .ok (.iconst 0, 1) := by decide +kernel
theorem dX4_hasPromise_2 : decode cX4_hasPromise 2 = .ok (.aload_n 0, 1) := by decide +kernel
theorem dX4_hasPromise_3 : decode cX4_hasPromise 3 = .ok (.getfield 33, 3) := by decide +kernel
theorem dX4_hasPromise_6 : decode cX4_hasPromise 6 = .ok (.iconst 1, 1) := by decide +kernel
theorem dX4_hasPromise_7 : decode cX4_hasPromise 7 = .ok (.isub, 1) := by decide +kernel
theorem dX4_hasPromise_8 : decode cX4_hasPromise 8 = .ok (.invokestatic 57, 3) := by decide +kernel
theorem dX4_hasPromise_11 : decode cX4_hasPromise 11 = .ok (.ireturn, 1) := by decide +kernel
theorem dX4_hasHearer_0 : decode cX4_hasHearer 0 = .ok (.iload_n 1, 1) := by decide +kernel
theorem dX4_hasHearer_1 : decode cX4_hasHearer 1 = .ok (.iconst 0, 1) := by decide +kernel
theorem dX4_hasHearer_2 : decode cX4_hasHearer 2 = .ok (.aload_n 0, 1) := by decide +kernel
theorem dX4_hasHearer_3 : decode cX4_hasHearer 3 = .ok (.getfield 37, 3) := by decide +kernel
theorem dX4_hasHearer_6 : decode cX4_hasHearer 6 = .ok (.iconst 1, 1) := by decide +kernel
theorem dX4_hasHearer_7 : decode cX4_hasHearer 7 = .ok (.isub, 1) := by decide +kernel
theorem dX4_hasHearer_8 : decode cX4_hasHearer 8 = .ok (.invokestatic 57, 3) := by decide +kernel
theorem dX4_hasHearer_11 : decode cX4_hasHearer 11 = .ok (.ireturn, 1) := by decide +kernel
theorem dX4_hasBuyer_0 : decode cX4_hasBuyer 0 = .ok (.iload_n 1, 1) := by decide +kernel
theorem dX4_hasBuyer_1 : decode cX4_hasBuyer 1 = .ok (.iconst 0, 1) := by decide +kernel
theorem dX4_hasBuyer_2 : decode cX4_hasBuyer 2 = .ok (.aload_n 0, 1) := by decide +kernel
theorem dX4_hasBuyer_3 : decode cX4_hasBuyer 3 = .ok (.getfield 40, 3) := by decide +kernel
theorem dX4_hasBuyer_6 : decode cX4_hasBuyer 6 = .ok (.iconst 1, 1) := by decide +kernel
theorem dX4_hasBuyer_7 : decode cX4_hasBuyer 7 = .ok (.isub, 1) := by decide +kernel
theorem dX4_hasBuyer_8 : decode cX4_hasBuyer 8 = .ok (.invokestatic 57, 3) := by decide +kernel
theorem dX4_hasBuyer_11 : decode cX4_hasBuyer 11 = .ok (.ireturn, 1) := by decide +kernel
theorem dX4_isInWindow_0 : decode cX4_isInWindow 0 = .ok (.aload_n 0, 1) := by decide +kernel
theorem dX4_isInWindow_1 : decode cX4_isInWindow 1 = .ok (.iload_n 1, 1) := by decide +kernel
theorem dX4_isInWindow_2 : decode cX4_isInWindow 2 = .ok (.invokevirtual 61, 3) := by decide +kernel
theorem dX4_isInWindow_5 : decode cX4_isInWindow 5 = .ok (.ifCond .eq 18, 3) := by decide +kernel
theorem dX4_isInWindow_8 : decode cX4_isInWindow 8 = .ok (.aload_n 0, 1) := by decide +kernel
theorem dX4_isInWindow_9 : decode cX4_isInWindow 9 = .ok (.getfield 21, 3) := by decide +kernel
theorem dX4_isInWindow_12 : decode cX4_isInWindow 12 = .ok (.iload_n 1, 1) := by decide +kernel
theorem dX4_isInWindow_13 : decode cX4_isInWindow 13 = .ok (.invokestatic 65, 3) := by decide +kernel
theorem dX4_isInWindow_16 : decode cX4_isInWindow 16 = .ok (.ifCond .ne 7, 3) := by decide +kernel
theorem dX4_isInWindow_19 : decode cX4_isInWindow 19 = .ok (.iconst 1, 1) := by decide +kernel
theorem dX4_isInWindow_20 : decode cX4_isInWindow 20 = .ok (.goto 4, 3) := by decide +kernel
theorem dX4_isInWindow_23 : decode cX4_isInWindow 23 = .ok (.iconst 0, 1) := by decide +kernel
theorem dX4_isInWindow_24 : decode cX4_isInWindow 24 = .ok (.ireturn, 1) := by decide +kernel
theorem dX4_isHeld_0 : decode cX4_isHeld 0 = .ok (.aload_n 0, 1) := by decide +kernel
theorem dX4_isHeld_1 : decode cX4_isHeld 1 = .ok (.iload_n 1, 1) := by decide +kernel
theorem dX4_isHeld_2 : decode cX4_isHeld 2 = .ok (.invokevirtual 61, 3) := by decide +kernel
theorem dX4_isHeld_5 : decode cX4_isHeld 5 = .ok (.ifCond .eq 23, 3) := by decide +kernel
theorem dX4_isHeld_8 : decode cX4_isHeld 8 = .ok (.aload_n 0, 1) := by decide +kernel
theorem dX4_isHeld_9 : decode cX4_isHeld 9 = .ok (.getfield 21, 3) := by decide +kernel
theorem dX4_isHeld_12 : decode cX4_isHeld 12 = .ok (.iload_n 1, 1) := by decide +kernel
theorem dX4_isHeld_13 : decode cX4_isHeld 13 = .ok (.invokestatic 65, 3) := by decide +kernel
theorem dX4_isHeld_16 : decode cX4_isHeld 16 = .ok (.iconst 1, 1) := by decide +kernel
theorem dX4_isHeld_17 : decode cX4_isHeld 17 = .ok (.iconst 3, 1) := by decide +kernel
theorem dX4_isHeld_18 : decode cX4_isHeld 18 = .ok (.invokestatic 57, 3) := by decide +kernel
theorem dX4_isHeld_21 : decode cX4_isHeld 21 = .ok (.ifCond .eq 7, 3) := by decide +kernel
theorem dX4_isHeld_24 : decode cX4_isHeld 24 = .ok (.iconst 1, 1) := by decide +kernel
theorem dX4_isHeld_25 : decode cX4_isHeld 25 = .ok (.goto 4, 3) := by decide +kernel
theorem dX4_isHeld_28 : decode cX4_isHeld 28 = .ok (.iconst 0, 1) := by decide +kernel
theorem dX4_isHeld_29 : decode cX4_isHeld 29 = .ok (.ireturn, 1) := by decide +kernel
theorem dX4_goodBehind_0 : decode cX4_goodBehind 0 = .ok (.aload_n 0, 1) := by decide +kernel
theorem dX4_goodBehind_1 : decode cX4_goodBehind 1 = .ok (.getfield 21, 3) := by decide +kernel
theorem dX4_goodBehind_4 : decode cX4_goodBehind 4 = .ok (.iload_n 1, 1) := by decide +kernel
theorem dX4_goodBehind_5 : decode cX4_goodBehind 5 = .ok (.invokestatic 65, 3) := by decide +kernel
theorem dX4_goodBehind_8 : decode cX4_goodBehind 8 = .ok (.ifCond .ne 7, 3) := by decide +kernel
theorem dX4_goodBehind_11 : decode cX4_goodBehind 11 = .ok (.iconst 1, 1) := by decide +kernel
theorem dX4_goodBehind_12 : decode cX4_goodBehind 12 = .ok (.goto 4, 3) := by decide +kernel
theorem dX4_goodBehind_15 : decode cX4_goodBehind 15 = .ok (.iconst 0, 1) := by decide +kernel
theorem dX4_goodBehind_16 : decode cX4_goodBehind 16 = .ok (.istore_n 3, 1) := by decide +kernel
theorem dX4_goodBehind_17 : decode cX4_goodBehind 17 = .ok (.aload_n 0, 1) := by decide +kernel
theorem dX4_goodBehind_18 : decode cX4_goodBehind 18 = .ok (.getfield 9, 3) := by decide +kernel
theorem dX4_goodBehind_21 : decode cX4_goodBehind 21 = .ok (.iload_n 1, 1) := by decide +kernel
theorem dX4_goodBehind_22 : decode cX4_goodBehind 22 = .ok (.invokestatic 65, 3) := by decide +kernel
theorem dX4_goodBehind_25 : decode cX4_goodBehind 25 = .ok (.aload_n 0, 1) := by decide +kernel
theorem dX4_goodBehind_26 : decode cX4_goodBehind 26 = .ok (.getfield 15, 3) := by decide +kernel
theorem dX4_goodBehind_29 : decode cX4_goodBehind 29 = .ok (.iload_n 1, 1) := by decide +kernel
theorem dX4_goodBehind_30 : decode cX4_goodBehind 30 = .ok (.invokestatic 65, 3) := by decide +kernel
theorem dX4_goodBehind_33 : decode cX4_goodBehind 33 = .ok (.aload_n 0, 1) := by decide +kernel
theorem dX4_goodBehind_34 : decode cX4_goodBehind 34 = .ok (.getfield 18, 3) := by decide +kernel
theorem dX4_goodBehind_37 : decode cX4_goodBehind 37 = .ok (.iload_n 1, 1) := by decide +kernel
theorem dX4_goodBehind_38 : decode cX4_goodBehind 38 = .ok (.invokestatic 65, 3) := by decide +kernel
theorem dX4_goodBehind_41 : decode cX4_goodBehind 41 = .ok (.iload_n 3, 1) := by decide +kernel
theorem dX4_goodBehind_42 : decode cX4_goodBehind 42 = .ok (.ifCond .eq 7, 3) := by decide +kernel
theorem dX4_goodBehind_45 : decode cX4_goodBehind 45 = .ok (.iload_n 2, 1) := by decide +kernel
theorem dX4_goodBehind_46 : decode cX4_goodBehind 46 = .ok (.goto 4, 3) := by decide +kernel
theorem dX4_goodBehind_49 : decode cX4_goodBehind 49 = .ok (.iconst 0, 1) := by decide +kernel
theorem dX4_goodBehind_50 : decode cX4_goodBehind 50 = .ok (.iadd, 1) := by decide +kernel
theorem dX4_goodBehind_51 : decode cX4_goodBehind 51 = .ok (.invokestatic 69, 3) := by decide +kernel
theorem dX4_goodBehind_54 : decode cX4_goodBehind 54 = .ok (.ireturn, 1) := by decide +kernel
theorem dX4_priceOf_0 : decode cX4_priceOf 0 = .ok (.iconst 2, 1) := by decide +kernel
theorem dX4_priceOf_1 : decode cX4_priceOf 1 = .ok (.aload_n 0, 1) := by decide +kernel
theorem dX4_priceOf_2 : decode cX4_priceOf 2 = .ok (.iload_n 1, 1) := by decide +kernel
theorem dX4_priceOf_3 : decode cX4_priceOf 3 = .ok (.iconst 0, 1) := by decide +kernel
theorem dX4_priceOf_4 : decode cX4_priceOf 4 = .ok (.invokevirtual 73, 3) := by decide +kernel
theorem dX4_priceOf_7 : decode cX4_priceOf 7 = .ok (.imul, 1) := by decide +kernel
theorem dX4_priceOf_8 : decode cX4_priceOf 8 = .ok (.iconst 1, 1) := by decide +kernel
theorem dX4_priceOf_9 : decode cX4_priceOf 9 = .ok (.iadd, 1) := by decide +kernel
theorem dX4_priceOf_10 : decode cX4_priceOf 10 = .ok (.ireturn, 1) := by decide +kernel
theorem dX4_joyTo_0 : decode cX4_joyTo 0 = .ok (.aload_n 0, 1) := by decide +kernel
theorem dX4_joyTo_1 : decode cX4_joyTo 1 = .ok (.getfield 24, 3) := by decide +kernel
theorem dX4_joyTo_4 : decode cX4_joyTo 4 = .ok (.iload_n 2, 1) := by decide +kernel
theorem dX4_joyTo_5 : decode cX4_joyTo 5 = .ok (.invokestatic 65, 3) := by decide +kernel
theorem dX4_joyTo_8 : decode cX4_joyTo 8 = .ok (.aload_n 0, 1) := by decide +kernel
theorem dX4_joyTo_9 : decode cX4_joyTo 9 = .ok (.getfield 27, 3) := by decide +kernel
theorem dX4_joyTo_12 : decode cX4_joyTo 12 = .ok (.iload_n 2, 1) := by decide +kernel
theorem dX4_joyTo_13 : decode cX4_joyTo 13 = .ok (.invokestatic 65, 3) := by decide +kernel
theorem dX4_joyTo_16 : decode cX4_joyTo 16 = .ok (.aload_n 0, 1) := by decide +kernel
theorem dX4_joyTo_17 : decode cX4_joyTo 17 = .ok (.iload_n 1, 1) := by decide +kernel
theorem dX4_joyTo_18 : decode cX4_joyTo 18 = .ok (.iconst 0, 1) := by decide +kernel
theorem dX4_joyTo_19 : decode cX4_joyTo 19 = .ok (.invokevirtual 73, 3) := by decide +kernel
theorem dX4_joyTo_22 : decode cX4_joyTo 22 = .ok (.invokestatic 77, 3) := by decide +kernel
theorem dX4_joyTo_25 : decode cX4_joyTo 25 = .ok (.ireturn, 1) := by decide +kernel
theorem dX4_passDays_0 : decode cX4_passDays 0 = .ok (.iconst 0, 1) := by decide +kernel
theorem dX4_passDays_1 : decode cX4_passDays 1 = .ok (.istore_n 2, 1) := by decide +kernel
theorem dX4_passDays_2 : decode cX4_passDays 2 = .ok (.iload_n 2, 1) := by decide +kernel
theorem dX4_passDays_3 : decode cX4_passDays 3 = .ok (.aload_n 0, 1) := by decide +kernel
theorem dX4_passDays_4 : decode cX4_passDays 4 = .ok (.getfield 33, 3) := by decide +kernel
theorem dX4_passDays_7 : decode cX4_passDays 7 = .ok (.if_icmp .ge 35, 3) := by decide +kernel
theorem dX4_passDays_10 : decode cX4_passDays 10 = .ok (.aload_n 0, 1) := by decide +kernel
theorem dX4_passDays_11 : decode cX4_passDays 11 = .ok (.iload_n 2, 1) := by decide +kernel
theorem dX4_passDays_12 : decode cX4_passDays 12 = .ok (.invokevirtual 80, 3) := by decide +kernel
theorem dX4_passDays_15 : decode cX4_passDays 15 = .ok (.ifCond .eq 21, 3) := by decide +kernel
theorem dX4_passDays_18 : decode cX4_passDays 18 = .ok (.aload_n 0, 1) := by decide +kernel
theorem dX4_passDays_19 : decode cX4_passDays 19 = .ok (.getfield 18, 3) := by decide +kernel
theorem dX4_passDays_22 : decode cX4_passDays 22 = .ok (.iload_n 2, 1) := by decide +kernel
theorem dX4_passDays_23 : decode cX4_passDays 23 = .ok (.aload_n 0, 1) := by decide +kernel
theorem dX4_passDays_24 : decode cX4_passDays 24 = .ok (.getfield 18, 3) := by decide +kernel
theorem dX4_passDays_27 : decode cX4_passDays 27 = .ok (.iload_n 2, 1) := by decide +kernel
theorem dX4_passDays_28 : decode cX4_passDays 28 = .ok (.invokestatic 65, 3) := by decide +kernel
theorem dX4_passDays_31 : decode cX4_passDays 31 = .ok (.iload_n 1, 1) := by decide +kernel
theorem dX4_passDays_32 : decode cX4_passDays 32 = .ok (.iadd, 1) := by decide +kernel
theorem dX4_passDays_33 : decode cX4_passDays 33 = .ok (.invokestatic 53, 3) := by decide +kernel
theorem dX4_passDays_36 : decode cX4_passDays 36 = .ok (.iinc 2 1, 3) := by decide +kernel
theorem dX4_passDays_39 : decode cX4_passDays 39 = .ok (.goto (-37), 3) := by decide +kernel
theorem dX4_passDays_42 : decode cX4_passDays 42 = .ok (.aload_n 0, 1) := by decide +kernel
theorem dX4_passDays_43 : decode cX4_passDays 43 = .ok (.dup, 1) := by decide +kernel
theorem dX4_passDays_44 : decode cX4_passDays 44 = .ok (.getfield 43, 3) := by decide +kernel
theorem dX4_passDays_47 : decode cX4_passDays 47 = .ok (.iload_n 1, 1) := by decide +kernel
theorem dX4_passDays_48 : decode cX4_passDays 48 = .ok (.iadd, 1) := by decide +kernel
theorem dX4_passDays_49 : decode cX4_passDays 49 = .ok (.putfield 43, 3) := by decide +kernel
theorem dX4_passDays_52 : decode cX4_passDays 52 = .ok (.return_, 1) := by decide +kernel
theorem dX4_canSell_0 : decode cX4_canSell 0 = .ok (.aload_n 0, 1) := by decide +kernel
theorem dX4_canSell_1 : decode cX4_canSell 1 = .ok (.iload_n 1, 1) := by decide +kernel
theorem dX4_canSell_2 : decode cX4_canSell 2 = .ok (.invokevirtual 83, 3) := by decide +kernel
theorem dX4_canSell_5 : decode cX4_canSell 5 = .ok (.ifCond .eq 31, 3) := by decide +kernel
theorem dX4_canSell_8 : decode cX4_canSell 8 = .ok (.aload_n 0, 1) := by decide +kernel
theorem dX4_canSell_9 : decode cX4_canSell 9 = .ok (.iload_n 2, 1) := by decide +kernel
theorem dX4_canSell_10 : decode cX4_canSell 10 = .ok (.invokevirtual 80, 3) := by decide +kernel
theorem dX4_canSell_13 : decode cX4_canSell 13 = .ok (.ifCond .eq 23, 3) := by decide +kernel
theorem dX4_canSell_16 : decode cX4_canSell 16 = .ok (.aload_n 0, 1) := by decide +kernel
theorem dX4_canSell_17 : decode cX4_canSell 17 = .ok (.getfield 30, 3) := by decide +kernel
theorem dX4_canSell_20 : decode cX4_canSell 20 = .ok (.iload_n 1, 1) := by decide +kernel
theorem dX4_canSell_21 : decode cX4_canSell 21 = .ok (.invokestatic 65, 3) := by decide +kernel
theorem dX4_canSell_24 : decode cX4_canSell 24 = .ok (.aload_n 0, 1) := by decide +kernel
theorem dX4_canSell_25 : decode cX4_canSell 25 = .ok (.iload_n 2, 1) := by decide +kernel
theorem dX4_canSell_26 : decode cX4_canSell 26 = .ok (.invokevirtual 86, 3) := by decide +kernel
theorem dX4_canSell_29 : decode cX4_canSell 29 = .ok (.if_icmp .lt 7, 3) := by decide +kernel
theorem dX4_canSell_32 : decode cX4_canSell 32 = .ok (.iconst 1, 1) := by decide +kernel
theorem dX4_canSell_33 : decode cX4_canSell 33 = .ok (.goto 4, 3) := by decide +kernel
theorem dX4_canSell_36 : decode cX4_canSell 36 = .ok (.iconst 0, 1) := by decide +kernel
theorem dX4_canSell_37 : decode cX4_canSell 37 = .ok (.ireturn, 1) := by decide +kernel
theorem dX4_sell_0 : decode cX4_sell 0 = .ok (.aload_n 0, 1) := by decide +kernel
theorem dX4_sell_1 : decode cX4_sell 1 = .ok (.getfield 30, 3) := by decide +kernel
theorem dX4_sell_4 : decode cX4_sell 4 = .ok (.iload_n 1, 1) := by decide +kernel
theorem dX4_sell_5 : decode cX4_sell 5 = .ok (.aload_n 0, 1) := by decide +kernel
theorem dX4_sell_6 : decode cX4_sell 6 = .ok (.getfield 30, 3) := by decide +kernel
theorem dX4_sell_9 : decode cX4_sell 9 = .ok (.iload_n 1, 1) := by decide +kernel
theorem dX4_sell_10 : decode cX4_sell 10 = .ok (.invokestatic 65, 3) := by decide +kernel
theorem dX4_sell_13 : decode cX4_sell 13 = .ok (.aload_n 0, 1) := by decide +kernel
theorem dX4_sell_14 : decode cX4_sell 14 = .ok (.iload_n 2, 1) := by decide +kernel
theorem dX4_sell_15 : decode cX4_sell 15 = .ok (.invokevirtual 86, 3) := by decide +kernel
theorem dX4_sell_18 : decode cX4_sell 18 = .ok (.isub, 1) := by decide +kernel
theorem dX4_sell_19 : decode cX4_sell 19 = .ok (.invokestatic 53, 3) := by decide +kernel
theorem dX4_sell_22 : decode cX4_sell 22 = .ok (.aload_n 0, 1) := by decide +kernel
theorem dX4_sell_23 : decode cX4_sell 23 = .ok (.getfield 21, 3) := by decide +kernel
theorem dX4_sell_26 : decode cX4_sell 26 = .ok (.iload_n 2, 1) := by decide +kernel
theorem dX4_sell_27 : decode cX4_sell 27 = .ok (.iconst 1, 1) := by decide +kernel
theorem dX4_sell_28 : decode cX4_sell 28 = .ok (.iload_n 1, 1) := by decide +kernel
theorem dX4_sell_29 : decode cX4_sell 29 = .ok (.iadd, 1) := by decide +kernel
theorem dX4_sell_30 : decode cX4_sell 30 = .ok (.invokestatic 53, 3) := by decide +kernel
theorem dX4_sell_33 : decode cX4_sell 33 = .ok (.return_, 1) := by decide +kernel
theorem dX4_give_0 : decode cX4_give 0 = .ok (.aload_n 0, 1) := by decide +kernel
theorem dX4_give_1 : decode cX4_give 1 = .ok (.iload_n 1, 1) := by decide +kernel
theorem dX4_give_2 : decode cX4_give 2 = .ok (.iload_n 2, 1) := by decide +kernel
theorem dX4_give_3 : decode cX4_give 3 = .ok (.invokevirtual 90, 3) := by decide +kernel
theorem dX4_give_6 : decode cX4_give 6 = .ok (.istore_n 3, 1) := by decide +kernel
theorem dX4_give_7 : decode cX4_give 7 = .ok (.aload_n 0, 1) := by decide +kernel
theorem dX4_give_8 : decode cX4_give 8 = .ok (.dup, 1) := by decide +kernel
theorem dX4_give_9 : decode cX4_give 9 = .ok (.getfield 46, 3) := by decide +kernel
theorem dX4_give_12 : decode cX4_give 12 = .ok (.iload_n 3, 1) := by decide +kernel
theorem dX4_give_13 : decode cX4_give 13 = .ok (.iadd, 1) := by decide +kernel
theorem dX4_give_14 : decode cX4_give 14 = .ok (.putfield 46, 3) := by decide +kernel
theorem dX4_give_17 : decode cX4_give 17 = .ok (.aload_n 0, 1) := by decide +kernel
theorem dX4_give_18 : decode cX4_give 18 = .ok (.getfield 21, 3) := by decide +kernel
theorem dX4_give_21 : decode cX4_give 21 = .ok (.iload_n 1, 1) := by decide +kernel
theorem dX4_give_22 : decode cX4_give 22 = .ok (.bipush 10, 2) := by decide +kernel
theorem dX4_give_24 : decode cX4_give 24 = .ok (.iload_n 2, 1) := by decide +kernel
theorem dX4_give_25 : decode cX4_give 25 = .ok (.iadd, 1) := by decide +kernel
theorem dX4_give_26 : decode cX4_give 26 = .ok (.invokestatic 53, 3) := by decide +kernel
theorem dX4_give_29 : decode cX4_give 29 = .ok (.iload_n 3, 1) := by decide +kernel
theorem dX4_give_30 : decode cX4_give 30 = .ok (.ireturn, 1) := by decide +kernel
theorem dX4_bitsAt_0 : decode cX4_bitsAt 0 = .ok (.iconst 0, 1) := by decide +kernel
theorem dX4_bitsAt_1 : decode cX4_bitsAt 1 = .ok (.istore_n 2, 1) := by decide +kernel
theorem dX4_bitsAt_2 : decode cX4_bitsAt 2 = .ok (.iconst 0, 1) := by decide +kernel
theorem dX4_bitsAt_3 : decode cX4_bitsAt 3 = .ok (.istore_n 3, 1) := by decide +kernel
theorem dX4_bitsAt_4 : decode cX4_bitsAt 4 = .ok (.iload_n 3, 1) := by decide +kernel
theorem dX4_bitsAt_5 : decode cX4_bitsAt 5 = .ok (.aload_n 0, 1) := by decide +kernel
theorem dX4_bitsAt_6 : decode cX4_bitsAt 6 = .ok (.getfield 33, 3) := by decide +kernel
theorem dX4_bitsAt_9 : decode cX4_bitsAt 9 = .ok (.if_icmp .ge 27, 3) := by decide +kernel
theorem dX4_bitsAt_12 : decode cX4_bitsAt 12 = .ok (.aload_n 0, 1) := by decide +kernel
theorem dX4_bitsAt_13 : decode cX4_bitsAt 13 = .ok (.getfield 21, 3) := by decide +kernel
theorem dX4_bitsAt_16 : decode cX4_bitsAt 16 = .ok (.iload_n 3, 1) := by decide +kernel
theorem dX4_bitsAt_17 : decode cX4_bitsAt 17 = .ok (.invokestatic 65, 3) := by decide +kernel
theorem dX4_bitsAt_20 : decode cX4_bitsAt 20 = .ok (.iload_n 1, 1) := by decide +kernel
theorem dX4_bitsAt_21 : decode cX4_bitsAt 21 = .ok (.if_icmp .ne 9, 3) := by decide +kernel
theorem dX4_bitsAt_24 : decode cX4_bitsAt 24 = .ok (.iload_n 2, 1) := by decide +kernel
theorem dX4_bitsAt_25 : decode cX4_bitsAt 25 = .ok (.iconst 1, 1) := by decide +kernel
theorem dX4_bitsAt_26 : decode cX4_bitsAt 26 = .ok (.iload_n 3, 1) := by decide +kernel
theorem dX4_bitsAt_27 : decode cX4_bitsAt 27 = .ok (.ishl, 1) := by decide +kernel
theorem dX4_bitsAt_28 : decode cX4_bitsAt 28 = .ok (.ior, 1) := by decide +kernel
theorem dX4_bitsAt_29 : decode cX4_bitsAt 29 = .ok (.istore_n 2, 1) := by decide +kernel
theorem dX4_bitsAt_30 : decode cX4_bitsAt 30 = .ok (.iinc 3 1, 3) := by decide +kernel
theorem dX4_bitsAt_33 : decode cX4_bitsAt 33 = .ok (.goto (-29), 3) := by decide +kernel
theorem dX4_bitsAt_36 : decode cX4_bitsAt 36 = .ok (.iload_n 2, 1) := by decide +kernel
theorem dX4_bitsAt_37 : decode cX4_bitsAt 37 = .ok (.ireturn, 1) := by decide +kernel
theorem dX4_keptCount_0 : decode cX4_keptCount 0 = .ok (.iconst 0, 1) := by decide +kernel
theorem dX4_keptCount_1 : decode cX4_keptCount 1 = .ok (.istore_n 1, 1) := by decide +kernel
theorem dX4_keptCount_2 : decode cX4_keptCount 2 = .ok (.iconst 0, 1) := by decide +kernel
theorem dX4_keptCount_3 : decode cX4_keptCount 3 = .ok (.istore_n 2, 1) := by decide +kernel
theorem dX4_keptCount_4 : decode cX4_keptCount 4 = .ok (.iload_n 2, 1) := by decide +kernel
theorem dX4_keptCount_5 : decode cX4_keptCount 5 = .ok (.aload_n 0, 1) := by decide +kernel
theorem dX4_keptCount_6 : decode cX4_keptCount 6 = .ok (.getfield 37, 3) := by decide +kernel
theorem dX4_keptCount_9 : decode cX4_keptCount 9 = .ok (.if_icmp .ge 23, 3) := by decide +kernel
theorem dX4_keptCount_12 : decode cX4_keptCount 12 = .ok (.iload_n 1, 1) := by decide +kernel
theorem dX4_keptCount_13 : decode cX4_keptCount 13 = .ok (.aload_n 0, 1) := by decide +kernel
theorem dX4_keptCount_14 : decode cX4_keptCount 14 = .ok (.bipush 10, 2) := by decide +kernel
theorem dX4_keptCount_16 : decode cX4_keptCount 16 = .ok (.iload_n 2, 1) := by decide +kernel
theorem dX4_keptCount_17 : decode cX4_keptCount 17 = .ok (.iadd, 1) := by decide +kernel
theorem dX4_keptCount_18 : decode cX4_keptCount 18 = .ok (.invokevirtual 93, 3) := by decide +kernel
theorem dX4_keptCount_21 : decode cX4_keptCount 21 = .ok (.invokestatic 96, 3) := by decide +kernel
theorem dX4_keptCount_24 : decode cX4_keptCount 24 = .ok (.iadd, 1) := by decide +kernel
theorem dX4_keptCount_25 : decode cX4_keptCount 25 = .ok (.istore_n 1, 1) := by decide +kernel
theorem dX4_keptCount_26 : decode cX4_keptCount 26 = .ok (.iinc 2 1, 3) := by decide +kernel
theorem dX4_keptCount_29 : decode cX4_keptCount 29 = .ok (.goto (-25), 3) := by decide +kernel
theorem dX4_keptCount_32 : decode cX4_keptCount 32 = .ok (.iload_n 1, 1) := by decide +kernel
theorem dX4_keptCount_33 : decode cX4_keptCount 33 = .ok (.ireturn, 1) := by decide +kernel
theorem dX4_waitingBits_0 : decode cX4_waitingBits 0 = .ok (.iconst 0, 1) := by decide +kernel
theorem dX4_waitingBits_1 : decode cX4_waitingBits 1 = .ok (.istore_n 1, 1) := by decide +kernel
theorem dX4_waitingBits_2 : decode cX4_waitingBits 2 = .ok (.iconst 0, 1) := by decide +kernel
theorem dX4_waitingBits_3 : decode cX4_waitingBits 3 = .ok (.istore_n 2, 1) := by decide +kernel
theorem dX4_waitingBits_4 : decode cX4_waitingBits 4 = .ok (.iload_n 2, 1) := by decide +kernel
theorem dX4_waitingBits_5 : decode cX4_waitingBits 5 = .ok (.aload_n 0, 1) := by decide +kernel
theorem dX4_waitingBits_6 : decode cX4_waitingBits 6 = .ok (.getfield 37, 3) := by decide +kernel
theorem dX4_waitingBits_9 : decode cX4_waitingBits 9 = .ok (.if_icmp .ge 26, 3) := by decide +kernel
theorem dX4_waitingBits_12 : decode cX4_waitingBits 12 = .ok (.aload_n 0, 1) := by decide +kernel
theorem dX4_waitingBits_13 : decode cX4_waitingBits 13 = .ok (.bipush 10, 2) := by decide +kernel
theorem dX4_waitingBits_15 : decode cX4_waitingBits 15 = .ok (.iload_n 2, 1) := by decide +kernel
theorem dX4_waitingBits_16 : decode cX4_waitingBits 16 = .ok (.iadd, 1) := by decide +kernel
theorem dX4_waitingBits_17 : decode cX4_waitingBits 17 = .ok (.invokevirtual 93, 3) := by decide +kernel
theorem dX4_waitingBits_20 : decode cX4_waitingBits 20 = .ok (.ifCond .ne 9, 3) := by decide +kernel
theorem dX4_waitingBits_23 : decode cX4_waitingBits 23 = .ok (.iload_n 1, 1) := by decide +kernel
theorem dX4_waitingBits_24 : decode cX4_waitingBits 24 = .ok (.iconst 1, 1) := by decide +kernel
theorem dX4_waitingBits_25 : decode cX4_waitingBits 25 = .ok (.iload_n 2, 1) := by decide +kernel
theorem dX4_waitingBits_26 : decode cX4_waitingBits 26 = .ok (.ishl, 1) := by decide +kernel
theorem dX4_waitingBits_27 : decode cX4_waitingBits 27 = .ok (.ior, 1) := by decide +kernel
theorem dX4_waitingBits_28 : decode cX4_waitingBits 28 = .ok (.istore_n 1, 1) := by decide +kernel
theorem dX4_waitingBits_29 : decode cX4_waitingBits 29 = .ok (.iinc 2 1, 3) := by decide +kernel
theorem dX4_waitingBits_32 : decode cX4_waitingBits 32 = .ok (.goto (-28), 3) := by decide +kernel
theorem dX4_waitingBits_35 : decode cX4_waitingBits 35 = .ok (.iload_n 1, 1) := by decide +kernel
theorem dX4_waitingBits_36 : decode cX4_waitingBits 36 = .ok (.ireturn, 1) := by decide +kernel
theorem dX4_digestOn_0 : decode cX4_digestOn 0 = .ok (.lload_n 1, 1) := by decide +kernel
theorem dX4_digestOn_1 : decode cX4_digestOn 1 = .ok (.lstore_n 3, 1) := by decide +kernel
theorem dX4_digestOn_2 : decode cX4_digestOn 2 = .ok (.iconst 0, 1) := by decide +kernel
theorem dX4_digestOn_3 : decode cX4_digestOn 3 = .ok (.istore 5, 2) := by decide +kernel
theorem dX4_digestOn_5 : decode cX4_digestOn 5 = .ok (.iload 5, 2) := by decide +kernel
theorem dX4_digestOn_7 : decode cX4_digestOn 7 = .ok (.aload_n 0, 1) := by decide +kernel
theorem dX4_digestOn_8 : decode cX4_digestOn 8 = .ok (.getfield 33, 3) := by decide +kernel
theorem dX4_digestOn_11 : decode cX4_digestOn 11 = .ok (.if_icmp .ge 77, 3) := by decide +kernel
theorem dX4_digestOn_14 : decode cX4_digestOn 14 = .ok (.ldc2_w 101, 3) := by decide +kernel
theorem dX4_digestOn_17 : decode cX4_digestOn 17 = .ok (.lload_n 3, 1) := by decide +kernel
theorem dX4_digestOn_18 : decode cX4_digestOn 18 = .ok (.lmul, 1) := by decide +kernel
theorem dX4_digestOn_19 : decode cX4_digestOn 19 = .ok (.aload_n 0, 1) := by decide +kernel
theorem dX4_digestOn_20 : decode cX4_digestOn 20 = .ok (.getfield 9, 3) := by decide +kernel
theorem dX4_digestOn_23 : decode cX4_digestOn 23 = .ok (.iload 5, 2) := by decide +kernel
theorem dX4_digestOn_25 : decode cX4_digestOn 25 = .ok (.invokestatic 65, 3) := by decide +kernel
theorem dX4_digestOn_28 : decode cX4_digestOn 28 = .ok (.i2l, 1) := by decide +kernel
theorem dX4_digestOn_29 : decode cX4_digestOn 29 = .ok (.ladd, 1) := by decide +kernel
theorem dX4_digestOn_30 : decode cX4_digestOn 30 = .ok (.lstore_n 3, 1) := by decide +kernel
theorem dX4_digestOn_31 : decode cX4_digestOn 31 = .ok (.ldc2_w 101, 3) := by decide +kernel
theorem dX4_digestOn_34 : decode cX4_digestOn 34 = .ok (.lload_n 3, 1) := by decide +kernel
theorem dX4_digestOn_35 : decode cX4_digestOn 35 = .ok (.lmul, 1) := by decide +kernel
theorem dX4_digestOn_36 : decode cX4_digestOn 36 = .ok (.aload_n 0, 1) := by decide +kernel
theorem dX4_digestOn_37 : decode cX4_digestOn 37 = .ok (.getfield 15, 3) := by decide +kernel
theorem dX4_digestOn_40 : decode cX4_digestOn 40 = .ok (.iload 5, 2) := by decide +kernel
theorem dX4_digestOn_42 : decode cX4_digestOn 42 = .ok (.invokestatic 65, 3) := by decide +kernel
theorem dX4_digestOn_45 : decode cX4_digestOn 45 = .ok (.i2l, 1) := by decide +kernel
theorem dX4_digestOn_46 : decode cX4_digestOn 46 = .ok (.ladd, 1) := by decide +kernel
theorem dX4_digestOn_47 : decode cX4_digestOn 47 = .ok (.lstore_n 3, 1) := by decide +kernel
theorem dX4_digestOn_48 : decode cX4_digestOn 48 = .ok (.ldc2_w 101, 3) := by decide +kernel
theorem dX4_digestOn_51 : decode cX4_digestOn 51 = .ok (.lload_n 3, 1) := by decide +kernel
theorem dX4_digestOn_52 : decode cX4_digestOn 52 = .ok (.lmul, 1) := by decide +kernel
theorem dX4_digestOn_53 : decode cX4_digestOn 53 = .ok (.aload_n 0, 1) := by decide +kernel
theorem dX4_digestOn_54 : decode cX4_digestOn 54 = .ok (.getfield 18, 3) := by decide +kernel
theorem dX4_digestOn_57 : decode cX4_digestOn 57 = .ok (.iload 5, 2) := by decide +kernel
theorem dX4_digestOn_59 : decode cX4_digestOn 59 = .ok (.invokestatic 65, 3) := by decide +kernel
theorem dX4_digestOn_62 : decode cX4_digestOn 62 = .ok (.i2l, 1) := by decide +kernel
theorem dX4_digestOn_63 : decode cX4_digestOn 63 = .ok (.ladd, 1) := by decide +kernel
theorem dX4_digestOn_64 : decode cX4_digestOn 64 = .ok (.lstore_n 3, 1) := by decide +kernel
theorem dX4_digestOn_65 : decode cX4_digestOn 65 = .ok (.ldc2_w 101, 3) := by decide +kernel
theorem dX4_digestOn_68 : decode cX4_digestOn 68 = .ok (.lload_n 3, 1) := by decide +kernel
theorem dX4_digestOn_69 : decode cX4_digestOn 69 = .ok (.lmul, 1) := by decide +kernel
theorem dX4_digestOn_70 : decode cX4_digestOn 70 = .ok (.aload_n 0, 1) := by decide +kernel
theorem dX4_digestOn_71 : decode cX4_digestOn 71 = .ok (.getfield 21, 3) := by decide +kernel
theorem dX4_digestOn_74 : decode cX4_digestOn 74 = .ok (.iload 5, 2) := by decide +kernel
theorem dX4_digestOn_76 : decode cX4_digestOn 76 = .ok (.invokestatic 65, 3) := by decide +kernel
theorem dX4_digestOn_79 : decode cX4_digestOn 79 = .ok (.i2l, 1) := by decide +kernel
theorem dX4_digestOn_80 : decode cX4_digestOn 80 = .ok (.ladd, 1) := by decide +kernel
theorem dX4_digestOn_81 : decode cX4_digestOn 81 = .ok (.lstore_n 3, 1) := by decide +kernel
theorem dX4_digestOn_82 : decode cX4_digestOn 82 = .ok (.iinc 5 1, 3) := by decide +kernel
theorem dX4_digestOn_85 : decode cX4_digestOn 85 = .ok (.goto (-80), 3) := by decide +kernel
theorem dX4_digestOn_88 : decode cX4_digestOn 88 = .ok (.iconst 0, 1) := by decide +kernel
theorem dX4_digestOn_89 : decode cX4_digestOn 89 = .ok (.istore 5, 2) := by decide +kernel
theorem dX4_digestOn_91 : decode cX4_digestOn 91 = .ok (.iload 5, 2) := by decide +kernel
theorem dX4_digestOn_93 : decode cX4_digestOn 93 = .ok (.aload_n 0, 1) := by decide +kernel
theorem dX4_digestOn_94 : decode cX4_digestOn 94 = .ok (.getfield 37, 3) := by decide +kernel
theorem dX4_digestOn_97 : decode cX4_digestOn 97 = .ok (.if_icmp .ge 43, 3) := by decide +kernel
theorem dX4_digestOn_100 : decode cX4_digestOn 100 = .ok (.ldc2_w 101, 3) := by decide +kernel
theorem dX4_digestOn_103 : decode cX4_digestOn 103 = .ok (.lload_n 3, 1) := by decide +kernel
theorem dX4_digestOn_104 : decode cX4_digestOn 104 = .ok (.lmul, 1) := by decide +kernel
theorem dX4_digestOn_105 : decode cX4_digestOn 105 = .ok (.aload_n 0, 1) := by decide +kernel
theorem dX4_digestOn_106 : decode cX4_digestOn 106 = .ok (.getfield 24, 3) := by decide +kernel
theorem dX4_digestOn_109 : decode cX4_digestOn 109 = .ok (.iload 5, 2) := by decide +kernel
theorem dX4_digestOn_111 : decode cX4_digestOn 111 = .ok (.invokestatic 65, 3) := by decide +kernel
theorem dX4_digestOn_114 : decode cX4_digestOn 114 = .ok (.i2l, 1) := by decide +kernel
theorem dX4_digestOn_115 : decode cX4_digestOn 115 = .ok (.ladd, 1) := by decide +kernel
theorem dX4_digestOn_116 : decode cX4_digestOn 116 = .ok (.lstore_n 3, 1) := by decide +kernel
theorem dX4_digestOn_117 : decode cX4_digestOn 117 = .ok (.ldc2_w 101, 3) := by decide +kernel
theorem dX4_digestOn_120 : decode cX4_digestOn 120 = .ok (.lload_n 3, 1) := by decide +kernel
theorem dX4_digestOn_121 : decode cX4_digestOn 121 = .ok (.lmul, 1) := by decide +kernel
theorem dX4_digestOn_122 : decode cX4_digestOn 122 = .ok (.aload_n 0, 1) := by decide +kernel
theorem dX4_digestOn_123 : decode cX4_digestOn 123 = .ok (.getfield 27, 3) := by decide +kernel
theorem dX4_digestOn_126 : decode cX4_digestOn 126 = .ok (.iload 5, 2) := by decide +kernel
theorem dX4_digestOn_128 : decode cX4_digestOn 128 = .ok (.invokestatic 65, 3) := by decide +kernel
theorem dX4_digestOn_131 : decode cX4_digestOn 131 = .ok (.i2l, 1) := by decide +kernel
theorem dX4_digestOn_132 : decode cX4_digestOn 132 = .ok (.ladd, 1) := by decide +kernel
theorem dX4_digestOn_133 : decode cX4_digestOn 133 = .ok (.lstore_n 3, 1) := by decide +kernel
theorem dX4_digestOn_134 : decode cX4_digestOn 134 = .ok (.iinc 5 1, 3) := by decide +kernel
theorem dX4_digestOn_137 : decode cX4_digestOn 137 = .ok (.goto (-46), 3) := by decide +kernel
theorem dX4_digestOn_140 : decode cX4_digestOn 140 = .ok (.iconst 0, 1) := by decide +kernel
theorem dX4_digestOn_141 : decode cX4_digestOn 141 = .ok (.istore 5, 2) := by decide +kernel
theorem dX4_digestOn_143 : decode cX4_digestOn 143 = .ok (.iload 5, 2) := by decide +kernel
theorem dX4_digestOn_145 : decode cX4_digestOn 145 = .ok (.aload_n 0, 1) := by decide +kernel
theorem dX4_digestOn_146 : decode cX4_digestOn 146 = .ok (.getfield 40, 3) := by decide +kernel
theorem dX4_digestOn_149 : decode cX4_digestOn 149 = .ok (.if_icmp .ge 26, 3) := by decide +kernel
theorem dX4_digestOn_152 : decode cX4_digestOn 152 = .ok (.ldc2_w 101, 3) := by decide +kernel
theorem dX4_digestOn_155 : decode cX4_digestOn 155 = .ok (.lload_n 3, 1) := by decide +kernel
theorem dX4_digestOn_156 : decode cX4_digestOn 156 = .ok (.lmul, 1) := by decide +kernel
theorem dX4_digestOn_157 : decode cX4_digestOn 157 = .ok (.aload_n 0, 1) := by decide +kernel
theorem dX4_digestOn_158 : decode cX4_digestOn 158 = .ok (.getfield 30, 3) := by decide +kernel
theorem dX4_digestOn_161 : decode cX4_digestOn 161 = .ok (.iload 5, 2) := by decide +kernel
theorem dX4_digestOn_163 : decode cX4_digestOn 163 = .ok (.invokestatic 65, 3) := by decide +kernel
theorem dX4_digestOn_166 : decode cX4_digestOn 166 = .ok (.i2l, 1) := by decide +kernel
theorem dX4_digestOn_167 : decode cX4_digestOn 167 = .ok (.ladd, 1) := by decide +kernel
theorem dX4_digestOn_168 : decode cX4_digestOn 168 = .ok (.lstore_n 3, 1) := by decide +kernel
theorem dX4_digestOn_169 : decode cX4_digestOn 169 = .ok (.iinc 5 1, 3) := by decide +kernel
theorem dX4_digestOn_172 : decode cX4_digestOn 172 = .ok (.goto (-29), 3) := by decide +kernel
theorem dX4_digestOn_175 : decode cX4_digestOn 175 = .ok (.lload_n 3, 1) := by decide +kernel
theorem dX4_digestOn_176 : decode cX4_digestOn 176 = .ok (.lreturn, 1) := by decide +kernel
