theorem dX0_init_0 : decode cX0_init 0 = .ok (.aload_n 0, 1) := by decide +kernel
theorem dX0_init_1 : decode cX0_init 1 = .ok (.invokespecial 5, 3) := by decide +kernel
theorem dX0_init_4 : decode cX0_init 4 = .ok (.aload_n 0, 1) := by decide +kernel
theorem dX0_init_5 : decode cX0_init 5 = .ok (.sipush 216, 3) := by decide +kernel
theorem dX0_init_8 : decode cX0_init 8 = .ok (.newarray .int, 2) := by decide +kernel
theorem dX0_init_10 : decode cX0_init 10 = .ok (.putfield 11, 3) := by decide +kernel
theorem dX0_init_13 : decode cX0_init 13 = .ok (.aload_n 0, 1) := by decide +kernel
theorem dX0_init_14 : decode cX0_init 14 = .ok (.sipush 216, 3) := by decide +kernel
theorem dX0_init_17 : decode cX0_init 17 = .ok (.newarray .int, 2) := by decide +kernel
theorem dX0_init_19 : decode cX0_init 19 = .ok (.putfield 15, 3) := by decide +kernel
theorem dX0_init_22 : decode cX0_init 22 = .ok (.aload_n 0, 1) := by decide +kernel
theorem dX0_init_23 : decode cX0_init 23 = .ok (.sipush 216, 3) := by decide +kernel
theorem dX0_init_26 : decode cX0_init 26 = .ok (.newarray .int, 2) := by decide +kernel
theorem dX0_init_28 : decode cX0_init 28 = .ok (.putfield 18, 3) := by decide +kernel
theorem dX0_init_31 : decode cX0_init 31 = .ok (.aload_n 0, 1) := by decide +kernel
theorem dX0_init_32 : decode cX0_init 32 = .ok (.sipush 216, 3) := by decide +kernel
theorem dX0_init_35 : decode cX0_init 35 = .ok (.newarray .int, 2) := by decide +kernel
theorem dX0_init_37 : decode cX0_init 37 = .ok (.putfield 21, 3) := by decide +kernel
theorem dX0_init_40 : decode cX0_init 40 = .ok (.aload_n 0, 1) := by decide +kernel
theorem dX0_init_41 : decode cX0_init 41 = .ok (.sipush 216, 3) := by decide +kernel
theorem dX0_init_44 : decode cX0_init 44 = .ok (.newarray .int, 2) := by decide +kernel
theorem dX0_init_46 : decode cX0_init 46 = .ok (.putfield 24, 3) := by decide +kernel
theorem dX0_init_49 : decode cX0_init 49 = .ok (.aload_n 0, 1) := by decide +kernel
theorem dX0_init_50 : decode cX0_init 50 = .ok (.sipush 216, 3) := by decide +kernel
theorem dX0_init_53 : decode cX0_init 53 = .ok (.newarray .int, 2) := by decide +kernel
theorem dX0_init_55 : decode cX0_init 55 = .ok (.putfield 27, 3) := by decide +kernel
theorem dX0_init_58 : decode cX0_init 58 = .ok (.aload_n 0, 1) := by decide +kernel
theorem dX0_init_59 : decode cX0_init 59 = .ok (.sipush 216, 3) := by decide +kernel
theorem dX0_init_62 : decode cX0_init 62 = .ok (.newarray .int, 2) := by decide +kernel
theorem dX0_init_64 : decode cX0_init 64 = .ok (.putfield 30, 3) := by decide +kernel
theorem dX0_init_67 : decode cX0_init 67 = .ok (.aload_n 0, 1) := by decide +kernel
theorem dX0_init_68 : decode cX0_init 68 = .ok (.sipush 216, 3) := by decide +kernel
theorem dX0_init_71 : decode cX0_init 71 = .ok (.newarray .int, 2) := by decide +kernel
theorem dX0_init_73 : decode cX0_init 73 = .ok (.putfield 33, 3) := by decide +kernel
theorem dX0_init_76 : decode cX0_init 76 = .ok (.aload_n 0, 1) := by decide +kernel
theorem dX0_init_77 : decode cX0_init 77 = .ok (.bipush 54, 2) := by decide +kernel
theorem dX0_init_79 : decode cX0_init 79 = .ok (.newarray .int, 2) := by decide +kernel
theorem dX0_init_81 : decode cX0_init 81 = .ok (.putfield 36, 3) := by decide +kernel
theorem dX0_init_84 : decode cX0_init 84 = .ok (.aload_n 0, 1) := by decide +kernel
theorem dX0_init_85 : decode cX0_init 85 = .ok (.bipush 6, 2) := by decide +kernel
theorem dX0_init_87 : decode cX0_init 87 = .ok (.newarray .int, 2) := by decide +kernel
theorem dX0_init_89 : decode cX0_init 89 = .ok (.putfield 39, 3) := by decide +kernel
theorem dX0_init_92 : decode cX0_init 92 = .ok (.return_, 1) := by decide +kernel
theorem dX0_row_0 : decode cX0_row 0 = .ok (.iload_n 0, 1) := by decide +kernel
theorem dX0_row_1 : decode cX0_row 1 = .ok (.bipush 6, 2) := by decide +kernel
theorem dX0_row_3 : decode cX0_row 3 = .ok (.imul, 1) := by decide +kernel
theorem dX0_row_4 : decode cX0_row 4 = .ok (.iload_n 1, 1) := by decide +kernel
theorem dX0_row_5 : decode cX0_row 5 = .ok (.iadd, 1) := by decide +kernel
theorem dX0_row_6 : decode cX0_row 6 = .ok (.iconst 4, 1) := by decide +kernel
theorem dX0_row_7 : decode cX0_row 7 = .ok (.imul, 1) := by decide +kernel
theorem dX0_row_8 : decode cX0_row 8 = .ok (.iload_n 2, 1) := by decide +kernel
theorem dX0_row_9 : decode cX0_row 9 = .ok (.iadd, 1) := by decide +kernel
theorem dX0_row_10 : decode cX0_row 10 = .ok (.ireturn, 1) := by decide +kernel
theorem dX0_allot_0 : decode cX0_allot 0 = .ok (.lconst 0, 1) := by decide +kernel
theorem dX0_allot_1 : decode cX0_allot 1 = .ok (.lstore 5, 2) := by decide +kernel
theorem dX0_allot_3 : decode cX0_allot 3 = .ok (.iconst 0, 1) := by decide +kernel
theorem dX0_allot_4 : decode cX0_allot 4 = .ok (.istore 7, 2) := by decide +kernel
theorem dX0_allot_6 : decode cX0_allot 6 = .ok (.iconst 0, 1) := by decide +kernel
theorem dX0_allot_7 : decode cX0_allot 7 = .ok (.istore 8, 2) := by decide +kernel
theorem dX0_allot_9 : decode cX0_allot 9 = .ok (.iload 8, 2) := by decide +kernel
theorem dX0_allot_11 : decode cX0_allot 11 = .ok (.bipush 6, 2) := by decide +kernel
theorem dX0_allot_13 : decode cX0_allot 13 = .ok (.if_icmp .ge 74, 3) := by decide +kernel
theorem dX0_allot_16 : decode cX0_allot 16 = .ok (.iload_n 3, 1) := by decide +kernel
theorem dX0_allot_17 : decode cX0_allot 17 = .ok (.i2l, 1) := by decide +kernel
theorem dX0_allot_18 : decode cX0_allot 18 = .ok (.aload 4, 2) := by decide +kernel
theorem dX0_allot_20 : decode cX0_allot 20 = .ok (.iload_n 2, 1) := by decide +kernel
theorem dX0_allot_21 : decode cX0_allot 21 = .ok (.iload 8, 2) := by decide +kernel
theorem dX0_allot_23 : decode cX0_allot 23 = .ok (.invokevirtual 42, 3) := by decide +kernel
theorem dX0_allot_26 : decode cX0_allot 26 = .ok (.i2l, 1) := by decide +kernel
theorem dX0_allot_27 : decode cX0_allot 27 = .ok (.lmul, 1) := by decide +kernel
theorem dX0_allot_28 : decode cX0_allot 28 = .ok (.lstore 9, 2) := by decide +kernel
theorem dX0_allot_30 : decode cX0_allot 30 = .ok (.lload 9, 2) := by decide +kernel
theorem dX0_allot_32 : decode cX0_allot 32 = .ok (.ldc2_w 48, 3) := by decide +kernel
theorem dX0_allot_35 : decode cX0_allot 35 = .ok (.ldiv, 1) := by decide +kernel
theorem dX0_allot_36 : decode cX0_allot 36 = .ok (.l2i, 1) := by decide +kernel
theorem dX0_allot_37 : decode cX0_allot 37 = .ok (.istore 11, 2) := by decide +kernel
theorem dX0_allot_39 : decode cX0_allot 39 = .ok (.aload_n 0, 1) := by decide +kernel
theorem dX0_allot_40 : decode cX0_allot 40 = .ok (.getfield 11, 3) := by decide +kernel
theorem dX0_allot_43 : decode cX0_allot 43 = .ok (.iload_n 1, 1) := by decide +kernel
theorem dX0_allot_44 : decode cX0_allot 44 = .ok (.iload 8, 2) := by decide +kernel
theorem dX0_allot_46 : decode cX0_allot 46 = .ok (.iload_n 2, 1) := by decide +kernel
theorem dX0_allot_47 : decode cX0_allot 47 = .ok (.invokestatic 50, 3) := by decide +kernel
theorem dX0_allot_50 : decode cX0_allot 50 = .ok (.iload 11, 2) := by decide +kernel
theorem dX0_allot_52 : decode cX0_allot 52 = .ok (.iastore, 1) := by decide +kernel
theorem dX0_allot_53 : decode cX0_allot 53 = .ok (.aload_n 0, 1) := by decide +kernel
theorem dX0_allot_54 : decode cX0_allot 54 = .ok (.getfield 39, 3) := by decide +kernel
theorem dX0_allot_57 : decode cX0_allot 57 = .ok (.iload 8, 2) := by decide +kernel
theorem dX0_allot_59 : decode cX0_allot 59 = .ok (.lload 9, 2) := by decide +kernel
theorem dX0_allot_61 : decode cX0_allot 61 = .ok (.ldc2_w 48, 3) := by decide +kernel
theorem dX0_allot_64 : decode cX0_allot 64 = .ok (.lrem, 1) := by decide +kernel
theorem dX0_allot_65 : decode cX0_allot 65 = .ok (.l2i, 1) := by decide +kernel
theorem dX0_allot_66 : decode cX0_allot 66 = .ok (.iastore, 1) := by decide +kernel
theorem dX0_allot_67 : decode cX0_allot 67 = .ok (.lload 5, 2) := by decide +kernel
theorem dX0_allot_69 : decode cX0_allot 69 = .ok (.lload 9, 2) := by decide +kernel
theorem dX0_allot_71 : decode cX0_allot 71 = .ok (.ladd, 1) := by decide +kernel
theorem dX0_allot_72 : decode cX0_allot 72 = .ok (.lstore 5, 2) := by decide +kernel
theorem dX0_allot_74 : decode cX0_allot 74 = .ok (.iload 7, 2) := by decide +kernel
theorem dX0_allot_76 : decode cX0_allot 76 = .ok (.iload 11, 2) := by decide +kernel
theorem dX0_allot_78 : decode cX0_allot 78 = .ok (.iadd, 1) := by decide +kernel
theorem dX0_allot_79 : decode cX0_allot 79 = .ok (.istore 7, 2) := by decide +kernel
theorem dX0_allot_81 : decode cX0_allot 81 = .ok (.iinc 8 1, 3) := by decide +kernel
theorem dX0_allot_84 : decode cX0_allot 84 = .ok (.goto (-75), 3) := by decide +kernel
theorem dX0_allot_87 : decode cX0_allot 87 = .ok (.lload 5, 2) := by decide +kernel
theorem dX0_allot_89 : decode cX0_allot 89 = .ok (.ldc2_w 48, 3) := by decide +kernel
theorem dX0_allot_92 : decode cX0_allot 92 = .ok (.ldiv, 1) := by decide +kernel
theorem dX0_allot_93 : decode cX0_allot 93 = .ok (.l2i, 1) := by decide +kernel
theorem dX0_allot_94 : decode cX0_allot 94 = .ok (.istore 8, 2) := by decide +kernel
theorem dX0_allot_96 : decode cX0_allot 96 = .ok (.iload 7, 2) := by decide +kernel
theorem dX0_allot_98 : decode cX0_allot 98 = .ok (.istore 9, 2) := by decide +kernel
theorem dX0_allot_100 : decode cX0_allot 100 = .ok (.iload 9, 2) := by decide +kernel
theorem dX0_allot_102 : decode cX0_allot 102 = .ok (.iload 8, 2) := by decide +kernel
theorem dX0_allot_104 : decode cX0_allot 104 = .ok (.if_icmp .ge 39, 3) := by decide +kernel
theorem dX0_allot_107 : decode cX0_allot 107 = .ok (.aload_n 0, 1) := by decide +kernel
theorem dX0_allot_108 : decode cX0_allot 108 = .ok (.invokevirtual 54, 3) := by decide +kernel
theorem dX0_allot_111 : decode cX0_allot 111 = .ok (.istore 10, 2) := by decide +kernel
theorem dX0_allot_113 : decode cX0_allot 113 = .ok (.aload_n 0, 1) := by decide +kernel
theorem dX0_allot_114 : decode cX0_allot 114 = .ok (.getfield 11, 3) := by decide +kernel
theorem dX0_allot_117 : decode cX0_allot 117 = .ok (.iload_n 1, 1) := by decide +kernel
theorem dX0_allot_118 : decode cX0_allot 118 = .ok (.iload 10, 2) := by decide +kernel
theorem dX0_allot_120 : decode cX0_allot 120 = .ok (.iload_n 2, 1) := by decide +kernel
theorem dX0_allot_121 : decode cX0_allot 121 = .ok (.invokestatic 50, 3) := by decide +kernel
theorem dX0_allot_124 : decode cX0_allot 124 = .ok (.dup2, 1) := by decide +kernel
theorem dX0_allot_125 : decode cX0_allot 125 = .ok (.iaload, 1) := by decide +kernel
theorem dX0_allot_126 : decode cX0_allot 126 = .ok (.iconst 1, 1) := by decide +kernel
theorem dX0_allot_127 : decode cX0_allot 127 = .ok (.iadd, 1) := by decide +kernel
theorem dX0_allot_128 : decode cX0_allot 128 = .ok (.iastore, 1) := by decide +kernel
theorem dX0_allot_129 : decode cX0_allot 129 = .ok (.aload_n 0, 1) := by decide +kernel
theorem dX0_allot_130 : decode cX0_allot 130 = .ok (.getfield 39, 3) := by decide +kernel
theorem dX0_allot_133 : decode cX0_allot 133 = .ok (.iload 10, 2) := by decide +kernel
theorem dX0_allot_135 : decode cX0_allot 135 = .ok (.iconst (-1), 1) := by decide +kernel
theorem dX0_allot_136 : decode cX0_allot 136 = .ok (.iastore, 1) := by decide +kernel
theorem dX0_allot_137 : decode cX0_allot 137 = .ok (.iinc 9 1, 3) := by decide +kernel
theorem dX0_allot_140 : decode cX0_allot 140 = .ok (.goto (-40), 3) := by decide +kernel
theorem dX0_allot_143 : decode cX0_allot 143 = .ok (.return_, 1) := by decide +kernel
theorem dX0_greatestRemainder_0 : decode cX0_greatestRemainder 0 = .ok (.iconst 0, 1) := by decide +kernel
theorem dX0_greatestRemainder_1 : decode cX0_greatestRemainder 1 = .ok (.istore_n 1, 1) := by decide +kernel
theorem dX0_greatestRemainder_2 : decode cX0_greatestRemainder 2 = .ok (.iconst 1, 1) := by decide +kernel
theorem dX0_greatestRemainder_3 : decode cX0_greatestRemainder 3 = .ok (.istore_n 2, 1) := by decide +kernel
theorem dX0_greatestRemainder_4 : decode cX0_greatestRemainder 4 = .ok (.iload_n 2, 1) := by decide +kernel
theorem dX0_greatestRemainder_5 : decode cX0_greatestRemainder 5 = .ok (.bipush 6, 2) := by decide +kernel
theorem dX0_greatestRemainder_7 : decode cX0_greatestRemainder 7 = .ok (.if_icmp .ge 26, 3) := by decide +kernel
theorem dX0_greatestRemainder_10 : decode cX0_greatestRemainder 10 = .ok (.aload_n 0, 1) := by decide +kernel
theorem dX0_greatestRemainder_11 : decode cX0_greatestRemainder 11 = .ok (.getfield 39, 3) := by decide +kernel
theorem dX0_greatestRemainder_14 : decode cX0_greatestRemainder 14 = .ok (.iload_n 2, 1) := by decide +kernel
theorem dX0_greatestRemainder_15 : decode cX0_greatestRemainder 15 = .ok (.iaload, 1) := by decide +kernel
theorem dX0_greatestRemainder_16 : decode cX0_greatestRemainder 16 = .ok (.aload_n 0, 1) := by decide +kernel
theorem dX0_greatestRemainder_17 : decode cX0_greatestRemainder 17 = .ok (.getfield 39, 3) := by decide +kernel
theorem dX0_greatestRemainder_20 : decode cX0_greatestRemainder 20 = .ok (.iload_n 1, 1) := by decide +kernel
theorem dX0_greatestRemainder_21 : decode cX0_greatestRemainder 21 = .ok (.iaload, 1) := by decide +kernel
theorem dX0_greatestRemainder_22 : decode cX0_greatestRemainder 22 = .ok (.if_icmp .le 5, 3) := by decide +kernel
theorem dX0_greatestRemainder_25 : decode cX0_greatestRemainder 25 = .ok (.iload_n 2, 1) := by decide +kernel
theorem dX0_greatestRemainder_26 : decode cX0_greatestRemainder 26 = .ok (.istore_n 1, 1) := by decide +kernel
theorem dX0_greatestRemainder_27 : decode cX0_greatestRemainder 27 = .ok (.iinc 2 1, 3) := by decide +kernel
theorem dX0_greatestRemainder_30 : decode cX0_greatestRemainder 30 = .ok (.goto (-26), 3) := by decide +kernel
theorem dX0_greatestRemainder_33 : decode cX0_greatestRemainder 33 = .ok (.iload_n 1, 1) := by decide +kernel
theorem dX0_greatestRemainder_34 : decode cX0_greatestRemainder 34 = .ok (.ireturn, 1) := by decide +kernel
theorem dX0_begin_0 : decode cX0_begin 0 = .ok (.iload_n 1, 1) := by decide +kernel
theorem dX0_begin_1 : decode cX0_begin 1 = .ok (.iconst 0, 1) := by decide +kernel
theorem dX0_begin_2 : decode cX0_begin 2 = .ok (.iconst 0, 1) := by decide +kernel
theorem dX0_begin_3 : decode cX0_begin 3 = .ok (.invokestatic 50, 3) := by decide +kernel
theorem dX0_begin_6 : decode cX0_begin 6 = .ok (.istore_n 2, 1) := by decide +kernel
theorem dX0_begin_7 : decode cX0_begin 7 = .ok (.iload_n 2, 1) := by decide +kernel
theorem dX0_begin_8 : decode cX0_begin 8 = .ok (.istore_n 3, 1) := by decide +kernel
theorem dX0_begin_9 : decode cX0_begin 9 = .ok (.iload_n 3, 1) := by decide +kernel
theorem dX0_begin_10 : decode cX0_begin 10 = .ok (.iload_n 2, 1) := by decide +kernel
theorem dX0_begin_11 : decode cX0_begin 11 = .ok (.bipush 24, 2) := by decide +kernel
theorem dX0_begin_13 : decode cX0_begin 13 = .ok (.iadd, 1) := by decide +kernel
theorem dX0_begin_14 : decode cX0_begin 14 = .ok (.if_icmp .ge 53, 3) := by decide +kernel
theorem dX0_begin_17 : decode cX0_begin 17 = .ok (.aload_n 0, 1) := by decide +kernel
theorem dX0_begin_18 : decode cX0_begin 18 = .ok (.getfield 15, 3) := by decide +kernel
theorem dX0_begin_21 : decode cX0_begin 21 = .ok (.iload_n 3, 1) := by decide +kernel
theorem dX0_begin_22 : decode cX0_begin 22 = .ok (.iconst 0, 1) := by decide +kernel
theorem dX0_begin_23 : decode cX0_begin 23 = .ok (.iastore, 1) := by decide +kernel
theorem dX0_begin_24 : decode cX0_begin 24 = .ok (.aload_n 0, 1) := by decide +kernel
theorem dX0_begin_25 : decode cX0_begin 25 = .ok (.getfield 24, 3) := by decide +kernel
theorem dX0_begin_28 : decode cX0_begin 28 = .ok (.iload_n 3, 1) := by decide +kernel
theorem dX0_begin_29 : decode cX0_begin 29 = .ok (.iconst 0, 1) := by decide +kernel
theorem dX0_begin_30 : decode cX0_begin 30 = .ok (.iastore, 1) := by decide +kernel
theorem dX0_begin_31 : decode cX0_begin 31 = .ok (.aload_n 0, 1) := by decide +kernel
theorem dX0_begin_32 : decode cX0_begin 32 = .ok (.getfield 18, 3) := by decide +kernel
theorem dX0_begin_35 : decode cX0_begin 35 = .ok (.iload_n 3, 1) := by decide +kernel
theorem dX0_begin_36 : decode cX0_begin 36 = .ok (.aload_n 0, 1) := by decide +kernel
theorem dX0_begin_37 : decode cX0_begin 37 = .ok (.getfield 27, 3) := by decide +kernel
theorem dX0_begin_40 : decode cX0_begin 40 = .ok (.iload_n 3, 1) := by decide +kernel
theorem dX0_begin_41 : decode cX0_begin 41 = .ok (.bipush 24, 2) := by decide +kernel
theorem dX0_begin_43 : decode cX0_begin 43 = .ok (.isub, 1) := by decide +kernel
theorem dX0_begin_44 : decode cX0_begin 44 = .ok (.iaload, 1) := by decide +kernel
theorem dX0_begin_45 : decode cX0_begin 45 = .ok (.iastore, 1) := by decide +kernel
theorem dX0_begin_46 : decode cX0_begin 46 = .ok (.aload_n 0, 1) := by decide +kernel
theorem dX0_begin_47 : decode cX0_begin 47 = .ok (.getfield 21, 3) := by decide +kernel
theorem dX0_begin_50 : decode cX0_begin 50 = .ok (.iload_n 3, 1) := by decide +kernel
theorem dX0_begin_51 : decode cX0_begin 51 = .ok (.aload_n 0, 1) := by decide +kernel
theorem dX0_begin_52 : decode cX0_begin 52 = .ok (.getfield 30, 3) := by decide +kernel
theorem dX0_begin_55 : decode cX0_begin 55 = .ok (.iload_n 3, 1) := by decide +kernel
theorem dX0_begin_56 : decode cX0_begin 56 = .ok (.bipush 24, 2) := by decide +kernel
theorem dX0_begin_58 : decode cX0_begin 58 = .ok (.isub, 1) := by decide +kernel
theorem dX0_begin_59 : decode cX0_begin 59 = .ok (.iaload, 1) := by decide +kernel
theorem dX0_begin_60 : decode cX0_begin 60 = .ok (.iastore, 1) := by decide +kernel
theorem dX0_begin_61 : decode cX0_begin 61 = .ok (.iinc 3 1, 3) := by decide +kernel
theorem dX0_begin_64 : decode cX0_begin 64 = .ok (.goto (-55), 3) := by decide +kernel
theorem dX0_begin_67 : decode cX0_begin 67 = .ok (.iconst 0, 1) := by decide +kernel
theorem dX0_begin_68 : decode cX0_begin 68 = .ok (.istore_n 3, 1) := by decide +kernel
theorem dX0_begin_69 : decode cX0_begin 69 = .ok (.iload_n 3, 1) := by decide +kernel
theorem dX0_begin_70 : decode cX0_begin 70 = .ok (.bipush 6, 2) := by decide +kernel
theorem dX0_begin_72 : decode cX0_begin 72 = .ok (.if_icmp .ge 21, 3) := by decide +kernel
theorem dX0_begin_75 : decode cX0_begin 75 = .ok (.aload_n 0, 1) := by decide +kernel
theorem dX0_begin_76 : decode cX0_begin 76 = .ok (.getfield 36, 3) := by decide +kernel
theorem dX0_begin_79 : decode cX0_begin 79 = .ok (.iload_n 1, 1) := by decide +kernel
theorem dX0_begin_80 : decode cX0_begin 80 = .ok (.bipush 6, 2) := by decide +kernel
theorem dX0_begin_82 : decode cX0_begin 82 = .ok (.imul, 1) := by decide +kernel
theorem dX0_begin_83 : decode cX0_begin 83 = .ok (.iload_n 3, 1) := by decide +kernel
theorem dX0_begin_84 : decode cX0_begin 84 = .ok (.iadd, 1) := by decide +kernel
theorem dX0_begin_85 : decode cX0_begin 85 = .ok (.iconst 0, 1) := by decide +kernel
theorem dX0_begin_86 : decode cX0_begin 86 = .ok (.iastore, 1) := by decide +kernel
theorem dX0_begin_87 : decode cX0_begin 87 = .ok (.iinc 3 1, 3) := by decide +kernel
theorem dX0_begin_90 : decode cX0_begin 90 = .ok (.goto (-21), 3) := by decide +kernel
theorem dX0_begin_93 : decode cX0_begin 93 = .ok (.return_, 1) := by decide +kernel
theorem dX0_settle_0 : decode cX0_settle 0 = .ok (.iload_n 1, 1) := by decide +kernel
theorem dX0_settle_1 : decode cX0_settle 1 = .ok (.iconst 0, 1) := by decide +kernel
theorem dX0_settle_2 : decode cX0_settle 2 = .ok (.iconst 0, 1) := by decide +kernel
theorem dX0_settle_3 : decode cX0_settle 3 = .ok (.invokestatic 50, 3) := by decide +kernel
theorem dX0_settle_6 : decode cX0_settle 6 = .ok (.istore_n 2, 1) := by decide +kernel
theorem dX0_settle_7 : decode cX0_settle 7 = .ok (.iload_n 2, 1) := by decide +kernel
theorem dX0_settle_8 : decode cX0_settle 8 = .ok (.istore_n 3, 1) := by decide +kernel
theorem dX0_settle_9 : decode cX0_settle 9 = .ok (.iload_n 3, 1) := by decide +kernel
theorem dX0_settle_10 : decode cX0_settle 10 = .ok (.iload_n 2, 1) := by decide +kernel
theorem dX0_settle_11 : decode cX0_settle 11 = .ok (.bipush 24, 2) := by decide +kernel
theorem dX0_settle_13 : decode cX0_settle 13 = .ok (.iadd, 1) := by decide +kernel
theorem dX0_settle_14 : decode cX0_settle 14 = .ok (.if_icmp .ge 89, 3) := by decide +kernel
theorem dX0_settle_17 : decode cX0_settle 17 = .ok (.aload_n 0, 1) := by decide +kernel
theorem dX0_settle_18 : decode cX0_settle 18 = .ok (.iload_n 3, 1) := by decide +kernel
theorem dX0_settle_19 : decode cX0_settle 19 = .ok (.invokevirtual 58, 3) := by decide +kernel
theorem dX0_settle_22 : decode cX0_settle 22 = .ok (.istore 4, 2) := by decide +kernel
theorem dX0_settle_24 : decode cX0_settle 24 = .ok (.iconst 0, 1) := by decide +kernel
theorem dX0_settle_25 : decode cX0_settle 25 = .ok (.iload 4, 2) := by decide +kernel
theorem dX0_settle_27 : decode cX0_settle 27 = .ok (.ineg, 1) := by decide +kernel
theorem dX0_settle_28 : decode cX0_settle 28 = .ok (.invokestatic 62, 3) := by decide +kernel
theorem dX0_settle_31 : decode cX0_settle 31 = .ok (.istore 5, 2) := by decide +kernel
theorem dX0_settle_33 : decode cX0_settle 33 = .ok (.aload_n 0, 1) := by decide +kernel
theorem dX0_settle_34 : decode cX0_settle 34 = .ok (.getfield 27, 3) := by decide +kernel
theorem dX0_settle_37 : decode cX0_settle 37 = .ok (.iload_n 3, 1) := by decide +kernel
theorem dX0_settle_38 : decode cX0_settle 38 = .ok (.aload_n 0, 1) := by decide +kernel
theorem dX0_settle_39 : decode cX0_settle 39 = .ok (.getfield 11, 3) := by decide +kernel
theorem dX0_settle_42 : decode cX0_settle 42 = .ok (.iload_n 3, 1) := by decide +kernel
theorem dX0_settle_43 : decode cX0_settle 43 = .ok (.iaload, 1) := by decide +kernel
theorem dX0_settle_44 : decode cX0_settle 44 = .ok (.bipush 15, 2) := by decide +kernel
theorem dX0_settle_46 : decode cX0_settle 46 = .ok (.imul, 1) := by decide +kernel
theorem dX0_settle_47 : decode cX0_settle 47 = .ok (.bipush 100, 2) := by decide +kernel
theorem dX0_settle_49 : decode cX0_settle 49 = .ok (.idiv, 1) := by decide +kernel
theorem dX0_settle_50 : decode cX0_settle 50 = .ok (.iconst 0, 1) := by decide +kernel
theorem dX0_settle_51 : decode cX0_settle 51 = .ok (.iload 4, 2) := by decide +kernel
theorem dX0_settle_53 : decode cX0_settle 53 = .ok (.invokestatic 62, 3) := by decide +kernel
theorem dX0_settle_56 : decode cX0_settle 56 = .ok (.invokestatic 67, 3) := by decide +kernel
theorem dX0_settle_59 : decode cX0_settle 59 = .ok (.iastore, 1) := by decide +kernel
theorem dX0_settle_60 : decode cX0_settle 60 = .ok (.aload_n 0, 1) := by decide +kernel
theorem dX0_settle_61 : decode cX0_settle 61 = .ok (.getfield 30, 3) := by decide +kernel
theorem dX0_settle_64 : decode cX0_settle 64 = .ok (.iload_n 3, 1) := by decide +kernel
theorem dX0_settle_65 : decode cX0_settle 65 = .ok (.aload_n 0, 1) := by decide +kernel
theorem dX0_settle_66 : decode cX0_settle 66 = .ok (.getfield 11, 3) := by decide +kernel
theorem dX0_settle_69 : decode cX0_settle 69 = .ok (.iload_n 3, 1) := by decide +kernel
theorem dX0_settle_70 : decode cX0_settle 70 = .ok (.iaload, 1) := by decide +kernel
theorem dX0_settle_71 : decode cX0_settle 71 = .ok (.iconst 5, 1) := by decide +kernel
theorem dX0_settle_72 : decode cX0_settle 72 = .ok (.imul, 1) := by decide +kernel
theorem dX0_settle_73 : decode cX0_settle 73 = .ok (.bipush 100, 2) := by decide +kernel
theorem dX0_settle_75 : decode cX0_settle 75 = .ok (.idiv, 1) := by decide +kernel
theorem dX0_settle_76 : decode cX0_settle 76 = .ok (.iload 5, 2) := by decide +kernel
theorem dX0_settle_78 : decode cX0_settle 78 = .ok (.invokestatic 67, 3) := by decide +kernel
theorem dX0_settle_81 : decode cX0_settle 81 = .ok (.iastore, 1) := by decide +kernel
theorem dX0_settle_82 : decode cX0_settle 82 = .ok (.aload_n 0, 1) := by decide +kernel
theorem dX0_settle_83 : decode cX0_settle 83 = .ok (.getfield 33, 3) := by decide +kernel
theorem dX0_settle_86 : decode cX0_settle 86 = .ok (.iload_n 3, 1) := by decide +kernel
theorem dX0_settle_87 : decode cX0_settle 87 = .ok (.iload 5, 2) := by decide +kernel
theorem dX0_settle_89 : decode cX0_settle 89 = .ok (.aload_n 0, 1) := by decide +kernel
theorem dX0_settle_90 : decode cX0_settle 90 = .ok (.getfield 30, 3) := by decide +kernel
theorem dX0_settle_93 : decode cX0_settle 93 = .ok (.iload_n 3, 1) := by decide +kernel
theorem dX0_settle_94 : decode cX0_settle 94 = .ok (.iaload, 1) := by decide +kernel
theorem dX0_settle_95 : decode cX0_settle 95 = .ok (.isub, 1) := by decide +kernel
theorem dX0_settle_96 : decode cX0_settle 96 = .ok (.iastore, 1) := by decide +kernel
theorem dX0_settle_97 : decode cX0_settle 97 = .ok (.iinc 3 1, 3) := by decide +kernel
theorem dX0_settle_100 : decode cX0_settle 100 = .ok (.goto (-91), 3) := by decide +kernel
theorem dX0_settle_103 : decode cX0_settle 103 = .ok (.return_, 1) := by decide +kernel
theorem dX0_countLevied_0 : decode cX0_countLevied 0 = .ok (.iconst 0, 1) := by decide +kernel
theorem dX0_countLevied_1 : decode cX0_countLevied 1 = .ok (.istore_n 2, 1) := by decide +kernel
theorem dX0_countLevied_2 : decode cX0_countLevied 2 = .ok (.iload_n 1, 1) := by decide +kernel
theorem dX0_countLevied_3 : decode cX0_countLevied 3 = .ok (.iconst 0, 1) := by decide +kernel
theorem dX0_countLevied_4 : decode cX0_countLevied 4 = .ok (.iconst 0, 1) := by decide +kernel
theorem dX0_countLevied_5 : decode cX0_countLevied 5 = .ok (.invokestatic 50, 3) := by decide +kernel
theorem dX0_countLevied_8 : decode cX0_countLevied 8 = .ok (.istore_n 3, 1) := by decide +kernel
theorem dX0_countLevied_9 : decode cX0_countLevied 9 = .ok (.iload_n 3, 1) := by decide +kernel
theorem dX0_countLevied_10 : decode cX0_countLevied 10 = .ok (.istore 4, 2) := by decide +kernel
theorem dX0_countLevied_12 : decode cX0_countLevied 12 = .ok (.iload 4, 2) := by decide +kernel
theorem dX0_countLevied_14 : decode cX0_countLevied 14 = .ok (.iload_n 3, 1) := by decide +kernel
theorem dX0_countLevied_15 : decode cX0_countLevied 15 = .ok (.bipush 24, 2) := by decide +kernel
theorem dX0_countLevied_17 : decode cX0_countLevied 17 = .ok (.iadd, 1) := by decide +kernel
theorem dX0_countLevied_18 : decode cX0_countLevied 18 = .ok (.if_icmp .ge 22, 3) := by decide +kernel
theorem dX0_countLevied_21 : decode cX0_countLevied 21 = .ok (.aload_n 0, 1) := by decide +kernel
theorem dX0_countLevied_22 : decode cX0_countLevied 22 = .ok (.getfield 33, 3) := by decide +kernel
theorem dX0_countLevied_25 : decode cX0_countLevied 25 = .ok (.iload 4, 2) := by decide +kernel
theorem dX0_countLevied_27 : decode cX0_countLevied 27 = .ok (.iaload, 1) := by decide +kernel
theorem dX0_countLevied_28 : decode cX0_countLevied 28 = .ok (.ifCond .le 6, 3) := by decide +kernel
theorem dX0_countLevied_31 : decode cX0_countLevied 31 = .ok (.iinc 2 1, 3) := by decide +kernel
theorem dX0_countLevied_34 : decode cX0_countLevied 34 = .ok (.iinc 4 1, 3) := by decide +kernel
theorem dX0_countLevied_37 : decode cX0_countLevied 37 = .ok (.goto (-25), 3) := by decide +kernel
theorem dX0_countLevied_40 : decode cX0_countLevied 40 = .ok (.iload_n 2, 1) := by decide +kernel
theorem dX0_countLevied_41 : decode cX0_countLevied 41 = .ok (.ireturn, 1) := by decide +kernel
theorem dX0_leviedOn_0 : decode cX0_leviedOn 0 = .ok (.aload_n 0, 1) := by decide +kernel
theorem dX0_leviedOn_1 : decode cX0_leviedOn 1 = .ok (.getfield 33, 3) := by decide +kernel
theorem dX0_leviedOn_4 : decode cX0_leviedOn 4 = .ok (.iload_n 1, 1) := by decide +kernel
theorem dX0_leviedOn_5 : decode cX0_leviedOn 5 = .ok (.iload_n 2, 1) := by decide +kernel
theorem dX0_leviedOn_6 : decode cX0_leviedOn 6 = .ok (.iload_n 3, 1) := by decide +kernel
theorem dX0_leviedOn_7 : decode cX0_leviedOn 7 = .ok (.invokestatic 50, 3) := by decide +kernel
theorem dX0_leviedOn_10 : decode cX0_leviedOn 10 = .ok (.iaload, 1) := by decide +kernel
theorem dX0_leviedOn_11 : decode cX0_leviedOn 11 = .ok (.ireturn, 1) := by decide +kernel
theorem dX0_hasLeft_0 : decode cX0_hasLeft 0 = .ok (.aload_n 0, 1) := by decide +kernel
theorem dX0_hasLeft_1 : decode cX0_hasLeft 1 = .ok (.iload_n 1, 1) := by decide +kernel
theorem dX0_hasLeft_2 : decode cX0_hasLeft 2 = .ok (.iload_n 2, 1) := by decide +kernel
theorem dX0_hasLeft_3 : decode cX0_hasLeft 3 = .ok (.iload_n 3, 1) := by decide +kernel
theorem dX0_hasLeft_4 : decode cX0_hasLeft 4 = .ok (.invokestatic 50, 3) := by decide +kernel
theorem dX0_hasLeft_7 : decode cX0_hasLeft 7 = .ok (.invokevirtual 58, 3) := by decide +kernel
theorem dX0_hasLeft_10 : decode cX0_hasLeft 10 = .ok (.iload 4, 2) := by decide +kernel
theorem dX0_hasLeft_12 : decode cX0_hasLeft 12 = .ok (.if_icmp .lt 7, 3) := by decide +kernel
theorem dX0_hasLeft_15 : decode cX0_hasLeft 15 = .ok (.iconst 1, 1) := by decide +kernel
theorem dX0_hasLeft_16 : decode cX0_hasLeft 16 = .ok (.goto 4, 3) := by decide +kernel
theorem dX0_hasLeft_19 : decode cX0_hasLeft 19 = .ok (.iconst 0, 1) := by decide +kernel
theorem dX0_hasLeft_20 : decode cX0_hasLeft 20 = .ok (.ireturn, 1) := by decide +kernel
theorem dX0_canExchange_0 : decode cX0_canExchange 0 = .ok (.aload_n 0, 1) := by decide +kernel
theorem dX0_canExchange_1 : decode cX0_canExchange 1 = .ok (.getfield 24, 3) := by decide +kernel
theorem dX0_canExchange_4 : decode cX0_canExchange 4 = .ok (.iload_n 1, 1) := by decide +kernel
theorem dX0_canExchange_5 : decode cX0_canExchange 5 = .ok (.iload_n 2, 1) := by decide +kernel
theorem dX0_canExchange_6 : decode cX0_canExchange 6 = .ok (.iload_n 3, 1) := by decide +kernel
theorem dX0_canExchange_7 : decode cX0_canExchange 7 = .ok (.invokestatic 50, 3) := by decide +kernel
theorem dX0_canExchange_10 : decode cX0_canExchange 10 = .ok (.iaload, 1) := by decide +kernel
theorem dX0_canExchange_11 : decode cX0_canExchange 11 = .ok (.iload 5, 2) := by decide +kernel
theorem dX0_canExchange_13 : decode cX0_canExchange 13 = .ok (.if_icmp .lt 40, 3) := by decide +kernel
theorem dX0_canExchange_16 : decode cX0_canExchange 16 = .ok (.aload_n 0, 1) := by decide +kernel
theorem dX0_canExchange_17 : decode cX0_canExchange 17 = .ok (.iload_n 1, 1) := by decide +kernel
theorem dX0_canExchange_18 : decode cX0_canExchange 18 = .ok (.iload_n 2, 1) := by decide +kernel
theorem dX0_canExchange_19 : decode cX0_canExchange 19 = .ok (.iload 4, 2) := by decide +kernel
theorem dX0_canExchange_21 : decode cX0_canExchange 21 = .ok (.iload 6, 2) := by decide +kernel
theorem dX0_canExchange_23 : decode cX0_canExchange 23 = .ok (.invokevirtual 70, 3) := by decide +kernel
theorem dX0_canExchange_26 : decode cX0_canExchange 26 = .ok (.ifCond .eq 27, 3) := by decide +kernel
theorem dX0_canExchange_29 : decode cX0_canExchange 29 = .ok (.aload_n 0, 1) := by decide +kernel
theorem dX0_canExchange_30 : decode cX0_canExchange 30 = .ok (.getfield 36, 3) := by decide +kernel
theorem dX0_canExchange_33 : decode cX0_canExchange 33 = .ok (.iload_n 1, 1) := by decide +kernel
theorem dX0_canExchange_34 : decode cX0_canExchange 34 = .ok (.bipush 6, 2) := by decide +kernel
theorem dX0_canExchange_36 : decode cX0_canExchange 36 = .ok (.imul, 1) := by decide +kernel
theorem dX0_canExchange_37 : decode cX0_canExchange 37 = .ok (.iload_n 2, 1) := by decide +kernel
theorem dX0_canExchange_38 : decode cX0_canExchange 38 = .ok (.iadd, 1) := by decide +kernel
theorem dX0_canExchange_39 : decode cX0_canExchange 39 = .ok (.iaload, 1) := by decide +kernel
theorem dX0_canExchange_40 : decode cX0_canExchange 40 = .ok (.iload 5, 2) := by decide +kernel
theorem dX0_canExchange_42 : decode cX0_canExchange 42 = .ok (.iadd, 1) := by decide +kernel
theorem dX0_canExchange_43 : decode cX0_canExchange 43 = .ok (.sipush 1000, 3) := by decide +kernel
theorem dX0_canExchange_46 : decode cX0_canExchange 46 = .ok (.if_icmp .gt 7, 3) := by decide +kernel
theorem dX0_canExchange_49 : decode cX0_canExchange 49 = .ok (.iconst 1, 1) := by decide +kernel
theorem dX0_canExchange_50 : decode cX0_canExchange 50 = .ok (.goto 4, 3) := by decide +kernel
theorem dX0_canExchange_53 : decode cX0_canExchange 53 = .ok (.iconst 0, 1) := by decide +kernel
theorem dX0_canExchange_54 : decode cX0_canExchange 54 = .ok (.ireturn, 1) := by decide +kernel
theorem dX0_moveLeased_0 : decode cX0_moveLeased 0 = .ok (.aload_n 0, 1) := by decide +kernel
theorem dX0_moveLeased_1 : decode cX0_moveLeased 1 = .ok (.getfield 15, 3) := by decide +kernel
theorem dX0_moveLeased_4 : decode cX0_moveLeased 4 = .ok (.iload_n 1, 1) := by decide +kernel
theorem dX0_moveLeased_5 : decode cX0_moveLeased 5 = .ok (.iload_n 3, 1) := by decide +kernel
theorem dX0_moveLeased_6 : decode cX0_moveLeased 6 = .ok (.iload_n 2, 1) := by decide +kernel
theorem dX0_moveLeased_7 : decode cX0_moveLeased 7 = .ok (.invokestatic 50, 3) := by decide +kernel
theorem dX0_moveLeased_10 : decode cX0_moveLeased 10 = .ok (.dup2, 1) := by decide +kernel
theorem dX0_moveLeased_11 : decode cX0_moveLeased 11 = .ok (.iaload, 1) := by decide +kernel
theorem dX0_moveLeased_12 : decode cX0_moveLeased 12 = .ok (.iload 5, 2) := by decide +kernel
theorem dX0_moveLeased_14 : decode cX0_moveLeased 14 = .ok (.isub, 1) := by decide +kernel
theorem dX0_moveLeased_15 : decode cX0_moveLeased 15 = .ok (.iastore, 1) := by decide +kernel
theorem dX0_moveLeased_16 : decode cX0_moveLeased 16 = .ok (.aload_n 0, 1) := by decide +kernel
theorem dX0_moveLeased_17 : decode cX0_moveLeased 17 = .ok (.getfield 15, 3) := by decide +kernel
theorem dX0_moveLeased_20 : decode cX0_moveLeased 20 = .ok (.iload_n 1, 1) := by decide +kernel
theorem dX0_moveLeased_21 : decode cX0_moveLeased 21 = .ok (.iload 4, 2) := by decide +kernel
theorem dX0_moveLeased_23 : decode cX0_moveLeased 23 = .ok (.iload_n 2, 1) := by decide +kernel
theorem dX0_moveLeased_24 : decode cX0_moveLeased 24 = .ok (.invokestatic 50, 3) := by decide +kernel
theorem dX0_moveLeased_27 : decode cX0_moveLeased 27 = .ok (.dup2, 1) := by decide +kernel
theorem dX0_moveLeased_28 : decode cX0_moveLeased 28 = .ok (.iaload, 1) := by decide +kernel
theorem dX0_moveLeased_29 : decode cX0_moveLeased 29 = .ok (.iload 5, 2) := by decide +kernel
theorem dX0_moveLeased_31 : decode cX0_moveLeased 31 = .ok (.iadd, 1) := by decide +kernel
theorem dX0_moveLeased_32 : decode cX0_moveLeased 32 = .ok (.iastore, 1) := by decide +kernel
theorem dX0_moveLeased_33 : decode cX0_moveLeased 33 = .ok (.return_, 1) := by decide +kernel
theorem dX0_charge_0 : decode cX0_charge 0 = .ok (.aload_n 0, 1) := by decide +kernel
theorem dX0_charge_1 : decode cX0_charge 1 = .ok (.getfield 24, 3) := by decide +kernel
theorem dX0_charge_4 : decode cX0_charge 4 = .ok (.iload_n 1, 1) := by decide +kernel
theorem dX0_charge_5 : decode cX0_charge 5 = .ok (.iload_n 2, 1) := by decide +kernel
theorem dX0_charge_6 : decode cX0_charge 6 = .ok (.iload_n 3, 1) := by decide +kernel
theorem dX0_charge_7 : decode cX0_charge 7 = .ok (.invokestatic 50, 3) := by decide +kernel
theorem dX0_charge_10 : decode cX0_charge 10 = .ok (.dup2, 1) := by decide +kernel
theorem dX0_charge_11 : decode cX0_charge 11 = .ok (.iaload, 1) := by decide +kernel
theorem dX0_charge_12 : decode cX0_charge 12 = .ok (.iload 4, 2) := by decide +kernel
theorem dX0_charge_14 : decode cX0_charge 14 = .ok (.iadd, 1) := by decide +kernel
theorem dX0_charge_15 : decode cX0_charge 15 = .ok (.iastore, 1) := by decide +kernel
theorem dX0_charge_16 : decode cX0_charge 16 = .ok (.return_, 1) := by decide +kernel
theorem dX0_exchange_0 : decode cX0_exchange 0 = .ok (.aload_n 0, 1) := by decide +kernel
theorem dX0_exchange_1 : decode cX0_exchange 1 = .ok (.getfield 24, 3) := by decide +kernel
theorem dX0_exchange_4 : decode cX0_exchange 4 = .ok (.iload_n 1, 1) := by decide +kernel
theorem dX0_exchange_5 : decode cX0_exchange 5 = .ok (.iload_n 2, 1) := by decide +kernel
theorem dX0_exchange_6 : decode cX0_exchange 6 = .ok (.iload_n 3, 1) := by decide +kernel
theorem dX0_exchange_7 : decode cX0_exchange 7 = .ok (.invokestatic 50, 3) := by decide +kernel
theorem dX0_exchange_10 : decode cX0_exchange 10 = .ok (.dup2, 1) := by decide +kernel
theorem dX0_exchange_11 : decode cX0_exchange 11 = .ok (.iaload, 1) := by decide +kernel
theorem dX0_exchange_12 : decode cX0_exchange 12 = .ok (.iload 5, 2) := by decide +kernel
theorem dX0_exchange_14 : decode cX0_exchange 14 = .ok (.isub, 1) := by decide +kernel
theorem dX0_exchange_15 : decode cX0_exchange 15 = .ok (.iastore, 1) := by decide +kernel
theorem dX0_exchange_16 : decode cX0_exchange 16 = .ok (.aload_n 0, 1) := by decide +kernel
theorem dX0_exchange_17 : decode cX0_exchange 17 = .ok (.getfield 24, 3) := by decide +kernel
theorem dX0_exchange_20 : decode cX0_exchange 20 = .ok (.iload_n 1, 1) := by decide +kernel
theorem dX0_exchange_21 : decode cX0_exchange 21 = .ok (.iload_n 2, 1) := by decide +kernel
theorem dX0_exchange_22 : decode cX0_exchange 22 = .ok (.iload 4, 2) := by decide +kernel
theorem dX0_exchange_24 : decode cX0_exchange 24 = .ok (.invokestatic 50, 3) := by decide +kernel
theorem dX0_exchange_27 : decode cX0_exchange 27 = .ok (.dup2, 1) := by decide +kernel
theorem dX0_exchange_28 : decode cX0_exchange 28 = .ok (.iaload, 1) := by decide +kernel
theorem dX0_exchange_29 : decode cX0_exchange 29 = .ok (.iload 6, 2) := by decide +kernel
theorem dX0_exchange_31 : decode cX0_exchange 31 = .ok (.iadd, 1) := by decide +kernel
theorem dX0_exchange_32 : decode cX0_exchange 32 = .ok (.iastore, 1) := by decide +kernel
theorem dX0_exchange_33 : decode cX0_exchange 33 = .ok (.aload_n 0, 1) := by decide +kernel
theorem dX0_exchange_34 : decode cX0_exchange 34 = .ok (.getfield 36, 3) := by decide +kernel
theorem dX0_exchange_37 : decode cX0_exchange 37 = .ok (.iload_n 1, 1) := by decide +kernel
theorem dX0_exchange_38 : decode cX0_exchange 38 = .ok (.bipush 6, 2) := by decide +kernel
theorem dX0_exchange_40 : decode cX0_exchange 40 = .ok (.imul, 1) := by decide +kernel
theorem dX0_exchange_41 : decode cX0_exchange 41 = .ok (.iload_n 2, 1) := by decide +kernel
theorem dX0_exchange_42 : decode cX0_exchange 42 = .ok (.iadd, 1) := by decide +kernel
theorem dX0_exchange_43 : decode cX0_exchange 43 = .ok (.dup2, 1) := by decide +kernel
theorem dX0_exchange_44 : decode cX0_exchange 44 = .ok (.iaload, 1) := by decide +kernel
theorem dX0_exchange_45 : decode cX0_exchange 45 = .ok (.iload 5, 2) := by decide +kernel
theorem dX0_exchange_47 : decode cX0_exchange 47 = .ok (.iadd, 1) := by decide +kernel
theorem dX0_exchange_48 : decode cX0_exchange 48 = .ok (.iastore, 1) := by decide +kernel
theorem dX0_exchange_49 : decode cX0_exchange 49 = .ok (.return_, 1) := by decide +kernel
theorem dX0_figure_0 : decode cX0_figure 0 = .ok (.iload_n 2, 1) := by decide +kernel
theorem dX0_figure_1 : decode cX0_figure 1 = .ok (.tableswitch 102 0 7 #[47, 54, 61, 68, 75, 82, 88, 95], 47) := by decide +kernel
theorem dX0_figure_48 : decode cX0_figure 48 = .ok (.aload_n 0, 1) := by decide +kernel
theorem dX0_figure_49 : decode cX0_figure 49 = .ok (.getfield 11, 3) := by decide +kernel
theorem dX0_figure_52 : decode cX0_figure 52 = .ok (.iload_n 1, 1) := by decide +kernel
theorem dX0_figure_53 : decode cX0_figure 53 = .ok (.iaload, 1) := by decide +kernel
theorem dX0_figure_54 : decode cX0_figure 54 = .ok (.ireturn, 1) := by decide +kernel
theorem dX0_figure_55 : decode cX0_figure 55 = .ok (.aload_n 0, 1) := by decide +kernel
theorem dX0_figure_56 : decode cX0_figure 56 = .ok (.getfield 15, 3) := by decide +kernel
theorem dX0_figure_59 : decode cX0_figure 59 = .ok (.iload_n 1, 1) := by decide +kernel
theorem dX0_figure_60 : decode cX0_figure 60 = .ok (.iaload, 1) := by decide +kernel
theorem dX0_figure_61 : decode cX0_figure 61 = .ok (.ireturn, 1) := by decide +kernel
theorem dX0_figure_62 : decode cX0_figure 62 = .ok (.aload_n 0, 1) := by decide +kernel
theorem dX0_figure_63 : decode cX0_figure 63 = .ok (.getfield 18, 3) := by decide +kernel
theorem dX0_figure_66 : decode cX0_figure 66 = .ok (.iload_n 1, 1) := by decide +kernel
theorem dX0_figure_67 : decode cX0_figure 67 = .ok (.iaload, 1) := by decide +kernel
theorem dX0_figure_68 : decode cX0_figure 68 = .ok (.ireturn, 1) := by decide +kernel
theorem dX0_figure_69 : decode cX0_figure 69 = .ok (.aload_n 0, 1) := by decide +kernel
theorem dX0_figure_70 : decode cX0_figure 70 = .ok (.getfield 21, 3) := by decide +kernel
theorem dX0_figure_73 : decode cX0_figure 73 = .ok (.iload_n 1, 1) := by decide +kernel
theorem dX0_figure_74 : decode cX0_figure 74 = .ok (.iaload, 1) := by decide +kernel
theorem dX0_figure_75 : decode cX0_figure 75 = .ok (.ireturn, 1) := by decide +kernel
theorem dX0_figure_76 : decode cX0_figure 76 = .ok (.aload_n 0, 1) := by decide +kernel
theorem dX0_figure_77 : decode cX0_figure 77 = .ok (.getfield 24, 3) := by decide +kernel
theorem dX0_figure_80 : decode cX0_figure 80 = .ok (.iload_n 1, 1) := by decide +kernel
theorem dX0_figure_81 : decode cX0_figure 81 = .ok (.iaload, 1) := by decide +kernel
theorem dX0_figure_82 : decode cX0_figure 82 = .ok (.ireturn, 1) := by decide +kernel
theorem dX0_figure_83 : decode cX0_figure 83 = .ok (.aload_n 0, 1) := by decide +kernel
theorem dX0_figure_84 : decode cX0_figure 84 = .ok (.iload_n 1, 1) := by decide +kernel
theorem dX0_figure_85 : decode cX0_figure 85 = .ok (.invokevirtual 58, 3) := by decide +kernel
theorem dX0_figure_88 : decode cX0_figure 88 = .ok (.ireturn, 1) := by decide +kernel
theorem dX0_figure_89 : decode cX0_figure 89 = .ok (.aload_n 0, 1) := by decide +kernel
theorem dX0_figure_90 : decode cX0_figure 90 = .ok (.getfield 27, 3) := by decide +kernel
theorem dX0_figure_93 : decode cX0_figure 93 = .ok (.iload_n 1, 1) := by decide +kernel
theorem dX0_figure_94 : decode cX0_figure 94 = .ok (.iaload, 1) := by decide +kernel
theorem dX0_figure_95 : decode cX0_figure 95 = .ok (.ireturn, 1) := by decide +kernel
theorem dX0_figure_96 : decode cX0_figure 96 = .ok (.aload_n 0, 1) := by decide +kernel
theorem dX0_figure_97 : decode cX0_figure 97 = .ok (.getfield 30, 3) := by decide +kernel
theorem dX0_figure_100 : decode cX0_figure 100 = .ok (.iload_n 1, 1) := by decide +kernel
theorem dX0_figure_101 : decode cX0_figure 101 = .ok (.iaload, 1) := by decide +kernel
theorem dX0_figure_102 : decode cX0_figure 102 = .ok (.ireturn, 1) := by decide +kernel
theorem dX0_figure_103 : decode cX0_figure 103 = .ok (.aload_n 0, 1) := by decide +kernel
theorem dX0_figure_104 : decode cX0_figure 104 = .ok (.getfield 33, 3) := by decide +kernel
theorem dX0_figure_107 : decode cX0_figure 107 = .ok (.iload_n 1, 1) := by decide +kernel
theorem dX0_figure_108 : decode cX0_figure 108 = .ok (.iaload, 1) := by decide +kernel
theorem dX0_figure_109 : decode cX0_figure 109 = .ok (.ireturn, 1) := by decide +kernel
theorem dX0_leftOn_0 : decode cX0_leftOn 0 = .ok (.aload_n 0, 1) := by decide +kernel
theorem dX0_leftOn_1 : decode cX0_leftOn 1 = .ok (.getfield 11, 3) := by decide +kernel
theorem dX0_leftOn_4 : decode cX0_leftOn 4 = .ok (.iload_n 1, 1) := by decide +kernel
theorem dX0_leftOn_5 : decode cX0_leftOn 5 = .ok (.iaload, 1) := by decide +kernel
theorem dX0_leftOn_6 : decode cX0_leftOn 6 = .ok (.aload_n 0, 1) := by decide +kernel
theorem dX0_leftOn_7 : decode cX0_leftOn 7 = .ok (.getfield 15, 3) := by decide +kernel
theorem dX0_leftOn_10 : decode cX0_leftOn 10 = .ok (.iload_n 1, 1) := by decide +kernel
theorem dX0_leftOn_11 : decode cX0_leftOn 11 = .ok (.iaload, 1) := by decide +kernel
theorem dX0_leftOn_12 : decode cX0_leftOn 12 = .ok (.iadd, 1) := by decide +kernel
theorem dX0_leftOn_13 : decode cX0_leftOn 13 = .ok (.aload_n 0, 1) := by decide +kernel
theorem dX0_leftOn_14 : decode cX0_leftOn 14 = .ok (.getfield 18, 3) := by decide +kernel
theorem dX0_leftOn_17 : decode cX0_leftOn 17 = .ok (.iload_n 1, 1) := by decide +kernel
theorem dX0_leftOn_18 : decode cX0_leftOn 18 = .ok (.iaload, 1) := by decide +kernel
theorem dX0_leftOn_19 : decode cX0_leftOn 19 = .ok (.iadd, 1) := by decide +kernel
theorem dX0_leftOn_20 : decode cX0_leftOn 20 = .ok (.aload_n 0, 1) := by decide +kernel
theorem dX0_leftOn_21 : decode cX0_leftOn 21 = .ok (.getfield 21, 3) := by decide +kernel
theorem dX0_leftOn_24 : decode cX0_leftOn 24 = .ok (.iload_n 1, 1) := by decide +kernel
theorem dX0_leftOn_25 : decode cX0_leftOn 25 = .ok (.iaload, 1) := by decide +kernel
theorem dX0_leftOn_26 : decode cX0_leftOn 26 = .ok (.isub, 1) := by decide +kernel
theorem dX0_leftOn_27 : decode cX0_leftOn 27 = .ok (.aload_n 0, 1) := by decide +kernel
theorem dX0_leftOn_28 : decode cX0_leftOn 28 = .ok (.getfield 24, 3) := by decide +kernel
theorem dX0_leftOn_31 : decode cX0_leftOn 31 = .ok (.iload_n 1, 1) := by decide +kernel
theorem dX0_leftOn_32 : decode cX0_leftOn 32 = .ok (.iaload, 1) := by decide +kernel
theorem dX0_leftOn_33 : decode cX0_leftOn 33 = .ok (.isub, 1) := by decide +kernel
theorem dX0_leftOn_34 : decode cX0_leftOn 34 = .ok (.ireturn, 1) := by decide +kernel
theorem dX1_init_0 : decode cX1_init 0 = .ok (.aload_n 0, 1) := by decide +kernel
theorem dX1_init_1 : decode cX1_init 1 = .ok (.invokespecial 3, 3) := by decide +kernel
theorem dX1_init_4 : decode cX1_init 4 = .ok (.aload_n 0, 1) := by decide +kernel
theorem dX1_init_5 : decode cX1_init 5 = .ok (.sipush 200, 3) := by decide +kernel
theorem dX1_init_8 : decode cX1_init 8 = .ok (.newarray .int, 2) := by decide +kernel
theorem dX1_init_10 : decode cX1_init 10 = .ok (.putfield 9, 3) := by decide +kernel
theorem dX1_init_13 : decode cX1_init 13 = .ok (.aload_n 0, 1) := by decide +kernel
theorem dX1_init_14 : decode cX1_init 14 = .ok (.sipush 200, 3) := by decide +kernel
theorem dX1_init_17 : decode cX1_init 17 = .ok (.newarray .int, 2) := by decide +kernel
theorem dX1_init_19 : decode cX1_init 19 = .ok (.putfield 15, 3) := by decide +kernel
theorem dX1_init_22 : decode cX1_init 22 = .ok (.aload_n 0, 1) := by decide +kernel
theorem dX1_init_23 : decode cX1_init 23 = .ok (.sipush 200, 3) := by decide +kernel
theorem dX1_init_26 : decode cX1_init 26 = .ok (.newarray .int, 2) := by decide +kernel
theorem dX1_init_28 : decode cX1_init 28 = .ok (.putfield 18, 3) := by decide +kernel
theorem dX1_init_31 : decode cX1_init 31 = .ok (.aload_n 0, 1) := by decide +kernel
theorem dX1_init_32 : decode cX1_init 32 = .ok (.sipush 200, 3) := by decide +kernel
theorem dX1_init_35 : decode cX1_init 35 = .ok (.newarray .int, 2) := by decide +kernel
theorem dX1_init_37 : decode cX1_init 37 = .ok (.putfield 21, 3) := by decide +kernel
theorem dX1_init_40 : decode cX1_init 40 = .ok (.aload_n 0, 1) := by decide +kernel
theorem dX1_init_41 : decode cX1_init 41 = .ok (.sipush 200, 3) := by decide +kernel
theorem dX1_init_44 : decode cX1_init 44 = .ok (.newarray .int, 2) := by decide +kernel
theorem dX1_init_46 : decode cX1_init 46 = .ok (.putfield 24, 3) := by decide +kernel
theorem dX1_init_49 : decode cX1_init 49 = .ok (.aload_n 0, 1) := by decide +kernel
theorem dX1_init_50 : decode cX1_init 50 = .ok (.sipush 200, 3) := by decide +kernel
theorem dX1_init_53 : decode cX1_init 53 = .ok (.newarray .int, 2) := by decide +kernel
theorem dX1_init_55 : decode cX1_init 55 = .ok (.putfield 27, 3) := by decide +kernel
theorem dX1_init_58 : decode cX1_init 58 = .ok (.aload_n 0, 1) := by decide +kernel
theorem dX1_init_59 : decode cX1_init 59 = .ok (.sipush 200, 3) := by decide +kernel
theorem dX1_init_62 : decode cX1_init 62 = .ok (.newarray .int, 2) := by decide +kernel
theorem dX1_init_64 : decode cX1_init 64 = .ok (.putfield 30, 3) := by decide +kernel
theorem dX1_init_67 : decode cX1_init 67 = .ok (.aload_n 0, 1) := by decide +kernel
theorem dX1_init_68 : decode cX1_init 68 = .ok (.sipush 200, 3) := by decide +kernel
theorem dX1_init_71 : decode cX1_init 71 = .ok (.newarray .boolean, 2) := by decide +kernel
theorem dX1_init_73 : decode cX1_init 73 = .ok (.putfield 33, 3) := by decide +kernel
theorem dX1_init_76 : decode cX1_init 76 = .ok (.aload_n 0, 1) := by decide +kernel
theorem dX1_init_77 : decode cX1_init 77 = .ok (.sipush 200, 3) := by decide +kernel
theorem dX1_init_80 : decode cX1_init 80 = .ok (.newarray .boolean, 2) := by decide +kernel
theorem dX1_init_82 : decode cX1_init 82 = .ok (.putfield 37, 3) := by decide +kernel
theorem dX1_init_85 : decode cX1_init 85 = .ok (.aload_n 0, 1) := by decide +kernel
theorem dX1_init_86 : decode cX1_init 86 = .ok (.iconst 0, 1) := by decide +kernel
theorem dX1_init_87 : decode cX1_init 87 = .ok (.putfield 40, 3) := by decide +kernel
theorem dX1_init_90 : decode cX1_init 90 = .ok (.return_, 1) := by decide +kernel
theorem dX1_size_0 : decode cX1_size 0 = .ok (.aload_n 0, 1) := by decide +kernel
theorem dX1_size_1 : decode cX1_size 1 = .ok (.getfield 40, 3) := by decide +kernel
theorem dX1_size_4 : decode cX1_size 4 = .ok (.ireturn, 1) := by decide +kernel
theorem dX1_areFull_0 : decode cX1_areFull 0 = .ok (.aload_n 0, 1) := by decide +kernel
theorem dX1_areFull_1 : decode cX1_areFull 1 = .ok (.getfield 40, 3) := by decide +kernel
theorem dX1_areFull_4 : decode cX1_areFull 4 = .ok (.sipush 200, 3) := by decide +kernel
theorem dX1_areFull_7 : decode cX1_areFull 7 = .ok (.if_icmp .lt 7, 3) := by decide +kernel
theorem dX1_areFull_10 : decode cX1_areFull 10 = .ok (.iconst 1, 1) := by decide +kernel
theorem dX1_areFull_11 : decode cX1_areFull 11 = .ok (.goto 4, 3) := by decide +kernel
theorem dX1_areFull_14 : decode cX1_areFull 14 = .ok (.iconst 0, 1) := by decide +kernel
theorem dX1_areFull_15 : decode cX1_areFull 15 = .ok (.ireturn, 1) := by decide +kernel
theorem dX1_has_0 : decode cX1_has 0 = .ok (.iload_n 1, 1) := by decide +kernel
theorem dX1_has_1 : decode cX1_has 1 = .ok (.iconst 0, 1) := by decide +kernel
theorem dX1_has_2 : decode cX1_has 2 = .ok (.aload_n 0, 1) := by decide +kernel
theorem dX1_has_3 : decode cX1_has 3 = .ok (.getfield 40, 3) := by decide +kernel
theorem dX1_has_6 : decode cX1_has 6 = .ok (.iconst 1, 1) := by decide +kernel
theorem dX1_has_7 : decode cX1_has 7 = .ok (.isub, 1) := by decide +kernel
theorem dX1_has_8 : decode cX1_has 8 = .ok (.invokestatic 44, 3) := by decide +kernel
theorem dX1_has_11 : decode cX1_has 11 = .ok (.ireturn, 1) := by decide +kernel
theorem dX1_add_0 : decode cX1_add 0 = .ok (.aload_n 0, 1) := by decide +kernel
theorem dX1_add_1 : decode cX1_add 1 = .ok (.getfield 40, 3) := by decide +kernel
theorem dX1_add_4 : decode cX1_add 4 = .ok (.istore 8, 2) := by decide +kernel
theorem dX1_add_6 : decode cX1_add 6 = .ok (.aload_n 0, 1) := by decide +kernel
theorem dX1_add_7 : decode cX1_add 7 = .ok (.getfield 9, 3) := by decide +kernel
theorem dX1_add_10 : decode cX1_add 10 = .ok (.iload 8, 2) := by decide +kernel
theorem dX1_add_12 : decode cX1_add 12 = .ok (.iload_n 1, 1) := by decide +kernel
theorem dX1_add_13 : decode cX1_add 13 = .ok (.iastore, 1) := by decide +kernel
theorem dX1_add_14 : decode cX1_add 14 = .ok (.aload_n 0, 1) := by decide +kernel
theorem dX1_add_15 : decode cX1_add 15 = .ok (.getfield 15, 3) := by decide +kernel
theorem dX1_add_18 : decode cX1_add 18 = .ok (.iload 8, 2) := by decide +kernel
theorem dX1_add_20 : decode cX1_add 20 = .ok (.iload_n 2, 1) := by decide +kernel
theorem dX1_add_21 : decode cX1_add 21 = .ok (.iastore, 1) := by decide +kernel
theorem dX1_add_22 : decode cX1_add 22 = .ok (.aload_n 0, 1) := by decide +kernel
theorem dX1_add_23 : decode cX1_add 23 = .ok (.getfield 18, 3) := by decide +kernel
theorem dX1_add_26 : decode cX1_add 26 = .ok (.iload 8, 2) := by decide +kernel
theorem dX1_add_28 : decode cX1_add 28 = .ok (.iload_n 3, 1) := by decide +kernel
theorem dX1_add_29 : decode cX1_add 29 = .ok (.iastore, 1) := by decide +kernel
theorem dX1_add_30 : decode cX1_add 30 = .ok (.aload_n 0, 1) := by decide +kernel
theorem dX1_add_31 : decode cX1_add 31 = .ok (.getfield 21, 3) := by decide +kernel
theorem dX1_add_34 : decode cX1_add 34 = .ok (.iload 8, 2) := by decide +kernel
theorem dX1_add_36 : decode cX1_add 36 = .ok (.iload 4, 2) := by decide +kernel
theorem dX1_add_38 : decode cX1_add 38 = .ok (.iastore, 1) := by decide +kernel
theorem dX1_add_39 : decode cX1_add 39 = .ok (.aload_n 0, 1) := by decide +kernel
theorem dX1_add_40 : decode cX1_add 40 = .ok (.getfield 24, 3) := by decide +kernel
theorem dX1_add_43 : decode cX1_add 43 = .ok (.iload 8, 2) := by decide +kernel
theorem dX1_add_45 : decode cX1_add 45 = .ok (.iload 5, 2) := by decide +kernel
theorem dX1_add_47 : decode cX1_add 47 = .ok (.iastore, 1) := by decide +kernel
theorem dX1_add_48 : decode cX1_add 48 = .ok (.aload_n 0, 1) := by decide +kernel
theorem dX1_add_49 : decode cX1_add 49 = .ok (.getfield 27, 3) := by decide +kernel
theorem dX1_add_52 : decode cX1_add 52 = .ok (.iload 8, 2) := by decide +kernel
theorem dX1_add_54 : decode cX1_add 54 = .ok (.iload 6, 2) := by decide +kernel
theorem dX1_add_56 : decode cX1_add 56 = .ok (.iastore, 1) := by decide +kernel
theorem dX1_add_57 : decode cX1_add 57 = .ok (.aload_n 0, 1) := by decide +kernel
theorem dX1_add_58 : decode cX1_add 58 = .ok (.getfield 30, 3) := by decide +kernel
theorem dX1_add_61 : decode cX1_add 61 = .ok (.iload 8, 2) := by decide +kernel
theorem dX1_add_63 : decode cX1_add 63 = .ok (.iload 7, 2) := by decide +kernel
theorem dX1_add_65 : decode cX1_add 65 = .ok (.iastore, 1) := by decide +kernel
theorem dX1_add_66 : decode cX1_add 66 = .ok (.aload_n 0, 1) := by decide +kernel
theorem dX1_add_67 : decode cX1_add 67 = .ok (.dup, 1) := by decide +kernel
theorem dX1_add_68 : decode cX1_add 68 = .ok (.getfield 40, 3) := by decide +kernel
theorem dX1_add_71 : decode cX1_add 71 = .ok (.iconst 1, 1) := by decide +kernel
theorem dX1_add_72 : decode cX1_add 72 = .ok (.iadd, 1) := by decide +kernel
theorem dX1_add_73 : decode cX1_add 73 = .ok (.putfield 40, 3) := by decide +kernel
theorem dX1_add_76 : decode cX1_add 76 = .ok (.iload 8, 2) := by decide +kernel
theorem dX1_add_78 : decode cX1_add 78 = .ok (.ireturn, 1) := by decide +kernel
theorem dX1_yearOf_0 : decode cX1_yearOf 0 = .ok (.aload_n 0, 1) := by decide +kernel
theorem dX1_yearOf_1 : decode cX1_yearOf 1 = .ok (.getfield 15, 3) := by decide +kernel
theorem dX1_yearOf_4 : decode cX1_yearOf 4 = .ok (.iload_n 1, 1) := by decide +kernel
theorem dX1_yearOf_5 : decode cX1_yearOf 5 = .ok (.iaload, 1) := by decide +kernel
theorem dX1_yearOf_6 : decode cX1_yearOf 6 = .ok (.ireturn, 1) := by decide +kernel
theorem dX1_canBeStruck_0 : decode cX1_canBeStruck 0 = .ok (.aload_n 0, 1) := by decide +kernel
theorem dX1_canBeStruck_1 : decode cX1_canBeStruck 1 = .ok (.getfield 9, 3) := by decide +kernel
theorem dX1_canBeStruck_4 : decode cX1_canBeStruck 4 = .ok (.iload_n 1, 1) := by decide +kernel
theorem dX1_canBeStruck_5 : decode cX1_canBeStruck 5 = .ok (.iaload, 1) := by decide +kernel
theorem dX1_canBeStruck_6 : decode cX1_canBeStruck 6 = .ok (.iconst 1, 1) := by decide +kernel
theorem dX1_canBeStruck_7 : decode cX1_canBeStruck 7 = .ok (.if_icmp .ne 16, 3) := by decide +kernel
theorem dX1_canBeStruck_10 : decode cX1_canBeStruck 10 = .ok (.aload_n 0, 1) := by decide +kernel
theorem dX1_canBeStruck_11 : decode cX1_canBeStruck 11 = .ok (.getfield 33, 3) := by decide +kernel
theorem dX1_canBeStruck_14 : decode cX1_canBeStruck 14 = .ok (.iload_n 1, 1) := by decide +kernel
theorem dX1_canBeStruck_15 : decode cX1_canBeStruck 15 = .ok (.baload, 1) := by decide +kernel
theorem dX1_canBeStruck_16 : decode cX1_canBeStruck 16 = .ok (.ifCond .ne 7, 3) := by decide +kernel
theorem dX1_canBeStruck_19 : decode cX1_canBeStruck 19 = .ok (.iconst 1, 1) := by decide +kernel
theorem dX1_canBeStruck_20 : decode cX1_canBeStruck 20 = .ok (.goto 4, 3) := by decide +kernel
theorem dX1_canBeStruck_23 : decode cX1_canBeStruck 23 = .ok (.iconst 0, 1) := by decide +kernel
theorem dX1_canBeStruck_24 : decode cX1_canBeStruck 24 = .ok (.ireturn, 1) := by decide +kernel
theorem dX1_markStruck_0 : decode cX1_markStruck 0 = .ok (.aload_n 0, 1) := by decide +kernel
theorem dX1_markStruck_1 : decode cX1_markStruck 1 = .ok (.getfield 33, 3) := by decide +kernel
theorem dX1_markStruck_4 : decode cX1_markStruck 4 = .ok (.iload_n 1, 1) := by decide +kernel
theorem dX1_markStruck_5 : decode cX1_markStruck 5 = .ok (.iconst 1, 1) := by decide +kernel
theorem dX1_markStruck_6 : decode cX1_markStruck 6 = .ok (.bastore, 1) := by decide +kernel
theorem dX1_markStruck_7 : decode cX1_markStruck 7 = .ok (.return_, 1) := by decide +kernel
theorem dX1_workYear_0 : decode cX1_workYear 0 = .ok (.iconst 0, 1) := by decide +kernel
theorem dX1_workYear_1 : decode cX1_workYear 1 = .ok (.istore_n 3, 1) := by decide +kernel
theorem dX1_workYear_2 : decode cX1_workYear 2 = .ok (.iload_n 3, 1) := by decide +kernel
theorem dX1_workYear_3 : decode cX1_workYear 3 = .ok (.aload_n 0, 1) := by decide +kernel
theorem dX1_workYear_4 : decode cX1_workYear 4 = .ok (.getfield 40, 3) := by decide +kernel
theorem dX1_workYear_7 : decode cX1_workYear 7 = .ok (.if_icmp .ge 25, 3) := by decide +kernel
theorem dX1_workYear_10 : decode cX1_workYear 10 = .ok (.aload_n 0, 1) := by decide +kernel
theorem dX1_workYear_11 : decode cX1_workYear 11 = .ok (.getfield 15, 3) := by decide +kernel
theorem dX1_workYear_14 : decode cX1_workYear 14 = .ok (.iload_n 3, 1) := by decide +kernel
theorem dX1_workYear_15 : decode cX1_workYear 15 = .ok (.iaload, 1) := by decide +kernel
theorem dX1_workYear_16 : decode cX1_workYear 16 = .ok (.iload_n 1, 1) := by decide +kernel
theorem dX1_workYear_17 : decode cX1_workYear 17 = .ok (.if_icmp .ne 9, 3) := by decide +kernel
theorem dX1_workYear_20 : decode cX1_workYear 20 = .ok (.aload_n 0, 1) := by decide +kernel
theorem dX1_workYear_21 : decode cX1_workYear 21 = .ok (.iload_n 3, 1) := by decide +kernel
theorem dX1_workYear_22 : decode cX1_workYear 22 = .ok (.aload_n 2, 1) := by decide +kernel
theorem dX1_workYear_23 : decode cX1_workYear 23 = .ok (.invokevirtual 48, 3) := by decide +kernel
theorem dX1_workYear_26 : decode cX1_workYear 26 = .ok (.iinc 3 1, 3) := by decide +kernel
theorem dX1_workYear_29 : decode cX1_workYear 29 = .ok (.goto (-27), 3) := by decide +kernel
theorem dX1_workYear_32 : decode cX1_workYear 32 = .ok (.return_, 1) := by decide +kernel
theorem dX1_work_0 : decode cX1_work 0 = .ok (.aload_n 0, 1) := by decide +kernel
theorem dX1_work_1 : decode cX1_work 1 = .ok (.getfield 9, 3) := by decide +kernel
theorem dX1_work_4 : decode cX1_work 4 = .ok (.iload_n 1, 1) := by decide +kernel
theorem dX1_work_5 : decode cX1_work 5 = .ok (.iaload, 1) := by decide +kernel
theorem dX1_work_6 : decode cX1_work 6 = .ok (.lookupswitch 56 #[(0, 26), (1, 41)], 26) := by decide +kernel
theorem dX1_work_32 : decode cX1_work 32 = .ok (.aload_n 0, 1) := by decide +kernel
theorem dX1_work_33 : decode cX1_work 33 = .ok (.getfield 37, 3) := by decide +kernel
theorem dX1_work_36 : decode cX1_work 36 = .ok (.iload_n 1, 1) := by decide +kernel
theorem dX1_work_37 : decode cX1_work 37 = .ok (.aload_n 0, 1) := by decide +kernel
theorem dX1_work_38 : decode cX1_work 38 = .ok (.iload_n 1, 1) := by decide +kernel
theorem dX1_work_39 : decode cX1_work 39 = .ok (.aload_n 2, 1) := by decide +kernel
theorem dX1_work_40 : decode cX1_work 40 = .ok (.invokevirtual 52, 3) := by decide +kernel
theorem dX1_work_43 : decode cX1_work 43 = .ok (.bastore, 1) := by decide +kernel
theorem dX1_work_44 : decode cX1_work 44 = .ok (.goto 30, 3) := by decide +kernel
theorem dX1_work_47 : decode cX1_work 47 = .ok (.aload_n 0, 1) := by decide +kernel
theorem dX1_work_48 : decode cX1_work 48 = .ok (.getfield 37, 3) := by decide +kernel
theorem dX1_work_51 : decode cX1_work 51 = .ok (.iload_n 1, 1) := by decide +kernel
theorem dX1_work_52 : decode cX1_work 52 = .ok (.aload_n 0, 1) := by decide +kernel
theorem dX1_work_53 : decode cX1_work 53 = .ok (.iload_n 1, 1) := by decide +kernel
theorem dX1_work_54 : decode cX1_work 54 = .ok (.aload_n 2, 1) := by decide +kernel
theorem dX1_work_55 : decode cX1_work 55 = .ok (.invokevirtual 56, 3) := by decide +kernel
theorem dX1_work_58 : decode cX1_work 58 = .ok (.bastore, 1) := by decide +kernel
theorem dX1_work_59 : decode cX1_work 59 = .ok (.goto 15, 3) := by decide +kernel
theorem dX1_work_62 : decode cX1_work 62 = .ok (.aload_n 0, 1) := by decide +kernel
theorem dX1_work_63 : decode cX1_work 63 = .ok (.getfield 37, 3) := by decide +kernel
theorem dX1_work_66 : decode cX1_work 66 = .ok (.iload_n 1, 1) := by decide +kernel
theorem dX1_work_67 : decode cX1_work 67 = .ok (.aload_n 0, 1) := by decide +kernel
theorem dX1_work_68 : decode cX1_work 68 = .ok (.iload_n 1, 1) := by decide +kernel
theorem dX1_work_69 : decode cX1_work 69 = .ok (.aload_n 2, 1) := by decide +kernel
theorem dX1_work_70 : decode cX1_work 70 = .ok (.invokevirtual 59, 3) := by decide +kernel
theorem dX1_work_73 : decode cX1_work 73 = .ok (.bastore, 1) := by decide +kernel
theorem dX1_work_74 : decode cX1_work 74 = .ok (.return_, 1) := by decide +kernel
theorem dX1_workLease_0 : decode cX1_workLease 0 = .ok (.aload_n 2, 1) := by decide +kernel
theorem dX1_workLease_1 : decode cX1_workLease 1 = .ok (.aload_n 0, 1) := by decide +kernel
theorem dX1_workLease_2 : decode cX1_workLease 2 = .ok (.getfield 15, 3) := by decide +kernel
theorem dX1_workLease_5 : decode cX1_workLease 5 = .ok (.iload_n 1, 1) := by decide +kernel
theorem dX1_workLease_6 : decode cX1_workLease 6 = .ok (.iaload, 1) := by decide +kernel
theorem dX1_workLease_7 : decode cX1_workLease 7 = .ok (.aload_n 0, 1) := by decide +kernel
theorem dX1_workLease_8 : decode cX1_workLease 8 = .ok (.getfield 18, 3) := by decide +kernel
theorem dX1_workLease_11 : decode cX1_workLease 11 = .ok (.iload_n 1, 1) := by decide +kernel
theorem dX1_workLease_12 : decode cX1_workLease 12 = .ok (.iaload, 1) := by decide +kernel
theorem dX1_workLease_13 : decode cX1_workLease 13 = .ok (.aload_n 0, 1) := by decide +kernel
theorem dX1_workLease_14 : decode cX1_workLease 14 = .ok (.getfield 21, 3) := by decide +kernel
theorem dX1_workLease_17 : decode cX1_workLease 17 = .ok (.iload_n 1, 1) := by decide +kernel
theorem dX1_workLease_18 : decode cX1_workLease 18 = .ok (.iaload, 1) := by decide +kernel
theorem dX1_workLease_19 : decode cX1_workLease 19 = .ok (.aload_n 0, 1) := by decide +kernel
theorem dX1_workLease_20 : decode cX1_workLease 20 = .ok (.getfield 30, 3) := by decide +kernel
theorem dX1_workLease_23 : decode cX1_workLease 23 = .ok (.iload_n 1, 1) := by decide +kernel
theorem dX1_workLease_24 : decode cX1_workLease 24 = .ok (.iaload, 1) := by decide +kernel
theorem dX1_workLease_25 : decode cX1_workLease 25 = .ok (.invokevirtual 62, 3) := by decide +kernel
theorem dX1_workLease_28 : decode cX1_workLease 28 = .ok (.ifCond .ne 5, 3) := by decide +kernel
theorem dX1_workLease_31 : decode cX1_workLease 31 = .ok (.iconst 0, 1) := by decide +kernel
theorem dX1_workLease_32 : decode cX1_workLease 32 = .ok (.ireturn, 1) := by decide +kernel
theorem dX1_workLease_33 : decode cX1_workLease 33 = .ok (.aload_n 2, 1) := by decide +kernel
theorem dX1_workLease_34 : decode cX1_workLease 34 = .ok (.aload_n 0, 1) := by decide +kernel
theorem dX1_workLease_35 : decode cX1_workLease 35 = .ok (.getfield 15, 3) := by decide +kernel
theorem dX1_workLease_38 : decode cX1_workLease 38 = .ok (.iload_n 1, 1) := by decide +kernel
theorem dX1_workLease_39 : decode cX1_workLease 39 = .ok (.iaload, 1) := by decide +kernel
theorem dX1_workLease_40 : decode cX1_workLease 40 = .ok (.aload_n 0, 1) := by decide +kernel
theorem dX1_workLease_41 : decode cX1_workLease 41 = .ok (.getfield 21, 3) := by decide +kernel
theorem dX1_workLease_44 : decode cX1_workLease 44 = .ok (.iload_n 1, 1) := by decide +kernel
theorem dX1_workLease_45 : decode cX1_workLease 45 = .ok (.iaload, 1) := by decide +kernel
theorem dX1_workLease_46 : decode cX1_workLease 46 = .ok (.aload_n 0, 1) := by decide +kernel
theorem dX1_workLease_47 : decode cX1_workLease 47 = .ok (.getfield 18, 3) := by decide +kernel
theorem dX1_workLease_50 : decode cX1_workLease 50 = .ok (.iload_n 1, 1) := by decide +kernel
theorem dX1_workLease_51 : decode cX1_workLease 51 = .ok (.iaload, 1) := by decide +kernel
theorem dX1_workLease_52 : decode cX1_workLease 52 = .ok (.aload_n 0, 1) := by decide +kernel
theorem dX1_workLease_53 : decode cX1_workLease 53 = .ok (.getfield 24, 3) := by decide +kernel
theorem dX1_workLease_56 : decode cX1_workLease 56 = .ok (.iload_n 1, 1) := by decide +kernel
theorem dX1_workLease_57 : decode cX1_workLease 57 = .ok (.iaload, 1) := by decide +kernel
theorem dX1_workLease_58 : decode cX1_workLease 58 = .ok (.aload_n 0, 1) := by decide +kernel
theorem dX1_workLease_59 : decode cX1_workLease 59 = .ok (.getfield 30, 3) := by decide +kernel
theorem dX1_workLease_62 : decode cX1_workLease 62 = .ok (.iload_n 1, 1) := by decide +kernel
theorem dX1_workLease_63 : decode cX1_workLease 63 = .ok (.iaload, 1) := by decide +kernel
theorem dX1_workLease_64 : decode cX1_workLease 64 = .ok (.invokevirtual 68, 3) := by decide +kernel
theorem dX1_workLease_67 : decode cX1_workLease 67 = .ok (.iconst 1, 1) := by decide +kernel
theorem dX1_workLease_68 : decode cX1_workLease 68 = .ok (.ireturn, 1) := by decide +kernel
theorem dX1_workLanding_0 : decode cX1_workLanding 0 = .ok (.aload_n 0, 1) := by decide +kernel
theorem dX1_workLanding_1 : decode cX1_workLanding 1 = .ok (.getfield 33, 3) := by decide +kernel
theorem dX1_workLanding_4 : decode cX1_workLanding 4 = .ok (.iload_n 1, 1) := by decide +kernel
theorem dX1_workLanding_5 : decode cX1_workLanding 5 = .ok (.baload, 1) := by decide +kernel
theorem dX1_workLanding_6 : decode cX1_workLanding 6 = .ok (.ifCond .eq 5, 3) := by decide +kernel
theorem dX1_workLanding_9 : decode cX1_workLanding 9 = .ok (.iconst 0, 1) := by decide +kernel
theorem dX1_workLanding_10 : decode cX1_workLanding 10 = .ok (.ireturn, 1) := by decide +kernel
theorem dX1_workLanding_11 : decode cX1_workLanding 11 = .ok (.aload_n 2, 1) := by decide +kernel
theorem dX1_workLanding_12 : decode cX1_workLanding 12 = .ok (.aload_n 0, 1) := by decide +kernel
theorem dX1_workLanding_13 : decode cX1_workLanding 13 = .ok (.getfield 15, 3) := by decide +kernel
theorem dX1_workLanding_16 : decode cX1_workLanding 16 = .ok (.iload_n 1, 1) := by decide +kernel
theorem dX1_workLanding_17 : decode cX1_workLanding 17 = .ok (.iaload, 1) := by decide +kernel
theorem dX1_workLanding_18 : decode cX1_workLanding 18 = .ok (.aload_n 0, 1) := by decide +kernel
theorem dX1_workLanding_19 : decode cX1_workLanding 19 = .ok (.getfield 18, 3) := by decide +kernel
theorem dX1_workLanding_22 : decode cX1_workLanding 22 = .ok (.iload_n 1, 1) := by decide +kernel
theorem dX1_workLanding_23 : decode cX1_workLanding 23 = .ok (.iaload, 1) := by decide +kernel
theorem dX1_workLanding_24 : decode cX1_workLanding 24 = .ok (.aload_n 0, 1) := by decide +kernel
theorem dX1_workLanding_25 : decode cX1_workLanding 25 = .ok (.getfield 21, 3) := by decide +kernel
theorem dX1_workLanding_28 : decode cX1_workLanding 28 = .ok (.iload_n 1, 1) := by decide +kernel
theorem dX1_workLanding_29 : decode cX1_workLanding 29 = .ok (.iaload, 1) := by decide +kernel
theorem dX1_workLanding_30 : decode cX1_workLanding 30 = .ok (.aload_n 0, 1) := by decide +kernel
theorem dX1_workLanding_31 : decode cX1_workLanding 31 = .ok (.getfield 30, 3) := by decide +kernel
theorem dX1_workLanding_34 : decode cX1_workLanding 34 = .ok (.iload_n 1, 1) := by decide +kernel
theorem dX1_workLanding_35 : decode cX1_workLanding 35 = .ok (.iaload, 1) := by decide +kernel
theorem dX1_workLanding_36 : decode cX1_workLanding 36 = .ok (.invokevirtual 72, 3) := by decide +kernel
theorem dX1_workLanding_39 : decode cX1_workLanding 39 = .ok (.iconst 1, 1) := by decide +kernel
theorem dX1_workLanding_40 : decode cX1_workLanding 40 = .ok (.ireturn, 1) := by decide +kernel
theorem dX1_workEquivalent_0 : decode cX1_workEquivalent 0 = .ok (.aload_n 2, 1) := by decide +kernel
theorem dX1_workEquivalent_1 : decode cX1_workEquivalent 1 = .ok (.aload_n 0, 1) := by decide +kernel
theorem dX1_workEquivalent_2 : decode cX1_workEquivalent 2 = .ok (.getfield 15, 3) := by decide +kernel
theorem dX1_workEquivalent_5 : decode cX1_workEquivalent 5 = .ok (.iload_n 1, 1) := by decide +kernel
theorem dX1_workEquivalent_6 : decode cX1_workEquivalent 6 = .ok (.iaload, 1) := by decide +kernel
theorem dX1_workEquivalent_7 : decode cX1_workEquivalent 7 = .ok (.aload_n 0, 1) := by decide +kernel
theorem dX1_workEquivalent_8 : decode cX1_workEquivalent 8 = .ok (.getfield 18, 3) := by decide +kernel
theorem dX1_workEquivalent_11 : decode cX1_workEquivalent 11 = .ok (.iload_n 1, 1) := by decide +kernel
theorem dX1_workEquivalent_12 : decode cX1_workEquivalent 12 = .ok (.iaload, 1) := by decide +kernel
theorem dX1_workEquivalent_13 : decode cX1_workEquivalent 13 = .ok (.aload_n 0, 1) := by decide +kernel
theorem dX1_workEquivalent_14 : decode cX1_workEquivalent 14 = .ok (.getfield 21, 3) := by decide +kernel
theorem dX1_workEquivalent_17 : decode cX1_workEquivalent 17 = .ok (.iload_n 1, 1) := by decide +kernel
theorem dX1_workEquivalent_18 : decode cX1_workEquivalent 18 = .ok (.iaload, 1) := by decide +kernel
theorem dX1_workEquivalent_19 : decode cX1_workEquivalent 19 = .ok (.aload_n 0, 1) := by decide +kernel
theorem dX1_workEquivalent_20 : decode cX1_workEquivalent 20 = .ok (.getfield 24, 3) := by decide +kernel
theorem dX1_workEquivalent_23 : decode cX1_workEquivalent 23 = .ok (.iload_n 1, 1) := by decide +kernel
theorem dX1_workEquivalent_24 : decode cX1_workEquivalent 24 = .ok (.iaload, 1) := by decide +kernel
theorem dX1_workEquivalent_25 : decode cX1_workEquivalent 25 = .ok (.aload_n 0, 1) := by decide +kernel
theorem dX1_workEquivalent_26 : decode cX1_workEquivalent 26 = .ok (.getfield 27, 3) := by decide +kernel
theorem dX1_workEquivalent_29 : decode cX1_workEquivalent 29 = .ok (.iload_n 1, 1) := by decide +kernel
theorem dX1_workEquivalent_30 : decode cX1_workEquivalent 30 = .ok (.iaload, 1) := by decide +kernel
theorem dX1_workEquivalent_31 : decode cX1_workEquivalent 31 = .ok (.aload_n 0, 1) := by decide +kernel
theorem dX1_workEquivalent_32 : decode cX1_workEquivalent 32 = .ok (.getfield 30, 3) := by decide +kernel
theorem dX1_workEquivalent_35 : decode cX1_workEquivalent 35 = .ok (.iload_n 1, 1) := by decide +kernel
theorem dX1_workEquivalent_36 : decode cX1_workEquivalent 36 = .ok (.iaload, 1) := by decide +kernel
theorem dX1_workEquivalent_37 : decode cX1_workEquivalent 37 = .ok (.invokevirtual 76, 3) := by decide +kernel
theorem dX1_workEquivalent_40 : decode cX1_workEquivalent 40 = .ok (.ifCond .ne 5, 3) := by decide +kernel
theorem dX1_workEquivalent_43 : decode cX1_workEquivalent 43 = .ok (.iconst 0, 1) := by decide +kernel
theorem dX1_workEquivalent_44 : decode cX1_workEquivalent 44 = .ok (.ireturn, 1) := by decide +kernel
theorem dX1_workEquivalent_45 : decode cX1_workEquivalent 45 = .ok (.aload_n 2, 1) := by decide +kernel
theorem dX1_workEquivalent_46 : decode cX1_workEquivalent 46 = .ok (.aload_n 0, 1) := by decide +kernel
theorem dX1_workEquivalent_47 : decode cX1_workEquivalent 47 = .ok (.getfield 15, 3) := by decide +kernel
theorem dX1_workEquivalent_50 : decode cX1_workEquivalent 50 = .ok (.iload_n 1, 1) := by decide +kernel
theorem dX1_workEquivalent_51 : decode cX1_workEquivalent 51 = .ok (.iaload, 1) := by decide +kernel
theorem dX1_workEquivalent_52 : decode cX1_workEquivalent 52 = .ok (.aload_n 0, 1) := by decide +kernel
theorem dX1_workEquivalent_53 : decode cX1_workEquivalent 53 = .ok (.getfield 18, 3) := by decide +kernel
theorem dX1_workEquivalent_56 : decode cX1_workEquivalent 56 = .ok (.iload_n 1, 1) := by decide +kernel
theorem dX1_workEquivalent_57 : decode cX1_workEquivalent 57 = .ok (.iaload, 1) := by decide +kernel
theorem dX1_workEquivalent_58 : decode cX1_workEquivalent 58 = .ok (.aload_n 0, 1) := by decide +kernel
theorem dX1_workEquivalent_59 : decode cX1_workEquivalent 59 = .ok (.getfield 21, 3) := by decide +kernel
theorem dX1_workEquivalent_62 : decode cX1_workEquivalent 62 = .ok (.iload_n 1, 1) := by decide +kernel
theorem dX1_workEquivalent_63 : decode cX1_workEquivalent 63 = .ok (.iaload, 1) := by decide +kernel
theorem dX1_workEquivalent_64 : decode cX1_workEquivalent 64 = .ok (.aload_n 0, 1) := by decide +kernel
theorem dX1_workEquivalent_65 : decode cX1_workEquivalent 65 = .ok (.getfield 24, 3) := by decide +kernel
theorem dX1_workEquivalent_68 : decode cX1_workEquivalent 68 = .ok (.iload_n 1, 1) := by decide +kernel
theorem dX1_workEquivalent_69 : decode cX1_workEquivalent 69 = .ok (.iaload, 1) := by decide +kernel
theorem dX1_workEquivalent_70 : decode cX1_workEquivalent 70 = .ok (.aload_n 0, 1) := by decide +kernel
theorem dX1_workEquivalent_71 : decode cX1_workEquivalent 71 = .ok (.getfield 27, 3) := by decide +kernel
theorem dX1_workEquivalent_74 : decode cX1_workEquivalent 74 = .ok (.iload_n 1, 1) := by decide +kernel
theorem dX1_workEquivalent_75 : decode cX1_workEquivalent 75 = .ok (.iaload, 1) := by decide +kernel
theorem dX1_workEquivalent_76 : decode cX1_workEquivalent 76 = .ok (.aload_n 0, 1) := by decide +kernel
theorem dX1_workEquivalent_77 : decode cX1_workEquivalent 77 = .ok (.getfield 30, 3) := by decide +kernel
theorem dX1_workEquivalent_80 : decode cX1_workEquivalent 80 = .ok (.iload_n 1, 1) := by decide +kernel
theorem dX1_workEquivalent_81 : decode cX1_workEquivalent 81 = .ok (.iaload, 1) := by decide +kernel
theorem dX1_workEquivalent_82 : decode cX1_workEquivalent 82 = .ok (.invokevirtual 80, 3) := by decide +kernel
theorem dX1_workEquivalent_85 : decode cX1_workEquivalent 85 = .ok (.iconst 1, 1) := by decide +kernel
theorem dX1_workEquivalent_86 : decode cX1_workEquivalent 86 = .ok (.ireturn, 1) := by decide +kernel
theorem dX1_countCounting_0 : decode cX1_countCounting 0 = .ok (.iconst 0, 1) := by decide +kernel
theorem dX1_countCounting_1 : decode cX1_countCounting 1 = .ok (.istore_n 1, 1) := by decide +kernel
theorem dX1_countCounting_2 : decode cX1_countCounting 2 = .ok (.iconst 0, 1) := by decide +kernel
theorem dX1_countCounting_3 : decode cX1_countCounting 3 = .ok (.istore_n 2, 1) := by decide +kernel
theorem dX1_countCounting_4 : decode cX1_countCounting 4 = .ok (.iload_n 2, 1) := by decide +kernel
theorem dX1_countCounting_5 : decode cX1_countCounting 5 = .ok (.aload_n 0, 1) := by decide +kernel
theorem dX1_countCounting_6 : decode cX1_countCounting 6 = .ok (.getfield 40, 3) := by decide +kernel
theorem dX1_countCounting_9 : decode cX1_countCounting 9 = .ok (.if_icmp .ge 21, 3) := by decide +kernel
theorem dX1_countCounting_12 : decode cX1_countCounting 12 = .ok (.aload_n 0, 1) := by decide +kernel
theorem dX1_countCounting_13 : decode cX1_countCounting 13 = .ok (.getfield 37, 3) := by decide +kernel
theorem dX1_countCounting_16 : decode cX1_countCounting 16 = .ok (.iload_n 2, 1) := by decide +kernel
theorem dX1_countCounting_17 : decode cX1_countCounting 17 = .ok (.baload, 1) := by decide +kernel
theorem dX1_countCounting_18 : decode cX1_countCounting 18 = .ok (.ifCond .eq 6, 3) := by decide +kernel
theorem dX1_countCounting_21 : decode cX1_countCounting 21 = .ok (.iinc 1 1, 3) := by decide +kernel
theorem dX1_countCounting_24 : decode cX1_countCounting 24 = .ok (.iinc 2 1, 3) := by decide +kernel
theorem dX1_countCounting_27 : decode cX1_countCounting 27 = .ok (.goto (-23), 3) := by decide +kernel
theorem dX1_countCounting_30 : decode cX1_countCounting 30 = .ok (.iload_n 1, 1) := by decide +kernel
theorem dX1_countCounting_31 : decode cX1_countCounting 31 = .ok (.ireturn, 1) := by decide +kernel
theorem dX1_figure_0 : decode cX1_figure 0 = .ok (.iload_n 2, 1) := by decide +kernel
theorem dX1_figure_1 : decode cX1_figure 1 = .ok (.tableswitch 56 0 2 #[27, 34, 41], 27) := by decide +kernel
theorem dX1_figure_28 : decode cX1_figure 28 = .ok (.aload_n 0, 1) := by decide +kernel
theorem dX1_figure_29 : decode cX1_figure 29 = .ok (.getfield 9, 3) := by decide +kernel
theorem dX1_figure_32 : decode cX1_figure 32 = .ok (.iload_n 1, 1) := by decide +kernel
theorem dX1_figure_33 : decode cX1_figure 33 = .ok (.iaload, 1) := by decide +kernel
theorem dX1_figure_34 : decode cX1_figure 34 = .ok (.ireturn, 1) := by decide +kernel
theorem dX1_figure_35 : decode cX1_figure 35 = .ok (.aload_n 0, 1) := by decide +kernel
theorem dX1_figure_36 : decode cX1_figure 36 = .ok (.getfield 15, 3) := by decide +kernel
theorem dX1_figure_39 : decode cX1_figure 39 = .ok (.iload_n 1, 1) := by decide +kernel
theorem dX1_figure_40 : decode cX1_figure 40 = .ok (.iaload, 1) := by decide +kernel
theorem dX1_figure_41 : decode cX1_figure 41 = .ok (.ireturn, 1) := by decide +kernel
theorem dX1_figure_42 : decode cX1_figure 42 = .ok (.aload_n 0, 1) := by decide +kernel
theorem dX1_figure_43 : decode cX1_figure 43 = .ok (.getfield 37, 3) := by decide +kernel
theorem dX1_figure_46 : decode cX1_figure 46 = .ok (.iload_n 1, 1) := by decide +kernel
theorem dX1_figure_47 : decode cX1_figure 47 = .ok (.baload, 1) := by decide +kernel
theorem dX1_figure_48 : decode cX1_figure 48 = .ok (.ifCond .eq 7, 3) := by decide +kernel
theorem dX1_figure_51 : decode cX1_figure 51 = .ok (.iconst 1, 1) := by decide +kernel
theorem dX1_figure_52 : decode cX1_figure 52 = .ok (.goto 4, 3) := by decide +kernel
theorem dX1_figure_55 : decode cX1_figure 55 = .ok (.iconst 0, 1) := by decide +kernel
theorem dX1_figure_56 : decode cX1_figure 56 = .ok (.ireturn, 1) := by decide +kernel
theorem dX1_figure_57 : decode cX1_figure 57 = .ok (.aload_n 0, 1) := by decide +kernel
theorem dX1_figure_58 : decode cX1_figure 58 = .ok (.getfield 30, 3) := by decide +kernel
theorem dX1_figure_61 : decode cX1_figure 61 = .ok (.iload_n 1, 1) := by decide +kernel
theorem dX1_figure_62 : decode cX1_figure 62 = .ok (.iaload, 1) := by decide +kernel
theorem dX1_figure_63 : decode cX1_figure 63 = .ok (.ireturn, 1) := by decide +kernel
theorem dX2_init_0 : decode cX2_init 0 = .ok (.aload_n 0, 1) := by decide +kernel
theorem dX2_init_1 : decode cX2_init 1 = .ok (.invokespecial 3, 3) := by decide +kernel
theorem dX2_init_4 : decode cX2_init 4 = .ok (.aload_n 0, 1) := by decide +kernel
theorem dX2_init_5 : decode cX2_init 5 = .ok (.iconst 4, 1) := by decide +kernel
theorem dX2_init_6 : decode cX2_init 6 = .ok (.newarray .int, 2) := by decide +kernel
theorem dX2_init_8 : decode cX2_init 8 = .ok (.putfield 9, 3) := by decide +kernel
theorem dX2_init_11 : decode cX2_init 11 = .ok (.aload_n 0, 1) := by decide +kernel
theorem dX2_init_12 : decode cX2_init 12 = .ok (.bipush 6, 2) := by decide +kernel
theorem dX2_init_14 : decode cX2_init 14 = .ok (.newarray .int, 2) := by decide +kernel
theorem dX2_init_16 : decode cX2_init 16 = .ok (.putfield 15, 3) := by decide +kernel
theorem dX2_init_19 : decode cX2_init 19 = .ok (.aload_n 0, 1) := by decide +kernel
theorem dX2_init_20 : decode cX2_init 20 = .ok (.bipush 6, 2) := by decide +kernel
theorem dX2_init_22 : decode cX2_init 22 = .ok (.newarray .int, 2) := by decide +kernel
theorem dX2_init_24 : decode cX2_init 24 = .ok (.putfield 18, 3) := by decide +kernel
theorem dX2_init_27 : decode cX2_init 27 = .ok (.aload_n 0, 1) := by decide +kernel
theorem dX2_init_28 : decode cX2_init 28 = .ok (.bipush 24, 2) := by decide +kernel
theorem dX2_init_30 : decode cX2_init 30 = .ok (.newarray .int, 2) := by decide +kernel
theorem dX2_init_32 : decode cX2_init 32 = .ok (.putfield 21, 3) := by decide +kernel
theorem dX2_init_35 : decode cX2_init 35 = .ok (.aload_n 0, 1) := by decide +kernel
theorem dX2_init_36 : decode cX2_init 36 = .ok (.bipush 24, 2) := by decide +kernel
theorem dX2_init_38 : decode cX2_init 38 = .ok (.newarray .int, 2) := by decide +kernel
theorem dX2_init_40 : decode cX2_init 40 = .ok (.putfield 24, 3) := by decide +kernel
theorem dX2_init_43 : decode cX2_init 43 = .ok (.aload_n 0, 1) := by decide +kernel
theorem dX2_init_44 : decode cX2_init 44 = .ok (.getfield 9, 3) := by decide +kernel
theorem dX2_init_47 : decode cX2_init 47 = .ok (.ldc 27, 2) := by decide +kernel
theorem dX2_init_49 : decode cX2_init 49 = .ok (.invokestatic 28, 3) := by decide +kernel
theorem dX2_init_52 : decode cX2_init 52 = .ok (.iconst 0, 1) := by decide +kernel
theorem dX2_init_53 : decode cX2_init 53 = .ok (.istore_n 1, 1) := by decide +kernel
theorem dX2_init_54 : decode cX2_init 54 = .ok (.iload_n 1, 1) := by decide +kernel
theorem dX2_init_55 : decode cX2_init 55 = .ok (.bipush 6, 2) := by decide +kernel
theorem dX2_init_57 : decode cX2_init 57 = .ok (.if_icmp .ge 16, 3) := by decide +kernel
theorem dX2_init_60 : decode cX2_init 60 = .ok (.aload_n 0, 1) := by decide +kernel
theorem dX2_init_61 : decode cX2_init 61 = .ok (.getfield 18, 3) := by decide +kernel
theorem dX2_init_64 : decode cX2_init 64 = .ok (.iload_n 1, 1) := by decide +kernel
theorem dX2_init_65 : decode cX2_init 65 = .ok (.iload_n 1, 1) := by decide +kernel
theorem dX2_init_66 : decode cX2_init 66 = .ok (.iastore, 1) := by decide +kernel
theorem dX2_init_67 : decode cX2_init 67 = .ok (.iinc 1 1, 3) := by decide +kernel
theorem dX2_init_70 : decode cX2_init 70 = .ok (.goto (-16), 3) := by decide +kernel
theorem dX2_init_73 : decode cX2_init 73 = .ok (.return_, 1) := by decide +kernel
theorem dX2_setCap_0 : decode cX2_setCap 0 = .ok (.aload_n 0, 1) := by decide +kernel
theorem dX2_setCap_1 : decode cX2_setCap 1 = .ok (.getfield 9, 3) := by decide +kernel
theorem dX2_setCap_4 : decode cX2_setCap 4 = .ok (.iload_n 1, 1) := by decide +kernel
theorem dX2_setCap_5 : decode cX2_setCap 5 = .ok (.iload_n 2, 1) := by decide +kernel
theorem dX2_setCap_6 : decode cX2_setCap 6 = .ok (.iastore, 1) := by decide +kernel
theorem dX2_setCap_7 : decode cX2_setCap 7 = .ok (.return_, 1) := by decide +kernel
theorem dX2_setOwner_0 : decode cX2_setOwner 0 = .ok (.aload_n 0, 1) := by decide +kernel
theorem dX2_setOwner_1 : decode cX2_setOwner 1 = .ok (.getfield 18, 3) := by decide +kernel
theorem dX2_setOwner_4 : decode cX2_setOwner 4 = .ok (.iload_n 1, 1) := by decide +kernel
theorem dX2_setOwner_5 : decode cX2_setOwner 5 = .ok (.iload_n 2, 1) := by decide +kernel
theorem dX2_setOwner_6 : decode cX2_setOwner 6 = .ok (.iastore, 1) := by decide +kernel
theorem dX2_setOwner_7 : decode cX2_setOwner 7 = .ok (.return_, 1) := by decide +kernel
theorem dX2_ownerOf_0 : decode cX2_ownerOf 0 = .ok (.aload_n 0, 1) := by decide +kernel
theorem dX2_ownerOf_1 : decode cX2_ownerOf 1 = .ok (.getfield 18, 3) := by decide +kernel
theorem dX2_ownerOf_4 : decode cX2_ownerOf 4 = .ok (.iload_n 1, 1) := by decide +kernel
theorem dX2_ownerOf_5 : decode cX2_ownerOf 5 = .ok (.iaload, 1) := by decide +kernel
theorem dX2_ownerOf_6 : decode cX2_ownerOf 6 = .ok (.ireturn, 1) := by decide +kernel
theorem dX2_join_0 : decode cX2_join 0 = .ok (.aload_n 0, 1) := by decide +kernel
theorem dX2_join_1 : decode cX2_join 1 = .ok (.getfield 15, 3) := by decide +kernel
theorem dX2_join_4 : decode cX2_join 4 = .ok (.iload_n 1, 1) := by decide +kernel
theorem dX2_join_5 : decode cX2_join 5 = .ok (.dup2, 1) := by decide +kernel
theorem dX2_join_6 : decode cX2_join 6 = .ok (.iaload, 1) := by decide +kernel
theorem dX2_join_7 : decode cX2_join 7 = .ok (.iconst 1, 1) := by decide +kernel
theorem dX2_join_8 : decode cX2_join 8 = .ok (.iload_n 2, 1) := by decide +kernel
theorem dX2_join_9 : decode cX2_join 9 = .ok (.ishl, 1) := by decide +kernel
theorem dX2_join_10 : decode cX2_join 10 = .ok (.ior, 1) := by decide +kernel
theorem dX2_join_11 : decode cX2_join 11 = .ok (.iastore, 1) := by decide +kernel
theorem dX2_join_12 : decode cX2_join 12 = .ok (.aload_n 0, 1) := by decide +kernel
theorem dX2_join_13 : decode cX2_join 13 = .ok (.getfield 15, 3) := by decide +kernel
theorem dX2_join_16 : decode cX2_join 16 = .ok (.iload_n 2, 1) := by decide +kernel
theorem dX2_join_17 : decode cX2_join 17 = .ok (.dup2, 1) := by decide +kernel
theorem dX2_join_18 : decode cX2_join 18 = .ok (.iaload, 1) := by decide +kernel
theorem dX2_join_19 : decode cX2_join 19 = .ok (.iconst 1, 1) := by decide +kernel
theorem dX2_join_20 : decode cX2_join 20 = .ok (.iload_n 1, 1) := by decide +kernel
theorem dX2_join_21 : decode cX2_join 21 = .ok (.ishl, 1) := by decide +kernel
theorem dX2_join_22 : decode cX2_join 22 = .ok (.ior, 1) := by decide +kernel
theorem dX2_join_23 : decode cX2_join 23 = .ok (.iastore, 1) := by decide +kernel
theorem dX2_join_24 : decode cX2_join 24 = .ok (.return_, 1) := by decide +kernel
theorem dX2_part_0 : decode cX2_part 0 = .ok (.aload_n 0, 1) := by decide +kernel
theorem dX2_part_1 : decode cX2_part 1 = .ok (.getfield 15, 3) := by decide +kernel
theorem dX2_part_4 : decode cX2_part 4 = .ok (.iload_n 1, 1) := by decide +kernel
theorem dX2_part_5 : decode cX2_part 5 = .ok (.dup2, 1) := by decide +kernel
theorem dX2_part_6 : decode cX2_part 6 = .ok (.iaload, 1) := by decide +kernel
theorem dX2_part_7 : decode cX2_part 7 = .ok (.iconst 1, 1) := by decide +kernel
theorem dX2_part_8 : decode cX2_part 8 = .ok (.iload_n 2, 1) := by decide +kernel
theorem dX2_part_9 : decode cX2_part 9 = .ok (.ishl, 1) := by decide +kernel
theorem dX2_part_10 : decode cX2_part 10 = .ok (.iconst (-1), 1) := by decide +kernel
theorem dX2_part_11 : decode cX2_part 11 = .ok (.ixor, 1) := by decide +kernel
theorem dX2_part_12 : decode cX2_part 12 = .ok (.iand, 1) := by decide +kernel
theorem dX2_part_13 : decode cX2_part 13 = .ok (.iastore, 1) := by decide +kernel
theorem dX2_part_14 : decode cX2_part 14 = .ok (.aload_n 0, 1) := by decide +kernel
theorem dX2_part_15 : decode cX2_part 15 = .ok (.getfield 15, 3) := by decide +kernel
theorem dX2_part_18 : decode cX2_part 18 = .ok (.iload_n 2, 1) := by decide +kernel
theorem dX2_part_19 : decode cX2_part 19 = .ok (.dup2, 1) := by decide +kernel
theorem dX2_part_20 : decode cX2_part 20 = .ok (.iaload, 1) := by decide +kernel
theorem dX2_part_21 : decode cX2_part 21 = .ok (.iconst 1, 1) := by decide +kernel
theorem dX2_part_22 : decode cX2_part 22 = .ok (.iload_n 1, 1) := by decide +kernel
theorem dX2_part_23 : decode cX2_part 23 = .ok (.ishl, 1) := by decide +kernel
theorem dX2_part_24 : decode cX2_part 24 = .ok (.iconst (-1), 1) := by decide +kernel
theorem dX2_part_25 : decode cX2_part 25 = .ok (.ixor, 1) := by decide +kernel
theorem dX2_part_26 : decode cX2_part 26 = .ok (.iand, 1) := by decide +kernel
theorem dX2_part_27 : decode cX2_part 27 = .ok (.iastore, 1) := by decide +kernel
theorem dX2_part_28 : decode cX2_part 28 = .ok (.return_, 1) := by decide +kernel
theorem dX2_areJoined_0 : decode cX2_areJoined 0 = .ok (.aload_n 0, 1) := by decide +kernel
theorem dX2_areJoined_1 : decode cX2_areJoined 1 = .ok (.getfield 15, 3) := by decide +kernel
theorem dX2_areJoined_4 : decode cX2_areJoined 4 = .ok (.iload_n 1, 1) := by decide +kernel
theorem dX2_areJoined_5 : decode cX2_areJoined 5 = .ok (.iaload, 1) := by decide +kernel
theorem dX2_areJoined_6 : decode cX2_areJoined 6 = .ok (.iconst 1, 1) := by decide +kernel
theorem dX2_areJoined_7 : decode cX2_areJoined 7 = .ok (.iload_n 2, 1) := by decide +kernel
theorem dX2_areJoined_8 : decode cX2_areJoined 8 = .ok (.ishl, 1) := by decide +kernel
theorem dX2_areJoined_9 : decode cX2_areJoined 9 = .ok (.iand, 1) := by decide +kernel
theorem dX2_areJoined_10 : decode cX2_areJoined 10 = .ok (.ifCond .eq 7, 3) := by decide +kernel
theorem dX2_areJoined_13 : decode cX2_areJoined 13 = .ok (.iconst 1, 1) := by decide +kernel
theorem dX2_areJoined_14 : decode cX2_areJoined 14 = .ok (.goto 4, 3) := by decide +kernel
theorem dX2_areJoined_17 : decode cX2_areJoined 17 = .ok (.iconst 0, 1) := by decide +kernel
theorem dX2_areJoined_18 : decode cX2_areJoined 18 = .ok (.ireturn, 1) := by decide +kernel
theorem dX2_inOneGroup_0 : decode cX2_inOneGroup 0 = .ok (.aload_n 0, 1) := by decide +kernel
theorem dX2_inOneGroup_1 : decode cX2_inOneGroup 1 = .ok (.iload_n 1, 1) := by decide +kernel
theorem dX2_inOneGroup_2 : decode cX2_inOneGroup 2 = .ok (.invokevirtual 34, 3) := by decide +kernel
theorem dX2_inOneGroup_5 : decode cX2_inOneGroup 5 = .ok (.iconst 1, 1) := by decide +kernel
theorem dX2_inOneGroup_6 : decode cX2_inOneGroup 6 = .ok (.iload_n 2, 1) := by decide +kernel
theorem dX2_inOneGroup_7 : decode cX2_inOneGroup 7 = .ok (.ishl, 1) := by decide +kernel
theorem dX2_inOneGroup_8 : decode cX2_inOneGroup 8 = .ok (.iand, 1) := by decide +kernel
theorem dX2_inOneGroup_9 : decode cX2_inOneGroup 9 = .ok (.ifCond .eq 7, 3) := by decide +kernel
theorem dX2_inOneGroup_12 : decode cX2_inOneGroup 12 = .ok (.iconst 1, 1) := by decide +kernel
theorem dX2_inOneGroup_13 : decode cX2_inOneGroup 13 = .ok (.goto 4, 3) := by decide +kernel
theorem dX2_inOneGroup_16 : decode cX2_inOneGroup 16 = .ok (.iconst 0, 1) := by decide +kernel
theorem dX2_inOneGroup_17 : decode cX2_inOneGroup 17 = .ok (.ireturn, 1) := by decide +kernel
theorem dX2_groupOf_0 : decode cX2_groupOf 0 = .ok (.iconst 1, 1) := by decide +kernel
theorem dX2_groupOf_1 : decode cX2_groupOf 1 = .ok (.iload_n 1, 1) := by decide +kernel
theorem dX2_groupOf_2 : decode cX2_groupOf 2 = .ok (.ishl, 1) := by decide +kernel
theorem dX2_groupOf_3 : decode cX2_groupOf 3 = .ok (.istore_n 2, 1) := by decide +kernel
theorem dX2_groupOf_4 : decode cX2_groupOf 4 = .ok (.iconst 1, 1) := by decide +kernel
theorem dX2_groupOf_5 : decode cX2_groupOf 5 = .ok (.istore_n 3, 1) := by decide +kernel
theorem dX2_groupOf_6 : decode cX2_groupOf 6 = .ok (.iload_n 3, 1) := by decide +kernel
theorem dX2_groupOf_7 : decode cX2_groupOf 7 = .ok (.bipush 6, 2) := by decide +kernel
theorem dX2_groupOf_9 : decode cX2_groupOf 9 = .ok (.if_icmp .ge 44, 3) := by decide +kernel
theorem dX2_groupOf_12 : decode cX2_groupOf 12 = .ok (.iconst 0, 1) := by decide +kernel
theorem dX2_groupOf_13 : decode cX2_groupOf 13 = .ok (.istore 4, 2) := by decide +kernel
theorem dX2_groupOf_15 : decode cX2_groupOf 15 = .ok (.iload 4, 2) := by decide +kernel
theorem dX2_groupOf_17 : decode cX2_groupOf 17 = .ok (.bipush 6, 2) := by decide +kernel
theorem dX2_groupOf_19 : decode cX2_groupOf 19 = .ok (.if_icmp .ge 28, 3) := by decide +kernel
theorem dX2_groupOf_22 : decode cX2_groupOf 22 = .ok (.iload_n 2, 1) := by decide +kernel
theorem dX2_groupOf_23 : decode cX2_groupOf 23 = .ok (.iconst 1, 1) := by decide +kernel
