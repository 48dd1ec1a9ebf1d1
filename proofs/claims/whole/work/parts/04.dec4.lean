theorem dX4_tell_78 : decode cX4_tell 78 = .ok (.aload_n 0, 1) := by decide +kernel
theorem dX4_tell_79 : decode cX4_tell 79 = .ok (.getfield 164, 3) := by decide +kernel
theorem dX4_tell_82 : decode cX4_tell 82 = .ok (.iconst 0, 1) := by decide +kernel
theorem dX4_tell_83 : decode cX4_tell 83 = .ok (.bastore, 1) := by decide +kernel
theorem dX4_tell_84 : decode cX4_tell 84 = .ok (.aload_n 0, 1) := by decide +kernel
theorem dX4_tell_85 : decode cX4_tell 85 = .ok (.getfield 86, 3) := by decide +kernel
theorem dX4_tell_88 : decode cX4_tell 88 = .ok (.aload_n 0, 1) := by decide +kernel
theorem dX4_tell_89 : decode cX4_tell 89 = .ok (.getfield 164, 3) := by decide +kernel
theorem dX4_tell_92 : decode cX4_tell 92 = .ok (.iconst 0, 1) := by decide +kernel
theorem dX4_tell_93 : decode cX4_tell 93 = .ok (.bastore, 1) := by decide +kernel
theorem dX4_tell_94 : decode cX4_tell 94 = .ok (.return_, 1) := by decide +kernel
theorem dX4_put_0 : decode cX4_put 0 = .ok (.aload_n 0, 1) := by decide +kernel
theorem dX4_put_1 : decode cX4_put 1 = .ok (.dup, 1) := by decide +kernel
theorem dX4_put_2 : decode cX4_put 2 = .ok (.getfield 164, 3) := by decide +kernel
theorem dX4_put_5 : decode cX4_put 5 = .ok (.iconst 1, 1) := by decide +kernel
theorem dX4_put_6 : decode cX4_put 6 = .ok (.iadd, 1) := by decide +kernel
theorem dX4_put_7 : decode cX4_put 7 = .ok (.putfield 164, 3) := by decide +kernel
theorem dX4_put_10 : decode cX4_put 10 = .ok (.aload_n 0, 1) := by decide +kernel
theorem dX4_put_11 : decode cX4_put 11 = .ok (.invokevirtual 184, 3) := by decide +kernel
theorem dX4_put_14 : decode cX4_put 14 = .ok (.aload_n 0, 1) := by decide +kernel
theorem dX4_put_15 : decode cX4_put 15 = .ok (.getfield 164, 3) := by decide +kernel
theorem dX4_put_18 : decode cX4_put 18 = .ok (.iconst 1, 1) := by decide +kernel
theorem dX4_put_19 : decode cX4_put 19 = .ok (.isub, 1) := by decide +kernel
theorem dX4_put_20 : decode cX4_put 20 = .ok (.ireturn, 1) := by decide +kernel
theorem dX4_lease_0 : decode cX4_lease 0 = .ok (.iload_n 1, 1) := by decide +kernel
theorem dX4_lease_1 : decode cX4_lease 1 = .ok (.invokestatic 114, 3) := by decide +kernel
theorem dX4_lease_4 : decode cX4_lease 4 = .ok (.ifCond .eq 39, 3) := by decide +kernel
theorem dX4_lease_7 : decode cX4_lease 7 = .ok (.iload_n 2, 1) := by decide +kernel
theorem dX4_lease_8 : decode cX4_lease 8 = .ok (.invokestatic 134, 3) := by decide +kernel
theorem dX4_lease_11 : decode cX4_lease 11 = .ok (.ifCond .eq 32, 3) := by decide +kernel
theorem dX4_lease_14 : decode cX4_lease 14 = .ok (.iload_n 3, 1) := by decide +kernel
theorem dX4_lease_15 : decode cX4_lease 15 = .ok (.invokestatic 134, 3) := by decide +kernel
theorem dX4_lease_18 : decode cX4_lease 18 = .ok (.ifCond .eq 25, 3) := by decide +kernel
theorem dX4_lease_21 : decode cX4_lease 21 = .ok (.iload_n 2, 1) := by decide +kernel
theorem dX4_lease_22 : decode cX4_lease 22 = .ok (.iload_n 3, 1) := by decide +kernel
theorem dX4_lease_23 : decode cX4_lease 23 = .ok (.if_icmp .eq 20, 3) := by decide +kernel
theorem dX4_lease_26 : decode cX4_lease 26 = .ok (.iload 4, 2) := by decide +kernel
theorem dX4_lease_28 : decode cX4_lease 28 = .ok (.i2l, 1) := by decide +kernel
theorem dX4_lease_29 : decode cX4_lease 29 = .ok (.lconst 1, 1) := by decide +kernel
theorem dX4_lease_30 : decode cX4_lease 30 = .ok (.ldc2_w 120, 3) := by decide +kernel
theorem dX4_lease_33 : decode cX4_lease 33 = .ok (.invokestatic 100, 3) := by decide +kernel
theorem dX4_lease_36 : decode cX4_lease 36 = .ok (.ifCond .eq 7, 3) := by decide +kernel
theorem dX4_lease_39 : decode cX4_lease 39 = .ok (.iconst 1, 1) := by decide +kernel
theorem dX4_lease_40 : decode cX4_lease 40 = .ok (.goto 4, 3) := by decide +kernel
theorem dX4_lease_43 : decode cX4_lease 43 = .ok (.iconst 0, 1) := by decide +kernel
theorem dX4_lease_44 : decode cX4_lease 44 = .ok (.istore 5, 2) := by decide +kernel
theorem dX4_lease_46 : decode cX4_lease 46 = .ok (.iload 5, 2) := by decide +kernel
theorem dX4_lease_48 : decode cX4_lease 48 = .ok (.ifCond .eq 42, 3) := by decide +kernel
theorem dX4_lease_51 : decode cX4_lease 51 = .ok (.aload_n 0, 1) := by decide +kernel
theorem dX4_lease_52 : decode cX4_lease 52 = .ok (.getfield 173, 3) := by decide +kernel
theorem dX4_lease_55 : decode cX4_lease 55 = .ok (.ifCond .eq 35, 3) := by decide +kernel
theorem dX4_lease_58 : decode cX4_lease 58 = .ok (.aload_n 0, 1) := by decide +kernel
theorem dX4_lease_59 : decode cX4_lease 59 = .ok (.getfield 164, 3) := by decide +kernel
theorem dX4_lease_62 : decode cX4_lease 62 = .ok (.sipush 200, 3) := by decide +kernel
theorem dX4_lease_65 : decode cX4_lease 65 = .ok (.if_icmp .ge 25, 3) := by decide +kernel
theorem dX4_lease_68 : decode cX4_lease 68 = .ok (.aload_n 0, 1) := by decide +kernel
theorem dX4_lease_69 : decode cX4_lease 69 = .ok (.aload_n 0, 1) := by decide +kernel
theorem dX4_lease_70 : decode cX4_lease 70 = .ok (.getfield 141, 3) := by decide +kernel
theorem dX4_lease_73 : decode cX4_lease 73 = .ok (.iload_n 2, 1) := by decide +kernel
theorem dX4_lease_74 : decode cX4_lease 74 = .ok (.iload_n 1, 1) := by decide +kernel
theorem dX4_lease_75 : decode cX4_lease 75 = .ok (.invokestatic 147, 3) := by decide +kernel
theorem dX4_lease_78 : decode cX4_lease 78 = .ok (.invokevirtual 153, 3) := by decide +kernel
theorem dX4_lease_81 : decode cX4_lease 81 = .ok (.iload 4, 2) := by decide +kernel
theorem dX4_lease_83 : decode cX4_lease 83 = .ok (.if_icmp .lt 7, 3) := by decide +kernel
theorem dX4_lease_86 : decode cX4_lease 86 = .ok (.iconst 1, 1) := by decide +kernel
theorem dX4_lease_87 : decode cX4_lease 87 = .ok (.goto 4, 3) := by decide +kernel
theorem dX4_lease_90 : decode cX4_lease 90 = .ok (.iconst 0, 1) := by decide +kernel
theorem dX4_lease_91 : decode cX4_lease 91 = .ok (.istore 6, 2) := by decide +kernel
theorem dX4_lease_93 : decode cX4_lease 93 = .ok (.aload_n 0, 1) := by decide +kernel
theorem dX4_lease_94 : decode cX4_lease 94 = .ok (.iload 5, 2) := by decide +kernel
theorem dX4_lease_96 : decode cX4_lease 96 = .ok (.ifCond .ne 7, 3) := by decide +kernel
theorem dX4_lease_99 : decode cX4_lease 99 = .ok (.iconst 1, 1) := by decide +kernel
theorem dX4_lease_100 : decode cX4_lease 100 = .ok (.goto 4, 3) := by decide +kernel
theorem dX4_lease_103 : decode cX4_lease 103 = .ok (.iconst 0, 1) := by decide +kernel
theorem dX4_lease_104 : decode cX4_lease 104 = .ok (.iload 6, 2) := by decide +kernel
theorem dX4_lease_106 : decode cX4_lease 106 = .ok (.ifCond .ne 7, 3) := by decide +kernel
theorem dX4_lease_109 : decode cX4_lease 109 = .ok (.iconst 1, 1) := by decide +kernel
theorem dX4_lease_110 : decode cX4_lease 110 = .ok (.goto 4, 3) := by decide +kernel
theorem dX4_lease_113 : decode cX4_lease 113 = .ok (.iconst 0, 1) := by decide +kernel
theorem dX4_lease_114 : decode cX4_lease 114 = .ok (.invokevirtual 126, 3) := by decide +kernel
theorem dX4_lease_117 : decode cX4_lease 117 = .ok (.ifCond .eq 5, 3) := by decide +kernel
theorem dX4_lease_120 : decode cX4_lease 120 = .ok (.iconst 0, 1) := by decide +kernel
theorem dX4_lease_121 : decode cX4_lease 121 = .ok (.ireturn, 1) := by decide +kernel
theorem dX4_lease_122 : decode cX4_lease 122 = .ok (.aload_n 0, 1) := by decide +kernel
theorem dX4_lease_123 : decode cX4_lease 123 = .ok (.iconst 0, 1) := by decide +kernel
theorem dX4_lease_124 : decode cX4_lease 124 = .ok (.aload_n 0, 1) := by decide +kernel
theorem dX4_lease_125 : decode cX4_lease 125 = .ok (.getfield 141, 3) := by decide +kernel
theorem dX4_lease_128 : decode cX4_lease 128 = .ok (.iload_n 2, 1) := by decide +kernel
theorem dX4_lease_129 : decode cX4_lease 129 = .ok (.iload_n 1, 1) := by decide +kernel
theorem dX4_lease_130 : decode cX4_lease 130 = .ok (.iload_n 3, 1) := by decide +kernel
theorem dX4_lease_131 : decode cX4_lease 131 = .ok (.iload 4, 2) := by decide +kernel
theorem dX4_lease_133 : decode cX4_lease 133 = .ok (.iload 4, 2) := by decide +kernel
theorem dX4_lease_135 : decode cX4_lease 135 = .ok (.invokevirtual 187, 3) := by decide +kernel
theorem dX4_lease_138 : decode cX4_lease 138 = .ok (.aload_n 0, 1) := by decide +kernel
theorem dX4_lease_139 : decode cX4_lease 139 = .ok (.invokevirtual 191, 3) := by decide +kernel
theorem dX4_lease_142 : decode cX4_lease 142 = .ok (.ireturn, 1) := by decide +kernel
theorem dX4_wasYear_0 : decode cX4_wasYear 0 = .ok (.iload_n 1, 1) := by decide +kernel
theorem dX4_wasYear_1 : decode cX4_wasYear 1 = .ok (.i2l, 1) := by decide +kernel
theorem dX4_wasYear_2 : decode cX4_wasYear 2 = .ok (.lconst 1, 1) := by decide +kernel
theorem dX4_wasYear_3 : decode cX4_wasYear 3 = .ok (.aload_n 0, 1) := by decide +kernel
theorem dX4_wasYear_4 : decode cX4_wasYear 4 = .ok (.getfield 141, 3) := by decide +kernel
theorem dX4_wasYear_7 : decode cX4_wasYear 7 = .ok (.i2l, 1) := by decide +kernel
theorem dX4_wasYear_8 : decode cX4_wasYear 8 = .ok (.invokestatic 100, 3) := by decide +kernel
theorem dX4_wasYear_11 : decode cX4_wasYear 11 = .ok (.ireturn, 1) := by decide +kernel
theorem dX4_takes_0 : decode cX4_takes 0 = .ok (.aload_n 0, 1) := by decide +kernel
theorem dX4_takes_1 : decode cX4_takes 1 = .ok (.getfield 35, 3) := by decide +kernel
theorem dX4_takes_4 : decode cX4_takes 4 = .ok (.iload_n 1, 1) := by decide +kernel
theorem dX4_takes_5 : decode cX4_takes 5 = .ok (.baload, 1) := by decide +kernel
theorem dX4_takes_6 : decode cX4_takes 6 = .ok (.ifCond .ne 18, 3) := by decide +kernel
theorem dX4_takes_9 : decode cX4_takes 9 = .ok (.aload_n 0, 1) := by decide +kernel
theorem dX4_takes_10 : decode cX4_takes 10 = .ok (.getfield 173, 3) := by decide +kernel
theorem dX4_takes_13 : decode cX4_takes 13 = .ok (.ifCond .eq 15, 3) := by decide +kernel
theorem dX4_takes_16 : decode cX4_takes 16 = .ok (.iload_n 1, 1) := by decide +kernel
theorem dX4_takes_17 : decode cX4_takes 17 = .ok (.aload_n 0, 1) := by decide +kernel
theorem dX4_takes_18 : decode cX4_takes 18 = .ok (.getfield 141, 3) := by decide +kernel
theorem dX4_takes_21 : decode cX4_takes 21 = .ok (.if_icmp .ne 7, 3) := by decide +kernel
theorem dX4_takes_24 : decode cX4_takes 24 = .ok (.iconst 1, 1) := by decide +kernel
theorem dX4_takes_25 : decode cX4_takes 25 = .ok (.goto 4, 3) := by decide +kernel
theorem dX4_takes_28 : decode cX4_takes 28 = .ok (.iconst 0, 1) := by decide +kernel
theorem dX4_takes_29 : decode cX4_takes 29 = .ok (.ireturn, 1) := by decide +kernel
theorem dX4_land_0 : decode cX4_land 0 = .ok (.aload_n 0, 1) := by decide +kernel
theorem dX4_land_1 : decode cX4_land 1 = .ok (.iload_n 1, 1) := by decide +kernel
theorem dX4_land_2 : decode cX4_land 2 = .ok (.invokevirtual 195, 3) := by decide +kernel
theorem dX4_land_5 : decode cX4_land 5 = .ok (.ifCond .eq 47, 3) := by decide +kernel
theorem dX4_land_8 : decode cX4_land 8 = .ok (.iload_n 2, 1) := by decide +kernel
theorem dX4_land_9 : decode cX4_land 9 = .ok (.invokestatic 134, 3) := by decide +kernel
theorem dX4_land_12 : decode cX4_land 12 = .ok (.ifCond .eq 40, 3) := by decide +kernel
theorem dX4_land_15 : decode cX4_land 15 = .ok (.iload_n 3, 1) := by decide +kernel
theorem dX4_land_16 : decode cX4_land 16 = .ok (.invokestatic 114, 3) := by decide +kernel
theorem dX4_land_19 : decode cX4_land 19 = .ok (.ifCond .eq 33, 3) := by decide +kernel
theorem dX4_land_22 : decode cX4_land 22 = .ok (.iload 4, 2) := by decide +kernel
theorem dX4_land_24 : decode cX4_land 24 = .ok (.i2l, 1) := by decide +kernel
theorem dX4_land_25 : decode cX4_land 25 = .ok (.lconst 0, 1) := by decide +kernel
theorem dX4_land_26 : decode cX4_land 26 = .ok (.ldc2_w 130, 3) := by decide +kernel
theorem dX4_land_29 : decode cX4_land 29 = .ok (.invokestatic 100, 3) := by decide +kernel
theorem dX4_land_32 : decode cX4_land 32 = .ok (.ifCond .eq 20, 3) := by decide +kernel
theorem dX4_land_35 : decode cX4_land 35 = .ok (.iload 5, 2) := by decide +kernel
theorem dX4_land_37 : decode cX4_land 37 = .ok (.i2l, 1) := by decide +kernel
theorem dX4_land_38 : decode cX4_land 38 = .ok (.lconst 1, 1) := by decide +kernel
theorem dX4_land_39 : decode cX4_land 39 = .ok (.ldc2_w 120, 3) := by decide +kernel
theorem dX4_land_42 : decode cX4_land 42 = .ok (.invokestatic 100, 3) := by decide +kernel
theorem dX4_land_45 : decode cX4_land 45 = .ok (.ifCond .eq 7, 3) := by decide +kernel
theorem dX4_land_48 : decode cX4_land 48 = .ok (.iconst 1, 1) := by decide +kernel
theorem dX4_land_49 : decode cX4_land 49 = .ok (.goto 4, 3) := by decide +kernel
theorem dX4_land_52 : decode cX4_land 52 = .ok (.iconst 0, 1) := by decide +kernel
theorem dX4_land_53 : decode cX4_land 53 = .ok (.istore 7, 2) := by decide +kernel
theorem dX4_land_55 : decode cX4_land 55 = .ok (.iload 7, 2) := by decide +kernel
theorem dX4_land_57 : decode cX4_land 57 = .ok (.ifCond .eq 21, 3) := by decide +kernel
theorem dX4_land_60 : decode cX4_land 60 = .ok (.aload_n 0, 1) := by decide +kernel
theorem dX4_land_61 : decode cX4_land 61 = .ok (.getfield 16, 3) := by decide +kernel
theorem dX4_land_64 : decode cX4_land 64 = .ok (.iconst 3, 1) := by decide +kernel
theorem dX4_land_65 : decode cX4_land 65 = .ok (.iload_n 3, 1) := by decide +kernel
theorem dX4_land_66 : decode cX4_land 66 = .ok (.imul, 1) := by decide +kernel
theorem dX4_land_67 : decode cX4_land 67 = .ok (.iload 4, 2) := by decide +kernel
theorem dX4_land_69 : decode cX4_land 69 = .ok (.iadd, 1) := by decide +kernel
theorem dX4_land_70 : decode cX4_land 70 = .ok (.iaload, 1) := by decide +kernel
theorem dX4_land_71 : decode cX4_land 71 = .ok (.ifCond .le 7, 3) := by decide +kernel
theorem dX4_land_74 : decode cX4_land 74 = .ok (.iconst 1, 1) := by decide +kernel
theorem dX4_land_75 : decode cX4_land 75 = .ok (.goto 4, 3) := by decide +kernel
theorem dX4_land_78 : decode cX4_land 78 = .ok (.iconst 0, 1) := by decide +kernel
theorem dX4_land_79 : decode cX4_land 79 = .ok (.istore 7, 2) := by decide +kernel
theorem dX4_land_81 : decode cX4_land 81 = .ok (.aload_n 0, 1) := by decide +kernel
theorem dX4_land_82 : decode cX4_land 82 = .ok (.iload 7, 2) := by decide +kernel
theorem dX4_land_84 : decode cX4_land 84 = .ok (.ifCond .ne 7, 3) := by decide +kernel
theorem dX4_land_87 : decode cX4_land 87 = .ok (.iconst 1, 1) := by decide +kernel
theorem dX4_land_88 : decode cX4_land 88 = .ok (.goto 4, 3) := by decide +kernel
theorem dX4_land_91 : decode cX4_land 91 = .ok (.iconst 0, 1) := by decide +kernel
theorem dX4_land_92 : decode cX4_land 92 = .ok (.iload 7, 2) := by decide +kernel
theorem dX4_land_94 : decode cX4_land 94 = .ok (.ifCond .eq 25, 3) := by decide +kernel
theorem dX4_land_97 : decode cX4_land 97 = .ok (.aload_n 0, 1) := by decide +kernel
theorem dX4_land_98 : decode cX4_land 98 = .ok (.iload_n 1, 1) := by decide +kernel
theorem dX4_land_99 : decode cX4_land 99 = .ok (.invokevirtual 198, 3) := by decide +kernel
theorem dX4_land_102 : decode cX4_land 102 = .ok (.ifCond .eq 13, 3) := by decide +kernel
theorem dX4_land_105 : decode cX4_land 105 = .ok (.aload_n 0, 1) := by decide +kernel
theorem dX4_land_106 : decode cX4_land 106 = .ok (.getfield 164, 3) := by decide +kernel
theorem dX4_land_109 : decode cX4_land 109 = .ok (.sipush 200, 3) := by decide +kernel
theorem dX4_land_112 : decode cX4_land 112 = .ok (.if_icmp .ne 7, 3) := by decide +kernel
theorem dX4_land_115 : decode cX4_land 115 = .ok (.iconst 1, 1) := by decide +kernel
theorem dX4_land_116 : decode cX4_land 116 = .ok (.goto 4, 3) := by decide +kernel
theorem dX4_land_119 : decode cX4_land 119 = .ok (.iconst 0, 1) := by decide +kernel
theorem dX4_land_120 : decode cX4_land 120 = .ok (.invokevirtual 126, 3) := by decide +kernel
theorem dX4_land_123 : decode cX4_land 123 = .ok (.ifCond .eq 5, 3) := by decide +kernel
theorem dX4_land_126 : decode cX4_land 126 = .ok (.iconst 0, 1) := by decide +kernel
theorem dX4_land_127 : decode cX4_land 127 = .ok (.ireturn, 1) := by decide +kernel
theorem dX4_land_128 : decode cX4_land 128 = .ok (.iload 5, 2) := by decide +kernel
theorem dX4_land_130 : decode cX4_land 130 = .ok (.i2l, 1) := by decide +kernel
theorem dX4_land_131 : decode cX4_land 131 = .ok (.aload_n 0, 1) := by decide +kernel
theorem dX4_land_132 : decode cX4_land 132 = .ok (.getfield 16, 3) := by decide +kernel
theorem dX4_land_135 : decode cX4_land 135 = .ok (.iconst 3, 1) := by decide +kernel
theorem dX4_land_136 : decode cX4_land 136 = .ok (.iload_n 3, 1) := by decide +kernel
theorem dX4_land_137 : decode cX4_land 137 = .ok (.imul, 1) := by decide +kernel
theorem dX4_land_138 : decode cX4_land 138 = .ok (.iload 4, 2) := by decide +kernel
theorem dX4_land_140 : decode cX4_land 140 = .ok (.iadd, 1) := by decide +kernel
theorem dX4_land_141 : decode cX4_land 141 = .ok (.iaload, 1) := by decide +kernel
theorem dX4_land_142 : decode cX4_land 142 = .ok (.i2l, 1) := by decide +kernel
theorem dX4_land_143 : decode cX4_land 143 = .ok (.lmul, 1) := by decide +kernel
theorem dX4_land_144 : decode cX4_land 144 = .ok (.ldc2_w 201, 3) := by decide +kernel
theorem dX4_land_147 : decode cX4_land 147 = .ok (.ladd, 1) := by decide +kernel
theorem dX4_land_148 : decode cX4_land 148 = .ok (.ldc2_w 118, 3) := by decide +kernel
theorem dX4_land_151 : decode cX4_land 151 = .ok (.ldiv, 1) := by decide +kernel
theorem dX4_land_152 : decode cX4_land 152 = .ok (.lstore 8, 2) := by decide +kernel
theorem dX4_land_154 : decode cX4_land 154 = .ok (.iload 6, 2) := by decide +kernel
theorem dX4_land_156 : decode cX4_land 156 = .ok (.ifCond .eq 14, 3) := by decide +kernel
theorem dX4_land_159 : decode cX4_land 159 = .ok (.lload 8, 2) := by decide +kernel
theorem dX4_land_161 : decode cX4_land 161 = .ok (.lconst 1, 1) := by decide +kernel
theorem dX4_land_162 : decode cX4_land 162 = .ok (.ladd, 1) := by decide +kernel
theorem dX4_land_163 : decode cX4_land 163 = .ok (.ldc2_w 130, 3) := by decide +kernel
theorem dX4_land_166 : decode cX4_land 166 = .ok (.ldiv, 1) := by decide +kernel
theorem dX4_land_167 : decode cX4_land 167 = .ok (.goto 5, 3) := by decide +kernel
theorem dX4_land_170 : decode cX4_land 170 = .ok (.lload 8, 2) := by decide +kernel
theorem dX4_land_172 : decode cX4_land 172 = .ok (.lstore 10, 2) := by decide +kernel
theorem dX4_land_174 : decode cX4_land 174 = .ok (.aload_n 0, 1) := by decide +kernel
theorem dX4_land_175 : decode cX4_land 175 = .ok (.iconst 1, 1) := by decide +kernel
theorem dX4_land_176 : decode cX4_land 176 = .ok (.iload_n 1, 1) := by decide +kernel
theorem dX4_land_177 : decode cX4_land 177 = .ok (.iload_n 2, 1) := by decide +kernel
theorem dX4_land_178 : decode cX4_land 178 = .ok (.iload_n 3, 1) := by decide +kernel
theorem dX4_land_179 : decode cX4_land 179 = .ok (.iconst 0, 1) := by decide +kernel
theorem dX4_land_180 : decode cX4_land 180 = .ok (.iload 5, 2) := by decide +kernel
theorem dX4_land_182 : decode cX4_land 182 = .ok (.lload 10, 2) := by decide +kernel
theorem dX4_land_184 : decode cX4_land 184 = .ok (.l2i, 1) := by decide +kernel
theorem dX4_land_185 : decode cX4_land 185 = .ok (.invokevirtual 187, 3) := by decide +kernel
theorem dX4_land_188 : decode cX4_land 188 = .ok (.aload_n 0, 1) := by decide +kernel
theorem dX4_land_189 : decode cX4_land 189 = .ok (.invokevirtual 191, 3) := by decide +kernel
theorem dX4_land_192 : decode cX4_land 192 = .ok (.ireturn, 1) := by decide +kernel
theorem dX4_equivalent_0 : decode cX4_equivalent 0 = .ok (.iload_n 1, 1) := by decide +kernel
theorem dX4_equivalent_1 : decode cX4_equivalent 1 = .ok (.invokestatic 134, 3) := by decide +kernel
theorem dX4_equivalent_4 : decode cX4_equivalent 4 = .ok (.ifCond .eq 39, 3) := by decide +kernel
theorem dX4_equivalent_7 : decode cX4_equivalent 7 = .ok (.iload_n 2, 1) := by decide +kernel
theorem dX4_equivalent_8 : decode cX4_equivalent 8 = .ok (.invokestatic 114, 3) := by decide +kernel
theorem dX4_equivalent_11 : decode cX4_equivalent 11 = .ok (.ifCond .eq 32, 3) := by decide +kernel
theorem dX4_equivalent_14 : decode cX4_equivalent 14 = .ok (.iload_n 3, 1) := by decide +kernel
theorem dX4_equivalent_15 : decode cX4_equivalent 15 = .ok (.invokestatic 114, 3) := by decide +kernel
theorem dX4_equivalent_18 : decode cX4_equivalent 18 = .ok (.ifCond .eq 25, 3) := by decide +kernel
theorem dX4_equivalent_21 : decode cX4_equivalent 21 = .ok (.iload_n 2, 1) := by decide +kernel
theorem dX4_equivalent_22 : decode cX4_equivalent 22 = .ok (.iload_n 3, 1) := by decide +kernel
theorem dX4_equivalent_23 : decode cX4_equivalent 23 = .ok (.if_icmp .eq 20, 3) := by decide +kernel
theorem dX4_equivalent_26 : decode cX4_equivalent 26 = .ok (.iload 4, 2) := by decide +kernel
theorem dX4_equivalent_28 : decode cX4_equivalent 28 = .ok (.i2l, 1) := by decide +kernel
theorem dX4_equivalent_29 : decode cX4_equivalent 29 = .ok (.lconst 1, 1) := by decide +kernel
theorem dX4_equivalent_30 : decode cX4_equivalent 30 = .ok (.ldc2_w 118, 3) := by decide +kernel
theorem dX4_equivalent_33 : decode cX4_equivalent 33 = .ok (.invokestatic 100, 3) := by decide +kernel
theorem dX4_equivalent_36 : decode cX4_equivalent 36 = .ok (.ifCond .eq 7, 3) := by decide +kernel
theorem dX4_equivalent_39 : decode cX4_equivalent 39 = .ok (.iconst 1, 1) := by decide +kernel
theorem dX4_equivalent_40 : decode cX4_equivalent 40 = .ok (.goto 4, 3) := by decide +kernel
theorem dX4_equivalent_43 : decode cX4_equivalent 43 = .ok (.iconst 0, 1) := by decide +kernel
theorem dX4_equivalent_44 : decode cX4_equivalent 44 = .ok (.istore 5, 2) := by decide +kernel
theorem dX4_equivalent_46 : decode cX4_equivalent 46 = .ok (.iload 5, 2) := by decide +kernel
theorem dX4_equivalent_48 : decode cX4_equivalent 48 = .ok (.ifCond .eq 24, 3) := by decide +kernel
theorem dX4_equivalent_51 : decode cX4_equivalent 51 = .ok (.aload_n 0, 1) := by decide +kernel
theorem dX4_equivalent_52 : decode cX4_equivalent 52 = .ok (.getfield 173, 3) := by decide +kernel
theorem dX4_equivalent_55 : decode cX4_equivalent 55 = .ok (.ifCond .eq 17, 3) := by decide +kernel
theorem dX4_equivalent_58 : decode cX4_equivalent 58 = .ok (.aload_n 0, 1) := by decide +kernel
theorem dX4_equivalent_59 : decode cX4_equivalent 59 = .ok (.getfield 164, 3) := by decide +kernel
theorem dX4_equivalent_62 : decode cX4_equivalent 62 = .ok (.sipush 200, 3) := by decide +kernel
theorem dX4_equivalent_65 : decode cX4_equivalent 65 = .ok (.if_icmp .ge 7, 3) := by decide +kernel
theorem dX4_equivalent_68 : decode cX4_equivalent 68 = .ok (.iconst 1, 1) := by decide +kernel
theorem dX4_equivalent_69 : decode cX4_equivalent 69 = .ok (.goto 4, 3) := by decide +kernel
theorem dX4_equivalent_72 : decode cX4_equivalent 72 = .ok (.iconst 0, 1) := by decide +kernel
theorem dX4_equivalent_73 : decode cX4_equivalent 73 = .ok (.istore 6, 2) := by decide +kernel
theorem dX4_equivalent_75 : decode cX4_equivalent 75 = .ok (.iload 6, 2) := by decide +kernel
theorem dX4_equivalent_77 : decode cX4_equivalent 77 = .ok (.ifCond .eq 52, 3) := by decide +kernel
theorem dX4_equivalent_80 : decode cX4_equivalent 80 = .ok (.aload_n 0, 1) := by decide +kernel
theorem dX4_equivalent_81 : decode cX4_equivalent 81 = .ok (.iconst 2, 1) := by decide +kernel
theorem dX4_equivalent_82 : decode cX4_equivalent 82 = .ok (.aload_n 0, 1) := by decide +kernel
theorem dX4_equivalent_83 : decode cX4_equivalent 83 = .ok (.getfield 141, 3) := by decide +kernel
theorem dX4_equivalent_86 : decode cX4_equivalent 86 = .ok (.iload_n 1, 1) := by decide +kernel
theorem dX4_equivalent_87 : decode cX4_equivalent 87 = .ok (.iload_n 2, 1) := by decide +kernel
theorem dX4_equivalent_88 : decode cX4_equivalent 88 = .ok (.iload_n 3, 1) := by decide +kernel
theorem dX4_equivalent_89 : decode cX4_equivalent 89 = .ok (.iload 4, 2) := by decide +kernel
theorem dX4_equivalent_91 : decode cX4_equivalent 91 = .ok (.iload 4, 2) := by decide +kernel
theorem dX4_equivalent_93 : decode cX4_equivalent 93 = .ok (.aload_n 0, 1) := by decide +kernel
theorem dX4_equivalent_94 : decode cX4_equivalent 94 = .ok (.getfield 7, 3) := by decide +kernel
theorem dX4_equivalent_97 : decode cX4_equivalent 97 = .ok (.iload_n 2, 1) := by decide +kernel
theorem dX4_equivalent_98 : decode cX4_equivalent 98 = .ok (.iaload, 1) := by decide +kernel
theorem dX4_equivalent_99 : decode cX4_equivalent 99 = .ok (.imul, 1) := by decide +kernel
theorem dX4_equivalent_100 : decode cX4_equivalent 100 = .ok (.aload_n 0, 1) := by decide +kernel
theorem dX4_equivalent_101 : decode cX4_equivalent 101 = .ok (.getfield 7, 3) := by decide +kernel
theorem dX4_equivalent_104 : decode cX4_equivalent 104 = .ok (.iload_n 3, 1) := by decide +kernel
theorem dX4_equivalent_105 : decode cX4_equivalent 105 = .ok (.iaload, 1) := by decide +kernel
theorem dX4_equivalent_106 : decode cX4_equivalent 106 = .ok (.iadd, 1) := by decide +kernel
theorem dX4_equivalent_107 : decode cX4_equivalent 107 = .ok (.iconst 1, 1) := by decide +kernel
theorem dX4_equivalent_108 : decode cX4_equivalent 108 = .ok (.isub, 1) := by decide +kernel
theorem dX4_equivalent_109 : decode cX4_equivalent 109 = .ok (.aload_n 0, 1) := by decide +kernel
theorem dX4_equivalent_110 : decode cX4_equivalent 110 = .ok (.getfield 7, 3) := by decide +kernel
theorem dX4_equivalent_113 : decode cX4_equivalent 113 = .ok (.iload_n 3, 1) := by decide +kernel
theorem dX4_equivalent_114 : decode cX4_equivalent 114 = .ok (.iaload, 1) := by decide +kernel
theorem dX4_equivalent_115 : decode cX4_equivalent 115 = .ok (.idiv, 1) := by decide +kernel
theorem dX4_equivalent_116 : decode cX4_equivalent 116 = .ok (.invokevirtual 187, 3) := by decide +kernel
theorem dX4_equivalent_119 : decode cX4_equivalent 119 = .ok (.aload_n 0, 1) := by decide +kernel
theorem dX4_equivalent_120 : decode cX4_equivalent 120 = .ok (.aload_n 0, 1) := by decide +kernel
theorem dX4_equivalent_121 : decode cX4_equivalent 121 = .ok (.getfield 164, 3) := by decide +kernel
theorem dX4_equivalent_124 : decode cX4_equivalent 124 = .ok (.invokevirtual 167, 3) := by decide +kernel
theorem dX4_equivalent_127 : decode cX4_equivalent 127 = .ok (.istore 6, 2) := by decide +kernel
theorem dX4_equivalent_129 : decode cX4_equivalent 129 = .ok (.aload_n 0, 1) := by decide +kernel
theorem dX4_equivalent_130 : decode cX4_equivalent 130 = .ok (.iload 5, 2) := by decide +kernel
theorem dX4_equivalent_132 : decode cX4_equivalent 132 = .ok (.ifCond .ne 7, 3) := by decide +kernel
theorem dX4_equivalent_135 : decode cX4_equivalent 135 = .ok (.iconst 1, 1) := by decide +kernel
theorem dX4_equivalent_136 : decode cX4_equivalent 136 = .ok (.goto 4, 3) := by decide +kernel
theorem dX4_equivalent_139 : decode cX4_equivalent 139 = .ok (.iconst 0, 1) := by decide +kernel
theorem dX4_equivalent_140 : decode cX4_equivalent 140 = .ok (.iload 6, 2) := by decide +kernel
theorem dX4_equivalent_142 : decode cX4_equivalent 142 = .ok (.ifCond .ne 7, 3) := by decide +kernel
theorem dX4_equivalent_145 : decode cX4_equivalent 145 = .ok (.iconst 1, 1) := by decide +kernel
theorem dX4_equivalent_146 : decode cX4_equivalent 146 = .ok (.goto 4, 3) := by decide +kernel
theorem dX4_equivalent_149 : decode cX4_equivalent 149 = .ok (.iconst 0, 1) := by decide +kernel
theorem dX4_equivalent_150 : decode cX4_equivalent 150 = .ok (.invokevirtual 126, 3) := by decide +kernel
theorem dX4_equivalent_153 : decode cX4_equivalent 153 = .ok (.ifCond .eq 5, 3) := by decide +kernel
theorem dX4_equivalent_156 : decode cX4_equivalent 156 = .ok (.iconst 0, 1) := by decide +kernel
theorem dX4_equivalent_157 : decode cX4_equivalent 157 = .ok (.ireturn, 1) := by decide +kernel
theorem dX4_equivalent_158 : decode cX4_equivalent 158 = .ok (.aload_n 0, 1) := by decide +kernel
theorem dX4_equivalent_159 : decode cX4_equivalent 159 = .ok (.invokevirtual 191, 3) := by decide +kernel
theorem dX4_equivalent_162 : decode cX4_equivalent 162 = .ok (.ireturn, 1) := by decide +kernel
theorem dX4_strike_0 : decode cX4_strike 0 = .ok (.iload_n 1, 1) := by decide +kernel
theorem dX4_strike_1 : decode cX4_strike 1 = .ok (.i2l, 1) := by decide +kernel
theorem dX4_strike_2 : decode cX4_strike 2 = .ok (.lconst 0, 1) := by decide +kernel
theorem dX4_strike_3 : decode cX4_strike 3 = .ok (.aload_n 0, 1) := by decide +kernel
theorem dX4_strike_4 : decode cX4_strike 4 = .ok (.getfield 164, 3) := by decide +kernel
theorem dX4_strike_7 : decode cX4_strike 7 = .ok (.iconst 1, 1) := by decide +kernel
theorem dX4_strike_8 : decode cX4_strike 8 = .ok (.isub, 1) := by decide +kernel
theorem dX4_strike_9 : decode cX4_strike 9 = .ok (.i2l, 1) := by decide +kernel
theorem dX4_strike_10 : decode cX4_strike 10 = .ok (.invokestatic 100, 3) := by decide +kernel
theorem dX4_strike_13 : decode cX4_strike 13 = .ok (.istore_n 2, 1) := by decide +kernel
theorem dX4_strike_14 : decode cX4_strike 14 = .ok (.iload_n 2, 1) := by decide +kernel
theorem dX4_strike_15 : decode cX4_strike 15 = .ok (.ifCond .eq 39, 3) := by decide +kernel
theorem dX4_strike_18 : decode cX4_strike 18 = .ok (.aload_n 0, 1) := by decide +kernel
theorem dX4_strike_19 : decode cX4_strike 19 = .ok (.getfield 62, 3) := by decide +kernel
theorem dX4_strike_22 : decode cX4_strike 22 = .ok (.iload_n 1, 1) := by decide +kernel
theorem dX4_strike_23 : decode cX4_strike 23 = .ok (.iaload, 1) := by decide +kernel
theorem dX4_strike_24 : decode cX4_strike 24 = .ok (.iconst 1, 1) := by decide +kernel
theorem dX4_strike_25 : decode cX4_strike 25 = .ok (.if_icmp .ne 29, 3) := by decide +kernel
theorem dX4_strike_28 : decode cX4_strike 28 = .ok (.aload_n 0, 1) := by decide +kernel
theorem dX4_strike_29 : decode cX4_strike 29 = .ok (.getfield 83, 3) := by decide +kernel
theorem dX4_strike_32 : decode cX4_strike 32 = .ok (.iload_n 1, 1) := by decide +kernel
theorem dX4_strike_33 : decode cX4_strike 33 = .ok (.baload, 1) := by decide +kernel
theorem dX4_strike_34 : decode cX4_strike 34 = .ok (.ifCond .ne 20, 3) := by decide +kernel
theorem dX4_strike_37 : decode cX4_strike 37 = .ok (.aload_n 0, 1) := by decide +kernel
theorem dX4_strike_38 : decode cX4_strike 38 = .ok (.aload_n 0, 1) := by decide +kernel
theorem dX4_strike_39 : decode cX4_strike 39 = .ok (.getfield 65, 3) := by decide +kernel
theorem dX4_strike_42 : decode cX4_strike 42 = .ok (.iload_n 1, 1) := by decide +kernel
theorem dX4_strike_43 : decode cX4_strike 43 = .ok (.iaload, 1) := by decide +kernel
theorem dX4_strike_44 : decode cX4_strike 44 = .ok (.invokevirtual 198, 3) := by decide +kernel
theorem dX4_strike_47 : decode cX4_strike 47 = .ok (.ifCond .eq 7, 3) := by decide +kernel
theorem dX4_strike_50 : decode cX4_strike 50 = .ok (.iconst 1, 1) := by decide +kernel
theorem dX4_strike_51 : decode cX4_strike 51 = .ok (.goto 4, 3) := by decide +kernel
theorem dX4_strike_54 : decode cX4_strike 54 = .ok (.iconst 0, 1) := by decide +kernel
theorem dX4_strike_55 : decode cX4_strike 55 = .ok (.istore_n 3, 1) := by decide +kernel
theorem dX4_strike_56 : decode cX4_strike 56 = .ok (.aload_n 0, 1) := by decide +kernel
theorem dX4_strike_57 : decode cX4_strike 57 = .ok (.iload_n 2, 1) := by decide +kernel
theorem dX4_strike_58 : decode cX4_strike 58 = .ok (.ifCond .ne 7, 3) := by decide +kernel
theorem dX4_strike_61 : decode cX4_strike 61 = .ok (.iconst 1, 1) := by decide +kernel
theorem dX4_strike_62 : decode cX4_strike 62 = .ok (.goto 4, 3) := by decide +kernel
theorem dX4_strike_65 : decode cX4_strike 65 = .ok (.iconst 0, 1) := by decide +kernel
theorem dX4_strike_66 : decode cX4_strike 66 = .ok (.iload_n 3, 1) := by decide +kernel
theorem dX4_strike_67 : decode cX4_strike 67 = .ok (.ifCond .ne 7, 3) := by decide +kernel
theorem dX4_strike_70 : decode cX4_strike 70 = .ok (.iconst 1, 1) := by decide +kernel
theorem dX4_strike_71 : decode cX4_strike 71 = .ok (.goto 4, 3) := by decide +kernel
theorem dX4_strike_74 : decode cX4_strike 74 = .ok (.iconst 0, 1) := by decide +kernel
theorem dX4_strike_75 : decode cX4_strike 75 = .ok (.invokevirtual 126, 3) := by decide +kernel
theorem dX4_strike_78 : decode cX4_strike 78 = .ok (.ifCond .eq 4, 3) := by decide +kernel
theorem dX4_strike_81 : decode cX4_strike 81 = .ok (.return_, 1) := by decide +kernel
theorem dX4_strike_82 : decode cX4_strike 82 = .ok (.aload_n 0, 1) := by decide +kernel
theorem dX4_strike_83 : decode cX4_strike 83 = .ok (.getfield 83, 3) := by decide +kernel
theorem dX4_strike_86 : decode cX4_strike 86 = .ok (.iload_n 1, 1) := by decide +kernel
theorem dX4_strike_87 : decode cX4_strike 87 = .ok (.iconst 1, 1) := by decide +kernel
theorem dX4_strike_88 : decode cX4_strike 88 = .ok (.bastore, 1) := by decide +kernel
theorem dX4_strike_89 : decode cX4_strike 89 = .ok (.aload_n 0, 1) := by decide +kernel
theorem dX4_strike_90 : decode cX4_strike 90 = .ok (.invokevirtual 184, 3) := by decide +kernel
theorem dX4_strike_93 : decode cX4_strike 93 = .ok (.return_, 1) := by decide +kernel
theorem dX4_reopen_0 : decode cX4_reopen 0 = .ok (.aload_n 0, 1) := by decide +kernel
theorem dX4_reopen_1 : decode cX4_reopen 1 = .ok (.iload_n 1, 1) := by decide +kernel
theorem dX4_reopen_2 : decode cX4_reopen 2 = .ok (.invokevirtual 195, 3) := by decide +kernel
theorem dX4_reopen_5 : decode cX4_reopen 5 = .ok (.istore_n 2, 1) := by decide +kernel
theorem dX4_reopen_6 : decode cX4_reopen 6 = .ok (.aload_n 0, 1) := by decide +kernel
theorem dX4_reopen_7 : decode cX4_reopen 7 = .ok (.iload_n 2, 1) := by decide +kernel
theorem dX4_reopen_8 : decode cX4_reopen 8 = .ok (.ifCond .ne 7, 3) := by decide +kernel
theorem dX4_reopen_11 : decode cX4_reopen 11 = .ok (.iconst 1, 1) := by decide +kernel
theorem dX4_reopen_12 : decode cX4_reopen 12 = .ok (.goto 4, 3) := by decide +kernel
theorem dX4_reopen_15 : decode cX4_reopen 15 = .ok (.iconst 0, 1) := by decide +kernel
theorem dX4_reopen_16 : decode cX4_reopen 16 = .ok (.iload_n 2, 1) := by decide +kernel
theorem dX4_reopen_17 : decode cX4_reopen 17 = .ok (.ifCond .eq 15, 3) := by decide +kernel
theorem dX4_reopen_20 : decode cX4_reopen 20 = .ok (.aload_n 0, 1) := by decide +kernel
theorem dX4_reopen_21 : decode cX4_reopen 21 = .ok (.iload_n 1, 1) := by decide +kernel
theorem dX4_reopen_22 : decode cX4_reopen 22 = .ok (.invokevirtual 198, 3) := by decide +kernel
theorem dX4_reopen_25 : decode cX4_reopen 25 = .ok (.ifCond .eq 7, 3) := by decide +kernel
theorem dX4_reopen_28 : decode cX4_reopen 28 = .ok (.iconst 1, 1) := by decide +kernel
theorem dX4_reopen_29 : decode cX4_reopen 29 = .ok (.goto 4, 3) := by decide +kernel
theorem dX4_reopen_32 : decode cX4_reopen 32 = .ok (.iconst 0, 1) := by decide +kernel
theorem dX4_reopen_33 : decode cX4_reopen 33 = .ok (.invokevirtual 126, 3) := by decide +kernel
theorem dX4_reopen_36 : decode cX4_reopen 36 = .ok (.ifCond .eq 4, 3) := by decide +kernel
theorem dX4_reopen_39 : decode cX4_reopen 39 = .ok (.return_, 1) := by decide +kernel
theorem dX4_reopen_40 : decode cX4_reopen 40 = .ok (.aload_n 0, 1) := by decide +kernel
theorem dX4_reopen_41 : decode cX4_reopen 41 = .ok (.getfield 35, 3) := by decide +kernel
theorem dX4_reopen_44 : decode cX4_reopen 44 = .ok (.iload_n 1, 1) := by decide +kernel
theorem dX4_reopen_45 : decode cX4_reopen 45 = .ok (.iconst 1, 1) := by decide +kernel
theorem dX4_reopen_46 : decode cX4_reopen 46 = .ok (.bastore, 1) := by decide +kernel
theorem dX4_reopen_47 : decode cX4_reopen 47 = .ok (.return_, 1) := by decide +kernel
theorem dX4_account_0 : decode cX4_account 0 = .ok (.aload_n 0, 1) := by decide +kernel
theorem dX4_account_1 : decode cX4_account 1 = .ok (.aload_n 0, 1) := by decide +kernel
theorem dX4_account_2 : decode cX4_account 2 = .ok (.iload_n 1, 1) := by decide +kernel
theorem dX4_account_3 : decode cX4_account 3 = .ok (.invokevirtual 195, 3) := by decide +kernel
theorem dX4_account_6 : decode cX4_account 6 = .ok (.ifCond .eq 30, 3) := by decide +kernel
theorem dX4_account_9 : decode cX4_account 9 = .ok (.iload_n 2, 1) := by decide +kernel
theorem dX4_account_10 : decode cX4_account 10 = .ok (.invokestatic 134, 3) := by decide +kernel
theorem dX4_account_13 : decode cX4_account 13 = .ok (.ifCond .eq 23, 3) := by decide +kernel
theorem dX4_account_16 : decode cX4_account 16 = .ok (.iload_n 3, 1) := by decide +kernel
theorem dX4_account_17 : decode cX4_account 17 = .ok (.invokestatic 114, 3) := by decide +kernel
theorem dX4_account_20 : decode cX4_account 20 = .ok (.ifCond .eq 16, 3) := by decide +kernel
theorem dX4_account_23 : decode cX4_account 23 = .ok (.iload 4, 2) := by decide +kernel
theorem dX4_account_25 : decode cX4_account 25 = .ok (.i2l, 1) := by decide +kernel
theorem dX4_account_26 : decode cX4_account 26 = .ok (.lconst 0, 1) := by decide +kernel
theorem dX4_account_27 : decode cX4_account 27 = .ok (.ldc2_w 203, 3) := by decide +kernel
theorem dX4_account_30 : decode cX4_account 30 = .ok (.invokestatic 100, 3) := by decide +kernel
theorem dX4_account_33 : decode cX4_account 33 = .ok (.ifCond .ne 7, 3) := by decide +kernel
theorem dX4_account_36 : decode cX4_account 36 = .ok (.iconst 1, 1) := by decide +kernel
theorem dX4_account_37 : decode cX4_account 37 = .ok (.goto 4, 3) := by decide +kernel
theorem dX4_account_40 : decode cX4_account 40 = .ok (.iconst 0, 1) := by decide +kernel
theorem dX4_account_41 : decode cX4_account 41 = .ok (.iconst 0, 1) := by decide +kernel
theorem dX4_account_42 : decode cX4_account 42 = .ok (.invokevirtual 126, 3) := by decide +kernel
theorem dX4_account_45 : decode cX4_account 45 = .ok (.ifCond .eq 5, 3) := by decide +kernel
theorem dX4_account_48 : decode cX4_account 48 = .ok (.iconst 0, 1) := by decide +kernel
theorem dX4_account_49 : decode cX4_account 49 = .ok (.ireturn, 1) := by decide +kernel
theorem dX4_account_50 : decode cX4_account 50 = .ok (.iload_n 1, 1) := by decide +kernel
theorem dX4_account_51 : decode cX4_account 51 = .ok (.iload_n 2, 1) := by decide +kernel
theorem dX4_account_52 : decode cX4_account 52 = .ok (.iload_n 3, 1) := by decide +kernel
theorem dX4_account_53 : decode cX4_account 53 = .ok (.invokestatic 147, 3) := by decide +kernel
theorem dX4_account_56 : decode cX4_account 56 = .ok (.istore 5, 2) := by decide +kernel
theorem dX4_account_58 : decode cX4_account 58 = .ok (.iload 4, 2) := by decide +kernel
theorem dX4_account_60 : decode cX4_account 60 = .ok (.tableswitch 111 0 7 #[48, 56, 64, 72, 80, 88, 95, 103], 48) := by decide +kernel
theorem dX4_account_108 : decode cX4_account 108 = .ok (.aload_n 0, 1) := by decide +kernel
theorem dX4_account_109 : decode cX4_account 109 = .ok (.getfield 38, 3) := by decide +kernel
theorem dX4_account_112 : decode cX4_account 112 = .ok (.iload 5, 2) := by decide +kernel
theorem dX4_account_114 : decode cX4_account 114 = .ok (.iaload, 1) := by decide +kernel
theorem dX4_account_115 : decode cX4_account 115 = .ok (.ireturn, 1) := by decide +kernel
theorem dX4_account_116 : decode cX4_account 116 = .ok (.aload_n 0, 1) := by decide +kernel
theorem dX4_account_117 : decode cX4_account 117 = .ok (.getfield 41, 3) := by decide +kernel
theorem dX4_account_120 : decode cX4_account 120 = .ok (.iload 5, 2) := by decide +kernel
theorem dX4_account_122 : decode cX4_account 122 = .ok (.iaload, 1) := by decide +kernel
theorem dX4_account_123 : decode cX4_account 123 = .ok (.ireturn, 1) := by decide +kernel
theorem dX4_account_124 : decode cX4_account 124 = .ok (.aload_n 0, 1) := by decide +kernel
theorem dX4_account_125 : decode cX4_account 125 = .ok (.getfield 44, 3) := by decide +kernel
theorem dX4_account_128 : decode cX4_account 128 = .ok (.iload 5, 2) := by decide +kernel
theorem dX4_account_130 : decode cX4_account 130 = .ok (.iaload, 1) := by decide +kernel
theorem dX4_account_131 : decode cX4_account 131 = .ok (.ireturn, 1) := by decide +kernel
theorem dX4_account_132 : decode cX4_account 132 = .ok (.aload_n 0, 1) := by decide +kernel
theorem dX4_account_133 : decode cX4_account 133 = .ok (.getfield 47, 3) := by decide +kernel
theorem dX4_account_136 : decode cX4_account 136 = .ok (.iload 5, 2) := by decide +kernel
theorem dX4_account_138 : decode cX4_account 138 = .ok (.iaload, 1) := by decide +kernel
theorem dX4_account_139 : decode cX4_account 139 = .ok (.ireturn, 1) := by decide +kernel
theorem dX4_account_140 : decode cX4_account 140 = .ok (.aload_n 0, 1) := by decide +kernel
theorem dX4_account_141 : decode cX4_account 141 = .ok (.getfield 50, 3) := by decide +kernel
theorem dX4_account_144 : decode cX4_account 144 = .ok (.iload 5, 2) := by decide +kernel
theorem dX4_account_146 : decode cX4_account 146 = .ok (.iaload, 1) := by decide +kernel
theorem dX4_account_147 : decode cX4_account 147 = .ok (.ireturn, 1) := by decide +kernel
theorem dX4_account_148 : decode cX4_account 148 = .ok (.aload_n 0, 1) := by decide +kernel
theorem dX4_account_149 : decode cX4_account 149 = .ok (.iload 5, 2) := by decide +kernel
theorem dX4_account_151 : decode cX4_account 151 = .ok (.invokevirtual 153, 3) := by decide +kernel
theorem dX4_account_154 : decode cX4_account 154 = .ok (.ireturn, 1) := by decide +kernel
theorem dX4_account_155 : decode cX4_account 155 = .ok (.aload_n 0, 1) := by decide +kernel
theorem dX4_account_156 : decode cX4_account 156 = .ok (.getfield 53, 3) := by decide +kernel
theorem dX4_account_159 : decode cX4_account 159 = .ok (.iload 5, 2) := by decide +kernel
theorem dX4_account_161 : decode cX4_account 161 = .ok (.iaload, 1) := by decide +kernel
theorem dX4_account_162 : decode cX4_account 162 = .ok (.ireturn, 1) := by decide +kernel
theorem dX4_account_163 : decode cX4_account 163 = .ok (.aload_n 0, 1) := by decide +kernel
theorem dX4_account_164 : decode cX4_account 164 = .ok (.getfield 56, 3) := by decide +kernel
theorem dX4_account_167 : decode cX4_account 167 = .ok (.iload 5, 2) := by decide +kernel
theorem dX4_account_169 : decode cX4_account 169 = .ok (.iaload, 1) := by decide +kernel
theorem dX4_account_170 : decode cX4_account 170 = .ok (.ireturn, 1) := by decide +kernel
theorem dX4_account_171 : decode cX4_account 171 = .ok (.aload_n 0, 1) := by decide +kernel
theorem dX4_account_172 : decode cX4_account 172 = .ok (.getfield 59, 3) := by decide +kernel
theorem dX4_account_175 : decode cX4_account 175 = .ok (.iload 5, 2) := by decide +kernel
theorem dX4_account_177 : decode cX4_account 177 = .ok (.iaload, 1) := by decide +kernel
theorem dX4_account_178 : decode cX4_account 178 = .ok (.ireturn, 1) := by decide +kernel
theorem dX4_levy_0 : decode cX4_levy 0 = .ok (.aload_n 0, 1) := by decide +kernel
theorem dX4_levy_1 : decode cX4_levy 1 = .ok (.iload_n 1, 1) := by decide +kernel
theorem dX4_levy_2 : decode cX4_levy 2 = .ok (.invokestatic 134, 3) := by decide +kernel
theorem dX4_levy_5 : decode cX4_levy 5 = .ok (.ifCond .eq 11, 3) := by decide +kernel
theorem dX4_levy_8 : decode cX4_levy 8 = .ok (.aload_n 0, 1) := by decide +kernel
theorem dX4_levy_9 : decode cX4_levy 9 = .ok (.iload_n 2, 1) := by decide +kernel
theorem dX4_levy_10 : decode cX4_levy 10 = .ok (.invokevirtual 195, 3) := by decide +kernel
theorem dX4_levy_13 : decode cX4_levy 13 = .ok (.ifCond .ne 7, 3) := by decide +kernel
theorem dX4_levy_16 : decode cX4_levy 16 = .ok (.iconst 1, 1) := by decide +kernel
theorem dX4_levy_17 : decode cX4_levy 17 = .ok (.goto 4, 3) := by decide +kernel
theorem dX4_levy_20 : decode cX4_levy 20 = .ok (.iconst 0, 1) := by decide +kernel
theorem dX4_levy_21 : decode cX4_levy 21 = .ok (.iconst 0, 1) := by decide +kernel
theorem dX4_levy_22 : decode cX4_levy 22 = .ok (.invokevirtual 126, 3) := by decide +kernel
theorem dX4_levy_25 : decode cX4_levy 25 = .ok (.ifCond .eq 5, 3) := by decide +kernel
theorem dX4_levy_28 : decode cX4_levy 28 = .ok (.lconst 0, 1) := by decide +kernel
theorem dX4_levy_29 : decode cX4_levy 29 = .ok (.lreturn, 1) := by decide +kernel
theorem dX4_levy_30 : decode cX4_levy 30 = .ok (.lconst 0, 1) := by decide +kernel
theorem dX4_levy_31 : decode cX4_levy 31 = .ok (.lstore_n 3, 1) := by decide +kernel
theorem dX4_levy_32 : decode cX4_levy 32 = .ok (.iconst 0, 1) := by decide +kernel
theorem dX4_levy_33 : decode cX4_levy 33 = .ok (.istore 5, 2) := by decide +kernel
theorem dX4_levy_35 : decode cX4_levy 35 = .ok (.iload 5, 2) := by decide +kernel
theorem dX4_levy_37 : decode cX4_levy 37 = .ok (.bipush 6, 2) := by decide +kernel
theorem dX4_levy_39 : decode cX4_levy 39 = .ok (.if_icmp .ge 61, 3) := by decide +kernel
theorem dX4_levy_42 : decode cX4_levy 42 = .ok (.iconst 0, 1) := by decide +kernel
theorem dX4_levy_43 : decode cX4_levy 43 = .ok (.istore 6, 2) := by decide +kernel
theorem dX4_levy_45 : decode cX4_levy 45 = .ok (.iload 6, 2) := by decide +kernel
theorem dX4_levy_47 : decode cX4_levy 47 = .ok (.iconst 4, 1) := by decide +kernel
theorem dX4_levy_48 : decode cX4_levy 48 = .ok (.if_icmp .ge 46, 3) := by decide +kernel
theorem dX4_levy_51 : decode cX4_levy 51 = .ok (.aload_n 0, 1) := by decide +kernel
theorem dX4_levy_52 : decode cX4_levy 52 = .ok (.getfield 19, 3) := by decide +kernel
theorem dX4_levy_55 : decode cX4_levy 55 = .ok (.iload 5, 2) := by decide +kernel
theorem dX4_levy_57 : decode cX4_levy 57 = .ok (.iaload, 1) := by decide +kernel
theorem dX4_levy_58 : decode cX4_levy 58 = .ok (.iload_n 1, 1) := by decide +kernel
theorem dX4_levy_59 : decode cX4_levy 59 = .ok (.if_icmp .ne 35, 3) := by decide +kernel
theorem dX4_levy_62 : decode cX4_levy 62 = .ok (.lload_n 3, 1) := by decide +kernel
theorem dX4_levy_63 : decode cX4_levy 63 = .ok (.aload_n 0, 1) := by decide +kernel
theorem dX4_levy_64 : decode cX4_levy 64 = .ok (.getfield 59, 3) := by decide +kernel
theorem dX4_levy_67 : decode cX4_levy 67 = .ok (.iload_n 2, 1) := by decide +kernel
theorem dX4_levy_68 : decode cX4_levy 68 = .ok (.iload 5, 2) := by decide +kernel
theorem dX4_levy_70 : decode cX4_levy 70 = .ok (.iload 6, 2) := by decide +kernel
theorem dX4_levy_72 : decode cX4_levy 72 = .ok (.invokestatic 147, 3) := by decide +kernel
theorem dX4_levy_75 : decode cX4_levy 75 = .ok (.iaload, 1) := by decide +kernel
theorem dX4_levy_76 : decode cX4_levy 76 = .ok (.i2l, 1) := by decide +kernel
theorem dX4_levy_77 : decode cX4_levy 77 = .ok (.aload_n 0, 1) := by decide +kernel
theorem dX4_levy_78 : decode cX4_levy 78 = .ok (.getfield 7, 3) := by decide +kernel
theorem dX4_levy_81 : decode cX4_levy 81 = .ok (.iload 6, 2) := by decide +kernel
theorem dX4_levy_83 : decode cX4_levy 83 = .ok (.iaload, 1) := by decide +kernel
theorem dX4_levy_84 : decode cX4_levy 84 = .ok (.i2l, 1) := by decide +kernel
theorem dX4_levy_85 : decode cX4_levy 85 = .ok (.lmul, 1) := by decide +kernel
theorem dX4_levy_86 : decode cX4_levy 86 = .ok (.ladd, 1) := by decide +kernel
theorem dX4_levy_87 : decode cX4_levy 87 = .ok (.lstore_n 3, 1) := by decide +kernel
theorem dX4_levy_88 : decode cX4_levy 88 = .ok (.iinc 6 1, 3) := by decide +kernel
theorem dX4_levy_91 : decode cX4_levy 91 = .ok (.goto (-46), 3) := by decide +kernel
theorem dX4_levy_94 : decode cX4_levy 94 = .ok (.iinc 5 1, 3) := by decide +kernel
theorem dX4_levy_97 : decode cX4_levy 97 = .ok (.goto (-62), 3) := by decide +kernel
theorem dX4_levy_100 : decode cX4_levy 100 = .ok (.lload_n 3, 1) := by decide +kernel
theorem dX4_levy_101 : decode cX4_levy 101 = .ok (.lreturn, 1) := by decide +kernel
theorem dX4_held_0 : decode cX4_held 0 = .ok (.aload_n 0, 1) := by decide +kernel
theorem dX4_held_1 : decode cX4_held 1 = .ok (.iload_n 1, 1) := by decide +kernel
theorem dX4_held_2 : decode cX4_held 2 = .ok (.invokestatic 114, 3) := by decide +kernel
theorem dX4_held_5 : decode cX4_held 5 = .ok (.ifCond .eq 22, 3) := by decide +kernel
theorem dX4_held_8 : decode cX4_held 8 = .ok (.iload_n 2, 1) := by decide +kernel
theorem dX4_held_9 : decode cX4_held 9 = .ok (.invokestatic 134, 3) := by decide +kernel
theorem dX4_held_12 : decode cX4_held 12 = .ok (.ifCond .eq 15, 3) := by decide +kernel
theorem dX4_held_15 : decode cX4_held 15 = .ok (.iload_n 3, 1) := by decide +kernel
theorem dX4_held_16 : decode cX4_held 16 = .ok (.i2l, 1) := by decide +kernel
theorem dX4_held_17 : decode cX4_held 17 = .ok (.lconst 0, 1) := by decide +kernel
theorem dX4_held_18 : decode cX4_held 18 = .ok (.ldc2_w 130, 3) := by decide +kernel
theorem dX4_held_21 : decode cX4_held 21 = .ok (.invokestatic 100, 3) := by decide +kernel
theorem dX4_held_24 : decode cX4_held 24 = .ok (.ifCond .ne 7, 3) := by decide +kernel
theorem dX4_held_27 : decode cX4_held 27 = .ok (.iconst 1, 1) := by decide +kernel
theorem dX4_held_28 : decode cX4_held 28 = .ok (.goto 4, 3) := by decide +kernel
theorem dX4_held_31 : decode cX4_held 31 = .ok (.iconst 0, 1) := by decide +kernel
theorem dX4_held_32 : decode cX4_held 32 = .ok (.iconst 0, 1) := by decide +kernel
theorem dX4_held_33 : decode cX4_held 33 = .ok (.invokevirtual 126, 3) := by decide +kernel
theorem dX4_held_36 : decode cX4_held 36 = .ok (.ifCond .eq 5, 3) := by decide +kernel
theorem dX4_held_39 : decode cX4_held 39 = .ok (.iconst 0, 1) := by decide +kernel
theorem dX4_held_40 : decode cX4_held 40 = .ok (.ireturn, 1) := by decide +kernel
theorem dX4_held_41 : decode cX4_held 41 = .ok (.iload_n 3, 1) := by decide +kernel
theorem dX4_held_42 : decode cX4_held 42 = .ok (.ifCond .ne 17, 3) := by decide +kernel
theorem dX4_held_45 : decode cX4_held 45 = .ok (.aload_n 0, 1) := by decide +kernel
theorem dX4_held_46 : decode cX4_held 46 = .ok (.getfield 22, 3) := by decide +kernel
theorem dX4_held_49 : decode cX4_held 49 = .ok (.bipush 6, 2) := by decide +kernel
theorem dX4_held_51 : decode cX4_held 51 = .ok (.iload_n 1, 1) := by decide +kernel
theorem dX4_held_52 : decode cX4_held 52 = .ok (.imul, 1) := by decide +kernel
theorem dX4_held_53 : decode cX4_held 53 = .ok (.iload_n 2, 1) := by decide +kernel
theorem dX4_held_54 : decode cX4_held 54 = .ok (.iadd, 1) := by decide +kernel
theorem dX4_held_55 : decode cX4_held 55 = .ok (.iaload, 1) := by decide +kernel
theorem dX4_held_56 : decode cX4_held 56 = .ok (.goto 23, 3) := by decide +kernel
theorem dX4_held_59 : decode cX4_held 59 = .ok (.iload_n 3, 1) := by decide +kernel
theorem dX4_held_60 : decode cX4_held 60 = .ok (.iconst 1, 1) := by decide +kernel
theorem dX4_held_61 : decode cX4_held 61 = .ok (.if_icmp .ne 12, 3) := by decide +kernel
theorem dX4_held_64 : decode cX4_held 64 = .ok (.aload_n 0, 1) := by decide +kernel
theorem dX4_held_65 : decode cX4_held 65 = .ok (.iload_n 1, 1) := by decide +kernel
theorem dX4_held_66 : decode cX4_held 66 = .ok (.iload_n 2, 1) := by decide +kernel
theorem dX4_held_67 : decode cX4_held 67 = .ok (.invokevirtual 144, 3) := by decide +kernel
theorem dX4_held_70 : decode cX4_held 70 = .ok (.goto 9, 3) := by decide +kernel
theorem dX4_held_73 : decode cX4_held 73 = .ok (.aload_n 0, 1) := by decide +kernel
theorem dX4_held_74 : decode cX4_held 74 = .ok (.iload_n 1, 1) := by decide +kernel
theorem dX4_held_75 : decode cX4_held 75 = .ok (.iload_n 2, 1) := by decide +kernel
theorem dX4_held_76 : decode cX4_held 76 = .ok (.invokevirtual 110, 3) := by decide +kernel
theorem dX4_held_79 : decode cX4_held 79 = .ok (.ireturn, 1) := by decide +kernel
theorem dX4_event_0 : decode cX4_event 0 = .ok (.iload_n 1, 1) := by decide +kernel
theorem dX4_event_1 : decode cX4_event 1 = .ok (.i2l, 1) := by decide +kernel
theorem dX4_event_2 : decode cX4_event 2 = .ok (.lconst 0, 1) := by decide +kernel
theorem dX4_event_3 : decode cX4_event 3 = .ok (.aload_n 0, 1) := by decide +kernel
theorem dX4_event_4 : decode cX4_event 4 = .ok (.getfield 164, 3) := by decide +kernel
theorem dX4_event_7 : decode cX4_event 7 = .ok (.iconst 1, 1) := by decide +kernel
theorem dX4_event_8 : decode cX4_event 8 = .ok (.isub, 1) := by decide +kernel
theorem dX4_event_9 : decode cX4_event 9 = .ok (.i2l, 1) := by decide +kernel
theorem dX4_event_10 : decode cX4_event 10 = .ok (.invokestatic 100, 3) := by decide +kernel
theorem dX4_event_13 : decode cX4_event 13 = .ok (.istore_n 3, 1) := by decide +kernel
theorem dX4_event_14 : decode cX4_event 14 = .ok (.aload_n 0, 1) := by decide +kernel
theorem dX4_event_15 : decode cX4_event 15 = .ok (.iload_n 3, 1) := by decide +kernel
theorem dX4_event_16 : decode cX4_event 16 = .ok (.ifCond .ne 7, 3) := by decide +kernel
theorem dX4_event_19 : decode cX4_event 19 = .ok (.iconst 1, 1) := by decide +kernel
theorem dX4_event_20 : decode cX4_event 20 = .ok (.goto 4, 3) := by decide +kernel
theorem dX4_event_23 : decode cX4_event 23 = .ok (.iconst 0, 1) := by decide +kernel
theorem dX4_event_24 : decode cX4_event 24 = .ok (.iload_n 3, 1) := by decide +kernel
theorem dX4_event_25 : decode cX4_event 25 = .ok (.ifCond .eq 19, 3) := by decide +kernel
theorem dX4_event_28 : decode cX4_event 28 = .ok (.iload_n 2, 1) := by decide +kernel
theorem dX4_event_29 : decode cX4_event 29 = .ok (.i2l, 1) := by decide +kernel
theorem dX4_event_30 : decode cX4_event 30 = .ok (.lconst 0, 1) := by decide +kernel
theorem dX4_event_31 : decode cX4_event 31 = .ok (.ldc2_w 98, 3) := by decide +kernel
theorem dX4_event_34 : decode cX4_event 34 = .ok (.invokestatic 100, 3) := by decide +kernel
theorem dX4_event_37 : decode cX4_event 37 = .ok (.ifCond .ne 7, 3) := by decide +kernel
theorem dX4_event_40 : decode cX4_event 40 = .ok (.iconst 1, 1) := by decide +kernel
theorem dX4_event_41 : decode cX4_event 41 = .ok (.goto 4, 3) := by decide +kernel
theorem dX4_event_44 : decode cX4_event 44 = .ok (.iconst 0, 1) := by decide +kernel
theorem dX4_event_45 : decode cX4_event 45 = .ok (.invokevirtual 126, 3) := by decide +kernel
theorem dX4_event_48 : decode cX4_event 48 = .ok (.ifCond .eq 5, 3) := by decide +kernel
theorem dX4_event_51 : decode cX4_event 51 = .ok (.iconst 0, 1) := by decide +kernel
theorem dX4_event_52 : decode cX4_event 52 = .ok (.ireturn, 1) := by decide +kernel
theorem dX4_event_53 : decode cX4_event 53 = .ok (.iload_n 2, 1) := by decide +kernel
theorem dX4_event_54 : decode cX4_event 54 = .ok (.ifCond .ne 12, 3) := by decide +kernel
theorem dX4_event_57 : decode cX4_event 57 = .ok (.aload_n 0, 1) := by decide +kernel
theorem dX4_event_58 : decode cX4_event 58 = .ok (.getfield 62, 3) := by decide +kernel
theorem dX4_event_61 : decode cX4_event 61 = .ok (.iload_n 1, 1) := by decide +kernel
theorem dX4_event_62 : decode cX4_event 62 = .ok (.iaload, 1) := by decide +kernel
theorem dX4_event_63 : decode cX4_event 63 = .ok (.goto 45, 3) := by decide +kernel
theorem dX4_event_66 : decode cX4_event 66 = .ok (.iload_n 2, 1) := by decide +kernel
theorem dX4_event_67 : decode cX4_event 67 = .ok (.iconst 1, 1) := by decide +kernel
theorem dX4_event_68 : decode cX4_event 68 = .ok (.if_icmp .ne 12, 3) := by decide +kernel
theorem dX4_event_71 : decode cX4_event 71 = .ok (.aload_n 0, 1) := by decide +kernel
theorem dX4_event_72 : decode cX4_event 72 = .ok (.getfield 65, 3) := by decide +kernel
theorem dX4_event_75 : decode cX4_event 75 = .ok (.iload_n 1, 1) := by decide +kernel
theorem dX4_event_76 : decode cX4_event 76 = .ok (.iaload, 1) := by decide +kernel
theorem dX4_event_77 : decode cX4_event 77 = .ok (.goto 31, 3) := by decide +kernel
theorem dX4_event_80 : decode cX4_event 80 = .ok (.iload_n 2, 1) := by decide +kernel
theorem dX4_event_81 : decode cX4_event 81 = .ok (.iconst 2, 1) := by decide +kernel
theorem dX4_event_82 : decode cX4_event 82 = .ok (.if_icmp .ne 20, 3) := by decide +kernel
theorem dX4_event_85 : decode cX4_event 85 = .ok (.aload_n 0, 1) := by decide +kernel
theorem dX4_event_86 : decode cX4_event 86 = .ok (.getfield 86, 3) := by decide +kernel
theorem dX4_event_89 : decode cX4_event 89 = .ok (.iload_n 1, 1) := by decide +kernel
theorem dX4_event_90 : decode cX4_event 90 = .ok (.baload, 1) := by decide +kernel
theorem dX4_event_91 : decode cX4_event 91 = .ok (.ifCond .eq 7, 3) := by decide +kernel
theorem dX4_event_94 : decode cX4_event 94 = .ok (.iconst 1, 1) := by decide +kernel
theorem dX4_event_95 : decode cX4_event 95 = .ok (.goto 13, 3) := by decide +kernel
theorem dX4_event_98 : decode cX4_event 98 = .ok (.iconst 0, 1) := by decide +kernel
theorem dX4_event_99 : decode cX4_event 99 = .ok (.goto 9, 3) := by decide +kernel
theorem dX4_event_102 : decode cX4_event 102 = .ok (.aload_n 0, 1) := by decide +kernel
theorem dX4_event_103 : decode cX4_event 103 = .ok (.getfield 80, 3) := by decide +kernel
theorem dX4_event_106 : decode cX4_event 106 = .ok (.iload_n 1, 1) := by decide +kernel
theorem dX4_event_107 : decode cX4_event 107 = .ok (.iaload, 1) := by decide +kernel
theorem dX4_event_108 : decode cX4_event 108 = .ok (.ireturn, 1) := by decide +kernel
theorem dX4_about_0 : decode cX4_about 0 = .ok (.aload_n 0, 1) := by decide +kernel
theorem dX4_about_1 : decode cX4_about 1 = .ok (.iload_n 1, 1) := by decide +kernel
theorem dX4_about_2 : decode cX4_about 2 = .ok (.i2l, 1) := by decide +kernel
theorem dX4_about_3 : decode cX4_about 3 = .ok (.lconst 0, 1) := by decide +kernel
theorem dX4_about_4 : decode cX4_about 4 = .ok (.ldc2_w 98, 3) := by decide +kernel
theorem dX4_about_7 : decode cX4_about 7 = .ok (.invokestatic 100, 3) := by decide +kernel
theorem dX4_about_10 : decode cX4_about 10 = .ok (.ifCond .ne 7, 3) := by decide +kernel
theorem dX4_about_13 : decode cX4_about 13 = .ok (.iconst 1, 1) := by decide +kernel
theorem dX4_about_14 : decode cX4_about 14 = .ok (.goto 4, 3) := by decide +kernel
theorem dX4_about_17 : decode cX4_about 17 = .ok (.iconst 0, 1) := by decide +kernel
theorem dX4_about_18 : decode cX4_about 18 = .ok (.iconst 0, 1) := by decide +kernel
theorem dX4_about_19 : decode cX4_about 19 = .ok (.invokevirtual 126, 3) := by decide +kernel
theorem dX4_about_22 : decode cX4_about 22 = .ok (.ifCond .eq 5, 3) := by decide +kernel
theorem dX4_about_25 : decode cX4_about 25 = .ok (.iconst 0, 1) := by decide +kernel
theorem dX4_about_26 : decode cX4_about 26 = .ok (.ireturn, 1) := by decide +kernel
theorem dX4_about_27 : decode cX4_about 27 = .ok (.iload_n 1, 1) := by decide +kernel
theorem dX4_about_28 : decode cX4_about 28 = .ok (.iconst 2, 1) := by decide +kernel
theorem dX4_about_29 : decode cX4_about 29 = .ok (.if_icmp .ge 27, 3) := by decide +kernel
theorem dX4_about_32 : decode cX4_about 32 = .ok (.iload_n 1, 1) := by decide +kernel
theorem dX4_about_33 : decode cX4_about 33 = .ok (.ifCond .ne 10, 3) := by decide +kernel
theorem dX4_about_36 : decode cX4_about 36 = .ok (.aload_n 0, 1) := by decide +kernel
theorem dX4_about_37 : decode cX4_about 37 = .ok (.getfield 141, 3) := by decide +kernel
theorem dX4_about_40 : decode cX4_about 40 = .ok (.goto 15, 3) := by decide +kernel
theorem dX4_about_43 : decode cX4_about 43 = .ok (.aload_n 0, 1) := by decide +kernel
theorem dX4_about_44 : decode cX4_about 44 = .ok (.getfield 173, 3) := by decide +kernel
theorem dX4_about_47 : decode cX4_about 47 = .ok (.ifCond .eq 7, 3) := by decide +kernel
theorem dX4_about_50 : decode cX4_about 50 = .ok (.iconst 1, 1) := by decide +kernel
theorem dX4_about_51 : decode cX4_about 51 = .ok (.goto 4, 3) := by decide +kernel
theorem dX4_about_54 : decode cX4_about 54 = .ok (.iconst 0, 1) := by decide +kernel
theorem dX4_about_55 : decode cX4_about 55 = .ok (.ireturn, 1) := by decide +kernel
theorem dX4_about_56 : decode cX4_about 56 = .ok (.iconst 0, 1) := by decide +kernel
theorem dX4_about_57 : decode cX4_about 57 = .ok (.istore_n 2, 1) := by decide +kernel
theorem dX4_about_58 : decode cX4_about 58 = .ok (.iconst 0, 1) := by decide +kernel
theorem dX4_about_59 : decode cX4_about 59 = .ok (.istore_n 3, 1) := by decide +kernel
theorem dX4_about_60 : decode cX4_about 60 = .ok (.iload_n 3, 1) := by decide +kernel
theorem dX4_about_61 : decode cX4_about 61 = .ok (.aload_n 0, 1) := by decide +kernel
theorem dX4_about_62 : decode cX4_about 62 = .ok (.getfield 164, 3) := by decide +kernel
theorem dX4_about_65 : decode cX4_about 65 = .ok (.if_icmp .ge 26, 3) := by decide +kernel
theorem dX4_about_68 : decode cX4_about 68 = .ok (.aload_n 0, 1) := by decide +kernel
theorem dX4_about_69 : decode cX4_about 69 = .ok (.getfield 86, 3) := by decide +kernel
theorem dX4_about_72 : decode cX4_about 72 = .ok (.iload_n 3, 1) := by decide +kernel
theorem dX4_about_73 : decode cX4_about 73 = .ok (.baload, 1) := by decide +kernel
theorem dX4_about_74 : decode cX4_about 74 = .ok (.ifCond .eq 9, 3) := by decide +kernel
theorem dX4_about_77 : decode cX4_about 77 = .ok (.iload_n 2, 1) := by decide +kernel
theorem dX4_about_78 : decode cX4_about 78 = .ok (.iconst 1, 1) := by decide +kernel
theorem dX4_about_79 : decode cX4_about 79 = .ok (.iadd, 1) := by decide +kernel
theorem dX4_about_80 : decode cX4_about 80 = .ok (.goto 4, 3) := by decide +kernel
theorem dX4_about_83 : decode cX4_about 83 = .ok (.iload_n 2, 1) := by decide +kernel
theorem dX4_about_84 : decode cX4_about 84 = .ok (.istore_n 2, 1) := by decide +kernel
theorem dX4_about_85 : decode cX4_about 85 = .ok (.iinc 3 1, 3) := by decide +kernel
theorem dX4_about_88 : decode cX4_about 88 = .ok (.goto (-28), 3) := by decide +kernel
theorem dX4_about_91 : decode cX4_about 91 = .ok (.iload_n 1, 1) := by decide +kernel
theorem dX4_about_92 : decode cX4_about 92 = .ok (.iconst 2, 1) := by decide +kernel
theorem dX4_about_93 : decode cX4_about 93 = .ok (.if_icmp .ne 10, 3) := by decide +kernel
theorem dX4_about_96 : decode cX4_about 96 = .ok (.aload_n 0, 1) := by decide +kernel
theorem dX4_about_97 : decode cX4_about 97 = .ok (.getfield 164, 3) := by decide +kernel
theorem dX4_about_100 : decode cX4_about 100 = .ok (.goto 4, 3) := by decide +kernel
theorem dX4_about_103 : decode cX4_about 103 = .ok (.iload_n 2, 1) := by decide +kernel
theorem dX4_about_104 : decode cX4_about 104 = .ok (.ireturn, 1) := by decide +kernel
theorem dJ9_max_7cf53_0 : decode cJ9_max_7cf53 0 = .ok (.iload_n 0, 1) := by decide +kernel
theorem dJ9_max_7cf53_1 : decode cJ9_max_7cf53 1 = .ok (.iload_n 1, 1) := by decide +kernel
theorem dJ9_max_7cf53_2 : decode cJ9_max_7cf53 2 = .ok (.if_icmp .lt 7, 3) := by decide +kernel
theorem dJ9_max_7cf53_5 : decode cJ9_max_7cf53 5 = .ok (.iload_n 0, 1) := by decide +kernel
theorem dJ9_max_7cf53_6 : decode cJ9_max_7cf53 6 = .ok (.goto 4, 3) := by decide +kernel
theorem dJ9_max_7cf53_9 : decode cJ9_max_7cf53 9 = .ok (.iload_n 1, 1) := by decide +kernel
theorem dJ9_max_7cf53_10 : decode cJ9_max_7cf53 10 = .ok (.ireturn, 1) := by decide +kernel
theorem dJ9_min_7cf53_0 : decode cJ9_min_7cf53 0 = .ok (.iload_n 0, 1) := by decide +kernel
theorem dJ9_min_7cf53_1 : decode cJ9_min_7cf53 1 = .ok (.iload_n 1, 1) := by decide +kernel
theorem dJ9_min_7cf53_2 : decode cJ9_min_7cf53 2 = .ok (.if_icmp .gt 7, 3) := by decide +kernel
theorem dJ9_min_7cf53_5 : decode cJ9_min_7cf53 5 = .ok (.iload_n 0, 1) := by decide +kernel
theorem dJ9_min_7cf53_6 : decode cJ9_min_7cf53 6 = .ok (.goto 4, 3) := by decide +kernel
theorem dJ9_min_7cf53_9 : decode cJ9_min_7cf53 9 = .ok (.iload_n 1, 1) := by decide +kernel
theorem dJ9_min_7cf53_10 : decode cJ9_min_7cf53 10 = .ok (.ireturn, 1) := by decide +kernel
theorem dJ7_fill_53178_0 : decode cJ7_fill_53178 0 = .ok (.iconst 0, 1) := by decide +kernel
theorem dJ7_fill_53178_1 : decode cJ7_fill_53178 1 = .ok (.istore_n 2, 1) := by decide +kernel
theorem dJ7_fill_53178_2 : decode cJ7_fill_53178 2 = .ok (.aload_n 0, 1) := by decide +kernel
theorem dJ7_fill_53178_3 : decode cJ7_fill_53178 3 = .ok (.arraylength, 1) := by decide +kernel
theorem dJ7_fill_53178_4 : decode cJ7_fill_53178 4 = .ok (.istore_n 3, 1) := by decide +kernel
theorem dJ7_fill_53178_5 : decode cJ7_fill_53178 5 = .ok (.iload_n 2, 1) := by decide +kernel
theorem dJ7_fill_53178_6 : decode cJ7_fill_53178 6 = .ok (.iload_n 3, 1) := by decide +kernel
theorem dJ7_fill_53178_7 : decode cJ7_fill_53178 7 = .ok (.if_icmp .ge 13, 3) := by decide +kernel
theorem dJ7_fill_53178_10 : decode cJ7_fill_53178 10 = .ok (.aload_n 0, 1) := by decide +kernel
theorem dJ7_fill_53178_11 : decode cJ7_fill_53178 11 = .ok (.iload_n 2, 1) := by decide +kernel
theorem dJ7_fill_53178_12 : decode cJ7_fill_53178 12 = .ok (.iload_n 1, 1) := by decide +kernel
theorem dJ7_fill_53178_13 : decode cJ7_fill_53178 13 = .ok (.iastore, 1) := by decide +kernel
theorem dJ7_fill_53178_14 : decode cJ7_fill_53178 14 = .ok (.iinc 2 1, 3) := by decide +kernel
theorem dJ7_fill_53178_17 : decode cJ7_fill_53178 17 = .ok (.goto (-12), 3) := by decide +kernel
theorem dJ7_fill_53178_20 : decode cJ7_fill_53178 20 = .ok (.return_, 1) := by decide +kernel
theorem dL_species_0 : decode cL_species 0 = .ok (.aload_n 0, 1) := by decide +kernel
theorem dL_species_1 : decode cL_species 1 = .ok (.iload_n 1, 1) := by decide +kernel
theorem dL_species_2 : decode cL_species 2 = .ok (.iload_n 2, 1) := by decide +kernel
theorem dL_species_3 : decode cL_species 3 = .ok (.iload_n 3, 1) := by decide +kernel
theorem dL_species_4 : decode cL_species 4 = .ok (.invokevirtual 7, 3) := by decide +kernel
theorem dL_species_7 : decode cL_species 7 = .ok (.goto 7, 3) := by decide +kernel
theorem dL_species_10 : decode cL_species 10 = .ok (.astore 4, 2) := by decide +kernel
theorem dL_species_12 : decode cL_species 12 = .ok (.iconst 1, 1) := by decide +kernel
theorem dL_species_13 : decode cL_species 13 = .ok (.ireturn, 1) := by decide +kernel
theorem dL_species_14 : decode cL_species 14 = .ok (.iconst 0, 1) := by decide +kernel
theorem dL_species_15 : decode cL_species 15 = .ok (.ireturn, 1) := by decide +kernel
theorem dL_factor_0 : decode cL_factor 0 = .ok (.aload_n 0, 1) := by decide +kernel
theorem dL_factor_1 : decode cL_factor 1 = .ok (.iload_n 1, 1) := by decide +kernel
theorem dL_factor_2 : decode cL_factor 2 = .ok (.iload_n 2, 1) := by decide +kernel
theorem dL_factor_3 : decode cL_factor 3 = .ok (.iload_n 3, 1) := by decide +kernel
theorem dL_factor_4 : decode cL_factor 4 = .ok (.invokevirtual 15, 3) := by decide +kernel
theorem dL_factor_7 : decode cL_factor 7 = .ok (.goto 7, 3) := by decide +kernel
theorem dL_factor_10 : decode cL_factor 10 = .ok (.astore 4, 2) := by decide +kernel
theorem dL_factor_12 : decode cL_factor 12 = .ok (.iconst 1, 1) := by decide +kernel
theorem dL_factor_13 : decode cL_factor 13 = .ok (.ireturn, 1) := by decide +kernel
theorem dL_factor_14 : decode cL_factor 14 = .ok (.iconst 0, 1) := by decide +kernel
theorem dL_factor_15 : decode cL_factor 15 = .ok (.ireturn, 1) := by decide +kernel
theorem dL_vessel_0 : decode cL_vessel 0 = .ok (.aload_n 0, 1) := by decide +kernel
theorem dL_vessel_1 : decode cL_vessel 1 = .ok (.iload_n 1, 1) := by decide +kernel
theorem dL_vessel_2 : decode cL_vessel 2 = .ok (.iload_n 2, 1) := by decide +kernel
theorem dL_vessel_3 : decode cL_vessel 3 = .ok (.invokevirtual 18, 3) := by decide +kernel
theorem dL_vessel_6 : decode cL_vessel 6 = .ok (.goto 9, 3) := by decide +kernel
theorem dL_vessel_9 : decode cL_vessel 9 = .ok (.astore_n 3, 1) := by decide +kernel
theorem dL_vessel_10 : decode cL_vessel 10 = .ok (.iconst 1, 1) := by decide +kernel
theorem dL_vessel_11 : decode cL_vessel 11 = .ok (.ireturn, 1) := by decide +kernel
theorem dL_vessel_12 : decode cL_vessel 12 = .ok (.astore_n 3, 1) := by decide +kernel
theorem dL_vessel_13 : decode cL_vessel 13 = .ok (.iconst 2, 1) := by decide +kernel
theorem dL_vessel_14 : decode cL_vessel 14 = .ok (.ireturn, 1) := by decide +kernel
theorem dL_vessel_15 : decode cL_vessel 15 = .ok (.iconst 0, 1) := by decide +kernel
theorem dL_vessel_16 : decode cL_vessel 16 = .ok (.ireturn, 1) := by decide +kernel
theorem dL_link_0 : decode cL_link 0 = .ok (.aload_n 0, 1) := by decide +kernel
theorem dL_link_1 : decode cL_link 1 = .ok (.iload_n 1, 1) := by decide +kernel
theorem dL_link_2 : decode cL_link 2 = .ok (.iload_n 2, 1) := by decide +kernel
theorem dL_link_3 : decode cL_link 3 = .ok (.invokevirtual 24, 3) := by decide +kernel
theorem dL_link_6 : decode cL_link 6 = .ok (.goto 9, 3) := by decide +kernel
theorem dL_link_9 : decode cL_link 9 = .ok (.astore_n 3, 1) := by decide +kernel
theorem dL_link_10 : decode cL_link 10 = .ok (.iconst 1, 1) := by decide +kernel
theorem dL_link_11 : decode cL_link 11 = .ok (.ireturn, 1) := by decide +kernel
theorem dL_link_12 : decode cL_link 12 = .ok (.astore_n 3, 1) := by decide +kernel
theorem dL_link_13 : decode cL_link 13 = .ok (.iconst 2, 1) := by decide +kernel
theorem dL_link_14 : decode cL_link 14 = .ok (.ireturn, 1) := by decide +kernel
theorem dL_link_15 : decode cL_link 15 = .ok (.iconst 0, 1) := by decide +kernel
theorem dL_link_16 : decode cL_link 16 = .ok (.ireturn, 1) := by decide +kernel
theorem dL_unlink_0 : decode cL_unlink 0 = .ok (.aload_n 0, 1) := by decide +kernel
theorem dL_unlink_1 : decode cL_unlink 1 = .ok (.iload_n 1, 1) := by decide +kernel
theorem dL_unlink_2 : decode cL_unlink 2 = .ok (.iload_n 2, 1) := by decide +kernel
theorem dL_unlink_3 : decode cL_unlink 3 = .ok (.invokevirtual 27, 3) := by decide +kernel
theorem dL_unlink_6 : decode cL_unlink 6 = .ok (.goto 9, 3) := by decide +kernel
theorem dL_unlink_9 : decode cL_unlink 9 = .ok (.astore_n 3, 1) := by decide +kernel
theorem dL_unlink_10 : decode cL_unlink 10 = .ok (.iconst 1, 1) := by decide +kernel
theorem dL_unlink_11 : decode cL_unlink 11 = .ok (.ireturn, 1) := by decide +kernel
theorem dL_unlink_12 : decode cL_unlink 12 = .ok (.astore_n 3, 1) := by decide +kernel
theorem dL_unlink_13 : decode cL_unlink 13 = .ok (.iconst 2, 1) := by decide +kernel
theorem dL_unlink_14 : decode cL_unlink 14 = .ok (.ireturn, 1) := by decide +kernel
theorem dL_unlink_15 : decode cL_unlink 15 = .ok (.iconst 0, 1) := by decide +kernel
theorem dL_unlink_16 : decode cL_unlink 16 = .ok (.ireturn, 1) := by decide +kernel
theorem dL_issue_0 : decode cL_issue 0 = .ok (.aload 4, 2) := by decide +kernel
theorem dL_issue_2 : decode cL_issue 2 = .ok (.iconst 0, 1) := by decide +kernel
theorem dL_issue_3 : decode cL_issue 3 = .ok (.aload_n 0, 1) := by decide +kernel
theorem dL_issue_4 : decode cL_issue 4 = .ok (.iload_n 1, 1) := by decide +kernel
theorem dL_issue_5 : decode cL_issue 5 = .ok (.iload_n 2, 1) := by decide +kernel
theorem dL_issue_6 : decode cL_issue 6 = .ok (.iload_n 3, 1) := by decide +kernel
theorem dL_issue_7 : decode cL_issue 7 = .ok (.invokevirtual 30, 3) := by decide +kernel
theorem dL_issue_10 : decode cL_issue 10 = .ok (.i2l, 1) := by decide +kernel
theorem dL_issue_11 : decode cL_issue 11 = .ok (.lastore, 1) := by decide +kernel
theorem dL_issue_12 : decode cL_issue 12 = .ok (.goto 11, 3) := by decide +kernel
theorem dL_issue_15 : decode cL_issue 15 = .ok (.astore 5, 2) := by decide +kernel
theorem dL_issue_17 : decode cL_issue 17 = .ok (.iconst 1, 1) := by decide +kernel
theorem dL_issue_18 : decode cL_issue 18 = .ok (.ireturn, 1) := by decide +kernel
theorem dL_issue_19 : decode cL_issue 19 = .ok (.astore 5, 2) := by decide +kernel
theorem dL_issue_21 : decode cL_issue 21 = .ok (.iconst 2, 1) := by decide +kernel
theorem dL_issue_22 : decode cL_issue 22 = .ok (.ireturn, 1) := by decide +kernel
theorem dL_issue_23 : decode cL_issue 23 = .ok (.iconst 0, 1) := by decide +kernel
theorem dL_issue_24 : decode cL_issue 24 = .ok (.ireturn, 1) := by decide +kernel
theorem dL_sell_0 : decode cL_sell 0 = .ok (.aload_n 0, 1) := by decide +kernel
theorem dL_sell_1 : decode cL_sell 1 = .ok (.iload_n 1, 1) := by decide +kernel
theorem dL_sell_2 : decode cL_sell 2 = .ok (.iload_n 2, 1) := by decide +kernel
theorem dL_sell_3 : decode cL_sell 3 = .ok (.iload_n 3, 1) := by decide +kernel
theorem dL_sell_4 : decode cL_sell 4 = .ok (.iload 4, 2) := by decide +kernel
theorem dL_sell_6 : decode cL_sell 6 = .ok (.invokevirtual 34, 3) := by decide +kernel
theorem dL_sell_9 : decode cL_sell 9 = .ok (.goto 11, 3) := by decide +kernel
theorem dL_sell_12 : decode cL_sell 12 = .ok (.astore 5, 2) := by decide +kernel
theorem dL_sell_14 : decode cL_sell 14 = .ok (.iconst 1, 1) := by decide +kernel
theorem dL_sell_15 : decode cL_sell 15 = .ok (.ireturn, 1) := by decide +kernel
theorem dL_sell_16 : decode cL_sell 16 = .ok (.astore 5, 2) := by decide +kernel
theorem dL_sell_18 : decode cL_sell 18 = .ok (.iconst 2, 1) := by decide +kernel
theorem dL_sell_19 : decode cL_sell 19 = .ok (.ireturn, 1) := by decide +kernel
theorem dL_sell_20 : decode cL_sell 20 = .ok (.iconst 0, 1) := by decide +kernel
theorem dL_sell_21 : decode cL_sell 21 = .ok (.ireturn, 1) := by decide +kernel
theorem dL_place_0 : decode cL_place 0 = .ok (.aload 4, 2) := by decide +kernel
theorem dL_place_2 : decode cL_place 2 = .ok (.iconst 0, 1) := by decide +kernel
theorem dL_place_3 : decode cL_place 3 = .ok (.aload_n 0, 1) := by decide +kernel
theorem dL_place_4 : decode cL_place 4 = .ok (.iload_n 1, 1) := by decide +kernel
theorem dL_place_5 : decode cL_place 5 = .ok (.iload_n 2, 1) := by decide +kernel
theorem dL_place_6 : decode cL_place 6 = .ok (.iload_n 3, 1) := by decide +kernel
theorem dL_place_7 : decode cL_place 7 = .ok (.invokevirtual 38, 3) := by decide +kernel
theorem dL_place_10 : decode cL_place 10 = .ok (.i2l, 1) := by decide +kernel
theorem dL_place_11 : decode cL_place 11 = .ok (.lastore, 1) := by decide +kernel
theorem dL_place_12 : decode cL_place 12 = .ok (.goto 11, 3) := by decide +kernel
theorem dL_place_15 : decode cL_place 15 = .ok (.astore 5, 2) := by decide +kernel
theorem dL_place_17 : decode cL_place 17 = .ok (.iconst 1, 1) := by decide +kernel
theorem dL_place_18 : decode cL_place 18 = .ok (.ireturn, 1) := by decide +kernel
theorem dL_place_19 : decode cL_place 19 = .ok (.astore 5, 2) := by decide +kernel
theorem dL_place_21 : decode cL_place 21 = .ok (.iconst 2, 1) := by decide +kernel
theorem dL_place_22 : decode cL_place 22 = .ok (.ireturn, 1) := by decide +kernel
theorem dL_place_23 : decode cL_place 23 = .ok (.iconst 0, 1) := by decide +kernel
theorem dL_place_24 : decode cL_place 24 = .ok (.ireturn, 1) := by decide +kernel
theorem dL_open_0 : decode cL_open 0 = .ok (.aload 5, 2) := by decide +kernel
theorem dL_open_2 : decode cL_open 2 = .ok (.iconst 0, 1) := by decide +kernel
theorem dL_open_3 : decode cL_open 3 = .ok (.aload_n 0, 1) := by decide +kernel
theorem dL_open_4 : decode cL_open 4 = .ok (.iload_n 1, 1) := by decide +kernel
theorem dL_open_5 : decode cL_open 5 = .ok (.iload_n 2, 1) := by decide +kernel
theorem dL_open_6 : decode cL_open 6 = .ok (.iload_n 3, 1) := by decide +kernel
theorem dL_open_7 : decode cL_open 7 = .ok (.iload 4, 2) := by decide +kernel
theorem dL_open_9 : decode cL_open 9 = .ok (.invokevirtual 41, 3) := by decide +kernel
theorem dL_open_12 : decode cL_open 12 = .ok (.i2l, 1) := by decide +kernel
theorem dL_open_13 : decode cL_open 13 = .ok (.lastore, 1) := by decide +kernel
theorem dL_open_14 : decode cL_open 14 = .ok (.goto 11, 3) := by decide +kernel
theorem dL_open_17 : decode cL_open 17 = .ok (.astore 6, 2) := by decide +kernel
theorem dL_open_19 : decode cL_open 19 = .ok (.iconst 1, 1) := by decide +kernel
theorem dL_open_20 : decode cL_open 20 = .ok (.ireturn, 1) := by decide +kernel
theorem dL_open_21 : decode cL_open 21 = .ok (.astore 6, 2) := by decide +kernel
theorem dL_open_23 : decode cL_open 23 = .ok (.iconst 2, 1) := by decide +kernel
theorem dL_open_24 : decode cL_open 24 = .ok (.ireturn, 1) := by decide +kernel
theorem dL_open_25 : decode cL_open 25 = .ok (.iconst 0, 1) := by decide +kernel
theorem dL_open_26 : decode cL_open 26 = .ok (.ireturn, 1) := by decide +kernel
theorem dL_end_0 : decode cL_end 0 = .ok (.aload_n 1, 1) := by decide +kernel
theorem dL_end_1 : decode cL_end 1 = .ok (.iconst 0, 1) := by decide +kernel
theorem dL_end_2 : decode cL_end 2 = .ok (.aload_n 0, 1) := by decide +kernel
theorem dL_end_3 : decode cL_end 3 = .ok (.invokevirtual 45, 3) := by decide +kernel
theorem dL_end_6 : decode cL_end 6 = .ok (.i2l, 1) := by decide +kernel
theorem dL_end_7 : decode cL_end 7 = .ok (.lastore, 1) := by decide +kernel
theorem dL_end_8 : decode cL_end 8 = .ok (.goto 6, 3) := by decide +kernel
theorem dL_end_11 : decode cL_end 11 = .ok (.astore_n 2, 1) := by decide +kernel
theorem dL_end_12 : decode cL_end 12 = .ok (.iconst 1, 1) := by decide +kernel
theorem dL_end_13 : decode cL_end 13 = .ok (.ireturn, 1) := by decide +kernel
theorem dL_end_14 : decode cL_end 14 = .ok (.iconst 0, 1) := by decide +kernel
theorem dL_end_15 : decode cL_end 15 = .ok (.ireturn, 1) := by decide +kernel
theorem dL_lease_0 : decode cL_lease 0 = .ok (.aload 5, 2) := by decide +kernel
theorem dL_lease_2 : decode cL_lease 2 = .ok (.iconst 0, 1) := by decide +kernel
theorem dL_lease_3 : decode cL_lease 3 = .ok (.aload_n 0, 1) := by decide +kernel
theorem dL_lease_4 : decode cL_lease 4 = .ok (.iload_n 1, 1) := by decide +kernel
theorem dL_lease_5 : decode cL_lease 5 = .ok (.iload_n 2, 1) := by decide +kernel
theorem dL_lease_6 : decode cL_lease 6 = .ok (.iload_n 3, 1) := by decide +kernel
theorem dL_lease_7 : decode cL_lease 7 = .ok (.iload 4, 2) := by decide +kernel
theorem dL_lease_9 : decode cL_lease 9 = .ok (.invokevirtual 49, 3) := by decide +kernel
theorem dL_lease_12 : decode cL_lease 12 = .ok (.i2l, 1) := by decide +kernel
theorem dL_lease_13 : decode cL_lease 13 = .ok (.lastore, 1) := by decide +kernel
theorem dL_lease_14 : decode cL_lease 14 = .ok (.goto 11, 3) := by decide +kernel
theorem dL_lease_17 : decode cL_lease 17 = .ok (.astore 6, 2) := by decide +kernel
theorem dL_lease_19 : decode cL_lease 19 = .ok (.iconst 1, 1) := by decide +kernel
theorem dL_lease_20 : decode cL_lease 20 = .ok (.ireturn, 1) := by decide +kernel
theorem dL_lease_21 : decode cL_lease 21 = .ok (.astore 6, 2) := by decide +kernel
theorem dL_lease_23 : decode cL_lease 23 = .ok (.iconst 2, 1) := by decide +kernel
theorem dL_lease_24 : decode cL_lease 24 = .ok (.ireturn, 1) := by decide +kernel
theorem dL_lease_25 : decode cL_lease 25 = .ok (.iconst 0, 1) := by decide +kernel
theorem dL_lease_26 : decode cL_lease 26 = .ok (.ireturn, 1) := by decide +kernel
theorem dL_land_0 : decode cL_land 0 = .ok (.aload 7, 2) := by decide +kernel
theorem dL_land_2 : decode cL_land 2 = .ok (.iconst 0, 1) := by decide +kernel
theorem dL_land_3 : decode cL_land 3 = .ok (.aload_n 0, 1) := by decide +kernel
theorem dL_land_4 : decode cL_land 4 = .ok (.iload_n 1, 1) := by decide +kernel
theorem dL_land_5 : decode cL_land 5 = .ok (.iload_n 2, 1) := by decide +kernel
theorem dL_land_6 : decode cL_land 6 = .ok (.iload_n 3, 1) := by decide +kernel
theorem dL_land_7 : decode cL_land 7 = .ok (.iload 4, 2) := by decide +kernel
theorem dL_land_9 : decode cL_land 9 = .ok (.iload 5, 2) := by decide +kernel
theorem dL_land_11 : decode cL_land 11 = .ok (.iload 6, 2) := by decide +kernel
theorem dL_land_13 : decode cL_land 13 = .ok (.invokevirtual 52, 3) := by decide +kernel
theorem dL_land_16 : decode cL_land 16 = .ok (.i2l, 1) := by decide +kernel
theorem dL_land_17 : decode cL_land 17 = .ok (.lastore, 1) := by decide +kernel
theorem dL_land_18 : decode cL_land 18 = .ok (.goto 11, 3) := by decide +kernel
theorem dL_land_21 : decode cL_land 21 = .ok (.astore 8, 2) := by decide +kernel
theorem dL_land_23 : decode cL_land 23 = .ok (.iconst 1, 1) := by decide +kernel
theorem dL_land_24 : decode cL_land 24 = .ok (.ireturn, 1) := by decide +kernel
theorem dL_land_25 : decode cL_land 25 = .ok (.astore 8, 2) := by decide +kernel
theorem dL_land_27 : decode cL_land 27 = .ok (.iconst 2, 1) := by decide +kernel
theorem dL_land_28 : decode cL_land 28 = .ok (.ireturn, 1) := by decide +kernel
theorem dL_land_29 : decode cL_land 29 = .ok (.iconst 0, 1) := by decide +kernel
theorem dL_land_30 : decode cL_land 30 = .ok (.ireturn, 1) := by decide +kernel
theorem dL_equivalent_0 : decode cL_equivalent 0 = .ok (.aload 5, 2) := by decide +kernel
theorem dL_equivalent_2 : decode cL_equivalent 2 = .ok (.iconst 0, 1) := by decide +kernel
theorem dL_equivalent_3 : decode cL_equivalent 3 = .ok (.aload_n 0, 1) := by decide +kernel
theorem dL_equivalent_4 : decode cL_equivalent 4 = .ok (.iload_n 1, 1) := by decide +kernel
theorem dL_equivalent_5 : decode cL_equivalent 5 = .ok (.iload_n 2, 1) := by decide +kernel
theorem dL_equivalent_6 : decode cL_equivalent 6 = .ok (.iload_n 3, 1) := by decide +kernel
theorem dL_equivalent_7 : decode cL_equivalent 7 = .ok (.iload 4, 2) := by decide +kernel
theorem dL_equivalent_9 : decode cL_equivalent 9 = .ok (.invokevirtual 56, 3) := by decide +kernel
theorem dL_equivalent_12 : decode cL_equivalent 12 = .ok (.i2l, 1) := by decide +kernel
theorem dL_equivalent_13 : decode cL_equivalent 13 = .ok (.lastore, 1) := by decide +kernel
theorem dL_equivalent_14 : decode cL_equivalent 14 = .ok (.goto 11, 3) := by decide +kernel
theorem dL_equivalent_17 : decode cL_equivalent 17 = .ok (.astore 6, 2) := by decide +kernel
theorem dL_equivalent_19 : decode cL_equivalent 19 = .ok (.iconst 1, 1) := by decide +kernel
theorem dL_equivalent_20 : decode cL_equivalent 20 = .ok (.ireturn, 1) := by decide +kernel
theorem dL_equivalent_21 : decode cL_equivalent 21 = .ok (.astore 6, 2) := by decide +kernel
theorem dL_equivalent_23 : decode cL_equivalent 23 = .ok (.iconst 2, 1) := by decide +kernel
theorem dL_equivalent_24 : decode cL_equivalent 24 = .ok (.ireturn, 1) := by decide +kernel
theorem dL_equivalent_25 : decode cL_equivalent 25 = .ok (.iconst 0, 1) := by decide +kernel
theorem dL_equivalent_26 : decode cL_equivalent 26 = .ok (.ireturn, 1) := by decide +kernel
theorem dL_strike_0 : decode cL_strike 0 = .ok (.aload_n 0, 1) := by decide +kernel
theorem dL_strike_1 : decode cL_strike 1 = .ok (.iload_n 1, 1) := by decide +kernel
theorem dL_strike_2 : decode cL_strike 2 = .ok (.invokevirtual 59, 3) := by decide +kernel
theorem dL_strike_5 : decode cL_strike 5 = .ok (.goto 9, 3) := by decide +kernel
theorem dL_strike_8 : decode cL_strike 8 = .ok (.astore_n 2, 1) := by decide +kernel
theorem dL_strike_9 : decode cL_strike 9 = .ok (.iconst 1, 1) := by decide +kernel
theorem dL_strike_10 : decode cL_strike 10 = .ok (.ireturn, 1) := by decide +kernel
theorem dL_strike_11 : decode cL_strike 11 = .ok (.astore_n 2, 1) := by decide +kernel
theorem dL_strike_12 : decode cL_strike 12 = .ok (.iconst 2, 1) := by decide +kernel
theorem dL_strike_13 : decode cL_strike 13 = .ok (.ireturn, 1) := by decide +kernel
theorem dL_strike_14 : decode cL_strike 14 = .ok (.iconst 0, 1) := by decide +kernel
theorem dL_strike_15 : decode cL_strike 15 = .ok (.ireturn, 1) := by decide +kernel
theorem dL_reopen_0 : decode cL_reopen 0 = .ok (.aload_n 0, 1) := by decide +kernel
theorem dL_reopen_1 : decode cL_reopen 1 = .ok (.iload_n 1, 1) := by decide +kernel
theorem dL_reopen_2 : decode cL_reopen 2 = .ok (.invokevirtual 65, 3) := by decide +kernel
theorem dL_reopen_5 : decode cL_reopen 5 = .ok (.goto 9, 3) := by decide +kernel
theorem dL_reopen_8 : decode cL_reopen 8 = .ok (.astore_n 2, 1) := by decide +kernel
theorem dL_reopen_9 : decode cL_reopen 9 = .ok (.iconst 1, 1) := by decide +kernel
theorem dL_reopen_10 : decode cL_reopen 10 = .ok (.ireturn, 1) := by decide +kernel
theorem dL_reopen_11 : decode cL_reopen 11 = .ok (.astore_n 2, 1) := by decide +kernel
theorem dL_reopen_12 : decode cL_reopen 12 = .ok (.iconst 2, 1) := by decide +kernel
theorem dL_reopen_13 : decode cL_reopen 13 = .ok (.ireturn, 1) := by decide +kernel
theorem dL_reopen_14 : decode cL_reopen 14 = .ok (.iconst 0, 1) := by decide +kernel
theorem dL_reopen_15 : decode cL_reopen 15 = .ok (.ireturn, 1) := by decide +kernel
theorem dL_account_0 : decode cL_account 0 = .ok (.aload 5, 2) := by decide +kernel
theorem dL_account_2 : decode cL_account 2 = .ok (.iconst 0, 1) := by decide +kernel
theorem dL_account_3 : decode cL_account 3 = .ok (.aload_n 0, 1) := by decide +kernel
theorem dL_account_4 : decode cL_account 4 = .ok (.iload_n 1, 1) := by decide +kernel
theorem dL_account_5 : decode cL_account 5 = .ok (.iload_n 2, 1) := by decide +kernel
theorem dL_account_6 : decode cL_account 6 = .ok (.iload_n 3, 1) := by decide +kernel
theorem dL_account_7 : decode cL_account 7 = .ok (.iload 4, 2) := by decide +kernel
theorem dL_account_9 : decode cL_account 9 = .ok (.invokevirtual 68, 3) := by decide +kernel
theorem dL_account_12 : decode cL_account 12 = .ok (.i2l, 1) := by decide +kernel
theorem dL_account_13 : decode cL_account 13 = .ok (.lastore, 1) := by decide +kernel
theorem dL_account_14 : decode cL_account 14 = .ok (.goto 7, 3) := by decide +kernel
theorem dL_account_17 : decode cL_account 17 = .ok (.astore 6, 2) := by decide +kernel
theorem dL_account_19 : decode cL_account 19 = .ok (.iconst 1, 1) := by decide +kernel
theorem dL_account_20 : decode cL_account 20 = .ok (.ireturn, 1) := by decide +kernel
theorem dL_account_21 : decode cL_account 21 = .ok (.iconst 0, 1) := by decide +kernel
theorem dL_account_22 : decode cL_account 22 = .ok (.ireturn, 1) := by decide +kernel
theorem dL_levy_0 : decode cL_levy 0 = .ok (.aload_n 3, 1) := by decide +kernel
theorem dL_levy_1 : decode cL_levy 1 = .ok (.iconst 0, 1) := by decide +kernel
theorem dL_levy_2 : decode cL_levy 2 = .ok (.aload_n 0, 1) := by decide +kernel
theorem dL_levy_3 : decode cL_levy 3 = .ok (.iload_n 1, 1) := by decide +kernel
theorem dL_levy_4 : decode cL_levy 4 = .ok (.iload_n 2, 1) := by decide +kernel
theorem dL_levy_5 : decode cL_levy 5 = .ok (.invokevirtual 71, 3) := by decide +kernel
theorem dL_levy_8 : decode cL_levy 8 = .ok (.lastore, 1) := by decide +kernel
theorem dL_levy_9 : decode cL_levy 9 = .ok (.goto 7, 3) := by decide +kernel
theorem dL_levy_12 : decode cL_levy 12 = .ok (.astore 4, 2) := by decide +kernel
theorem dL_levy_14 : decode cL_levy 14 = .ok (.iconst 1, 1) := by decide +kernel
theorem dL_levy_15 : decode cL_levy 15 = .ok (.ireturn, 1) := by decide +kernel
theorem dL_levy_16 : decode cL_levy 16 = .ok (.iconst 0, 1) := by decide +kernel
theorem dL_levy_17 : decode cL_levy 17 = .ok (.ireturn, 1) := by decide +kernel
theorem dL_held_0 : decode cL_held 0 = .ok (.aload 4, 2) := by decide +kernel
theorem dL_held_2 : decode cL_held 2 = .ok (.iconst 0, 1) := by decide +kernel
theorem dL_held_3 : decode cL_held 3 = .ok (.aload_n 0, 1) := by decide +kernel
theorem dL_held_4 : decode cL_held 4 = .ok (.iload_n 1, 1) := by decide +kernel
theorem dL_held_5 : decode cL_held 5 = .ok (.iload_n 2, 1) := by decide +kernel
theorem dL_held_6 : decode cL_held 6 = .ok (.iload_n 3, 1) := by decide +kernel
theorem dL_held_7 : decode cL_held 7 = .ok (.invokevirtual 75, 3) := by decide +kernel
theorem dL_held_10 : decode cL_held 10 = .ok (.i2l, 1) := by decide +kernel
theorem dL_held_11 : decode cL_held 11 = .ok (.lastore, 1) := by decide +kernel
theorem dL_held_12 : decode cL_held 12 = .ok (.goto 7, 3) := by decide +kernel
theorem dL_held_15 : decode cL_held 15 = .ok (.astore 5, 2) := by decide +kernel
theorem dL_held_17 : decode cL_held 17 = .ok (.iconst 1, 1) := by decide +kernel
theorem dL_held_18 : decode cL_held 18 = .ok (.ireturn, 1) := by decide +kernel
theorem dL_held_19 : decode cL_held 19 = .ok (.iconst 0, 1) := by decide +kernel
theorem dL_held_20 : decode cL_held 20 = .ok (.ireturn, 1) := by decide +kernel
theorem dL_event_0 : decode cL_event 0 = .ok (.aload_n 3, 1) := by decide +kernel
theorem dL_event_1 : decode cL_event 1 = .ok (.iconst 0, 1) := by decide +kernel
theorem dL_event_2 : decode cL_event 2 = .ok (.aload_n 0, 1) := by decide +kernel
theorem dL_event_3 : decode cL_event 3 = .ok (.iload_n 1, 1) := by decide +kernel
