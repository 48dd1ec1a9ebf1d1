theorem dX4_issue_180 : decode cX4_issue 180 = .ok (.isub, 1) := by decide +kernel
theorem dX4_issue_181 : decode cX4_issue 181 = .ok (.iastore, 1) := by decide +kernel
theorem dX4_issue_182 : decode cX4_issue 182 = .ok (.iconst 0, 1) := by decide +kernel
theorem dX4_issue_183 : decode cX4_issue 183 = .ok (.ireturn, 1) := by decide +kernel
theorem dX4_issue_184 : decode cX4_issue 184 = .ok (.aload_n 0, 1) := by decide +kernel
theorem dX4_issue_185 : decode cX4_issue 185 = .ok (.getfield 22, 3) := by decide +kernel
theorem dX4_issue_188 : decode cX4_issue 188 = .ok (.bipush 6, 2) := by decide +kernel
theorem dX4_issue_190 : decode cX4_issue 190 = .ok (.iload_n 1, 1) := by decide +kernel
theorem dX4_issue_191 : decode cX4_issue 191 = .ok (.imul, 1) := by decide +kernel
theorem dX4_issue_192 : decode cX4_issue 192 = .ok (.iload_n 2, 1) := by decide +kernel
theorem dX4_issue_193 : decode cX4_issue 193 = .ok (.iadd, 1) := by decide +kernel
theorem dX4_issue_194 : decode cX4_issue 194 = .ok (.iaload, 1) := by decide +kernel
theorem dX4_issue_195 : decode cX4_issue 195 = .ok (.ireturn, 1) := by decide +kernel
theorem dX4_sell_0 : decode cX4_sell 0 = .ok (.iload_n 1, 1) := by decide +kernel
theorem dX4_sell_1 : decode cX4_sell 1 = .ok (.invokestatic 114, 3) := by decide +kernel
theorem dX4_sell_4 : decode cX4_sell 4 = .ok (.ifCond .eq 39, 3) := by decide +kernel
theorem dX4_sell_7 : decode cX4_sell 7 = .ok (.iload_n 2, 1) := by decide +kernel
theorem dX4_sell_8 : decode cX4_sell 8 = .ok (.invokestatic 134, 3) := by decide +kernel
theorem dX4_sell_11 : decode cX4_sell 11 = .ok (.ifCond .eq 32, 3) := by decide +kernel
theorem dX4_sell_14 : decode cX4_sell 14 = .ok (.iload_n 3, 1) := by decide +kernel
theorem dX4_sell_15 : decode cX4_sell 15 = .ok (.invokestatic 134, 3) := by decide +kernel
theorem dX4_sell_18 : decode cX4_sell 18 = .ok (.ifCond .eq 25, 3) := by decide +kernel
theorem dX4_sell_21 : decode cX4_sell 21 = .ok (.iload_n 2, 1) := by decide +kernel
theorem dX4_sell_22 : decode cX4_sell 22 = .ok (.iload_n 3, 1) := by decide +kernel
theorem dX4_sell_23 : decode cX4_sell 23 = .ok (.if_icmp .eq 20, 3) := by decide +kernel
theorem dX4_sell_26 : decode cX4_sell 26 = .ok (.iload 4, 2) := by decide +kernel
theorem dX4_sell_28 : decode cX4_sell 28 = .ok (.i2l, 1) := by decide +kernel
theorem dX4_sell_29 : decode cX4_sell 29 = .ok (.lconst 1, 1) := by decide +kernel
theorem dX4_sell_30 : decode cX4_sell 30 = .ok (.ldc2_w 120, 3) := by decide +kernel
theorem dX4_sell_33 : decode cX4_sell 33 = .ok (.invokestatic 100, 3) := by decide +kernel
theorem dX4_sell_36 : decode cX4_sell 36 = .ok (.ifCond .eq 7, 3) := by decide +kernel
theorem dX4_sell_39 : decode cX4_sell 39 = .ok (.iconst 1, 1) := by decide +kernel
theorem dX4_sell_40 : decode cX4_sell 40 = .ok (.goto 4, 3) := by decide +kernel
theorem dX4_sell_43 : decode cX4_sell 43 = .ok (.iconst 0, 1) := by decide +kernel
theorem dX4_sell_44 : decode cX4_sell 44 = .ok (.istore 5, 2) := by decide +kernel
theorem dX4_sell_46 : decode cX4_sell 46 = .ok (.aload_n 0, 1) := by decide +kernel
theorem dX4_sell_47 : decode cX4_sell 47 = .ok (.iload 5, 2) := by decide +kernel
theorem dX4_sell_49 : decode cX4_sell 49 = .ok (.ifCond .ne 7, 3) := by decide +kernel
theorem dX4_sell_52 : decode cX4_sell 52 = .ok (.iconst 1, 1) := by decide +kernel
theorem dX4_sell_53 : decode cX4_sell 53 = .ok (.goto 4, 3) := by decide +kernel
theorem dX4_sell_56 : decode cX4_sell 56 = .ok (.iconst 0, 1) := by decide +kernel
theorem dX4_sell_57 : decode cX4_sell 57 = .ok (.iload 5, 2) := by decide +kernel
theorem dX4_sell_59 : decode cX4_sell 59 = .ok (.ifCond .eq 18, 3) := by decide +kernel
theorem dX4_sell_62 : decode cX4_sell 62 = .ok (.aload_n 0, 1) := by decide +kernel
theorem dX4_sell_63 : decode cX4_sell 63 = .ok (.iload_n 1, 1) := by decide +kernel
theorem dX4_sell_64 : decode cX4_sell 64 = .ok (.iload_n 2, 1) := by decide +kernel
theorem dX4_sell_65 : decode cX4_sell 65 = .ok (.invokevirtual 144, 3) := by decide +kernel
theorem dX4_sell_68 : decode cX4_sell 68 = .ok (.iload 4, 2) := by decide +kernel
theorem dX4_sell_70 : decode cX4_sell 70 = .ok (.if_icmp .ge 7, 3) := by decide +kernel
theorem dX4_sell_73 : decode cX4_sell 73 = .ok (.iconst 1, 1) := by decide +kernel
theorem dX4_sell_74 : decode cX4_sell 74 = .ok (.goto 4, 3) := by decide +kernel
theorem dX4_sell_77 : decode cX4_sell 77 = .ok (.iconst 0, 1) := by decide +kernel
theorem dX4_sell_78 : decode cX4_sell 78 = .ok (.invokevirtual 126, 3) := by decide +kernel
theorem dX4_sell_81 : decode cX4_sell 81 = .ok (.ifCond .eq 4, 3) := by decide +kernel
theorem dX4_sell_84 : decode cX4_sell 84 = .ok (.return_, 1) := by decide +kernel
theorem dX4_sell_85 : decode cX4_sell 85 = .ok (.aload_n 0, 1) := by decide +kernel
theorem dX4_sell_86 : decode cX4_sell 86 = .ok (.getfield 22, 3) := by decide +kernel
theorem dX4_sell_89 : decode cX4_sell 89 = .ok (.bipush 6, 2) := by decide +kernel
theorem dX4_sell_91 : decode cX4_sell 91 = .ok (.iload_n 1, 1) := by decide +kernel
theorem dX4_sell_92 : decode cX4_sell 92 = .ok (.imul, 1) := by decide +kernel
theorem dX4_sell_93 : decode cX4_sell 93 = .ok (.iload_n 2, 1) := by decide +kernel
theorem dX4_sell_94 : decode cX4_sell 94 = .ok (.iadd, 1) := by decide +kernel
theorem dX4_sell_95 : decode cX4_sell 95 = .ok (.aload_n 0, 1) := by decide +kernel
theorem dX4_sell_96 : decode cX4_sell 96 = .ok (.getfield 22, 3) := by decide +kernel
theorem dX4_sell_99 : decode cX4_sell 99 = .ok (.bipush 6, 2) := by decide +kernel
theorem dX4_sell_101 : decode cX4_sell 101 = .ok (.iload_n 1, 1) := by decide +kernel
theorem dX4_sell_102 : decode cX4_sell 102 = .ok (.imul, 1) := by decide +kernel
theorem dX4_sell_103 : decode cX4_sell 103 = .ok (.iload_n 2, 1) := by decide +kernel
theorem dX4_sell_104 : decode cX4_sell 104 = .ok (.iadd, 1) := by decide +kernel
theorem dX4_sell_105 : decode cX4_sell 105 = .ok (.iaload, 1) := by decide +kernel
theorem dX4_sell_106 : decode cX4_sell 106 = .ok (.iload 4, 2) := by decide +kernel
theorem dX4_sell_108 : decode cX4_sell 108 = .ok (.isub, 1) := by decide +kernel
theorem dX4_sell_109 : decode cX4_sell 109 = .ok (.iastore, 1) := by decide +kernel
theorem dX4_sell_110 : decode cX4_sell 110 = .ok (.aload_n 0, 1) := by decide +kernel
theorem dX4_sell_111 : decode cX4_sell 111 = .ok (.getfield 22, 3) := by decide +kernel
theorem dX4_sell_114 : decode cX4_sell 114 = .ok (.bipush 6, 2) := by decide +kernel
theorem dX4_sell_116 : decode cX4_sell 116 = .ok (.iload_n 1, 1) := by decide +kernel
theorem dX4_sell_117 : decode cX4_sell 117 = .ok (.imul, 1) := by decide +kernel
theorem dX4_sell_118 : decode cX4_sell 118 = .ok (.iload_n 3, 1) := by decide +kernel
theorem dX4_sell_119 : decode cX4_sell 119 = .ok (.iadd, 1) := by decide +kernel
theorem dX4_sell_120 : decode cX4_sell 120 = .ok (.aload_n 0, 1) := by decide +kernel
theorem dX4_sell_121 : decode cX4_sell 121 = .ok (.getfield 22, 3) := by decide +kernel
theorem dX4_sell_124 : decode cX4_sell 124 = .ok (.bipush 6, 2) := by decide +kernel
theorem dX4_sell_126 : decode cX4_sell 126 = .ok (.iload_n 1, 1) := by decide +kernel
theorem dX4_sell_127 : decode cX4_sell 127 = .ok (.imul, 1) := by decide +kernel
theorem dX4_sell_128 : decode cX4_sell 128 = .ok (.iload_n 3, 1) := by decide +kernel
theorem dX4_sell_129 : decode cX4_sell 129 = .ok (.iadd, 1) := by decide +kernel
theorem dX4_sell_130 : decode cX4_sell 130 = .ok (.iaload, 1) := by decide +kernel
theorem dX4_sell_131 : decode cX4_sell 131 = .ok (.iload 4, 2) := by decide +kernel
theorem dX4_sell_133 : decode cX4_sell 133 = .ok (.iadd, 1) := by decide +kernel
theorem dX4_sell_134 : decode cX4_sell 134 = .ok (.iastore, 1) := by decide +kernel
theorem dX4_sell_135 : decode cX4_sell 135 = .ok (.aload_n 0, 1) := by decide +kernel
theorem dX4_sell_136 : decode cX4_sell 136 = .ok (.iconst 0, 1) := by decide +kernel
theorem dX4_sell_137 : decode cX4_sell 137 = .ok (.aload_n 0, 1) := by decide +kernel
theorem dX4_sell_138 : decode cX4_sell 138 = .ok (.iload_n 1, 1) := by decide +kernel
theorem dX4_sell_139 : decode cX4_sell 139 = .ok (.aload_n 0, 1) := by decide +kernel
theorem dX4_sell_140 : decode cX4_sell 140 = .ok (.getfield 13, 3) := by decide +kernel
theorem dX4_sell_143 : decode cX4_sell 143 = .ok (.iload_n 1, 1) := by decide +kernel
theorem dX4_sell_144 : decode cX4_sell 144 = .ok (.iaload, 1) := by decide +kernel
theorem dX4_sell_145 : decode cX4_sell 145 = .ok (.invokevirtual 122, 3) := by decide +kernel
theorem dX4_sell_148 : decode cX4_sell 148 = .ok (.ifCond .ne 7, 3) := by decide +kernel
theorem dX4_sell_151 : decode cX4_sell 151 = .ok (.iconst 1, 1) := by decide +kernel
theorem dX4_sell_152 : decode cX4_sell 152 = .ok (.goto 4, 3) := by decide +kernel
theorem dX4_sell_155 : decode cX4_sell 155 = .ok (.iconst 0, 1) := by decide +kernel
theorem dX4_sell_156 : decode cX4_sell 156 = .ok (.invokevirtual 126, 3) := by decide +kernel
theorem dX4_sell_159 : decode cX4_sell 159 = .ok (.ifCond .eq 53, 3) := by decide +kernel
theorem dX4_sell_162 : decode cX4_sell 162 = .ok (.aload_n 0, 1) := by decide +kernel
theorem dX4_sell_163 : decode cX4_sell 163 = .ok (.getfield 22, 3) := by decide +kernel
theorem dX4_sell_166 : decode cX4_sell 166 = .ok (.bipush 6, 2) := by decide +kernel
theorem dX4_sell_168 : decode cX4_sell 168 = .ok (.iload_n 1, 1) := by decide +kernel
theorem dX4_sell_169 : decode cX4_sell 169 = .ok (.imul, 1) := by decide +kernel
theorem dX4_sell_170 : decode cX4_sell 170 = .ok (.iload_n 2, 1) := by decide +kernel
theorem dX4_sell_171 : decode cX4_sell 171 = .ok (.iadd, 1) := by decide +kernel
theorem dX4_sell_172 : decode cX4_sell 172 = .ok (.aload_n 0, 1) := by decide +kernel
theorem dX4_sell_173 : decode cX4_sell 173 = .ok (.getfield 22, 3) := by decide +kernel
theorem dX4_sell_176 : decode cX4_sell 176 = .ok (.bipush 6, 2) := by decide +kernel
theorem dX4_sell_178 : decode cX4_sell 178 = .ok (.iload_n 1, 1) := by decide +kernel
theorem dX4_sell_179 : decode cX4_sell 179 = .ok (.imul, 1) := by decide +kernel
theorem dX4_sell_180 : decode cX4_sell 180 = .ok (.iload_n 2, 1) := by decide +kernel
theorem dX4_sell_181 : decode cX4_sell 181 = .ok (.iadd, 1) := by decide +kernel
theorem dX4_sell_182 : decode cX4_sell 182 = .ok (.iaload, 1) := by decide +kernel
theorem dX4_sell_183 : decode cX4_sell 183 = .ok (.iload 4, 2) := by decide +kernel
theorem dX4_sell_185 : decode cX4_sell 185 = .ok (.iadd, 1) := by decide +kernel
theorem dX4_sell_186 : decode cX4_sell 186 = .ok (.iastore, 1) := by decide +kernel
theorem dX4_sell_187 : decode cX4_sell 187 = .ok (.aload_n 0, 1) := by decide +kernel
theorem dX4_sell_188 : decode cX4_sell 188 = .ok (.getfield 22, 3) := by decide +kernel
theorem dX4_sell_191 : decode cX4_sell 191 = .ok (.bipush 6, 2) := by decide +kernel
theorem dX4_sell_193 : decode cX4_sell 193 = .ok (.iload_n 1, 1) := by decide +kernel
theorem dX4_sell_194 : decode cX4_sell 194 = .ok (.imul, 1) := by decide +kernel
theorem dX4_sell_195 : decode cX4_sell 195 = .ok (.iload_n 3, 1) := by decide +kernel
theorem dX4_sell_196 : decode cX4_sell 196 = .ok (.iadd, 1) := by decide +kernel
theorem dX4_sell_197 : decode cX4_sell 197 = .ok (.aload_n 0, 1) := by decide +kernel
theorem dX4_sell_198 : decode cX4_sell 198 = .ok (.getfield 22, 3) := by decide +kernel
theorem dX4_sell_201 : decode cX4_sell 201 = .ok (.bipush 6, 2) := by decide +kernel
theorem dX4_sell_203 : decode cX4_sell 203 = .ok (.iload_n 1, 1) := by decide +kernel
theorem dX4_sell_204 : decode cX4_sell 204 = .ok (.imul, 1) := by decide +kernel
theorem dX4_sell_205 : decode cX4_sell 205 = .ok (.iload_n 3, 1) := by decide +kernel
theorem dX4_sell_206 : decode cX4_sell 206 = .ok (.iadd, 1) := by decide +kernel
theorem dX4_sell_207 : decode cX4_sell 207 = .ok (.iaload, 1) := by decide +kernel
theorem dX4_sell_208 : decode cX4_sell 208 = .ok (.iload 4, 2) := by decide +kernel
theorem dX4_sell_210 : decode cX4_sell 210 = .ok (.isub, 1) := by decide +kernel
theorem dX4_sell_211 : decode cX4_sell 211 = .ok (.iastore, 1) := by decide +kernel
theorem dX4_sell_212 : decode cX4_sell 212 = .ok (.return_, 1) := by decide +kernel
theorem dX4_place_0 : decode cX4_place 0 = .ok (.iload_n 1, 1) := by decide +kernel
theorem dX4_place_1 : decode cX4_place 1 = .ok (.invokestatic 114, 3) := by decide +kernel
theorem dX4_place_4 : decode cX4_place 4 = .ok (.ifCond .eq 14, 3) := by decide +kernel
theorem dX4_place_7 : decode cX4_place 7 = .ok (.iload_n 2, 1) := by decide +kernel
theorem dX4_place_8 : decode cX4_place 8 = .ok (.invokestatic 134, 3) := by decide +kernel
theorem dX4_place_11 : decode cX4_place 11 = .ok (.ifCond .eq 7, 3) := by decide +kernel
theorem dX4_place_14 : decode cX4_place 14 = .ok (.iconst 1, 1) := by decide +kernel
theorem dX4_place_15 : decode cX4_place 15 = .ok (.goto 4, 3) := by decide +kernel
theorem dX4_place_18 : decode cX4_place 18 = .ok (.iconst 0, 1) := by decide +kernel
theorem dX4_place_19 : decode cX4_place 19 = .ok (.istore 4, 2) := by decide +kernel
theorem dX4_place_21 : decode cX4_place 21 = .ok (.iload 4, 2) := by decide +kernel
theorem dX4_place_23 : decode cX4_place 23 = .ok (.ifCond .eq 42, 3) := by decide +kernel
theorem dX4_place_26 : decode cX4_place 26 = .ok (.iload_n 3, 1) := by decide +kernel
theorem dX4_place_27 : decode cX4_place 27 = .ok (.aload_n 0, 1) := by decide +kernel
theorem dX4_place_28 : decode cX4_place 28 = .ok (.iload_n 1, 1) := by decide +kernel
theorem dX4_place_29 : decode cX4_place 29 = .ok (.aload_n 0, 1) := by decide +kernel
theorem dX4_place_30 : decode cX4_place 30 = .ok (.getfield 19, 3) := by decide +kernel
theorem dX4_place_33 : decode cX4_place 33 = .ok (.iload_n 2, 1) := by decide +kernel
theorem dX4_place_34 : decode cX4_place 34 = .ok (.iaload, 1) := by decide +kernel
theorem dX4_place_35 : decode cX4_place 35 = .ok (.invokevirtual 144, 3) := by decide +kernel
theorem dX4_place_38 : decode cX4_place 38 = .ok (.if_icmp .gt 27, 3) := by decide +kernel
theorem dX4_place_41 : decode cX4_place 41 = .ok (.aload_n 0, 1) := by decide +kernel
theorem dX4_place_42 : decode cX4_place 42 = .ok (.getfield 25, 3) := by decide +kernel
theorem dX4_place_45 : decode cX4_place 45 = .ok (.bipush 6, 2) := by decide +kernel
theorem dX4_place_47 : decode cX4_place 47 = .ok (.iload_n 1, 1) := by decide +kernel
theorem dX4_place_48 : decode cX4_place 48 = .ok (.imul, 1) := by decide +kernel
theorem dX4_place_49 : decode cX4_place 49 = .ok (.iload_n 2, 1) := by decide +kernel
theorem dX4_place_50 : decode cX4_place 50 = .ok (.iadd, 1) := by decide +kernel
theorem dX4_place_51 : decode cX4_place 51 = .ok (.iaload, 1) := by decide +kernel
theorem dX4_place_52 : decode cX4_place 52 = .ok (.i2l, 1) := by decide +kernel
theorem dX4_place_53 : decode cX4_place 53 = .ok (.iload_n 3, 1) := by decide +kernel
theorem dX4_place_54 : decode cX4_place 54 = .ok (.i2l, 1) := by decide +kernel
theorem dX4_place_55 : decode cX4_place 55 = .ok (.ladd, 1) := by decide +kernel
theorem dX4_place_56 : decode cX4_place 56 = .ok (.lconst 0, 1) := by decide +kernel
theorem dX4_place_57 : decode cX4_place 57 = .ok (.lcmp, 1) := by decide +kernel
theorem dX4_place_58 : decode cX4_place 58 = .ok (.ifCond .lt 7, 3) := by decide +kernel
theorem dX4_place_61 : decode cX4_place 61 = .ok (.iconst 1, 1) := by decide +kernel
theorem dX4_place_62 : decode cX4_place 62 = .ok (.goto 4, 3) := by decide +kernel
theorem dX4_place_65 : decode cX4_place 65 = .ok (.iconst 0, 1) := by decide +kernel
theorem dX4_place_66 : decode cX4_place 66 = .ok (.istore 5, 2) := by decide +kernel
theorem dX4_place_68 : decode cX4_place 68 = .ok (.aload_n 0, 1) := by decide +kernel
theorem dX4_place_69 : decode cX4_place 69 = .ok (.iload 4, 2) := by decide +kernel
theorem dX4_place_71 : decode cX4_place 71 = .ok (.ifCond .ne 7, 3) := by decide +kernel
theorem dX4_place_74 : decode cX4_place 74 = .ok (.iconst 1, 1) := by decide +kernel
theorem dX4_place_75 : decode cX4_place 75 = .ok (.goto 4, 3) := by decide +kernel
theorem dX4_place_78 : decode cX4_place 78 = .ok (.iconst 0, 1) := by decide +kernel
theorem dX4_place_79 : decode cX4_place 79 = .ok (.iload 5, 2) := by decide +kernel
theorem dX4_place_81 : decode cX4_place 81 = .ok (.ifCond .ne 7, 3) := by decide +kernel
theorem dX4_place_84 : decode cX4_place 84 = .ok (.iconst 1, 1) := by decide +kernel
theorem dX4_place_85 : decode cX4_place 85 = .ok (.goto 4, 3) := by decide +kernel
theorem dX4_place_88 : decode cX4_place 88 = .ok (.iconst 0, 1) := by decide +kernel
theorem dX4_place_89 : decode cX4_place 89 = .ok (.invokevirtual 126, 3) := by decide +kernel
theorem dX4_place_92 : decode cX4_place 92 = .ok (.ifCond .eq 5, 3) := by decide +kernel
theorem dX4_place_95 : decode cX4_place 95 = .ok (.iconst 0, 1) := by decide +kernel
theorem dX4_place_96 : decode cX4_place 96 = .ok (.ireturn, 1) := by decide +kernel
theorem dX4_place_97 : decode cX4_place 97 = .ok (.aload_n 0, 1) := by decide +kernel
theorem dX4_place_98 : decode cX4_place 98 = .ok (.getfield 25, 3) := by decide +kernel
theorem dX4_place_101 : decode cX4_place 101 = .ok (.bipush 6, 2) := by decide +kernel
theorem dX4_place_103 : decode cX4_place 103 = .ok (.iload_n 1, 1) := by decide +kernel
theorem dX4_place_104 : decode cX4_place 104 = .ok (.imul, 1) := by decide +kernel
theorem dX4_place_105 : decode cX4_place 105 = .ok (.iload_n 2, 1) := by decide +kernel
theorem dX4_place_106 : decode cX4_place 106 = .ok (.iadd, 1) := by decide +kernel
theorem dX4_place_107 : decode cX4_place 107 = .ok (.aload_n 0, 1) := by decide +kernel
theorem dX4_place_108 : decode cX4_place 108 = .ok (.getfield 25, 3) := by decide +kernel
theorem dX4_place_111 : decode cX4_place 111 = .ok (.bipush 6, 2) := by decide +kernel
theorem dX4_place_113 : decode cX4_place 113 = .ok (.iload_n 1, 1) := by decide +kernel
theorem dX4_place_114 : decode cX4_place 114 = .ok (.imul, 1) := by decide +kernel
theorem dX4_place_115 : decode cX4_place 115 = .ok (.iload_n 2, 1) := by decide +kernel
theorem dX4_place_116 : decode cX4_place 116 = .ok (.iadd, 1) := by decide +kernel
theorem dX4_place_117 : decode cX4_place 117 = .ok (.iaload, 1) := by decide +kernel
theorem dX4_place_118 : decode cX4_place 118 = .ok (.iload_n 3, 1) := by decide +kernel
theorem dX4_place_119 : decode cX4_place 119 = .ok (.iadd, 1) := by decide +kernel
theorem dX4_place_120 : decode cX4_place 120 = .ok (.iastore, 1) := by decide +kernel
theorem dX4_place_121 : decode cX4_place 121 = .ok (.aload_n 0, 1) := by decide +kernel
theorem dX4_place_122 : decode cX4_place 122 = .ok (.getfield 25, 3) := by decide +kernel
theorem dX4_place_125 : decode cX4_place 125 = .ok (.bipush 6, 2) := by decide +kernel
theorem dX4_place_127 : decode cX4_place 127 = .ok (.iload_n 1, 1) := by decide +kernel
theorem dX4_place_128 : decode cX4_place 128 = .ok (.imul, 1) := by decide +kernel
theorem dX4_place_129 : decode cX4_place 129 = .ok (.iload_n 2, 1) := by decide +kernel
theorem dX4_place_130 : decode cX4_place 130 = .ok (.iadd, 1) := by decide +kernel
theorem dX4_place_131 : decode cX4_place 131 = .ok (.iaload, 1) := by decide +kernel
theorem dX4_place_132 : decode cX4_place 132 = .ok (.ireturn, 1) := by decide +kernel
theorem dX4_at_0 : decode cX4_at 0 = .ok (.bipush 24, 2) := by decide +kernel
theorem dX4_at_2 : decode cX4_at 2 = .ok (.iload_n 0, 1) := by decide +kernel
theorem dX4_at_3 : decode cX4_at 3 = .ok (.imul, 1) := by decide +kernel
theorem dX4_at_4 : decode cX4_at 4 = .ok (.iconst 4, 1) := by decide +kernel
theorem dX4_at_5 : decode cX4_at 5 = .ok (.iload_n 1, 1) := by decide +kernel
theorem dX4_at_6 : decode cX4_at 6 = .ok (.imul, 1) := by decide +kernel
theorem dX4_at_7 : decode cX4_at 7 = .ok (.iadd, 1) := by decide +kernel
theorem dX4_at_8 : decode cX4_at 8 = .ok (.iload_n 2, 1) := by decide +kernel
theorem dX4_at_9 : decode cX4_at 9 = .ok (.iadd, 1) := by decide +kernel
theorem dX4_at_10 : decode cX4_at 10 = .ok (.ireturn, 1) := by decide +kernel
theorem dX4_allot_0 : decode cX4_allot 0 = .ok (.lconst 0, 1) := by decide +kernel
theorem dX4_allot_1 : decode cX4_allot 1 = .ok (.lstore 4, 2) := by decide +kernel
theorem dX4_allot_3 : decode cX4_allot 3 = .ok (.lconst 0, 1) := by decide +kernel
theorem dX4_allot_4 : decode cX4_allot 4 = .ok (.lstore 6, 2) := by decide +kernel
theorem dX4_allot_6 : decode cX4_allot 6 = .ok (.iconst 0, 1) := by decide +kernel
theorem dX4_allot_7 : decode cX4_allot 7 = .ok (.istore 8, 2) := by decide +kernel
theorem dX4_allot_9 : decode cX4_allot 9 = .ok (.iload 8, 2) := by decide +kernel
theorem dX4_allot_11 : decode cX4_allot 11 = .ok (.bipush 6, 2) := by decide +kernel
theorem dX4_allot_13 : decode cX4_allot 13 = .ok (.if_icmp .ge 88, 3) := by decide +kernel
theorem dX4_allot_16 : decode cX4_allot 16 = .ok (.iload_n 3, 1) := by decide +kernel
theorem dX4_allot_17 : decode cX4_allot 17 = .ok (.i2l, 1) := by decide +kernel
theorem dX4_allot_18 : decode cX4_allot 18 = .ok (.aload_n 0, 1) := by decide +kernel
theorem dX4_allot_19 : decode cX4_allot 19 = .ok (.getfield 25, 3) := by decide +kernel
theorem dX4_allot_22 : decode cX4_allot 22 = .ok (.bipush 6, 2) := by decide +kernel
theorem dX4_allot_24 : decode cX4_allot 24 = .ok (.iload_n 2, 1) := by decide +kernel
theorem dX4_allot_25 : decode cX4_allot 25 = .ok (.imul, 1) := by decide +kernel
theorem dX4_allot_26 : decode cX4_allot 26 = .ok (.iload 8, 2) := by decide +kernel
theorem dX4_allot_28 : decode cX4_allot 28 = .ok (.iadd, 1) := by decide +kernel
theorem dX4_allot_29 : decode cX4_allot 29 = .ok (.iaload, 1) := by decide +kernel
theorem dX4_allot_30 : decode cX4_allot 30 = .ok (.i2l, 1) := by decide +kernel
theorem dX4_allot_31 : decode cX4_allot 31 = .ok (.lmul, 1) := by decide +kernel
theorem dX4_allot_32 : decode cX4_allot 32 = .ok (.lstore 9, 2) := by decide +kernel
theorem dX4_allot_34 : decode cX4_allot 34 = .ok (.lload 4, 2) := by decide +kernel
theorem dX4_allot_36 : decode cX4_allot 36 = .ok (.aload_n 0, 1) := by decide +kernel
theorem dX4_allot_37 : decode cX4_allot 37 = .ok (.getfield 25, 3) := by decide +kernel
theorem dX4_allot_40 : decode cX4_allot 40 = .ok (.bipush 6, 2) := by decide +kernel
theorem dX4_allot_42 : decode cX4_allot 42 = .ok (.iload_n 2, 1) := by decide +kernel
theorem dX4_allot_43 : decode cX4_allot 43 = .ok (.imul, 1) := by decide +kernel
theorem dX4_allot_44 : decode cX4_allot 44 = .ok (.iload 8, 2) := by decide +kernel
theorem dX4_allot_46 : decode cX4_allot 46 = .ok (.iadd, 1) := by decide +kernel
theorem dX4_allot_47 : decode cX4_allot 47 = .ok (.iaload, 1) := by decide +kernel
theorem dX4_allot_48 : decode cX4_allot 48 = .ok (.i2l, 1) := by decide +kernel
theorem dX4_allot_49 : decode cX4_allot 49 = .ok (.ladd, 1) := by decide +kernel
theorem dX4_allot_50 : decode cX4_allot 50 = .ok (.lstore 4, 2) := by decide +kernel
theorem dX4_allot_52 : decode cX4_allot 52 = .ok (.aload_n 0, 1) := by decide +kernel
theorem dX4_allot_53 : decode cX4_allot 53 = .ok (.getfield 38, 3) := by decide +kernel
theorem dX4_allot_56 : decode cX4_allot 56 = .ok (.iload_n 1, 1) := by decide +kernel
theorem dX4_allot_57 : decode cX4_allot 57 = .ok (.iload 8, 2) := by decide +kernel
theorem dX4_allot_59 : decode cX4_allot 59 = .ok (.iload_n 2, 1) := by decide +kernel
theorem dX4_allot_60 : decode cX4_allot 60 = .ok (.invokestatic 147, 3) := by decide +kernel
theorem dX4_allot_63 : decode cX4_allot 63 = .ok (.lload 9, 2) := by decide +kernel
theorem dX4_allot_65 : decode cX4_allot 65 = .ok (.ldc2_w 120, 3) := by decide +kernel
theorem dX4_allot_68 : decode cX4_allot 68 = .ok (.ldiv, 1) := by decide +kernel
theorem dX4_allot_69 : decode cX4_allot 69 = .ok (.l2i, 1) := by decide +kernel
theorem dX4_allot_70 : decode cX4_allot 70 = .ok (.iastore, 1) := by decide +kernel
theorem dX4_allot_71 : decode cX4_allot 71 = .ok (.aload_n 0, 1) := by decide +kernel
theorem dX4_allot_72 : decode cX4_allot 72 = .ok (.getfield 89, 3) := by decide +kernel
theorem dX4_allot_75 : decode cX4_allot 75 = .ok (.iload 8, 2) := by decide +kernel
theorem dX4_allot_77 : decode cX4_allot 77 = .ok (.lload 9, 2) := by decide +kernel
theorem dX4_allot_79 : decode cX4_allot 79 = .ok (.ldc2_w 120, 3) := by decide +kernel
theorem dX4_allot_82 : decode cX4_allot 82 = .ok (.lrem, 1) := by decide +kernel
theorem dX4_allot_83 : decode cX4_allot 83 = .ok (.lastore, 1) := by decide +kernel
theorem dX4_allot_84 : decode cX4_allot 84 = .ok (.lload 6, 2) := by decide +kernel
theorem dX4_allot_86 : decode cX4_allot 86 = .ok (.lload 9, 2) := by decide +kernel
theorem dX4_allot_88 : decode cX4_allot 88 = .ok (.ldc2_w 120, 3) := by decide +kernel
theorem dX4_allot_91 : decode cX4_allot 91 = .ok (.ldiv, 1) := by decide +kernel
theorem dX4_allot_92 : decode cX4_allot 92 = .ok (.ladd, 1) := by decide +kernel
theorem dX4_allot_93 : decode cX4_allot 93 = .ok (.lstore 6, 2) := by decide +kernel
theorem dX4_allot_95 : decode cX4_allot 95 = .ok (.iinc 8 1, 3) := by decide +kernel
theorem dX4_allot_98 : decode cX4_allot 98 = .ok (.goto (-89), 3) := by decide +kernel
theorem dX4_allot_101 : decode cX4_allot 101 = .ok (.iload_n 3, 1) := by decide +kernel
theorem dX4_allot_102 : decode cX4_allot 102 = .ok (.i2l, 1) := by decide +kernel
theorem dX4_allot_103 : decode cX4_allot 103 = .ok (.lload 4, 2) := by decide +kernel
theorem dX4_allot_105 : decode cX4_allot 105 = .ok (.lmul, 1) := by decide +kernel
theorem dX4_allot_106 : decode cX4_allot 106 = .ok (.ldc2_w 120, 3) := by decide +kernel
theorem dX4_allot_109 : decode cX4_allot 109 = .ok (.ldiv, 1) := by decide +kernel
theorem dX4_allot_110 : decode cX4_allot 110 = .ok (.lstore 8, 2) := by decide +kernel
theorem dX4_allot_112 : decode cX4_allot 112 = .ok (.lload 6, 2) := by decide +kernel
theorem dX4_allot_114 : decode cX4_allot 114 = .ok (.lload 8, 2) := by decide +kernel
theorem dX4_allot_116 : decode cX4_allot 116 = .ok (.lcmp, 1) := by decide +kernel
theorem dX4_allot_117 : decode cX4_allot 117 = .ok (.ifCond .ge 84, 3) := by decide +kernel
theorem dX4_allot_120 : decode cX4_allot 120 = .ok (.iconst 0, 1) := by decide +kernel
theorem dX4_allot_121 : decode cX4_allot 121 = .ok (.istore 10, 2) := by decide +kernel
theorem dX4_allot_123 : decode cX4_allot 123 = .ok (.iconst 1, 1) := by decide +kernel
theorem dX4_allot_124 : decode cX4_allot 124 = .ok (.istore 11, 2) := by decide +kernel
theorem dX4_allot_126 : decode cX4_allot 126 = .ok (.iload 11, 2) := by decide +kernel
theorem dX4_allot_128 : decode cX4_allot 128 = .ok (.bipush 6, 2) := by decide +kernel
theorem dX4_allot_130 : decode cX4_allot 130 = .ok (.if_icmp .ge 36, 3) := by decide +kernel
theorem dX4_allot_133 : decode cX4_allot 133 = .ok (.aload_n 0, 1) := by decide +kernel
theorem dX4_allot_134 : decode cX4_allot 134 = .ok (.getfield 89, 3) := by decide +kernel
theorem dX4_allot_137 : decode cX4_allot 137 = .ok (.iload 11, 2) := by decide +kernel
theorem dX4_allot_139 : decode cX4_allot 139 = .ok (.laload, 1) := by decide +kernel
theorem dX4_allot_140 : decode cX4_allot 140 = .ok (.aload_n 0, 1) := by decide +kernel
theorem dX4_allot_141 : decode cX4_allot 141 = .ok (.getfield 89, 3) := by decide +kernel
theorem dX4_allot_144 : decode cX4_allot 144 = .ok (.iload 10, 2) := by decide +kernel
theorem dX4_allot_146 : decode cX4_allot 146 = .ok (.laload, 1) := by decide +kernel
theorem dX4_allot_147 : decode cX4_allot 147 = .ok (.lcmp, 1) := by decide +kernel
theorem dX4_allot_148 : decode cX4_allot 148 = .ok (.ifCond .le 8, 3) := by decide +kernel
theorem dX4_allot_151 : decode cX4_allot 151 = .ok (.iload 11, 2) := by decide +kernel
theorem dX4_allot_153 : decode cX4_allot 153 = .ok (.goto 5, 3) := by decide +kernel
theorem dX4_allot_156 : decode cX4_allot 156 = .ok (.iload 10, 2) := by decide +kernel
theorem dX4_allot_158 : decode cX4_allot 158 = .ok (.istore 10, 2) := by decide +kernel
theorem dX4_allot_160 : decode cX4_allot 160 = .ok (.iinc 11 1, 3) := by decide +kernel
theorem dX4_allot_163 : decode cX4_allot 163 = .ok (.goto (-37), 3) := by decide +kernel
theorem dX4_allot_166 : decode cX4_allot 166 = .ok (.aload_n 0, 1) := by decide +kernel
theorem dX4_allot_167 : decode cX4_allot 167 = .ok (.getfield 38, 3) := by decide +kernel
theorem dX4_allot_170 : decode cX4_allot 170 = .ok (.iload_n 1, 1) := by decide +kernel
theorem dX4_allot_171 : decode cX4_allot 171 = .ok (.iload 10, 2) := by decide +kernel
theorem dX4_allot_173 : decode cX4_allot 173 = .ok (.iload_n 2, 1) := by decide +kernel
theorem dX4_allot_174 : decode cX4_allot 174 = .ok (.invokestatic 147, 3) := by decide +kernel
theorem dX4_allot_177 : decode cX4_allot 177 = .ok (.dup2, 1) := by decide +kernel
theorem dX4_allot_178 : decode cX4_allot 178 = .ok (.iaload, 1) := by decide +kernel
theorem dX4_allot_179 : decode cX4_allot 179 = .ok (.iconst 1, 1) := by decide +kernel
theorem dX4_allot_180 : decode cX4_allot 180 = .ok (.iadd, 1) := by decide +kernel
theorem dX4_allot_181 : decode cX4_allot 181 = .ok (.iastore, 1) := by decide +kernel
theorem dX4_allot_182 : decode cX4_allot 182 = .ok (.aload_n 0, 1) := by decide +kernel
theorem dX4_allot_183 : decode cX4_allot 183 = .ok (.getfield 89, 3) := by decide +kernel
theorem dX4_allot_186 : decode cX4_allot 186 = .ok (.iload 10, 2) := by decide +kernel
theorem dX4_allot_188 : decode cX4_allot 188 = .ok (.ldc2_w 151, 3) := by decide +kernel
theorem dX4_allot_191 : decode cX4_allot 191 = .ok (.lastore, 1) := by decide +kernel
theorem dX4_allot_192 : decode cX4_allot 192 = .ok (.lload 6, 2) := by decide +kernel
theorem dX4_allot_194 : decode cX4_allot 194 = .ok (.lconst 1, 1) := by decide +kernel
theorem dX4_allot_195 : decode cX4_allot 195 = .ok (.ladd, 1) := by decide +kernel
theorem dX4_allot_196 : decode cX4_allot 196 = .ok (.lstore 6, 2) := by decide +kernel
theorem dX4_allot_198 : decode cX4_allot 198 = .ok (.goto (-86), 3) := by decide +kernel
theorem dX4_allot_201 : decode cX4_allot 201 = .ok (.return_, 1) := by decide +kernel
theorem dX4_left_0 : decode cX4_left 0 = .ok (.aload_n 0, 1) := by decide +kernel
theorem dX4_left_1 : decode cX4_left 1 = .ok (.getfield 38, 3) := by decide +kernel
theorem dX4_left_4 : decode cX4_left 4 = .ok (.iload_n 1, 1) := by decide +kernel
theorem dX4_left_5 : decode cX4_left 5 = .ok (.iaload, 1) := by decide +kernel
theorem dX4_left_6 : decode cX4_left 6 = .ok (.aload_n 0, 1) := by decide +kernel
theorem dX4_left_7 : decode cX4_left 7 = .ok (.getfield 41, 3) := by decide +kernel
theorem dX4_left_10 : decode cX4_left 10 = .ok (.iload_n 1, 1) := by decide +kernel
theorem dX4_left_11 : decode cX4_left 11 = .ok (.iaload, 1) := by decide +kernel
theorem dX4_left_12 : decode cX4_left 12 = .ok (.iadd, 1) := by decide +kernel
theorem dX4_left_13 : decode cX4_left 13 = .ok (.aload_n 0, 1) := by decide +kernel
theorem dX4_left_14 : decode cX4_left 14 = .ok (.getfield 44, 3) := by decide +kernel
theorem dX4_left_17 : decode cX4_left 17 = .ok (.iload_n 1, 1) := by decide +kernel
theorem dX4_left_18 : decode cX4_left 18 = .ok (.iaload, 1) := by decide +kernel
theorem dX4_left_19 : decode cX4_left 19 = .ok (.iadd, 1) := by decide +kernel
theorem dX4_left_20 : decode cX4_left 20 = .ok (.aload_n 0, 1) := by decide +kernel
theorem dX4_left_21 : decode cX4_left 21 = .ok (.getfield 47, 3) := by decide +kernel
theorem dX4_left_24 : decode cX4_left 24 = .ok (.iload_n 1, 1) := by decide +kernel
theorem dX4_left_25 : decode cX4_left 25 = .ok (.iaload, 1) := by decide +kernel
theorem dX4_left_26 : decode cX4_left 26 = .ok (.isub, 1) := by decide +kernel
theorem dX4_left_27 : decode cX4_left 27 = .ok (.aload_n 0, 1) := by decide +kernel
theorem dX4_left_28 : decode cX4_left 28 = .ok (.getfield 50, 3) := by decide +kernel
theorem dX4_left_31 : decode cX4_left 31 = .ok (.iload_n 1, 1) := by decide +kernel
theorem dX4_left_32 : decode cX4_left 32 = .ok (.iaload, 1) := by decide +kernel
theorem dX4_left_33 : decode cX4_left 33 = .ok (.isub, 1) := by decide +kernel
theorem dX4_left_34 : decode cX4_left 34 = .ok (.ireturn, 1) := by decide +kernel
theorem dX4_moved_0 : decode cX4_moved 0 = .ok (.iconst 0, 1) := by decide +kernel
theorem dX4_moved_1 : decode cX4_moved 1 = .ok (.istore 4, 2) := by decide +kernel
theorem dX4_moved_3 : decode cX4_moved 3 = .ok (.iconst 0, 1) := by decide +kernel
theorem dX4_moved_4 : decode cX4_moved 4 = .ok (.istore 5, 2) := by decide +kernel
theorem dX4_moved_6 : decode cX4_moved 6 = .ok (.iload 5, 2) := by decide +kernel
theorem dX4_moved_8 : decode cX4_moved 8 = .ok (.iload_n 3, 1) := by decide +kernel
theorem dX4_moved_9 : decode cX4_moved 9 = .ok (.if_icmp .ge 81, 3) := by decide +kernel
theorem dX4_moved_12 : decode cX4_moved 12 = .ok (.aload_n 0, 1) := by decide +kernel
theorem dX4_moved_13 : decode cX4_moved 13 = .ok (.getfield 62, 3) := by decide +kernel
theorem dX4_moved_16 : decode cX4_moved 16 = .ok (.iload 5, 2) := by decide +kernel
theorem dX4_moved_18 : decode cX4_moved 18 = .ok (.iaload, 1) := by decide +kernel
theorem dX4_moved_19 : decode cX4_moved 19 = .ok (.iconst 2, 1) := by decide +kernel
theorem dX4_moved_20 : decode cX4_moved 20 = .ok (.if_icmp .ne 39, 3) := by decide +kernel
theorem dX4_moved_23 : decode cX4_moved 23 = .ok (.aload_n 0, 1) := by decide +kernel
theorem dX4_moved_24 : decode cX4_moved 24 = .ok (.getfield 65, 3) := by decide +kernel
theorem dX4_moved_27 : decode cX4_moved 27 = .ok (.iload 5, 2) := by decide +kernel
theorem dX4_moved_29 : decode cX4_moved 29 = .ok (.iaload, 1) := by decide +kernel
theorem dX4_moved_30 : decode cX4_moved 30 = .ok (.iload_n 1, 1) := by decide +kernel
theorem dX4_moved_31 : decode cX4_moved 31 = .ok (.if_icmp .ne 28, 3) := by decide +kernel
theorem dX4_moved_34 : decode cX4_moved 34 = .ok (.aload_n 0, 1) := by decide +kernel
theorem dX4_moved_35 : decode cX4_moved 35 = .ok (.getfield 68, 3) := by decide +kernel
theorem dX4_moved_38 : decode cX4_moved 38 = .ok (.iload 5, 2) := by decide +kernel
theorem dX4_moved_40 : decode cX4_moved 40 = .ok (.iaload, 1) := by decide +kernel
theorem dX4_moved_41 : decode cX4_moved 41 = .ok (.iload_n 2, 1) := by decide +kernel
theorem dX4_moved_42 : decode cX4_moved 42 = .ok (.if_icmp .ne 17, 3) := by decide +kernel
theorem dX4_moved_45 : decode cX4_moved 45 = .ok (.aload_n 0, 1) := by decide +kernel
theorem dX4_moved_46 : decode cX4_moved 46 = .ok (.getfield 86, 3) := by decide +kernel
theorem dX4_moved_49 : decode cX4_moved 49 = .ok (.iload 5, 2) := by decide +kernel
theorem dX4_moved_51 : decode cX4_moved 51 = .ok (.baload, 1) := by decide +kernel
theorem dX4_moved_52 : decode cX4_moved 52 = .ok (.ifCond .eq 7, 3) := by decide +kernel
theorem dX4_moved_55 : decode cX4_moved 55 = .ok (.iconst 1, 1) := by decide +kernel
theorem dX4_moved_56 : decode cX4_moved 56 = .ok (.goto 4, 3) := by decide +kernel
theorem dX4_moved_59 : decode cX4_moved 59 = .ok (.iconst 0, 1) := by decide +kernel
theorem dX4_moved_60 : decode cX4_moved 60 = .ok (.istore 6, 2) := by decide +kernel
theorem dX4_moved_62 : decode cX4_moved 62 = .ok (.iload 6, 2) := by decide +kernel
theorem dX4_moved_64 : decode cX4_moved 64 = .ok (.ifCond .eq 16, 3) := by decide +kernel
theorem dX4_moved_67 : decode cX4_moved 67 = .ok (.iload 4, 2) := by decide +kernel
theorem dX4_moved_69 : decode cX4_moved 69 = .ok (.aload_n 0, 1) := by decide +kernel
theorem dX4_moved_70 : decode cX4_moved 70 = .ok (.getfield 77, 3) := by decide +kernel
theorem dX4_moved_73 : decode cX4_moved 73 = .ok (.iload 5, 2) := by decide +kernel
theorem dX4_moved_75 : decode cX4_moved 75 = .ok (.iaload, 1) := by decide +kernel
theorem dX4_moved_76 : decode cX4_moved 76 = .ok (.iadd, 1) := by decide +kernel
theorem dX4_moved_77 : decode cX4_moved 77 = .ok (.goto 5, 3) := by decide +kernel
theorem dX4_moved_80 : decode cX4_moved 80 = .ok (.iload 4, 2) := by decide +kernel
theorem dX4_moved_82 : decode cX4_moved 82 = .ok (.istore 4, 2) := by decide +kernel
theorem dX4_moved_84 : decode cX4_moved 84 = .ok (.iinc 5 1, 3) := by decide +kernel
theorem dX4_moved_87 : decode cX4_moved 87 = .ok (.goto (-81), 3) := by decide +kernel
theorem dX4_moved_90 : decode cX4_moved 90 = .ok (.iload 4, 2) := by decide +kernel
theorem dX4_moved_92 : decode cX4_moved 92 = .ok (.ireturn, 1) := by decide +kernel
theorem dX4_may_0 : decode cX4_may 0 = .ok (.aload_n 0, 1) := by decide +kernel
theorem dX4_may_1 : decode cX4_may 1 = .ok (.getfield 65, 3) := by decide +kernel
theorem dX4_may_4 : decode cX4_may 4 = .ok (.iload_n 1, 1) := by decide +kernel
theorem dX4_may_5 : decode cX4_may 5 = .ok (.iaload, 1) := by decide +kernel
theorem dX4_may_6 : decode cX4_may 6 = .ok (.aload_n 0, 1) := by decide +kernel
theorem dX4_may_7 : decode cX4_may 7 = .ok (.getfield 68, 3) := by decide +kernel
theorem dX4_may_10 : decode cX4_may 10 = .ok (.iload_n 1, 1) := by decide +kernel
theorem dX4_may_11 : decode cX4_may 11 = .ok (.iaload, 1) := by decide +kernel
theorem dX4_may_12 : decode cX4_may 12 = .ok (.aload_n 0, 1) := by decide +kernel
theorem dX4_may_13 : decode cX4_may 13 = .ok (.getfield 71, 3) := by decide +kernel
theorem dX4_may_16 : decode cX4_may 16 = .ok (.iload_n 1, 1) := by decide +kernel
theorem dX4_may_17 : decode cX4_may 17 = .ok (.iaload, 1) := by decide +kernel
theorem dX4_may_18 : decode cX4_may 18 = .ok (.invokestatic 147, 3) := by decide +kernel
theorem dX4_may_21 : decode cX4_may 21 = .ok (.istore_n 2, 1) := by decide +kernel
theorem dX4_may_22 : decode cX4_may 22 = .ok (.aload_n 0, 1) := by decide +kernel
theorem dX4_may_23 : decode cX4_may 23 = .ok (.getfield 62, 3) := by decide +kernel
theorem dX4_may_26 : decode cX4_may 26 = .ok (.iload_n 1, 1) := by decide +kernel
theorem dX4_may_27 : decode cX4_may 27 = .ok (.iaload, 1) := by decide +kernel
theorem dX4_may_28 : decode cX4_may 28 = .ok (.lookupswitch 63 #[(0, 28), (1, 48)], 28) := by decide +kernel
theorem dX4_may_56 : decode cX4_may 56 = .ok (.aload_n 0, 1) := by decide +kernel
theorem dX4_may_57 : decode cX4_may 57 = .ok (.iload_n 2, 1) := by decide +kernel
theorem dX4_may_58 : decode cX4_may 58 = .ok (.invokevirtual 153, 3) := by decide +kernel
theorem dX4_may_61 : decode cX4_may 61 = .ok (.aload_n 0, 1) := by decide +kernel
theorem dX4_may_62 : decode cX4_may 62 = .ok (.getfield 77, 3) := by decide +kernel
theorem dX4_may_65 : decode cX4_may 65 = .ok (.iload_n 1, 1) := by decide +kernel
theorem dX4_may_66 : decode cX4_may 66 = .ok (.iaload, 1) := by decide +kernel
theorem dX4_may_67 : decode cX4_may 67 = .ok (.if_icmp .lt 7, 3) := by decide +kernel
theorem dX4_may_70 : decode cX4_may 70 = .ok (.iconst 1, 1) := by decide +kernel
theorem dX4_may_71 : decode cX4_may 71 = .ok (.goto 4, 3) := by decide +kernel
theorem dX4_may_74 : decode cX4_may 74 = .ok (.iconst 0, 1) := by decide +kernel
theorem dX4_may_75 : decode cX4_may 75 = .ok (.ireturn, 1) := by decide +kernel
theorem dX4_may_76 : decode cX4_may 76 = .ok (.aload_n 0, 1) := by decide +kernel
theorem dX4_may_77 : decode cX4_may 77 = .ok (.getfield 83, 3) := by decide +kernel
theorem dX4_may_80 : decode cX4_may 80 = .ok (.iload_n 1, 1) := by decide +kernel
theorem dX4_may_81 : decode cX4_may 81 = .ok (.baload, 1) := by decide +kernel
theorem dX4_may_82 : decode cX4_may 82 = .ok (.ifCond .ne 7, 3) := by decide +kernel
theorem dX4_may_85 : decode cX4_may 85 = .ok (.iconst 1, 1) := by decide +kernel
theorem dX4_may_86 : decode cX4_may 86 = .ok (.goto 4, 3) := by decide +kernel
theorem dX4_may_89 : decode cX4_may 89 = .ok (.iconst 0, 1) := by decide +kernel
theorem dX4_may_90 : decode cX4_may 90 = .ok (.ireturn, 1) := by decide +kernel
theorem dX4_may_91 : decode cX4_may 91 = .ok (.aload_n 0, 1) := by decide +kernel
theorem dX4_may_92 : decode cX4_may 92 = .ok (.getfield 50, 3) := by decide +kernel
theorem dX4_may_95 : decode cX4_may 95 = .ok (.iload_n 2, 1) := by decide +kernel
theorem dX4_may_96 : decode cX4_may 96 = .ok (.iaload, 1) := by decide +kernel
theorem dX4_may_97 : decode cX4_may 97 = .ok (.aload_n 0, 1) := by decide +kernel
theorem dX4_may_98 : decode cX4_may 98 = .ok (.getfield 77, 3) := by decide +kernel
theorem dX4_may_101 : decode cX4_may 101 = .ok (.iload_n 1, 1) := by decide +kernel
theorem dX4_may_102 : decode cX4_may 102 = .ok (.iaload, 1) := by decide +kernel
theorem dX4_may_103 : decode cX4_may 103 = .ok (.if_icmp .lt 71, 3) := by decide +kernel
theorem dX4_may_106 : decode cX4_may 106 = .ok (.aload_n 0, 1) := by decide +kernel
theorem dX4_may_107 : decode cX4_may 107 = .ok (.aload_n 0, 1) := by decide +kernel
theorem dX4_may_108 : decode cX4_may 108 = .ok (.getfield 65, 3) := by decide +kernel
theorem dX4_may_111 : decode cX4_may 111 = .ok (.iload_n 1, 1) := by decide +kernel
theorem dX4_may_112 : decode cX4_may 112 = .ok (.iaload, 1) := by decide +kernel
theorem dX4_may_113 : decode cX4_may 113 = .ok (.aload_n 0, 1) := by decide +kernel
theorem dX4_may_114 : decode cX4_may 114 = .ok (.getfield 68, 3) := by decide +kernel
theorem dX4_may_117 : decode cX4_may 117 = .ok (.iload_n 1, 1) := by decide +kernel
theorem dX4_may_118 : decode cX4_may 118 = .ok (.iaload, 1) := by decide +kernel
theorem dX4_may_119 : decode cX4_may 119 = .ok (.aload_n 0, 1) := by decide +kernel
theorem dX4_may_120 : decode cX4_may 120 = .ok (.getfield 74, 3) := by decide +kernel
theorem dX4_may_123 : decode cX4_may 123 = .ok (.iload_n 1, 1) := by decide +kernel
theorem dX4_may_124 : decode cX4_may 124 = .ok (.iaload, 1) := by decide +kernel
theorem dX4_may_125 : decode cX4_may 125 = .ok (.invokestatic 147, 3) := by decide +kernel
theorem dX4_may_128 : decode cX4_may 128 = .ok (.invokevirtual 153, 3) := by decide +kernel
theorem dX4_may_131 : decode cX4_may 131 = .ok (.aload_n 0, 1) := by decide +kernel
theorem dX4_may_132 : decode cX4_may 132 = .ok (.getfield 80, 3) := by decide +kernel
theorem dX4_may_135 : decode cX4_may 135 = .ok (.iload_n 1, 1) := by decide +kernel
theorem dX4_may_136 : decode cX4_may 136 = .ok (.iaload, 1) := by decide +kernel
theorem dX4_may_137 : decode cX4_may 137 = .ok (.if_icmp .lt 37, 3) := by decide +kernel
theorem dX4_may_140 : decode cX4_may 140 = .ok (.aload_n 0, 1) := by decide +kernel
theorem dX4_may_141 : decode cX4_may 141 = .ok (.aload_n 0, 1) := by decide +kernel
theorem dX4_may_142 : decode cX4_may 142 = .ok (.getfield 65, 3) := by decide +kernel
theorem dX4_may_145 : decode cX4_may 145 = .ok (.iload_n 1, 1) := by decide +kernel
theorem dX4_may_146 : decode cX4_may 146 = .ok (.iaload, 1) := by decide +kernel
theorem dX4_may_147 : decode cX4_may 147 = .ok (.aload_n 0, 1) := by decide +kernel
theorem dX4_may_148 : decode cX4_may 148 = .ok (.getfield 68, 3) := by decide +kernel
theorem dX4_may_151 : decode cX4_may 151 = .ok (.iload_n 1, 1) := by decide +kernel
theorem dX4_may_152 : decode cX4_may 152 = .ok (.iaload, 1) := by decide +kernel
theorem dX4_may_153 : decode cX4_may 153 = .ok (.iload_n 1, 1) := by decide +kernel
theorem dX4_may_154 : decode cX4_may 154 = .ok (.invokevirtual 157, 3) := by decide +kernel
theorem dX4_may_157 : decode cX4_may 157 = .ok (.aload_n 0, 1) := by decide +kernel
theorem dX4_may_158 : decode cX4_may 158 = .ok (.getfield 77, 3) := by decide +kernel
theorem dX4_may_161 : decode cX4_may 161 = .ok (.iload_n 1, 1) := by decide +kernel
theorem dX4_may_162 : decode cX4_may 162 = .ok (.iaload, 1) := by decide +kernel
theorem dX4_may_163 : decode cX4_may 163 = .ok (.iadd, 1) := by decide +kernel
theorem dX4_may_164 : decode cX4_may 164 = .ok (.sipush 1000, 3) := by decide +kernel
theorem dX4_may_167 : decode cX4_may 167 = .ok (.if_icmp .gt 7, 3) := by decide +kernel
theorem dX4_may_170 : decode cX4_may 170 = .ok (.iconst 1, 1) := by decide +kernel
theorem dX4_may_171 : decode cX4_may 171 = .ok (.goto 4, 3) := by decide +kernel
theorem dX4_may_174 : decode cX4_may 174 = .ok (.iconst 0, 1) := by decide +kernel
theorem dX4_may_175 : decode cX4_may 175 = .ok (.ireturn, 1) := by decide +kernel
theorem dX4_act_0 : decode cX4_act 0 = .ok (.aload_n 0, 1) := by decide +kernel
theorem dX4_act_1 : decode cX4_act 1 = .ok (.getfield 65, 3) := by decide +kernel
theorem dX4_act_4 : decode cX4_act 4 = .ok (.iload_n 1, 1) := by decide +kernel
theorem dX4_act_5 : decode cX4_act 5 = .ok (.iaload, 1) := by decide +kernel
theorem dX4_act_6 : decode cX4_act 6 = .ok (.aload_n 0, 1) := by decide +kernel
theorem dX4_act_7 : decode cX4_act 7 = .ok (.getfield 68, 3) := by decide +kernel
theorem dX4_act_10 : decode cX4_act 10 = .ok (.iload_n 1, 1) := by decide +kernel
theorem dX4_act_11 : decode cX4_act 11 = .ok (.iaload, 1) := by decide +kernel
theorem dX4_act_12 : decode cX4_act 12 = .ok (.aload_n 0, 1) := by decide +kernel
theorem dX4_act_13 : decode cX4_act 13 = .ok (.getfield 71, 3) := by decide +kernel
theorem dX4_act_16 : decode cX4_act 16 = .ok (.iload_n 1, 1) := by decide +kernel
theorem dX4_act_17 : decode cX4_act 17 = .ok (.iaload, 1) := by decide +kernel
theorem dX4_act_18 : decode cX4_act 18 = .ok (.invokestatic 147, 3) := by decide +kernel
theorem dX4_act_21 : decode cX4_act 21 = .ok (.istore_n 2, 1) := by decide +kernel
theorem dX4_act_22 : decode cX4_act 22 = .ok (.aload_n 0, 1) := by decide +kernel
theorem dX4_act_23 : decode cX4_act 23 = .ok (.getfield 62, 3) := by decide +kernel
theorem dX4_act_26 : decode cX4_act 26 = .ok (.iload_n 1, 1) := by decide +kernel
theorem dX4_act_27 : decode cX4_act 27 = .ok (.iaload, 1) := by decide +kernel
theorem dX4_act_28 : decode cX4_act 28 = .ok (.lookupswitch 107 #[(0, 28), (1, 85)], 28) := by decide +kernel
theorem dX4_act_56 : decode cX4_act 56 = .ok (.aload_n 0, 1) := by decide +kernel
theorem dX4_act_57 : decode cX4_act 57 = .ok (.getfield 41, 3) := by decide +kernel
theorem dX4_act_60 : decode cX4_act 60 = .ok (.iload_n 2, 1) := by decide +kernel
theorem dX4_act_61 : decode cX4_act 61 = .ok (.aload_n 0, 1) := by decide +kernel
theorem dX4_act_62 : decode cX4_act 62 = .ok (.getfield 41, 3) := by decide +kernel
theorem dX4_act_65 : decode cX4_act 65 = .ok (.iload_n 2, 1) := by decide +kernel
theorem dX4_act_66 : decode cX4_act 66 = .ok (.iaload, 1) := by decide +kernel
theorem dX4_act_67 : decode cX4_act 67 = .ok (.aload_n 0, 1) := by decide +kernel
theorem dX4_act_68 : decode cX4_act 68 = .ok (.getfield 77, 3) := by decide +kernel
theorem dX4_act_71 : decode cX4_act 71 = .ok (.iload_n 1, 1) := by decide +kernel
theorem dX4_act_72 : decode cX4_act 72 = .ok (.iaload, 1) := by decide +kernel
theorem dX4_act_73 : decode cX4_act 73 = .ok (.isub, 1) := by decide +kernel
theorem dX4_act_74 : decode cX4_act 74 = .ok (.iastore, 1) := by decide +kernel
theorem dX4_act_75 : decode cX4_act 75 = .ok (.aload_n 0, 1) := by decide +kernel
theorem dX4_act_76 : decode cX4_act 76 = .ok (.getfield 41, 3) := by decide +kernel
theorem dX4_act_79 : decode cX4_act 79 = .ok (.aload_n 0, 1) := by decide +kernel
theorem dX4_act_80 : decode cX4_act 80 = .ok (.getfield 65, 3) := by decide +kernel
theorem dX4_act_83 : decode cX4_act 83 = .ok (.iload_n 1, 1) := by decide +kernel
theorem dX4_act_84 : decode cX4_act 84 = .ok (.iaload, 1) := by decide +kernel
theorem dX4_act_85 : decode cX4_act 85 = .ok (.aload_n 0, 1) := by decide +kernel
theorem dX4_act_86 : decode cX4_act 86 = .ok (.getfield 74, 3) := by decide +kernel
theorem dX4_act_89 : decode cX4_act 89 = .ok (.iload_n 1, 1) := by decide +kernel
theorem dX4_act_90 : decode cX4_act 90 = .ok (.iaload, 1) := by decide +kernel
theorem dX4_act_91 : decode cX4_act 91 = .ok (.aload_n 0, 1) := by decide +kernel
theorem dX4_act_92 : decode cX4_act 92 = .ok (.getfield 71, 3) := by decide +kernel
theorem dX4_act_95 : decode cX4_act 95 = .ok (.iload_n 1, 1) := by decide +kernel
theorem dX4_act_96 : decode cX4_act 96 = .ok (.iaload, 1) := by decide +kernel
theorem dX4_act_97 : decode cX4_act 97 = .ok (.invokestatic 147, 3) := by decide +kernel
theorem dX4_act_100 : decode cX4_act 100 = .ok (.dup2, 1) := by decide +kernel
theorem dX4_act_101 : decode cX4_act 101 = .ok (.iaload, 1) := by decide +kernel
theorem dX4_act_102 : decode cX4_act 102 = .ok (.aload_n 0, 1) := by decide +kernel
theorem dX4_act_103 : decode cX4_act 103 = .ok (.getfield 77, 3) := by decide +kernel
theorem dX4_act_106 : decode cX4_act 106 = .ok (.iload_n 1, 1) := by decide +kernel
theorem dX4_act_107 : decode cX4_act 107 = .ok (.iaload, 1) := by decide +kernel
theorem dX4_act_108 : decode cX4_act 108 = .ok (.iadd, 1) := by decide +kernel
theorem dX4_act_109 : decode cX4_act 109 = .ok (.iastore, 1) := by decide +kernel
theorem dX4_act_110 : decode cX4_act 110 = .ok (.goto 79, 3) := by decide +kernel
theorem dX4_act_113 : decode cX4_act 113 = .ok (.aload_n 0, 1) := by decide +kernel
theorem dX4_act_114 : decode cX4_act 114 = .ok (.getfield 50, 3) := by decide +kernel
theorem dX4_act_117 : decode cX4_act 117 = .ok (.iload_n 2, 1) := by decide +kernel
theorem dX4_act_118 : decode cX4_act 118 = .ok (.aload_n 0, 1) := by decide +kernel
theorem dX4_act_119 : decode cX4_act 119 = .ok (.getfield 50, 3) := by decide +kernel
theorem dX4_act_122 : decode cX4_act 122 = .ok (.iload_n 2, 1) := by decide +kernel
theorem dX4_act_123 : decode cX4_act 123 = .ok (.iaload, 1) := by decide +kernel
theorem dX4_act_124 : decode cX4_act 124 = .ok (.aload_n 0, 1) := by decide +kernel
theorem dX4_act_125 : decode cX4_act 125 = .ok (.getfield 80, 3) := by decide +kernel
theorem dX4_act_128 : decode cX4_act 128 = .ok (.iload_n 1, 1) := by decide +kernel
theorem dX4_act_129 : decode cX4_act 129 = .ok (.iaload, 1) := by decide +kernel
theorem dX4_act_130 : decode cX4_act 130 = .ok (.iadd, 1) := by decide +kernel
theorem dX4_act_131 : decode cX4_act 131 = .ok (.iastore, 1) := by decide +kernel
theorem dX4_act_132 : decode cX4_act 132 = .ok (.goto 57, 3) := by decide +kernel
theorem dX4_act_135 : decode cX4_act 135 = .ok (.aload_n 0, 1) := by decide +kernel
theorem dX4_act_136 : decode cX4_act 136 = .ok (.getfield 50, 3) := by decide +kernel
theorem dX4_act_139 : decode cX4_act 139 = .ok (.iload_n 2, 1) := by decide +kernel
theorem dX4_act_140 : decode cX4_act 140 = .ok (.aload_n 0, 1) := by decide +kernel
theorem dX4_act_141 : decode cX4_act 141 = .ok (.getfield 50, 3) := by decide +kernel
theorem dX4_act_144 : decode cX4_act 144 = .ok (.iload_n 2, 1) := by decide +kernel
theorem dX4_act_145 : decode cX4_act 145 = .ok (.iaload, 1) := by decide +kernel
theorem dX4_act_146 : decode cX4_act 146 = .ok (.aload_n 0, 1) := by decide +kernel
theorem dX4_act_147 : decode cX4_act 147 = .ok (.getfield 77, 3) := by decide +kernel
theorem dX4_act_150 : decode cX4_act 150 = .ok (.iload_n 1, 1) := by decide +kernel
theorem dX4_act_151 : decode cX4_act 151 = .ok (.iaload, 1) := by decide +kernel
theorem dX4_act_152 : decode cX4_act 152 = .ok (.isub, 1) := by decide +kernel
theorem dX4_act_153 : decode cX4_act 153 = .ok (.iastore, 1) := by decide +kernel
theorem dX4_act_154 : decode cX4_act 154 = .ok (.aload_n 0, 1) := by decide +kernel
theorem dX4_act_155 : decode cX4_act 155 = .ok (.getfield 50, 3) := by decide +kernel
theorem dX4_act_158 : decode cX4_act 158 = .ok (.aload_n 0, 1) := by decide +kernel
theorem dX4_act_159 : decode cX4_act 159 = .ok (.getfield 65, 3) := by decide +kernel
theorem dX4_act_162 : decode cX4_act 162 = .ok (.iload_n 1, 1) := by decide +kernel
theorem dX4_act_163 : decode cX4_act 163 = .ok (.iaload, 1) := by decide +kernel
theorem dX4_act_164 : decode cX4_act 164 = .ok (.aload_n 0, 1) := by decide +kernel
theorem dX4_act_165 : decode cX4_act 165 = .ok (.getfield 68, 3) := by decide +kernel
theorem dX4_act_168 : decode cX4_act 168 = .ok (.iload_n 1, 1) := by decide +kernel
theorem dX4_act_169 : decode cX4_act 169 = .ok (.iaload, 1) := by decide +kernel
theorem dX4_act_170 : decode cX4_act 170 = .ok (.aload_n 0, 1) := by decide +kernel
theorem dX4_act_171 : decode cX4_act 171 = .ok (.getfield 74, 3) := by decide +kernel
theorem dX4_act_174 : decode cX4_act 174 = .ok (.iload_n 1, 1) := by decide +kernel
theorem dX4_act_175 : decode cX4_act 175 = .ok (.iaload, 1) := by decide +kernel
theorem dX4_act_176 : decode cX4_act 176 = .ok (.invokestatic 147, 3) := by decide +kernel
theorem dX4_act_179 : decode cX4_act 179 = .ok (.dup2, 1) := by decide +kernel
theorem dX4_act_180 : decode cX4_act 180 = .ok (.iaload, 1) := by decide +kernel
theorem dX4_act_181 : decode cX4_act 181 = .ok (.aload_n 0, 1) := by decide +kernel
theorem dX4_act_182 : decode cX4_act 182 = .ok (.getfield 80, 3) := by decide +kernel
theorem dX4_act_185 : decode cX4_act 185 = .ok (.iload_n 1, 1) := by decide +kernel
theorem dX4_act_186 : decode cX4_act 186 = .ok (.iaload, 1) := by decide +kernel
theorem dX4_act_187 : decode cX4_act 187 = .ok (.iadd, 1) := by decide +kernel
theorem dX4_act_188 : decode cX4_act 188 = .ok (.iastore, 1) := by decide +kernel
theorem dX4_act_189 : decode cX4_act 189 = .ok (.return_, 1) := by decide +kernel
theorem dX4_close_0 : decode cX4_close 0 = .ok (.aload_n 0, 1) := by decide +kernel
theorem dX4_close_1 : decode cX4_close 1 = .ok (.iload_n 1, 1) := by decide +kernel
theorem dX4_close_2 : decode cX4_close 2 = .ok (.invokevirtual 153, 3) := by decide +kernel
theorem dX4_close_5 : decode cX4_close 5 = .ok (.istore_n 2, 1) := by decide +kernel
theorem dX4_close_6 : decode cX4_close 6 = .ok (.ldc2_w 160, 3) := by decide +kernel
theorem dX4_close_9 : decode cX4_close 9 = .ok (.aload_n 0, 1) := by decide +kernel
theorem dX4_close_10 : decode cX4_close 10 = .ok (.getfield 38, 3) := by decide +kernel
theorem dX4_close_13 : decode cX4_close 13 = .ok (.iload_n 1, 1) := by decide +kernel
theorem dX4_close_14 : decode cX4_close 14 = .ok (.iaload, 1) := by decide +kernel
theorem dX4_close_15 : decode cX4_close 15 = .ok (.i2l, 1) := by decide +kernel
theorem dX4_close_16 : decode cX4_close 16 = .ok (.lmul, 1) := by decide +kernel
theorem dX4_close_17 : decode cX4_close 17 = .ok (.ldc2_w 162, 3) := by decide +kernel
theorem dX4_close_20 : decode cX4_close 20 = .ok (.ldiv, 1) := by decide +kernel
theorem dX4_close_21 : decode cX4_close 21 = .ok (.l2i, 1) := by decide +kernel
theorem dX4_close_22 : decode cX4_close 22 = .ok (.istore_n 3, 1) := by decide +kernel
theorem dX4_close_23 : decode cX4_close 23 = .ok (.iload_n 2, 1) := by decide +kernel
theorem dX4_close_24 : decode cX4_close 24 = .ok (.ifCond .ge 8, 3) := by decide +kernel
theorem dX4_close_27 : decode cX4_close 27 = .ok (.iload_n 2, 1) := by decide +kernel
theorem dX4_close_28 : decode cX4_close 28 = .ok (.ineg, 1) := by decide +kernel
theorem dX4_close_29 : decode cX4_close 29 = .ok (.goto 4, 3) := by decide +kernel
theorem dX4_close_32 : decode cX4_close 32 = .ok (.iconst 0, 1) := by decide +kernel
theorem dX4_close_33 : decode cX4_close 33 = .ok (.istore 4, 2) := by decide +kernel
theorem dX4_close_35 : decode cX4_close 35 = .ok (.ldc2_w 104, 3) := by decide +kernel
theorem dX4_close_38 : decode cX4_close 38 = .ok (.aload_n 0, 1) := by decide +kernel
theorem dX4_close_39 : decode cX4_close 39 = .ok (.getfield 38, 3) := by decide +kernel
theorem dX4_close_42 : decode cX4_close 42 = .ok (.iload_n 1, 1) := by decide +kernel
theorem dX4_close_43 : decode cX4_close 43 = .ok (.iaload, 1) := by decide +kernel
theorem dX4_close_44 : decode cX4_close 44 = .ok (.i2l, 1) := by decide +kernel
theorem dX4_close_45 : decode cX4_close 45 = .ok (.lmul, 1) := by decide +kernel
theorem dX4_close_46 : decode cX4_close 46 = .ok (.ldc2_w 162, 3) := by decide +kernel
theorem dX4_close_49 : decode cX4_close 49 = .ok (.ldiv, 1) := by decide +kernel
theorem dX4_close_50 : decode cX4_close 50 = .ok (.l2i, 1) := by decide +kernel
theorem dX4_close_51 : decode cX4_close 51 = .ok (.istore 5, 2) := by decide +kernel
theorem dX4_close_53 : decode cX4_close 53 = .ok (.aload_n 0, 1) := by decide +kernel
theorem dX4_close_54 : decode cX4_close 54 = .ok (.getfield 53, 3) := by decide +kernel
theorem dX4_close_57 : decode cX4_close 57 = .ok (.iload_n 1, 1) := by decide +kernel
theorem dX4_close_58 : decode cX4_close 58 = .ok (.iload_n 2, 1) := by decide +kernel
theorem dX4_close_59 : decode cX4_close 59 = .ok (.ifCond .ge 7, 3) := by decide +kernel
theorem dX4_close_62 : decode cX4_close 62 = .ok (.iconst 0, 1) := by decide +kernel
theorem dX4_close_63 : decode cX4_close 63 = .ok (.goto 13, 3) := by decide +kernel
theorem dX4_close_66 : decode cX4_close 66 = .ok (.iload_n 2, 1) := by decide +kernel
theorem dX4_close_67 : decode cX4_close 67 = .ok (.iload_n 3, 1) := by decide +kernel
theorem dX4_close_68 : decode cX4_close 68 = .ok (.if_icmp .ge 7, 3) := by decide +kernel
theorem dX4_close_71 : decode cX4_close 71 = .ok (.iload_n 2, 1) := by decide +kernel
theorem dX4_close_72 : decode cX4_close 72 = .ok (.goto 4, 3) := by decide +kernel
theorem dX4_close_75 : decode cX4_close 75 = .ok (.iload_n 3, 1) := by decide +kernel
theorem dX4_close_76 : decode cX4_close 76 = .ok (.iastore, 1) := by decide +kernel
theorem dX4_close_77 : decode cX4_close 77 = .ok (.aload_n 0, 1) := by decide +kernel
theorem dX4_close_78 : decode cX4_close 78 = .ok (.getfield 56, 3) := by decide +kernel
theorem dX4_close_81 : decode cX4_close 81 = .ok (.iload_n 1, 1) := by decide +kernel
theorem dX4_close_82 : decode cX4_close 82 = .ok (.iload 4, 2) := by decide +kernel
theorem dX4_close_84 : decode cX4_close 84 = .ok (.iload 5, 2) := by decide +kernel
theorem dX4_close_86 : decode cX4_close 86 = .ok (.if_icmp .ge 8, 3) := by decide +kernel
theorem dX4_close_89 : decode cX4_close 89 = .ok (.iload 4, 2) := by decide +kernel
theorem dX4_close_91 : decode cX4_close 91 = .ok (.goto 5, 3) := by decide +kernel
theorem dX4_close_94 : decode cX4_close 94 = .ok (.iload 5, 2) := by decide +kernel
theorem dX4_close_96 : decode cX4_close 96 = .ok (.iastore, 1) := by decide +kernel
theorem dX4_close_97 : decode cX4_close 97 = .ok (.aload_n 0, 1) := by decide +kernel
theorem dX4_close_98 : decode cX4_close 98 = .ok (.getfield 59, 3) := by decide +kernel
theorem dX4_close_101 : decode cX4_close 101 = .ok (.iload_n 1, 1) := by decide +kernel
theorem dX4_close_102 : decode cX4_close 102 = .ok (.iload 4, 2) := by decide +kernel
theorem dX4_close_104 : decode cX4_close 104 = .ok (.aload_n 0, 1) := by decide +kernel
theorem dX4_close_105 : decode cX4_close 105 = .ok (.getfield 56, 3) := by decide +kernel
theorem dX4_close_108 : decode cX4_close 108 = .ok (.iload_n 1, 1) := by decide +kernel
theorem dX4_close_109 : decode cX4_close 109 = .ok (.iaload, 1) := by decide +kernel
theorem dX4_close_110 : decode cX4_close 110 = .ok (.isub, 1) := by decide +kernel
theorem dX4_close_111 : decode cX4_close 111 = .ok (.iastore, 1) := by decide +kernel
theorem dX4_close_112 : decode cX4_close 112 = .ok (.return_, 1) := by decide +kernel
theorem dX4_work_0 : decode cX4_work 0 = .ok (.iconst 1, 1) := by decide +kernel
theorem dX4_work_1 : decode cX4_work 1 = .ok (.istore_n 1, 1) := by decide +kernel
theorem dX4_work_2 : decode cX4_work 2 = .ok (.iload_n 1, 1) := by decide +kernel
theorem dX4_work_3 : decode cX4_work 3 = .ok (.aload_n 0, 1) := by decide +kernel
theorem dX4_work_4 : decode cX4_work 4 = .ok (.getfield 141, 3) := by decide +kernel
theorem dX4_work_7 : decode cX4_work 7 = .ok (.if_icmp .gt 210, 3) := by decide +kernel
theorem dX4_work_10 : decode cX4_work 10 = .ok (.bipush 24, 2) := by decide +kernel
theorem dX4_work_12 : decode cX4_work 12 = .ok (.iload_n 1, 1) := by decide +kernel
theorem dX4_work_13 : decode cX4_work 13 = .ok (.imul, 1) := by decide +kernel
theorem dX4_work_14 : decode cX4_work 14 = .ok (.istore_n 2, 1) := by decide +kernel
theorem dX4_work_15 : decode cX4_work 15 = .ok (.iload_n 2, 1) := by decide +kernel
theorem dX4_work_16 : decode cX4_work 16 = .ok (.bipush 24, 2) := by decide +kernel
theorem dX4_work_18 : decode cX4_work 18 = .ok (.iload_n 1, 1) := by decide +kernel
theorem dX4_work_19 : decode cX4_work 19 = .ok (.imul, 1) := by decide +kernel
theorem dX4_work_20 : decode cX4_work 20 = .ok (.bipush 24, 2) := by decide +kernel
theorem dX4_work_22 : decode cX4_work 22 = .ok (.iadd, 1) := by decide +kernel
theorem dX4_work_23 : decode cX4_work 23 = .ok (.if_icmp .ge 92, 3) := by decide +kernel
theorem dX4_work_26 : decode cX4_work 26 = .ok (.aload_n 0, 1) := by decide +kernel
theorem dX4_work_27 : decode cX4_work 27 = .ok (.getfield 41, 3) := by decide +kernel
theorem dX4_work_30 : decode cX4_work 30 = .ok (.iload_n 2, 1) := by decide +kernel
theorem dX4_work_31 : decode cX4_work 31 = .ok (.iconst 0, 1) := by decide +kernel
theorem dX4_work_32 : decode cX4_work 32 = .ok (.iastore, 1) := by decide +kernel
theorem dX4_work_33 : decode cX4_work 33 = .ok (.aload_n 0, 1) := by decide +kernel
theorem dX4_work_34 : decode cX4_work 34 = .ok (.getfield 50, 3) := by decide +kernel
theorem dX4_work_37 : decode cX4_work 37 = .ok (.iload_n 2, 1) := by decide +kernel
theorem dX4_work_38 : decode cX4_work 38 = .ok (.iconst 0, 1) := by decide +kernel
theorem dX4_work_39 : decode cX4_work 39 = .ok (.iastore, 1) := by decide +kernel
theorem dX4_work_40 : decode cX4_work 40 = .ok (.aload_n 0, 1) := by decide +kernel
theorem dX4_work_41 : decode cX4_work 41 = .ok (.getfield 44, 3) := by decide +kernel
theorem dX4_work_44 : decode cX4_work 44 = .ok (.iload_n 2, 1) := by decide +kernel
theorem dX4_work_45 : decode cX4_work 45 = .ok (.iload_n 1, 1) := by decide +kernel
theorem dX4_work_46 : decode cX4_work 46 = .ok (.iconst 1, 1) := by decide +kernel
theorem dX4_work_47 : decode cX4_work 47 = .ok (.if_icmp .ne 7, 3) := by decide +kernel
theorem dX4_work_50 : decode cX4_work 50 = .ok (.iconst 0, 1) := by decide +kernel
theorem dX4_work_51 : decode cX4_work 51 = .ok (.goto 12, 3) := by decide +kernel
theorem dX4_work_54 : decode cX4_work 54 = .ok (.aload_n 0, 1) := by decide +kernel
theorem dX4_work_55 : decode cX4_work 55 = .ok (.getfield 53, 3) := by decide +kernel
theorem dX4_work_58 : decode cX4_work 58 = .ok (.iload_n 2, 1) := by decide +kernel
theorem dX4_work_59 : decode cX4_work 59 = .ok (.bipush 24, 2) := by decide +kernel
theorem dX4_work_61 : decode cX4_work 61 = .ok (.isub, 1) := by decide +kernel
theorem dX4_work_62 : decode cX4_work 62 = .ok (.iaload, 1) := by decide +kernel
theorem dX4_work_63 : decode cX4_work 63 = .ok (.iastore, 1) := by decide +kernel
theorem dX4_work_64 : decode cX4_work 64 = .ok (.aload_n 0, 1) := by decide +kernel
theorem dX4_work_65 : decode cX4_work 65 = .ok (.getfield 47, 3) := by decide +kernel
theorem dX4_work_68 : decode cX4_work 68 = .ok (.iload_n 2, 1) := by decide +kernel
theorem dX4_work_69 : decode cX4_work 69 = .ok (.iload_n 1, 1) := by decide +kernel
theorem dX4_work_70 : decode cX4_work 70 = .ok (.iconst 1, 1) := by decide +kernel
theorem dX4_work_71 : decode cX4_work 71 = .ok (.if_icmp .ne 7, 3) := by decide +kernel
theorem dX4_work_74 : decode cX4_work 74 = .ok (.iconst 0, 1) := by decide +kernel
theorem dX4_work_75 : decode cX4_work 75 = .ok (.goto 12, 3) := by decide +kernel
theorem dX4_work_78 : decode cX4_work 78 = .ok (.aload_n 0, 1) := by decide +kernel
theorem dX4_work_79 : decode cX4_work 79 = .ok (.getfield 56, 3) := by decide +kernel
theorem dX4_work_82 : decode cX4_work 82 = .ok (.iload_n 2, 1) := by decide +kernel
theorem dX4_work_83 : decode cX4_work 83 = .ok (.bipush 24, 2) := by decide +kernel
theorem dX4_work_85 : decode cX4_work 85 = .ok (.isub, 1) := by decide +kernel
theorem dX4_work_86 : decode cX4_work 86 = .ok (.iaload, 1) := by decide +kernel
theorem dX4_work_87 : decode cX4_work 87 = .ok (.iastore, 1) := by decide +kernel
theorem dX4_work_88 : decode cX4_work 88 = .ok (.aload_n 0, 1) := by decide +kernel
theorem dX4_work_89 : decode cX4_work 89 = .ok (.getfield 53, 3) := by decide +kernel
theorem dX4_work_92 : decode cX4_work 92 = .ok (.iload_n 2, 1) := by decide +kernel
theorem dX4_work_93 : decode cX4_work 93 = .ok (.iconst 0, 1) := by decide +kernel
theorem dX4_work_94 : decode cX4_work 94 = .ok (.iastore, 1) := by decide +kernel
theorem dX4_work_95 : decode cX4_work 95 = .ok (.aload_n 0, 1) := by decide +kernel
theorem dX4_work_96 : decode cX4_work 96 = .ok (.getfield 56, 3) := by decide +kernel
theorem dX4_work_99 : decode cX4_work 99 = .ok (.iload_n 2, 1) := by decide +kernel
theorem dX4_work_100 : decode cX4_work 100 = .ok (.iconst 0, 1) := by decide +kernel
theorem dX4_work_101 : decode cX4_work 101 = .ok (.iastore, 1) := by decide +kernel
theorem dX4_work_102 : decode cX4_work 102 = .ok (.aload_n 0, 1) := by decide +kernel
theorem dX4_work_103 : decode cX4_work 103 = .ok (.getfield 59, 3) := by decide +kernel
theorem dX4_work_106 : decode cX4_work 106 = .ok (.iload_n 2, 1) := by decide +kernel
theorem dX4_work_107 : decode cX4_work 107 = .ok (.iconst 0, 1) := by decide +kernel
theorem dX4_work_108 : decode cX4_work 108 = .ok (.iastore, 1) := by decide +kernel
theorem dX4_work_109 : decode cX4_work 109 = .ok (.iinc 2 1, 3) := by decide +kernel
theorem dX4_work_112 : decode cX4_work 112 = .ok (.goto (-97), 3) := by decide +kernel
theorem dX4_work_115 : decode cX4_work 115 = .ok (.iconst 0, 1) := by decide +kernel
theorem dX4_work_116 : decode cX4_work 116 = .ok (.istore_n 2, 1) := by decide +kernel
theorem dX4_work_117 : decode cX4_work 117 = .ok (.iload_n 2, 1) := by decide +kernel
theorem dX4_work_118 : decode cX4_work 118 = .ok (.aload_n 0, 1) := by decide +kernel
theorem dX4_work_119 : decode cX4_work 119 = .ok (.getfield 164, 3) := by decide +kernel
theorem dX4_work_122 : decode cX4_work 122 = .ok (.if_icmp .ge 47, 3) := by decide +kernel
theorem dX4_work_125 : decode cX4_work 125 = .ok (.aload_n 0, 1) := by decide +kernel
theorem dX4_work_126 : decode cX4_work 126 = .ok (.getfield 65, 3) := by decide +kernel
theorem dX4_work_129 : decode cX4_work 129 = .ok (.iload_n 2, 1) := by decide +kernel
theorem dX4_work_130 : decode cX4_work 130 = .ok (.iaload, 1) := by decide +kernel
theorem dX4_work_131 : decode cX4_work 131 = .ok (.iload_n 1, 1) := by decide +kernel
theorem dX4_work_132 : decode cX4_work 132 = .ok (.if_icmp .eq 6, 3) := by decide +kernel
theorem dX4_work_135 : decode cX4_work 135 = .ok (.goto 28, 3) := by decide +kernel
theorem dX4_work_138 : decode cX4_work 138 = .ok (.aload_n 0, 1) := by decide +kernel
theorem dX4_work_139 : decode cX4_work 139 = .ok (.getfield 86, 3) := by decide +kernel
theorem dX4_work_142 : decode cX4_work 142 = .ok (.iload_n 2, 1) := by decide +kernel
theorem dX4_work_143 : decode cX4_work 143 = .ok (.aload_n 0, 1) := by decide +kernel
theorem dX4_work_144 : decode cX4_work 144 = .ok (.iload_n 2, 1) := by decide +kernel
theorem dX4_work_145 : decode cX4_work 145 = .ok (.invokevirtual 167, 3) := by decide +kernel
theorem dX4_work_148 : decode cX4_work 148 = .ok (.bastore, 1) := by decide +kernel
theorem dX4_work_149 : decode cX4_work 149 = .ok (.aload_n 0, 1) := by decide +kernel
theorem dX4_work_150 : decode cX4_work 150 = .ok (.getfield 86, 3) := by decide +kernel
theorem dX4_work_153 : decode cX4_work 153 = .ok (.iload_n 2, 1) := by decide +kernel
theorem dX4_work_154 : decode cX4_work 154 = .ok (.baload, 1) := by decide +kernel
theorem dX4_work_155 : decode cX4_work 155 = .ok (.ifCond .eq 8, 3) := by decide +kernel
theorem dX4_work_158 : decode cX4_work 158 = .ok (.aload_n 0, 1) := by decide +kernel
theorem dX4_work_159 : decode cX4_work 159 = .ok (.iload_n 2, 1) := by decide +kernel
theorem dX4_work_160 : decode cX4_work 160 = .ok (.invokevirtual 170, 3) := by decide +kernel
theorem dX4_work_163 : decode cX4_work 163 = .ok (.iinc 2 1, 3) := by decide +kernel
theorem dX4_work_166 : decode cX4_work 166 = .ok (.goto (-49), 3) := by decide +kernel
theorem dX4_work_169 : decode cX4_work 169 = .ok (.bipush 24, 2) := by decide +kernel
theorem dX4_work_171 : decode cX4_work 171 = .ok (.iload_n 1, 1) := by decide +kernel
theorem dX4_work_172 : decode cX4_work 172 = .ok (.imul, 1) := by decide +kernel
theorem dX4_work_173 : decode cX4_work 173 = .ok (.istore_n 2, 1) := by decide +kernel
theorem dX4_work_174 : decode cX4_work 174 = .ok (.iload_n 2, 1) := by decide +kernel
theorem dX4_work_175 : decode cX4_work 175 = .ok (.bipush 24, 2) := by decide +kernel
theorem dX4_work_177 : decode cX4_work 177 = .ok (.iload_n 1, 1) := by decide +kernel
theorem dX4_work_178 : decode cX4_work 178 = .ok (.imul, 1) := by decide +kernel
theorem dX4_work_179 : decode cX4_work 179 = .ok (.bipush 24, 2) := by decide +kernel
theorem dX4_work_181 : decode cX4_work 181 = .ok (.iadd, 1) := by decide +kernel
theorem dX4_work_182 : decode cX4_work 182 = .ok (.if_icmp .ge 29, 3) := by decide +kernel
theorem dX4_work_185 : decode cX4_work 185 = .ok (.iload_n 1, 1) := by decide +kernel
theorem dX4_work_186 : decode cX4_work 186 = .ok (.aload_n 0, 1) := by decide +kernel
theorem dX4_work_187 : decode cX4_work 187 = .ok (.getfield 141, 3) := by decide +kernel
theorem dX4_work_190 : decode cX4_work 190 = .ok (.if_icmp .lt 10, 3) := by decide +kernel
theorem dX4_work_193 : decode cX4_work 193 = .ok (.aload_n 0, 1) := by decide +kernel
theorem dX4_work_194 : decode cX4_work 194 = .ok (.getfield 173, 3) := by decide +kernel
theorem dX4_work_197 : decode cX4_work 197 = .ok (.ifCond .ne 14, 3) := by decide +kernel
theorem dX4_work_200 : decode cX4_work 200 = .ok (.aload_n 0, 1) := by decide +kernel
theorem dX4_work_201 : decode cX4_work 201 = .ok (.iload_n 2, 1) := by decide +kernel
theorem dX4_work_202 : decode cX4_work 202 = .ok (.invokevirtual 177, 3) := by decide +kernel
theorem dX4_work_205 : decode cX4_work 205 = .ok (.iinc 2 1, 3) := by decide +kernel
theorem dX4_work_208 : decode cX4_work 208 = .ok (.goto (-34), 3) := by decide +kernel
theorem dX4_work_211 : decode cX4_work 211 = .ok (.iinc 1 1, 3) := by decide +kernel
theorem dX4_work_214 : decode cX4_work 214 = .ok (.goto (-212), 3) := by decide +kernel
theorem dX4_work_217 : decode cX4_work 217 = .ok (.return_, 1) := by decide +kernel
theorem dX4_open_0 : decode cX4_open 0 = .ok (.iload_n 1, 1) := by decide +kernel
theorem dX4_open_1 : decode cX4_open 1 = .ok (.i2l, 1) := by decide +kernel
theorem dX4_open_2 : decode cX4_open 2 = .ok (.lconst 0, 1) := by decide +kernel
theorem dX4_open_3 : decode cX4_open 3 = .ok (.ldc2_w 120, 3) := by decide +kernel
theorem dX4_open_6 : decode cX4_open 6 = .ok (.invokestatic 100, 3) := by decide +kernel
theorem dX4_open_9 : decode cX4_open 9 = .ok (.ifCond .eq 44, 3) := by decide +kernel
theorem dX4_open_12 : decode cX4_open 12 = .ok (.iload_n 2, 1) := by decide +kernel
theorem dX4_open_13 : decode cX4_open 13 = .ok (.i2l, 1) := by decide +kernel
theorem dX4_open_14 : decode cX4_open 14 = .ok (.lconst 0, 1) := by decide +kernel
theorem dX4_open_15 : decode cX4_open 15 = .ok (.ldc2_w 120, 3) := by decide +kernel
theorem dX4_open_18 : decode cX4_open 18 = .ok (.invokestatic 100, 3) := by decide +kernel
theorem dX4_open_21 : decode cX4_open 21 = .ok (.ifCond .eq 32, 3) := by decide +kernel
theorem dX4_open_24 : decode cX4_open 24 = .ok (.iload_n 3, 1) := by decide +kernel
theorem dX4_open_25 : decode cX4_open 25 = .ok (.i2l, 1) := by decide +kernel
theorem dX4_open_26 : decode cX4_open 26 = .ok (.lconst 0, 1) := by decide +kernel
theorem dX4_open_27 : decode cX4_open 27 = .ok (.ldc2_w 120, 3) := by decide +kernel
theorem dX4_open_30 : decode cX4_open 30 = .ok (.invokestatic 100, 3) := by decide +kernel
theorem dX4_open_33 : decode cX4_open 33 = .ok (.ifCond .eq 20, 3) := by decide +kernel
theorem dX4_open_36 : decode cX4_open 36 = .ok (.iload 4, 2) := by decide +kernel
theorem dX4_open_38 : decode cX4_open 38 = .ok (.i2l, 1) := by decide +kernel
theorem dX4_open_39 : decode cX4_open 39 = .ok (.lconst 0, 1) := by decide +kernel
theorem dX4_open_40 : decode cX4_open 40 = .ok (.ldc2_w 120, 3) := by decide +kernel
theorem dX4_open_43 : decode cX4_open 43 = .ok (.invokestatic 100, 3) := by decide +kernel
theorem dX4_open_46 : decode cX4_open 46 = .ok (.ifCond .eq 7, 3) := by decide +kernel
theorem dX4_open_49 : decode cX4_open 49 = .ok (.iconst 1, 1) := by decide +kernel
theorem dX4_open_50 : decode cX4_open 50 = .ok (.goto 4, 3) := by decide +kernel
theorem dX4_open_53 : decode cX4_open 53 = .ok (.iconst 0, 1) := by decide +kernel
theorem dX4_open_54 : decode cX4_open 54 = .ok (.istore 5, 2) := by decide +kernel
theorem dX4_open_56 : decode cX4_open 56 = .ok (.aload_n 0, 1) := by decide +kernel
theorem dX4_open_57 : decode cX4_open 57 = .ok (.iload 5, 2) := by decide +kernel
theorem dX4_open_59 : decode cX4_open 59 = .ok (.ifCond .ne 7, 3) := by decide +kernel
theorem dX4_open_62 : decode cX4_open 62 = .ok (.iconst 1, 1) := by decide +kernel
theorem dX4_open_63 : decode cX4_open 63 = .ok (.goto 4, 3) := by decide +kernel
theorem dX4_open_66 : decode cX4_open 66 = .ok (.iconst 0, 1) := by decide +kernel
theorem dX4_open_67 : decode cX4_open 67 = .ok (.aload_n 0, 1) := by decide +kernel
theorem dX4_open_68 : decode cX4_open 68 = .ok (.getfield 173, 3) := by decide +kernel
theorem dX4_open_71 : decode cX4_open 71 = .ok (.ifCond .ne 12, 3) := by decide +kernel
theorem dX4_open_74 : decode cX4_open 74 = .ok (.aload_n 0, 1) := by decide +kernel
theorem dX4_open_75 : decode cX4_open 75 = .ok (.getfield 141, 3) := by decide +kernel
theorem dX4_open_78 : decode cX4_open 78 = .ok (.bipush 8, 2) := by decide +kernel
theorem dX4_open_80 : decode cX4_open 80 = .ok (.if_icmp .ne 7, 3) := by decide +kernel
theorem dX4_open_83 : decode cX4_open 83 = .ok (.iconst 1, 1) := by decide +kernel
theorem dX4_open_84 : decode cX4_open 84 = .ok (.goto 4, 3) := by decide +kernel
theorem dX4_open_87 : decode cX4_open 87 = .ok (.iconst 0, 1) := by decide +kernel
theorem dX4_open_88 : decode cX4_open 88 = .ok (.invokevirtual 126, 3) := by decide +kernel
theorem dX4_open_91 : decode cX4_open 91 = .ok (.ifCond .eq 5, 3) := by decide +kernel
theorem dX4_open_94 : decode cX4_open 94 = .ok (.iconst 0, 1) := by decide +kernel
theorem dX4_open_95 : decode cX4_open 95 = .ok (.ireturn, 1) := by decide +kernel
theorem dX4_open_96 : decode cX4_open 96 = .ok (.aload_n 0, 1) := by decide +kernel
theorem dX4_open_97 : decode cX4_open 97 = .ok (.dup, 1) := by decide +kernel
theorem dX4_open_98 : decode cX4_open 98 = .ok (.getfield 141, 3) := by decide +kernel
theorem dX4_open_101 : decode cX4_open 101 = .ok (.iconst 1, 1) := by decide +kernel
theorem dX4_open_102 : decode cX4_open 102 = .ok (.iadd, 1) := by decide +kernel
theorem dX4_open_103 : decode cX4_open 103 = .ok (.putfield 141, 3) := by decide +kernel
theorem dX4_open_106 : decode cX4_open 106 = .ok (.aload_n 0, 1) := by decide +kernel
theorem dX4_open_107 : decode cX4_open 107 = .ok (.iconst 1, 1) := by decide +kernel
theorem dX4_open_108 : decode cX4_open 108 = .ok (.putfield 173, 3) := by decide +kernel
theorem dX4_open_111 : decode cX4_open 111 = .ok (.aload_n 0, 1) := by decide +kernel
theorem dX4_open_112 : decode cX4_open 112 = .ok (.aload_n 0, 1) := by decide +kernel
theorem dX4_open_113 : decode cX4_open 113 = .ok (.getfield 141, 3) := by decide +kernel
theorem dX4_open_116 : decode cX4_open 116 = .ok (.iconst 0, 1) := by decide +kernel
theorem dX4_open_117 : decode cX4_open 117 = .ok (.iload_n 1, 1) := by decide +kernel
theorem dX4_open_118 : decode cX4_open 118 = .ok (.invokevirtual 180, 3) := by decide +kernel
theorem dX4_open_121 : decode cX4_open 121 = .ok (.aload_n 0, 1) := by decide +kernel
theorem dX4_open_122 : decode cX4_open 122 = .ok (.aload_n 0, 1) := by decide +kernel
theorem dX4_open_123 : decode cX4_open 123 = .ok (.getfield 141, 3) := by decide +kernel
theorem dX4_open_126 : decode cX4_open 126 = .ok (.iconst 1, 1) := by decide +kernel
theorem dX4_open_127 : decode cX4_open 127 = .ok (.iload_n 2, 1) := by decide +kernel
theorem dX4_open_128 : decode cX4_open 128 = .ok (.invokevirtual 180, 3) := by decide +kernel
theorem dX4_open_131 : decode cX4_open 131 = .ok (.aload_n 0, 1) := by decide +kernel
theorem dX4_open_132 : decode cX4_open 132 = .ok (.aload_n 0, 1) := by decide +kernel
theorem dX4_open_133 : decode cX4_open 133 = .ok (.getfield 141, 3) := by decide +kernel
theorem dX4_open_136 : decode cX4_open 136 = .ok (.iconst 2, 1) := by decide +kernel
theorem dX4_open_137 : decode cX4_open 137 = .ok (.iload_n 3, 1) := by decide +kernel
theorem dX4_open_138 : decode cX4_open 138 = .ok (.invokevirtual 180, 3) := by decide +kernel
theorem dX4_open_141 : decode cX4_open 141 = .ok (.aload_n 0, 1) := by decide +kernel
theorem dX4_open_142 : decode cX4_open 142 = .ok (.aload_n 0, 1) := by decide +kernel
theorem dX4_open_143 : decode cX4_open 143 = .ok (.getfield 141, 3) := by decide +kernel
theorem dX4_open_146 : decode cX4_open 146 = .ok (.iconst 3, 1) := by decide +kernel
theorem dX4_open_147 : decode cX4_open 147 = .ok (.iload 4, 2) := by decide +kernel
theorem dX4_open_149 : decode cX4_open 149 = .ok (.invokevirtual 180, 3) := by decide +kernel
theorem dX4_open_152 : decode cX4_open 152 = .ok (.aload_n 0, 1) := by decide +kernel
theorem dX4_open_153 : decode cX4_open 153 = .ok (.invokevirtual 184, 3) := by decide +kernel
theorem dX4_open_156 : decode cX4_open 156 = .ok (.aload_n 0, 1) := by decide +kernel
theorem dX4_open_157 : decode cX4_open 157 = .ok (.getfield 141, 3) := by decide +kernel
theorem dX4_open_160 : decode cX4_open 160 = .ok (.ireturn, 1) := by decide +kernel
theorem dX4_end_0 : decode cX4_end 0 = .ok (.aload_n 0, 1) := by decide +kernel
theorem dX4_end_1 : decode cX4_end 1 = .ok (.aload_n 0, 1) := by decide +kernel
theorem dX4_end_2 : decode cX4_end 2 = .ok (.getfield 173, 3) := by decide +kernel
theorem dX4_end_5 : decode cX4_end 5 = .ok (.ifCond .ne 7, 3) := by decide +kernel
theorem dX4_end_8 : decode cX4_end 8 = .ok (.iconst 1, 1) := by decide +kernel
theorem dX4_end_9 : decode cX4_end 9 = .ok (.goto 4, 3) := by decide +kernel
theorem dX4_end_12 : decode cX4_end 12 = .ok (.iconst 0, 1) := by decide +kernel
theorem dX4_end_13 : decode cX4_end 13 = .ok (.iconst 0, 1) := by decide +kernel
theorem dX4_end_14 : decode cX4_end 14 = .ok (.invokevirtual 126, 3) := by decide +kernel
theorem dX4_end_17 : decode cX4_end 17 = .ok (.ifCond .eq 5, 3) := by decide +kernel
theorem dX4_end_20 : decode cX4_end 20 = .ok (.iconst 0, 1) := by decide +kernel
theorem dX4_end_21 : decode cX4_end 21 = .ok (.ireturn, 1) := by decide +kernel
theorem dX4_end_22 : decode cX4_end 22 = .ok (.aload_n 0, 1) := by decide +kernel
theorem dX4_end_23 : decode cX4_end 23 = .ok (.iconst 0, 1) := by decide +kernel
theorem dX4_end_24 : decode cX4_end 24 = .ok (.putfield 173, 3) := by decide +kernel
theorem dX4_end_27 : decode cX4_end 27 = .ok (.aload_n 0, 1) := by decide +kernel
theorem dX4_end_28 : decode cX4_end 28 = .ok (.invokevirtual 184, 3) := by decide +kernel
theorem dX4_end_31 : decode cX4_end 31 = .ok (.iconst 0, 1) := by decide +kernel
theorem dX4_end_32 : decode cX4_end 32 = .ok (.istore_n 1, 1) := by decide +kernel
theorem dX4_end_33 : decode cX4_end 33 = .ok (.bipush 24, 2) := by decide +kernel
theorem dX4_end_35 : decode cX4_end 35 = .ok (.aload_n 0, 1) := by decide +kernel
theorem dX4_end_36 : decode cX4_end 36 = .ok (.getfield 141, 3) := by decide +kernel
theorem dX4_end_39 : decode cX4_end 39 = .ok (.imul, 1) := by decide +kernel
theorem dX4_end_40 : decode cX4_end 40 = .ok (.istore_n 2, 1) := by decide +kernel
theorem dX4_end_41 : decode cX4_end 41 = .ok (.iload_n 2, 1) := by decide +kernel
theorem dX4_end_42 : decode cX4_end 42 = .ok (.bipush 24, 2) := by decide +kernel
theorem dX4_end_44 : decode cX4_end 44 = .ok (.aload_n 0, 1) := by decide +kernel
theorem dX4_end_45 : decode cX4_end 45 = .ok (.getfield 141, 3) := by decide +kernel
theorem dX4_end_48 : decode cX4_end 48 = .ok (.imul, 1) := by decide +kernel
theorem dX4_end_49 : decode cX4_end 49 = .ok (.bipush 24, 2) := by decide +kernel
theorem dX4_end_51 : decode cX4_end 51 = .ok (.iadd, 1) := by decide +kernel
theorem dX4_end_52 : decode cX4_end 52 = .ok (.if_icmp .ge 26, 3) := by decide +kernel
theorem dX4_end_55 : decode cX4_end 55 = .ok (.aload_n 0, 1) := by decide +kernel
theorem dX4_end_56 : decode cX4_end 56 = .ok (.getfield 59, 3) := by decide +kernel
theorem dX4_end_59 : decode cX4_end 59 = .ok (.iload_n 2, 1) := by decide +kernel
theorem dX4_end_60 : decode cX4_end 60 = .ok (.iaload, 1) := by decide +kernel
theorem dX4_end_61 : decode cX4_end 61 = .ok (.ifCond .le 9, 3) := by decide +kernel
theorem dX4_end_64 : decode cX4_end 64 = .ok (.iload_n 1, 1) := by decide +kernel
theorem dX4_end_65 : decode cX4_end 65 = .ok (.iconst 1, 1) := by decide +kernel
theorem dX4_end_66 : decode cX4_end 66 = .ok (.iadd, 1) := by decide +kernel
theorem dX4_end_67 : decode cX4_end 67 = .ok (.goto 4, 3) := by decide +kernel
theorem dX4_end_70 : decode cX4_end 70 = .ok (.iload_n 1, 1) := by decide +kernel
theorem dX4_end_71 : decode cX4_end 71 = .ok (.istore_n 1, 1) := by decide +kernel
theorem dX4_end_72 : decode cX4_end 72 = .ok (.iinc 2 1, 3) := by decide +kernel
theorem dX4_end_75 : decode cX4_end 75 = .ok (.goto (-34), 3) := by decide +kernel
theorem dX4_end_78 : decode cX4_end 78 = .ok (.iload_n 1, 1) := by decide +kernel
theorem dX4_end_79 : decode cX4_end 79 = .ok (.ireturn, 1) := by decide +kernel
theorem dX4_tell_0 : decode cX4_tell 0 = .ok (.aload_n 0, 1) := by decide +kernel
theorem dX4_tell_1 : decode cX4_tell 1 = .ok (.getfield 62, 3) := by decide +kernel
theorem dX4_tell_4 : decode cX4_tell 4 = .ok (.aload_n 0, 1) := by decide +kernel
theorem dX4_tell_5 : decode cX4_tell 5 = .ok (.getfield 164, 3) := by decide +kernel
theorem dX4_tell_8 : decode cX4_tell 8 = .ok (.iload_n 1, 1) := by decide +kernel
theorem dX4_tell_9 : decode cX4_tell 9 = .ok (.iastore, 1) := by decide +kernel
theorem dX4_tell_10 : decode cX4_tell 10 = .ok (.aload_n 0, 1) := by decide +kernel
theorem dX4_tell_11 : decode cX4_tell 11 = .ok (.getfield 65, 3) := by decide +kernel
theorem dX4_tell_14 : decode cX4_tell 14 = .ok (.aload_n 0, 1) := by decide +kernel
theorem dX4_tell_15 : decode cX4_tell 15 = .ok (.getfield 164, 3) := by decide +kernel
theorem dX4_tell_18 : decode cX4_tell 18 = .ok (.iload_n 2, 1) := by decide +kernel
theorem dX4_tell_19 : decode cX4_tell 19 = .ok (.iastore, 1) := by decide +kernel
theorem dX4_tell_20 : decode cX4_tell 20 = .ok (.aload_n 0, 1) := by decide +kernel
theorem dX4_tell_21 : decode cX4_tell 21 = .ok (.getfield 68, 3) := by decide +kernel
theorem dX4_tell_24 : decode cX4_tell 24 = .ok (.aload_n 0, 1) := by decide +kernel
theorem dX4_tell_25 : decode cX4_tell 25 = .ok (.getfield 164, 3) := by decide +kernel
theorem dX4_tell_28 : decode cX4_tell 28 = .ok (.iload_n 3, 1) := by decide +kernel
theorem dX4_tell_29 : decode cX4_tell 29 = .ok (.iastore, 1) := by decide +kernel
theorem dX4_tell_30 : decode cX4_tell 30 = .ok (.aload_n 0, 1) := by decide +kernel
theorem dX4_tell_31 : decode cX4_tell 31 = .ok (.getfield 71, 3) := by decide +kernel
theorem dX4_tell_34 : decode cX4_tell 34 = .ok (.aload_n 0, 1) := by decide +kernel
theorem dX4_tell_35 : decode cX4_tell 35 = .ok (.getfield 164, 3) := by decide +kernel
theorem dX4_tell_38 : decode cX4_tell 38 = .ok (.iload 4, 2) := by decide +kernel
theorem dX4_tell_40 : decode cX4_tell 40 = .ok (.iastore, 1) := by decide +kernel
theorem dX4_tell_41 : decode cX4_tell 41 = .ok (.aload_n 0, 1) := by decide +kernel
theorem dX4_tell_42 : decode cX4_tell 42 = .ok (.getfield 74, 3) := by decide +kernel
theorem dX4_tell_45 : decode cX4_tell 45 = .ok (.aload_n 0, 1) := by decide +kernel
theorem dX4_tell_46 : decode cX4_tell 46 = .ok (.getfield 164, 3) := by decide +kernel
theorem dX4_tell_49 : decode cX4_tell 49 = .ok (.iload 5, 2) := by decide +kernel
theorem dX4_tell_51 : decode cX4_tell 51 = .ok (.iastore, 1) := by decide +kernel
theorem dX4_tell_52 : decode cX4_tell 52 = .ok (.aload_n 0, 1) := by decide +kernel
theorem dX4_tell_53 : decode cX4_tell 53 = .ok (.getfield 77, 3) := by decide +kernel
theorem dX4_tell_56 : decode cX4_tell 56 = .ok (.aload_n 0, 1) := by decide +kernel
theorem dX4_tell_57 : decode cX4_tell 57 = .ok (.getfield 164, 3) := by decide +kernel
theorem dX4_tell_60 : decode cX4_tell 60 = .ok (.iload 6, 2) := by decide +kernel
theorem dX4_tell_62 : decode cX4_tell 62 = .ok (.iastore, 1) := by decide +kernel
theorem dX4_tell_63 : decode cX4_tell 63 = .ok (.aload_n 0, 1) := by decide +kernel
theorem dX4_tell_64 : decode cX4_tell 64 = .ok (.getfield 80, 3) := by decide +kernel
theorem dX4_tell_67 : decode cX4_tell 67 = .ok (.aload_n 0, 1) := by decide +kernel
theorem dX4_tell_68 : decode cX4_tell 68 = .ok (.getfield 164, 3) := by decide +kernel
theorem dX4_tell_71 : decode cX4_tell 71 = .ok (.iload 7, 2) := by decide +kernel
theorem dX4_tell_73 : decode cX4_tell 73 = .ok (.iastore, 1) := by decide +kernel
theorem dX4_tell_74 : decode cX4_tell 74 = .ok (.aload_n 0, 1) := by decide +kernel
theorem dX4_tell_75 : decode cX4_tell 75 = .ok (.getfield 83, 3) := by decide +kernel
