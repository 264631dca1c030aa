theorem dX5_shareOf_40 : decode cX5_shareOf 40 = .ok (.aload_n 0, 1) := by decide +kernel
theorem dX5_shareOf_41 : decode cX5_shareOf 41 = .ok (.getfield 26, 3) := by decide +kernel
theorem dX5_shareOf_44 : decode cX5_shareOf 44 = .ok (.invokevirtual 137, 3) := by decide +kernel
theorem dX5_shareOf_47 : decode cX5_shareOf 47 = .ok (.invokevirtual 145, 3) := by decide +kernel
theorem dX5_shareOf_50 : decode cX5_shareOf 50 = .ok (.ireturn, 1) := by decide +kernel
theorem dX5_isSound_0 : decode cX5_isSound 0 = .ok (.iconst 0, 1) := by decide +kernel
theorem dX5_isSound_1 : decode cX5_isSound 1 = .ok (.istore_n 1, 1) := by decide +kernel
theorem dX5_isSound_2 : decode cX5_isSound 2 = .ok (.iload_n 1, 1) := by decide +kernel
theorem dX5_isSound_3 : decode cX5_isSound 3 = .ok (.aload_n 0, 1) := by decide +kernel
theorem dX5_isSound_4 : decode cX5_isSound 4 = .ok (.getfield 10, 3) := by decide +kernel
theorem dX5_isSound_7 : decode cX5_isSound 7 = .ok (.getfield 72, 3) := by decide +kernel
theorem dX5_isSound_10 : decode cX5_isSound 10 = .ok (.if_icmp .ge 43, 3) := by decide +kernel
theorem dX5_isSound_13 : decode cX5_isSound 13 = .ok (.aload_n 0, 1) := by decide +kernel
theorem dX5_isSound_14 : decode cX5_isSound 14 = .ok (.getfield 10, 3) := by decide +kernel
theorem dX5_isSound_17 : decode cX5_isSound 17 = .ok (.getfield 189, 3) := by decide +kernel
theorem dX5_isSound_20 : decode cX5_isSound 20 = .ok (.iload_n 1, 1) := by decide +kernel
theorem dX5_isSound_21 : decode cX5_isSound 21 = .ok (.iaload, 1) := by decide +kernel
theorem dX5_isSound_22 : decode cX5_isSound 22 = .ok (.istore_n 2, 1) := by decide +kernel
theorem dX5_isSound_23 : decode cX5_isSound 23 = .ok (.aload_n 0, 1) := by decide +kernel
theorem dX5_isSound_24 : decode cX5_isSound 24 = .ok (.iload_n 2, 1) := by decide +kernel
theorem dX5_isSound_25 : decode cX5_isSound 25 = .ok (.invokevirtual 192, 3) := by decide +kernel
theorem dX5_isSound_28 : decode cX5_isSound 28 = .ok (.aload_n 0, 1) := by decide +kernel
theorem dX5_isSound_29 : decode cX5_isSound 29 = .ok (.aload_n 0, 1) := by decide +kernel
theorem dX5_isSound_30 : decode cX5_isSound 30 = .ok (.iload_n 2, 1) := by decide +kernel
theorem dX5_isSound_31 : decode cX5_isSound 31 = .ok (.invokevirtual 195, 3) := by decide +kernel
theorem dX5_isSound_34 : decode cX5_isSound 34 = .ok (.invokevirtual 198, 3) := by decide +kernel
theorem dX5_isSound_37 : decode cX5_isSound 37 = .ok (.iadd, 1) := by decide +kernel
theorem dX5_isSound_38 : decode cX5_isSound 38 = .ok (.iload_n 2, 1) := by decide +kernel
theorem dX5_isSound_39 : decode cX5_isSound 39 = .ok (.invokestatic 215, 3) := by decide +kernel
theorem dX5_isSound_42 : decode cX5_isSound 42 = .ok (.if_icmp .eq 5, 3) := by decide +kernel
theorem dX5_isSound_45 : decode cX5_isSound 45 = .ok (.iconst 0, 1) := by decide +kernel
theorem dX5_isSound_46 : decode cX5_isSound 46 = .ok (.ireturn, 1) := by decide +kernel
theorem dX5_isSound_47 : decode cX5_isSound 47 = .ok (.iinc 1 1, 3) := by decide +kernel
theorem dX5_isSound_50 : decode cX5_isSound 50 = .ok (.goto (-48), 3) := by decide +kernel
theorem dX5_isSound_53 : decode cX5_isSound 53 = .ok (.aload_n 0, 1) := by decide +kernel
theorem dX5_isSound_54 : decode cX5_isSound 54 = .ok (.getfield 19, 3) := by decide +kernel
theorem dX5_isSound_57 : decode cX5_isSound 57 = .ok (.invokevirtual 226, 3) := by decide +kernel
theorem dX5_isSound_60 : decode cX5_isSound 60 = .ok (.aload_n 0, 1) := by decide +kernel
theorem dX5_isSound_61 : decode cX5_isSound 61 = .ok (.getfield 113, 3) := by decide +kernel
theorem dX5_isSound_64 : decode cX5_isSound 64 = .ok (.aload_n 0, 1) := by decide +kernel
theorem dX5_isSound_65 : decode cX5_isSound 65 = .ok (.getfield 124, 3) := by decide +kernel
theorem dX5_isSound_68 : decode cX5_isSound 68 = .ok (.isub, 1) := by decide +kernel
theorem dX5_isSound_69 : decode cX5_isSound 69 = .ok (.if_icmp .ne 13, 3) := by decide +kernel
theorem dX5_isSound_72 : decode cX5_isSound 72 = .ok (.aload_n 0, 1) := by decide +kernel
theorem dX5_isSound_73 : decode cX5_isSound 73 = .ok (.getfield 19, 3) := by decide +kernel
theorem dX5_isSound_76 : decode cX5_isSound 76 = .ok (.invokevirtual 258, 3) := by decide +kernel
theorem dX5_isSound_79 : decode cX5_isSound 79 = .ok (.ifCond .eq 5, 3) := by decide +kernel
theorem dX5_isSound_82 : decode cX5_isSound 82 = .ok (.iconst 0, 1) := by decide +kernel
theorem dX5_isSound_83 : decode cX5_isSound 83 = .ok (.ireturn, 1) := by decide +kernel
theorem dX5_isSound_84 : decode cX5_isSound 84 = .ok (.aload_n 0, 1) := by decide +kernel
theorem dX5_isSound_85 : decode cX5_isSound 85 = .ok (.getfield 26, 3) := by decide +kernel
theorem dX5_isSound_88 : decode cX5_isSound 88 = .ok (.aload_n 0, 1) := by decide +kernel
theorem dX5_isSound_89 : decode cX5_isSound 89 = .ok (.getfield 10, 3) := by decide +kernel
theorem dX5_isSound_92 : decode cX5_isSound 92 = .ok (.aload_n 0, 1) := by decide +kernel
theorem dX5_isSound_93 : decode cX5_isSound 93 = .ok (.getfield 19, 3) := by decide +kernel
theorem dX5_isSound_96 : decode cX5_isSound 96 = .ok (.invokevirtual 133, 3) := by decide +kernel
theorem dX5_isSound_99 : decode cX5_isSound 99 = .ok (.aload_n 0, 1) := by decide +kernel
theorem dX5_isSound_100 : decode cX5_isSound 100 = .ok (.getfield 26, 3) := by decide +kernel
theorem dX5_isSound_103 : decode cX5_isSound 103 = .ok (.getfield 220, 3) := by decide +kernel
theorem dX5_isSound_106 : decode cX5_isSound 106 = .ok (.iconst (-1), 1) := by decide +kernel
theorem dX5_isSound_107 : decode cX5_isSound 107 = .ok (.if_icmp .ne 19, 3) := by decide +kernel
theorem dX5_isSound_110 : decode cX5_isSound 110 = .ok (.aload_n 0, 1) := by decide +kernel
theorem dX5_isSound_111 : decode cX5_isSound 111 = .ok (.getfield 26, 3) := by decide +kernel
theorem dX5_isSound_114 : decode cX5_isSound 114 = .ok (.getfield 223, 3) := by decide +kernel
theorem dX5_isSound_117 : decode cX5_isSound 117 = .ok (.ifCond .eq 7, 3) := by decide +kernel
theorem dX5_isSound_120 : decode cX5_isSound 120 = .ok (.iconst 1, 1) := by decide +kernel
theorem dX5_isSound_121 : decode cX5_isSound 121 = .ok (.goto 4, 3) := by decide +kernel
theorem dX5_isSound_124 : decode cX5_isSound 124 = .ok (.iconst 0, 1) := by decide +kernel
theorem dX5_isSound_125 : decode cX5_isSound 125 = .ok (.ireturn, 1) := by decide +kernel
theorem dX5_isSound_126 : decode cX5_isSound 126 = .ok (.aload_n 0, 1) := by decide +kernel
theorem dX5_isSound_127 : decode cX5_isSound 127 = .ok (.getfield 26, 3) := by decide +kernel
theorem dX5_isSound_130 : decode cX5_isSound 130 = .ok (.getfield 223, 3) := by decide +kernel
theorem dX5_isSound_133 : decode cX5_isSound 133 = .ok (.ifCond .ne 14, 3) := by decide +kernel
theorem dX5_isSound_136 : decode cX5_isSound 136 = .ok (.aload_n 0, 1) := by decide +kernel
theorem dX5_isSound_137 : decode cX5_isSound 137 = .ok (.invokevirtual 262, 3) := by decide +kernel
theorem dX5_isSound_140 : decode cX5_isSound 140 = .ok (.ifCond .ne 7, 3) := by decide +kernel
theorem dX5_isSound_143 : decode cX5_isSound 143 = .ok (.iconst 1, 1) := by decide +kernel
theorem dX5_isSound_144 : decode cX5_isSound 144 = .ok (.goto 4, 3) := by decide +kernel
theorem dX5_isSound_147 : decode cX5_isSound 147 = .ok (.iconst 0, 1) := by decide +kernel
theorem dX5_isSound_148 : decode cX5_isSound 148 = .ok (.ireturn, 1) := by decide +kernel
theorem dX5_digest_0 : decode cX5_digest 0 = .ok (.ldc2_w 265, 3) := by decide +kernel
theorem dX5_digest_3 : decode cX5_digest 3 = .ok (.lstore_n 1, 1) := by decide +kernel
theorem dX5_digest_4 : decode cX5_digest 4 = .ok (.iconst 0, 1) := by decide +kernel
theorem dX5_digest_5 : decode cX5_digest 5 = .ok (.istore_n 3, 1) := by decide +kernel
theorem dX5_digest_6 : decode cX5_digest 6 = .ok (.iload_n 3, 1) := by decide +kernel
theorem dX5_digest_7 : decode cX5_digest 7 = .ok (.bipush 13, 2) := by decide +kernel
theorem dX5_digest_9 : decode cX5_digest 9 = .ok (.if_icmp .gt 22, 3) := by decide +kernel
theorem dX5_digest_12 : decode cX5_digest 12 = .ok (.lload_n 1, 1) := by decide +kernel
theorem dX5_digest_13 : decode cX5_digest 13 = .ok (.ldc2_w 267, 3) := by decide +kernel
theorem dX5_digest_16 : decode cX5_digest 16 = .ok (.lmul, 1) := by decide +kernel
theorem dX5_digest_17 : decode cX5_digest 17 = .ok (.aload_n 0, 1) := by decide +kernel
theorem dX5_digest_18 : decode cX5_digest 18 = .ok (.iload_n 3, 1) := by decide +kernel
theorem dX5_digest_19 : decode cX5_digest 19 = .ok (.invokevirtual 269, 3) := by decide +kernel
theorem dX5_digest_22 : decode cX5_digest 22 = .ok (.i2l, 1) := by decide +kernel
theorem dX5_digest_23 : decode cX5_digest 23 = .ok (.ladd, 1) := by decide +kernel
theorem dX5_digest_24 : decode cX5_digest 24 = .ok (.lstore_n 1, 1) := by decide +kernel
theorem dX5_digest_25 : decode cX5_digest 25 = .ok (.iinc 3 1, 3) := by decide +kernel
theorem dX5_digest_28 : decode cX5_digest 28 = .ok (.goto (-22), 3) := by decide +kernel
theorem dX5_digest_31 : decode cX5_digest 31 = .ok (.iconst 0, 1) := by decide +kernel
theorem dX5_digest_32 : decode cX5_digest 32 = .ok (.istore_n 3, 1) := by decide +kernel
theorem dX5_digest_33 : decode cX5_digest 33 = .ok (.iload_n 3, 1) := by decide +kernel
theorem dX5_digest_34 : decode cX5_digest 34 = .ok (.aload_n 0, 1) := by decide +kernel
theorem dX5_digest_35 : decode cX5_digest 35 = .ok (.getfield 10, 3) := by decide +kernel
theorem dX5_digest_38 : decode cX5_digest 38 = .ok (.getfield 48, 3) := by decide +kernel
theorem dX5_digest_41 : decode cX5_digest 41 = .ok (.if_icmp .ge 40, 3) := by decide +kernel
theorem dX5_digest_44 : decode cX5_digest 44 = .ok (.iconst 0, 1) := by decide +kernel
theorem dX5_digest_45 : decode cX5_digest 45 = .ok (.istore 4, 2) := by decide +kernel
theorem dX5_digest_47 : decode cX5_digest 47 = .ok (.iload 4, 2) := by decide +kernel
theorem dX5_digest_49 : decode cX5_digest 49 = .ok (.bipush 6, 2) := by decide +kernel
theorem dX5_digest_51 : decode cX5_digest 51 = .ok (.if_icmp .gt 24, 3) := by decide +kernel
theorem dX5_digest_54 : decode cX5_digest 54 = .ok (.lload_n 1, 1) := by decide +kernel
theorem dX5_digest_55 : decode cX5_digest 55 = .ok (.ldc2_w 267, 3) := by decide +kernel
theorem dX5_digest_58 : decode cX5_digest 58 = .ok (.lmul, 1) := by decide +kernel
theorem dX5_digest_59 : decode cX5_digest 59 = .ok (.aload_n 0, 1) := by decide +kernel
theorem dX5_digest_60 : decode cX5_digest 60 = .ok (.iload_n 3, 1) := by decide +kernel
theorem dX5_digest_61 : decode cX5_digest 61 = .ok (.iload 4, 2) := by decide +kernel
theorem dX5_digest_63 : decode cX5_digest 63 = .ok (.invokevirtual 272, 3) := by decide +kernel
theorem dX5_digest_66 : decode cX5_digest 66 = .ok (.i2l, 1) := by decide +kernel
theorem dX5_digest_67 : decode cX5_digest 67 = .ok (.ladd, 1) := by decide +kernel
theorem dX5_digest_68 : decode cX5_digest 68 = .ok (.lstore_n 1, 1) := by decide +kernel
theorem dX5_digest_69 : decode cX5_digest 69 = .ok (.iinc 4 1, 3) := by decide +kernel
theorem dX5_digest_72 : decode cX5_digest 72 = .ok (.goto (-25), 3) := by decide +kernel
theorem dX5_digest_75 : decode cX5_digest 75 = .ok (.iinc 3 1, 3) := by decide +kernel
theorem dX5_digest_78 : decode cX5_digest 78 = .ok (.goto (-45), 3) := by decide +kernel
theorem dX5_digest_81 : decode cX5_digest 81 = .ok (.iconst 0, 1) := by decide +kernel
theorem dX5_digest_82 : decode cX5_digest 82 = .ok (.istore_n 3, 1) := by decide +kernel
theorem dX5_digest_83 : decode cX5_digest 83 = .ok (.iload_n 3, 1) := by decide +kernel
theorem dX5_digest_84 : decode cX5_digest 84 = .ok (.aload_n 0, 1) := by decide +kernel
theorem dX5_digest_85 : decode cX5_digest 85 = .ok (.getfield 19, 3) := by decide +kernel
theorem dX5_digest_88 : decode cX5_digest 88 = .ok (.getfield 66, 3) := by decide +kernel
theorem dX5_digest_91 : decode cX5_digest 91 = .ok (.if_icmp .ge 67, 3) := by decide +kernel
theorem dX5_digest_94 : decode cX5_digest 94 = .ok (.iconst 0, 1) := by decide +kernel
theorem dX5_digest_95 : decode cX5_digest 95 = .ok (.istore 4, 2) := by decide +kernel
theorem dX5_digest_97 : decode cX5_digest 97 = .ok (.iload 4, 2) := by decide +kernel
theorem dX5_digest_99 : decode cX5_digest 99 = .ok (.iconst 5, 1) := by decide +kernel
theorem dX5_digest_100 : decode cX5_digest 100 = .ok (.if_icmp .gt 24, 3) := by decide +kernel
theorem dX5_digest_103 : decode cX5_digest 103 = .ok (.lload_n 1, 1) := by decide +kernel
theorem dX5_digest_104 : decode cX5_digest 104 = .ok (.ldc2_w 267, 3) := by decide +kernel
theorem dX5_digest_107 : decode cX5_digest 107 = .ok (.lmul, 1) := by decide +kernel
theorem dX5_digest_108 : decode cX5_digest 108 = .ok (.aload_n 0, 1) := by decide +kernel
theorem dX5_digest_109 : decode cX5_digest 109 = .ok (.iload_n 3, 1) := by decide +kernel
theorem dX5_digest_110 : decode cX5_digest 110 = .ok (.iload 4, 2) := by decide +kernel
theorem dX5_digest_112 : decode cX5_digest 112 = .ok (.invokevirtual 275, 3) := by decide +kernel
theorem dX5_digest_115 : decode cX5_digest 115 = .ok (.i2l, 1) := by decide +kernel
theorem dX5_digest_116 : decode cX5_digest 116 = .ok (.ladd, 1) := by decide +kernel
theorem dX5_digest_117 : decode cX5_digest 117 = .ok (.lstore_n 1, 1) := by decide +kernel
theorem dX5_digest_118 : decode cX5_digest 118 = .ok (.iinc 4 1, 3) := by decide +kernel
theorem dX5_digest_121 : decode cX5_digest 121 = .ok (.goto (-24), 3) := by decide +kernel
theorem dX5_digest_124 : decode cX5_digest 124 = .ok (.lload_n 1, 1) := by decide +kernel
theorem dX5_digest_125 : decode cX5_digest 125 = .ok (.ldc2_w 267, 3) := by decide +kernel
theorem dX5_digest_128 : decode cX5_digest 128 = .ok (.lmul, 1) := by decide +kernel
theorem dX5_digest_129 : decode cX5_digest 129 = .ok (.aload_n 0, 1) := by decide +kernel
theorem dX5_digest_130 : decode cX5_digest 130 = .ok (.iload_n 3, 1) := by decide +kernel
theorem dX5_digest_131 : decode cX5_digest 131 = .ok (.invokevirtual 278, 3) := by decide +kernel
theorem dX5_digest_134 : decode cX5_digest 134 = .ok (.i2l, 1) := by decide +kernel
theorem dX5_digest_135 : decode cX5_digest 135 = .ok (.ladd, 1) := by decide +kernel
theorem dX5_digest_136 : decode cX5_digest 136 = .ok (.lstore_n 1, 1) := by decide +kernel
theorem dX5_digest_137 : decode cX5_digest 137 = .ok (.lload_n 1, 1) := by decide +kernel
theorem dX5_digest_138 : decode cX5_digest 138 = .ok (.ldc2_w 267, 3) := by decide +kernel
theorem dX5_digest_141 : decode cX5_digest 141 = .ok (.lmul, 1) := by decide +kernel
theorem dX5_digest_142 : decode cX5_digest 142 = .ok (.aload_n 0, 1) := by decide +kernel
theorem dX5_digest_143 : decode cX5_digest 143 = .ok (.bipush 100, 2) := by decide +kernel
theorem dX5_digest_145 : decode cX5_digest 145 = .ok (.iload_n 3, 1) := by decide +kernel
theorem dX5_digest_146 : decode cX5_digest 146 = .ok (.invokevirtual 281, 3) := by decide +kernel
theorem dX5_digest_149 : decode cX5_digest 149 = .ok (.i2l, 1) := by decide +kernel
theorem dX5_digest_150 : decode cX5_digest 150 = .ok (.ladd, 1) := by decide +kernel
theorem dX5_digest_151 : decode cX5_digest 151 = .ok (.lstore_n 1, 1) := by decide +kernel
theorem dX5_digest_152 : decode cX5_digest 152 = .ok (.iinc 3 1, 3) := by decide +kernel
theorem dX5_digest_155 : decode cX5_digest 155 = .ok (.goto (-72), 3) := by decide +kernel
theorem dX5_digest_158 : decode cX5_digest 158 = .ok (.iconst 0, 1) := by decide +kernel
theorem dX5_digest_159 : decode cX5_digest 159 = .ok (.istore_n 3, 1) := by decide +kernel
theorem dX5_digest_160 : decode cX5_digest 160 = .ok (.iload_n 3, 1) := by decide +kernel
theorem dX5_digest_161 : decode cX5_digest 161 = .ok (.aload_n 0, 1) := by decide +kernel
theorem dX5_digest_162 : decode cX5_digest 162 = .ok (.getfield 10, 3) := by decide +kernel
theorem dX5_digest_165 : decode cX5_digest 165 = .ok (.getfield 72, 3) := by decide +kernel
theorem dX5_digest_168 : decode cX5_digest 168 = .ok (.if_icmp .ge 39, 3) := by decide +kernel
theorem dX5_digest_171 : decode cX5_digest 171 = .ok (.iconst 0, 1) := by decide +kernel
theorem dX5_digest_172 : decode cX5_digest 172 = .ok (.istore 4, 2) := by decide +kernel
theorem dX5_digest_174 : decode cX5_digest 174 = .ok (.iload 4, 2) := by decide +kernel
theorem dX5_digest_176 : decode cX5_digest 176 = .ok (.iconst 5, 1) := by decide +kernel
theorem dX5_digest_177 : decode cX5_digest 177 = .ok (.if_icmp .gt 24, 3) := by decide +kernel
theorem dX5_digest_180 : decode cX5_digest 180 = .ok (.lload_n 1, 1) := by decide +kernel
theorem dX5_digest_181 : decode cX5_digest 181 = .ok (.ldc2_w 267, 3) := by decide +kernel
theorem dX5_digest_184 : decode cX5_digest 184 = .ok (.lmul, 1) := by decide +kernel
theorem dX5_digest_185 : decode cX5_digest 185 = .ok (.aload_n 0, 1) := by decide +kernel
theorem dX5_digest_186 : decode cX5_digest 186 = .ok (.iload_n 3, 1) := by decide +kernel
theorem dX5_digest_187 : decode cX5_digest 187 = .ok (.iload 4, 2) := by decide +kernel
theorem dX5_digest_189 : decode cX5_digest 189 = .ok (.invokevirtual 284, 3) := by decide +kernel
theorem dX5_digest_192 : decode cX5_digest 192 = .ok (.i2l, 1) := by decide +kernel
theorem dX5_digest_193 : decode cX5_digest 193 = .ok (.ladd, 1) := by decide +kernel
theorem dX5_digest_194 : decode cX5_digest 194 = .ok (.lstore_n 1, 1) := by decide +kernel
theorem dX5_digest_195 : decode cX5_digest 195 = .ok (.iinc 4 1, 3) := by decide +kernel
theorem dX5_digest_198 : decode cX5_digest 198 = .ok (.goto (-24), 3) := by decide +kernel
theorem dX5_digest_201 : decode cX5_digest 201 = .ok (.iinc 3 1, 3) := by decide +kernel
theorem dX5_digest_204 : decode cX5_digest 204 = .ok (.goto (-44), 3) := by decide +kernel
theorem dX5_digest_207 : decode cX5_digest 207 = .ok (.iconst 0, 1) := by decide +kernel
theorem dX5_digest_208 : decode cX5_digest 208 = .ok (.istore_n 3, 1) := by decide +kernel
theorem dX5_digest_209 : decode cX5_digest 209 = .ok (.iload_n 3, 1) := by decide +kernel
theorem dX5_digest_210 : decode cX5_digest 210 = .ok (.aload_n 0, 1) := by decide +kernel
theorem dX5_digest_211 : decode cX5_digest 211 = .ok (.getfield 33, 3) := by decide +kernel
theorem dX5_digest_214 : decode cX5_digest 214 = .ok (.getfield 93, 3) := by decide +kernel
theorem dX5_digest_217 : decode cX5_digest 217 = .ok (.if_icmp .ge 23, 3) := by decide +kernel
theorem dX5_digest_220 : decode cX5_digest 220 = .ok (.lload_n 1, 1) := by decide +kernel
theorem dX5_digest_221 : decode cX5_digest 221 = .ok (.ldc2_w 267, 3) := by decide +kernel
theorem dX5_digest_224 : decode cX5_digest 224 = .ok (.lmul, 1) := by decide +kernel
theorem dX5_digest_225 : decode cX5_digest 225 = .ok (.aload_n 0, 1) := by decide +kernel
theorem dX5_digest_226 : decode cX5_digest 226 = .ok (.iload_n 3, 1) := by decide +kernel
theorem dX5_digest_227 : decode cX5_digest 227 = .ok (.iconst 3, 1) := by decide +kernel
theorem dX5_digest_228 : decode cX5_digest 228 = .ok (.invokevirtual 287, 3) := by decide +kernel
theorem dX5_digest_231 : decode cX5_digest 231 = .ok (.i2l, 1) := by decide +kernel
theorem dX5_digest_232 : decode cX5_digest 232 = .ok (.ladd, 1) := by decide +kernel
theorem dX5_digest_233 : decode cX5_digest 233 = .ok (.lstore_n 1, 1) := by decide +kernel
theorem dX5_digest_234 : decode cX5_digest 234 = .ok (.iinc 3 1, 3) := by decide +kernel
theorem dX5_digest_237 : decode cX5_digest 237 = .ok (.goto (-28), 3) := by decide +kernel
theorem dX5_digest_240 : decode cX5_digest 240 = .ok (.iconst 0, 1) := by decide +kernel
theorem dX5_digest_241 : decode cX5_digest 241 = .ok (.istore_n 3, 1) := by decide +kernel
theorem dX5_digest_242 : decode cX5_digest 242 = .ok (.iload_n 3, 1) := by decide +kernel
theorem dX5_digest_243 : decode cX5_digest 243 = .ok (.aload_n 0, 1) := by decide +kernel
theorem dX5_digest_244 : decode cX5_digest 244 = .ok (.getfield 40, 3) := by decide +kernel
theorem dX5_digest_247 : decode cX5_digest 247 = .ok (.getfield 127, 3) := by decide +kernel
theorem dX5_digest_250 : decode cX5_digest 250 = .ok (.if_icmp .ge 37, 3) := by decide +kernel
theorem dX5_digest_253 : decode cX5_digest 253 = .ok (.lload_n 1, 1) := by decide +kernel
theorem dX5_digest_254 : decode cX5_digest 254 = .ok (.ldc2_w 267, 3) := by decide +kernel
theorem dX5_digest_257 : decode cX5_digest 257 = .ok (.lmul, 1) := by decide +kernel
theorem dX5_digest_258 : decode cX5_digest 258 = .ok (.aload_n 0, 1) := by decide +kernel
theorem dX5_digest_259 : decode cX5_digest 259 = .ok (.iload_n 3, 1) := by decide +kernel
theorem dX5_digest_260 : decode cX5_digest 260 = .ok (.iconst 2, 1) := by decide +kernel
theorem dX5_digest_261 : decode cX5_digest 261 = .ok (.invokevirtual 290, 3) := by decide +kernel
theorem dX5_digest_264 : decode cX5_digest 264 = .ok (.i2l, 1) := by decide +kernel
theorem dX5_digest_265 : decode cX5_digest 265 = .ok (.ladd, 1) := by decide +kernel
theorem dX5_digest_266 : decode cX5_digest 266 = .ok (.lstore_n 1, 1) := by decide +kernel
theorem dX5_digest_267 : decode cX5_digest 267 = .ok (.lload_n 1, 1) := by decide +kernel
theorem dX5_digest_268 : decode cX5_digest 268 = .ok (.ldc2_w 267, 3) := by decide +kernel
theorem dX5_digest_271 : decode cX5_digest 271 = .ok (.lmul, 1) := by decide +kernel
theorem dX5_digest_272 : decode cX5_digest 272 = .ok (.aload_n 0, 1) := by decide +kernel
theorem dX5_digest_273 : decode cX5_digest 273 = .ok (.iload_n 3, 1) := by decide +kernel
theorem dX5_digest_274 : decode cX5_digest 274 = .ok (.iconst 3, 1) := by decide +kernel
theorem dX5_digest_275 : decode cX5_digest 275 = .ok (.invokevirtual 290, 3) := by decide +kernel
theorem dX5_digest_278 : decode cX5_digest 278 = .ok (.i2l, 1) := by decide +kernel
theorem dX5_digest_279 : decode cX5_digest 279 = .ok (.ladd, 1) := by decide +kernel
theorem dX5_digest_280 : decode cX5_digest 280 = .ok (.lstore_n 1, 1) := by decide +kernel
theorem dX5_digest_281 : decode cX5_digest 281 = .ok (.iinc 3 1, 3) := by decide +kernel
theorem dX5_digest_284 : decode cX5_digest 284 = .ok (.goto (-42), 3) := by decide +kernel
theorem dX5_digest_287 : decode cX5_digest 287 = .ok (.iconst 0, 1) := by decide +kernel
theorem dX5_digest_288 : decode cX5_digest 288 = .ok (.istore_n 3, 1) := by decide +kernel
theorem dX5_digest_289 : decode cX5_digest 289 = .ok (.iload_n 3, 1) := by decide +kernel
theorem dX5_digest_290 : decode cX5_digest 290 = .ok (.iconst 2, 1) := by decide +kernel
theorem dX5_digest_291 : decode cX5_digest 291 = .ok (.if_icmp .gt 25, 3) := by decide +kernel
theorem dX5_digest_294 : decode cX5_digest 294 = .ok (.lload_n 1, 1) := by decide +kernel
theorem dX5_digest_295 : decode cX5_digest 295 = .ok (.ldc2_w 267, 3) := by decide +kernel
theorem dX5_digest_298 : decode cX5_digest 298 = .ok (.lmul, 1) := by decide +kernel
theorem dX5_digest_299 : decode cX5_digest 299 = .ok (.aload_n 0, 1) := by decide +kernel
theorem dX5_digest_300 : decode cX5_digest 300 = .ok (.sipush 150, 3) := by decide +kernel
theorem dX5_digest_303 : decode cX5_digest 303 = .ok (.iload_n 3, 1) := by decide +kernel
theorem dX5_digest_304 : decode cX5_digest 304 = .ok (.invokevirtual 293, 3) := by decide +kernel
theorem dX5_digest_307 : decode cX5_digest 307 = .ok (.i2l, 1) := by decide +kernel
theorem dX5_digest_308 : decode cX5_digest 308 = .ok (.ladd, 1) := by decide +kernel
theorem dX5_digest_309 : decode cX5_digest 309 = .ok (.lstore_n 1, 1) := by decide +kernel
theorem dX5_digest_310 : decode cX5_digest 310 = .ok (.iinc 3 1, 3) := by decide +kernel
theorem dX5_digest_313 : decode cX5_digest 313 = .ok (.goto (-24), 3) := by decide +kernel
theorem dX5_digest_316 : decode cX5_digest 316 = .ok (.lload_n 1, 1) := by decide +kernel
theorem dX5_digest_317 : decode cX5_digest 317 = .ok (.ldc2_w 267, 3) := by decide +kernel
theorem dX5_digest_320 : decode cX5_digest 320 = .ok (.lmul, 1) := by decide +kernel
theorem dX5_digest_321 : decode cX5_digest 321 = .ok (.aload_n 0, 1) := by decide +kernel
theorem dX5_digest_322 : decode cX5_digest 322 = .ok (.invokevirtual 296, 3) := by decide +kernel
theorem dX5_digest_325 : decode cX5_digest 325 = .ok (.invokevirtual 299, 3) := by decide +kernel
theorem dX5_digest_328 : decode cX5_digest 328 = .ok (.i2l, 1) := by decide +kernel
theorem dX5_digest_329 : decode cX5_digest 329 = .ok (.ladd, 1) := by decide +kernel
theorem dX5_digest_330 : decode cX5_digest 330 = .ok (.lstore_n 1, 1) := by decide +kernel
theorem dX5_digest_331 : decode cX5_digest 331 = .ok (.lload_n 1, 1) := by decide +kernel
theorem dX5_digest_332 : decode cX5_digest 332 = .ok (.ldc2_w 267, 3) := by decide +kernel
theorem dX5_digest_335 : decode cX5_digest 335 = .ok (.lmul, 1) := by decide +kernel
theorem dX5_digest_336 : decode cX5_digest 336 = .ok (.aload_n 0, 1) := by decide +kernel
theorem dX5_digest_337 : decode cX5_digest 337 = .ok (.invokevirtual 304, 3) := by decide +kernel
theorem dX5_digest_340 : decode cX5_digest 340 = .ok (.ifCond .eq 7, 3) := by decide +kernel
theorem dX5_digest_343 : decode cX5_digest 343 = .ok (.iconst 1, 1) := by decide +kernel
theorem dX5_digest_344 : decode cX5_digest 344 = .ok (.goto 4, 3) := by decide +kernel
theorem dX5_digest_347 : decode cX5_digest 347 = .ok (.iconst 0, 1) := by decide +kernel
theorem dX5_digest_348 : decode cX5_digest 348 = .ok (.i2l, 1) := by decide +kernel
theorem dX5_digest_349 : decode cX5_digest 349 = .ok (.ladd, 1) := by decide +kernel
theorem dX5_digest_350 : decode cX5_digest 350 = .ok (.lreturn, 1) := by decide +kernel
theorem dX5_needWithin_0 : decode cX5_needWithin 0 = .ok (.iload_n 0, 1) := by decide +kernel
theorem dX5_needWithin_1 : decode cX5_needWithin 1 = .ok (.iload_n 1, 1) := by decide +kernel
theorem dX5_needWithin_2 : decode cX5_needWithin 2 = .ok (.if_icmp .lt 8, 3) := by decide +kernel
theorem dX5_needWithin_5 : decode cX5_needWithin 5 = .ok (.iload_n 0, 1) := by decide +kernel
theorem dX5_needWithin_6 : decode cX5_needWithin 6 = .ok (.iload_n 2, 1) := by decide +kernel
theorem dX5_needWithin_7 : decode cX5_needWithin 7 = .ok (.if_icmp .le 14, 3) := by decide +kernel
theorem dX5_needWithin_10 : decode cX5_needWithin 10 = .ok (.new 307, 3) := by decide +kernel
theorem dX5_needWithin_13 : decode cX5_needWithin 13 = .ok (.dup, 1) := by decide +kernel
theorem dX5_needWithin_14 : decode cX5_needWithin 14 = .ok (.ldc_w 309, 3) := by decide +kernel
theorem dX5_needWithin_17 : decode cX5_needWithin 17 = .ok (.invokespecial 311, 3) := by decide +kernel
theorem dX5_needWithin_20 : decode cX5_needWithin 20 = .ok (.athrow, 1) := by decide +kernel
theorem dX5_needWithin_21 : decode cX5_needWithin 21 = .ok (.return_, 1) := by decide +kernel
theorem dX5_needSet_0 : decode cX5_needSet 0 = .ok (.iload_n 0, 1) := by decide +kernel
theorem dX5_needSet_1 : decode cX5_needSet 1 = .ok (.ifCond .lt 10, 3) := by decide +kernel
theorem dX5_needSet_4 : decode cX5_needSet 4 = .ok (.iload_n 0, 1) := by decide +kernel
theorem dX5_needSet_5 : decode cX5_needSet 5 = .ok (.iconst 1, 1) := by decide +kernel
theorem dX5_needSet_6 : decode cX5_needSet 6 = .ok (.iload_n 1, 1) := by decide +kernel
theorem dX5_needSet_7 : decode cX5_needSet 7 = .ok (.ishl, 1) := by decide +kernel
theorem dX5_needSet_8 : decode cX5_needSet 8 = .ok (.if_icmp .lt 14, 3) := by decide +kernel
theorem dX5_needSet_11 : decode cX5_needSet 11 = .ok (.new 307, 3) := by decide +kernel
theorem dX5_needSet_14 : decode cX5_needSet 14 = .ok (.dup, 1) := by decide +kernel
theorem dX5_needSet_15 : decode cX5_needSet 15 = .ok (.ldc_w 312, 3) := by decide +kernel
theorem dX5_needSet_18 : decode cX5_needSet 18 = .ok (.invokespecial 311, 3) := by decide +kernel
theorem dX5_needSet_21 : decode cX5_needSet 21 = .ok (.athrow, 1) := by decide +kernel
theorem dX5_needSet_22 : decode cX5_needSet 22 = .ok (.return_, 1) := by decide +kernel
theorem dX5_needIndex_0 : decode cX5_needIndex 0 = .ok (.iload_n 0, 1) := by decide +kernel
theorem dX5_needIndex_1 : decode cX5_needIndex 1 = .ok (.ifCond .lt 8, 3) := by decide +kernel
theorem dX5_needIndex_4 : decode cX5_needIndex 4 = .ok (.iload_n 0, 1) := by decide +kernel
theorem dX5_needIndex_5 : decode cX5_needIndex 5 = .ok (.iload_n 1, 1) := by decide +kernel
theorem dX5_needIndex_6 : decode cX5_needIndex 6 = .ok (.if_icmp .lt 14, 3) := by decide +kernel
theorem dX5_needIndex_9 : decode cX5_needIndex 9 = .ok (.new 314, 3) := by decide +kernel
theorem dX5_needIndex_12 : decode cX5_needIndex 12 = .ok (.dup, 1) := by decide +kernel
theorem dX5_needIndex_13 : decode cX5_needIndex 13 = .ok (.ldc_w 316, 3) := by decide +kernel
theorem dX5_needIndex_16 : decode cX5_needIndex 16 = .ok (.invokespecial 318, 3) := by decide +kernel
theorem dX5_needIndex_19 : decode cX5_needIndex 19 = .ok (.athrow, 1) := by decide +kernel
theorem dX5_needIndex_20 : decode cX5_needIndex 20 = .ok (.return_, 1) := by decide +kernel
theorem dX5_needRoom_0 : decode cX5_needRoom 0 = .ok (.iload_n 0, 1) := by decide +kernel
theorem dX5_needRoom_1 : decode cX5_needRoom 1 = .ok (.iload_n 1, 1) := by decide +kernel
theorem dX5_needRoom_2 : decode cX5_needRoom 2 = .ok (.if_icmp .lt 14, 3) := by decide +kernel
theorem dX5_needRoom_5 : decode cX5_needRoom 5 = .ok (.new 106, 3) := by decide +kernel
theorem dX5_needRoom_8 : decode cX5_needRoom 8 = .ok (.dup, 1) := by decide +kernel
theorem dX5_needRoom_9 : decode cX5_needRoom 9 = .ok (.ldc_w 319, 3) := by decide +kernel
theorem dX5_needRoom_12 : decode cX5_needRoom 12 = .ok (.invokespecial 110, 3) := by decide +kernel
theorem dX5_needRoom_15 : decode cX5_needRoom 15 = .ok (.athrow, 1) := by decide +kernel
theorem dX5_needRoom_16 : decode cX5_needRoom 16 = .ok (.return_, 1) := by decide +kernel
theorem dX5_has_0 : decode cX5_has 0 = .ok (.iload_n 0, 1) := by decide +kernel
theorem dX5_has_1 : decode cX5_has 1 = .ok (.iload_n 1, 1) := by decide +kernel
theorem dX5_has_2 : decode cX5_has 2 = .ok (.ishr, 1) := by decide +kernel
theorem dX5_has_3 : decode cX5_has 3 = .ok (.iconst 1, 1) := by decide +kernel
theorem dX5_has_4 : decode cX5_has 4 = .ok (.iand, 1) := by decide +kernel
theorem dX5_has_5 : decode cX5_has 5 = .ok (.ifCond .eq 7, 3) := by decide +kernel
theorem dX5_has_8 : decode cX5_has 8 = .ok (.iconst 1, 1) := by decide +kernel
theorem dX5_has_9 : decode cX5_has 9 = .ok (.goto 4, 3) := by decide +kernel
theorem dX5_has_12 : decode cX5_has 12 = .ok (.iconst 0, 1) := by decide +kernel
theorem dX5_has_13 : decode cX5_has 13 = .ok (.ireturn, 1) := by decide +kernel
theorem dX5_bestCastClashes_0 : decode cX5_bestCastClashes 0 = .ok (.iconst 0, 1) := by decide +kernel
theorem dX5_bestCastClashes_1 : decode cX5_bestCastClashes 1 = .ok (.istore_n 1, 1) := by decide +kernel
theorem dX5_bestCastClashes_2 : decode cX5_bestCastClashes 2 = .ok (.iload_n 1, 1) := by decide +kernel
theorem dX5_bestCastClashes_3 : decode cX5_bestCastClashes 3 = .ok (.aload_n 0, 1) := by decide +kernel
theorem dX5_bestCastClashes_4 : decode cX5_bestCastClashes 4 = .ok (.getfield 10, 3) := by decide +kernel
theorem dX5_bestCastClashes_7 : decode cX5_bestCastClashes 7 = .ok (.getfield 48, 3) := by decide +kernel
theorem dX5_bestCastClashes_10 : decode cX5_bestCastClashes 10 = .ok (.if_icmp .ge 50, 3) := by decide +kernel
theorem dX5_bestCastClashes_13 : decode cX5_bestCastClashes 13 = .ok (.aload_n 0, 1) := by decide +kernel
theorem dX5_bestCastClashes_14 : decode cX5_bestCastClashes 14 = .ok (.getfield 26, 3) := by decide +kernel
theorem dX5_bestCastClashes_17 : decode cX5_bestCastClashes 17 = .ok (.iload_n 1, 1) := by decide +kernel
theorem dX5_bestCastClashes_18 : decode cX5_bestCastClashes 18 = .ok (.invokevirtual 174, 3) := by decide +kernel
theorem dX5_bestCastClashes_21 : decode cX5_bestCastClashes 21 = .ok (.istore_n 2, 1) := by decide +kernel
theorem dX5_bestCastClashes_22 : decode cX5_bestCastClashes 22 = .ok (.iload_n 2, 1) := by decide +kernel
theorem dX5_bestCastClashes_23 : decode cX5_bestCastClashes 23 = .ok (.iconst (-1), 1) := by decide +kernel
theorem dX5_bestCastClashes_24 : decode cX5_bestCastClashes 24 = .ok (.if_icmp .eq 30, 3) := by decide +kernel
theorem dX5_bestCastClashes_27 : decode cX5_bestCastClashes 27 = .ok (.aload_n 0, 1) := by decide +kernel
theorem dX5_bestCastClashes_28 : decode cX5_bestCastClashes 28 = .ok (.getfield 26, 3) := by decide +kernel
theorem dX5_bestCastClashes_31 : decode cX5_bestCastClashes 31 = .ok (.getfield 186, 3) := by decide +kernel
theorem dX5_bestCastClashes_34 : decode cX5_bestCastClashes 34 = .ok (.iload_n 2, 1) := by decide +kernel
theorem dX5_bestCastClashes_35 : decode cX5_bestCastClashes 35 = .ok (.iaload, 1) := by decide +kernel
theorem dX5_bestCastClashes_36 : decode cX5_bestCastClashes 36 = .ok (.aload_n 0, 1) := by decide +kernel
theorem dX5_bestCastClashes_37 : decode cX5_bestCastClashes 37 = .ok (.getfield 26, 3) := by decide +kernel
theorem dX5_bestCastClashes_40 : decode cX5_bestCastClashes 40 = .ok (.iload_n 1, 1) := by decide +kernel
theorem dX5_bestCastClashes_41 : decode cX5_bestCastClashes 41 = .ok (.aload_n 0, 1) := by decide +kernel
theorem dX5_bestCastClashes_42 : decode cX5_bestCastClashes 42 = .ok (.getfield 10, 3) := by decide +kernel
theorem dX5_bestCastClashes_45 : decode cX5_bestCastClashes 45 = .ok (.invokevirtual 167, 3) := by decide +kernel
theorem dX5_bestCastClashes_48 : decode cX5_bestCastClashes 48 = .ok (.iand, 1) := by decide +kernel
theorem dX5_bestCastClashes_49 : decode cX5_bestCastClashes 49 = .ok (.ifCond .eq 5, 3) := by decide +kernel
theorem dX5_bestCastClashes_52 : decode cX5_bestCastClashes 52 = .ok (.iconst 1, 1) := by decide +kernel
theorem dX5_bestCastClashes_53 : decode cX5_bestCastClashes 53 = .ok (.ireturn, 1) := by decide +kernel
theorem dX5_bestCastClashes_54 : decode cX5_bestCastClashes 54 = .ok (.iinc 1 1, 3) := by decide +kernel
theorem dX5_bestCastClashes_57 : decode cX5_bestCastClashes 57 = .ok (.goto (-55), 3) := by decide +kernel
theorem dX5_bestCastClashes_60 : decode cX5_bestCastClashes 60 = .ok (.iconst 0, 1) := by decide +kernel
theorem dX5_bestCastClashes_61 : decode cX5_bestCastClashes 61 = .ok (.ireturn, 1) := by decide +kernel
theorem dX5_filled_0 : decode cX5_filled 0 = .ok (.iconst 1, 1) := by decide +kernel
theorem dX5_filled_1 : decode cX5_filled 1 = .ok (.istore_n 2, 1) := by decide +kernel
theorem dX5_filled_2 : decode cX5_filled 2 = .ok (.iconst 0, 1) := by decide +kernel
theorem dX5_filled_3 : decode cX5_filled 3 = .ok (.istore_n 3, 1) := by decide +kernel
theorem dX5_filled_4 : decode cX5_filled 4 = .ok (.iload_n 3, 1) := by decide +kernel
theorem dX5_filled_5 : decode cX5_filled 5 = .ok (.aload_n 0, 1) := by decide +kernel
theorem dX5_filled_6 : decode cX5_filled 6 = .ok (.getfield 10, 3) := by decide +kernel
theorem dX5_filled_9 : decode cX5_filled 9 = .ok (.getfield 48, 3) := by decide +kernel
theorem dX5_filled_12 : decode cX5_filled 12 = .ok (.if_icmp .ge 40, 3) := by decide +kernel
theorem dX5_filled_15 : decode cX5_filled 15 = .ok (.iload_n 1, 1) := by decide +kernel
theorem dX5_filled_16 : decode cX5_filled 16 = .ok (.iload_n 3, 1) := by decide +kernel
theorem dX5_filled_17 : decode cX5_filled 17 = .ok (.invokestatic 102, 3) := by decide +kernel
theorem dX5_filled_20 : decode cX5_filled 20 = .ok (.ifCond .eq 26, 3) := by decide +kernel
theorem dX5_filled_23 : decode cX5_filled 23 = .ok (.iload_n 2, 1) := by decide +kernel
theorem dX5_filled_24 : decode cX5_filled 24 = .ok (.aload_n 0, 1) := by decide +kernel
theorem dX5_filled_25 : decode cX5_filled 25 = .ok (.getfield 19, 3) := by decide +kernel
theorem dX5_filled_28 : decode cX5_filled 28 = .ok (.iconst 1, 1) := by decide +kernel
theorem dX5_filled_29 : decode cX5_filled 29 = .ok (.aload_n 0, 1) := by decide +kernel
theorem dX5_filled_30 : decode cX5_filled 30 = .ok (.getfield 10, 3) := by decide +kernel
theorem dX5_filled_33 : decode cX5_filled 33 = .ok (.getfield 154, 3) := by decide +kernel
theorem dX5_filled_36 : decode cX5_filled 36 = .ok (.iload_n 3, 1) := by decide +kernel
theorem dX5_filled_37 : decode cX5_filled 37 = .ok (.iaload, 1) := by decide +kernel
theorem dX5_filled_38 : decode cX5_filled 38 = .ok (.ishl, 1) := by decide +kernel
theorem dX5_filled_39 : decode cX5_filled 39 = .ok (.invokevirtual 171, 3) := by decide +kernel
theorem dX5_filled_42 : decode cX5_filled 42 = .ok (.invokestatic 321, 3) := by decide +kernel
theorem dX5_filled_45 : decode cX5_filled 45 = .ok (.istore_n 2, 1) := by decide +kernel
theorem dX5_filled_46 : decode cX5_filled 46 = .ok (.iinc 3 1, 3) := by decide +kernel
theorem dX5_filled_49 : decode cX5_filled 49 = .ok (.goto (-45), 3) := by decide +kernel
theorem dX5_filled_52 : decode cX5_filled 52 = .ok (.iconst 0, 1) := by decide +kernel
theorem dX5_filled_53 : decode cX5_filled 53 = .ok (.istore_n 3, 1) := by decide +kernel
theorem dX5_filled_54 : decode cX5_filled 54 = .ok (.iconst 0, 1) := by decide +kernel
theorem dX5_filled_55 : decode cX5_filled 55 = .ok (.istore 4, 2) := by decide +kernel
theorem dX5_filled_57 : decode cX5_filled 57 = .ok (.iload 4, 2) := by decide +kernel
theorem dX5_filled_59 : decode cX5_filled 59 = .ok (.bipush 32, 2) := by decide +kernel
theorem dX5_filled_61 : decode cX5_filled 61 = .ok (.if_icmp .ge 28, 3) := by decide +kernel
theorem dX5_filled_64 : decode cX5_filled 64 = .ok (.iload_n 2, 1) := by decide +kernel
theorem dX5_filled_65 : decode cX5_filled 65 = .ok (.iload 4, 2) := by decide +kernel
theorem dX5_filled_67 : decode cX5_filled 67 = .ok (.invokestatic 102, 3) := by decide +kernel
theorem dX5_filled_70 : decode cX5_filled 70 = .ok (.ifCond .eq 13, 3) := by decide +kernel
theorem dX5_filled_73 : decode cX5_filled 73 = .ok (.iload_n 3, 1) := by decide +kernel
theorem dX5_filled_74 : decode cX5_filled 74 = .ok (.iload 4, 2) := by decide +kernel
theorem dX5_filled_76 : decode cX5_filled 76 = .ok (.invokestatic 215, 3) := by decide +kernel
theorem dX5_filled_79 : decode cX5_filled 79 = .ok (.invokestatic 324, 3) := by decide +kernel
theorem dX5_filled_82 : decode cX5_filled 82 = .ok (.istore_n 3, 1) := by decide +kernel
theorem dX5_filled_83 : decode cX5_filled 83 = .ok (.iinc 4 1, 3) := by decide +kernel
theorem dX5_filled_86 : decode cX5_filled 86 = .ok (.goto (-29), 3) := by decide +kernel
theorem dX5_filled_89 : decode cX5_filled 89 = .ok (.iload_n 3, 1) := by decide +kernel
theorem dX5_filled_90 : decode cX5_filled 90 = .ok (.ireturn, 1) := by decide +kernel
theorem dX5_withOneMore_0 : decode cX5_withOneMore 0 = .ok (.iload_n 0, 1) := by decide +kernel
theorem dX5_withOneMore_1 : decode cX5_withOneMore 1 = .ok (.istore_n 2, 1) := by decide +kernel
theorem dX5_withOneMore_2 : decode cX5_withOneMore 2 = .ok (.iconst 0, 1) := by decide +kernel
theorem dX5_withOneMore_3 : decode cX5_withOneMore 3 = .ok (.istore_n 3, 1) := by decide +kernel
theorem dX5_withOneMore_4 : decode cX5_withOneMore 4 = .ok (.iload_n 3, 1) := by decide +kernel
theorem dX5_withOneMore_5 : decode cX5_withOneMore 5 = .ok (.bipush 32, 2) := by decide +kernel
theorem dX5_withOneMore_7 : decode cX5_withOneMore 7 = .ok (.if_icmp .ge 59, 3) := by decide +kernel
theorem dX5_withOneMore_10 : decode cX5_withOneMore 10 = .ok (.iload_n 0, 1) := by decide +kernel
theorem dX5_withOneMore_11 : decode cX5_withOneMore 11 = .ok (.iload_n 3, 1) := by decide +kernel
theorem dX5_withOneMore_12 : decode cX5_withOneMore 12 = .ok (.invokestatic 102, 3) := by decide +kernel
theorem dX5_withOneMore_15 : decode cX5_withOneMore 15 = .ok (.ifCond .ne 6, 3) := by decide +kernel
theorem dX5_withOneMore_18 : decode cX5_withOneMore 18 = .ok (.goto 42, 3) := by decide +kernel
theorem dX5_withOneMore_21 : decode cX5_withOneMore 21 = .ok (.iconst 0, 1) := by decide +kernel
theorem dX5_withOneMore_22 : decode cX5_withOneMore 22 = .ok (.istore 4, 2) := by decide +kernel
theorem dX5_withOneMore_24 : decode cX5_withOneMore 24 = .ok (.iload 4, 2) := by decide +kernel
theorem dX5_withOneMore_26 : decode cX5_withOneMore 26 = .ok (.iconst 5, 1) := by decide +kernel
theorem dX5_withOneMore_27 : decode cX5_withOneMore 27 = .ok (.if_icmp .ge 33, 3) := by decide +kernel
theorem dX5_withOneMore_30 : decode cX5_withOneMore 30 = .ok (.iload_n 1, 1) := by decide +kernel
theorem dX5_withOneMore_31 : decode cX5_withOneMore 31 = .ok (.iload_n 3, 1) := by decide +kernel
theorem dX5_withOneMore_32 : decode cX5_withOneMore 32 = .ok (.iconst (-1), 1) := by decide +kernel
theorem dX5_withOneMore_33 : decode cX5_withOneMore 33 = .ok (.ixor, 1) := by decide +kernel
theorem dX5_withOneMore_34 : decode cX5_withOneMore 34 = .ok (.iand, 1) := by decide +kernel
theorem dX5_withOneMore_35 : decode cX5_withOneMore 35 = .ok (.iload 4, 2) := by decide +kernel
theorem dX5_withOneMore_37 : decode cX5_withOneMore 37 = .ok (.invokestatic 102, 3) := by decide +kernel
theorem dX5_withOneMore_40 : decode cX5_withOneMore 40 = .ok (.ifCond .eq 14, 3) := by decide +kernel
theorem dX5_withOneMore_43 : decode cX5_withOneMore 43 = .ok (.iload_n 2, 1) := by decide +kernel
theorem dX5_withOneMore_44 : decode cX5_withOneMore 44 = .ok (.iconst 1, 1) := by decide +kernel
theorem dX5_withOneMore_45 : decode cX5_withOneMore 45 = .ok (.iload_n 3, 1) := by decide +kernel
theorem dX5_withOneMore_46 : decode cX5_withOneMore 46 = .ok (.iconst 1, 1) := by decide +kernel
theorem dX5_withOneMore_47 : decode cX5_withOneMore 47 = .ok (.iload 4, 2) := by decide +kernel
theorem dX5_withOneMore_49 : decode cX5_withOneMore 49 = .ok (.ishl, 1) := by decide +kernel
theorem dX5_withOneMore_50 : decode cX5_withOneMore 50 = .ok (.ior, 1) := by decide +kernel
theorem dX5_withOneMore_51 : decode cX5_withOneMore 51 = .ok (.ishl, 1) := by decide +kernel
theorem dX5_withOneMore_52 : decode cX5_withOneMore 52 = .ok (.ior, 1) := by decide +kernel
theorem dX5_withOneMore_53 : decode cX5_withOneMore 53 = .ok (.istore_n 2, 1) := by decide +kernel
theorem dX5_withOneMore_54 : decode cX5_withOneMore 54 = .ok (.iinc 4 1, 3) := by decide +kernel
theorem dX5_withOneMore_57 : decode cX5_withOneMore 57 = .ok (.goto (-33), 3) := by decide +kernel
theorem dX5_withOneMore_60 : decode cX5_withOneMore 60 = .ok (.iinc 3 1, 3) := by decide +kernel
theorem dX5_withOneMore_63 : decode cX5_withOneMore 63 = .ok (.goto (-59), 3) := by decide +kernel
theorem dX5_withOneMore_66 : decode cX5_withOneMore 66 = .ok (.iload_n 2, 1) := by decide +kernel
theorem dX5_withOneMore_67 : decode cX5_withOneMore 67 = .ok (.ireturn, 1) := by decide +kernel
theorem dX5_lack_0 : decode cX5_lack 0 = .ok (.iconst 0, 1) := by decide +kernel
theorem dX5_lack_1 : decode cX5_lack 1 = .ok (.istore_n 2, 1) := by decide +kernel
theorem dX5_lack_2 : decode cX5_lack 2 = .ok (.iconst 0, 1) := by decide +kernel
theorem dX5_lack_3 : decode cX5_lack 3 = .ok (.istore_n 3, 1) := by decide +kernel
theorem dX5_lack_4 : decode cX5_lack 4 = .ok (.iconst 1, 1) := by decide +kernel
theorem dX5_lack_5 : decode cX5_lack 5 = .ok (.istore 4, 2) := by decide +kernel
theorem dX5_lack_7 : decode cX5_lack 7 = .ok (.iload 4, 2) := by decide +kernel
theorem dX5_lack_9 : decode cX5_lack 9 = .ok (.iload_n 1, 1) := by decide +kernel
theorem dX5_lack_10 : decode cX5_lack 10 = .ok (.if_icmp .gt 41, 3) := by decide +kernel
theorem dX5_lack_13 : decode cX5_lack 13 = .ok (.iload 4, 2) := by decide +kernel
theorem dX5_lack_15 : decode cX5_lack 15 = .ok (.iload_n 1, 1) := by decide +kernel
theorem dX5_lack_16 : decode cX5_lack 16 = .ok (.iconst (-1), 1) := by decide +kernel
theorem dX5_lack_17 : decode cX5_lack 17 = .ok (.ixor, 1) := by decide +kernel
theorem dX5_lack_18 : decode cX5_lack 18 = .ok (.iand, 1) := by decide +kernel
theorem dX5_lack_19 : decode cX5_lack 19 = .ok (.ifCond .eq 6, 3) := by decide +kernel
theorem dX5_lack_22 : decode cX5_lack 22 = .ok (.goto 23, 3) := by decide +kernel
theorem dX5_lack_25 : decode cX5_lack 25 = .ok (.aload_n 0, 1) := by decide +kernel
theorem dX5_lack_26 : decode cX5_lack 26 = .ok (.iload 4, 2) := by decide +kernel
theorem dX5_lack_28 : decode cX5_lack 28 = .ok (.invokevirtual 198, 3) := by decide +kernel
theorem dX5_lack_31 : decode cX5_lack 31 = .ok (.istore 5, 2) := by decide +kernel
theorem dX5_lack_33 : decode cX5_lack 33 = .ok (.iload 5, 2) := by decide +kernel
theorem dX5_lack_35 : decode cX5_lack 35 = .ok (.iload_n 3, 1) := by decide +kernel
theorem dX5_lack_36 : decode cX5_lack 36 = .ok (.if_icmp .le 9, 3) := by decide +kernel
theorem dX5_lack_39 : decode cX5_lack 39 = .ok (.iload 4, 2) := by decide +kernel
theorem dX5_lack_41 : decode cX5_lack 41 = .ok (.istore_n 2, 1) := by decide +kernel
theorem dX5_lack_42 : decode cX5_lack 42 = .ok (.iload 5, 2) := by decide +kernel
theorem dX5_lack_44 : decode cX5_lack 44 = .ok (.istore_n 3, 1) := by decide +kernel
theorem dX5_lack_45 : decode cX5_lack 45 = .ok (.iinc 4 1, 3) := by decide +kernel
theorem dX5_lack_48 : decode cX5_lack 48 = .ok (.goto (-41), 3) := by decide +kernel
theorem dX5_lack_51 : decode cX5_lack 51 = .ok (.iload_n 2, 1) := by decide +kernel
theorem dX5_lack_52 : decode cX5_lack 52 = .ok (.ireturn, 1) := by decide +kernel
theorem dX5_excess_0 : decode cX5_excess 0 = .ok (.iconst 0, 1) := by decide +kernel
theorem dX5_excess_1 : decode cX5_excess 1 = .ok (.istore_n 2, 1) := by decide +kernel
theorem dX5_excess_2 : decode cX5_excess 2 = .ok (.iconst 0, 1) := by decide +kernel
theorem dX5_excess_3 : decode cX5_excess 3 = .ok (.istore_n 3, 1) := by decide +kernel
theorem dX5_excess_4 : decode cX5_excess 4 = .ok (.iload_n 3, 1) := by decide +kernel
theorem dX5_excess_5 : decode cX5_excess 5 = .ok (.aload_n 0, 1) := by decide +kernel
theorem dX5_excess_6 : decode cX5_excess 6 = .ok (.getfield 10, 3) := by decide +kernel
theorem dX5_excess_9 : decode cX5_excess 9 = .ok (.getfield 48, 3) := by decide +kernel
theorem dX5_excess_12 : decode cX5_excess 12 = .ok (.if_icmp .ge 31, 3) := by decide +kernel
theorem dX5_excess_15 : decode cX5_excess 15 = .ok (.iload_n 1, 1) := by decide +kernel
theorem dX5_excess_16 : decode cX5_excess 16 = .ok (.iload_n 3, 1) := by decide +kernel
theorem dX5_excess_17 : decode cX5_excess 17 = .ok (.invokestatic 102, 3) := by decide +kernel
theorem dX5_excess_20 : decode cX5_excess 20 = .ok (.ifCond .eq 17, 3) := by decide +kernel
theorem dX5_excess_23 : decode cX5_excess 23 = .ok (.iload_n 2, 1) := by decide +kernel
theorem dX5_excess_24 : decode cX5_excess 24 = .ok (.iconst 1, 1) := by decide +kernel
theorem dX5_excess_25 : decode cX5_excess 25 = .ok (.aload_n 0, 1) := by decide +kernel
theorem dX5_excess_26 : decode cX5_excess 26 = .ok (.getfield 10, 3) := by decide +kernel
theorem dX5_excess_29 : decode cX5_excess 29 = .ok (.getfield 154, 3) := by decide +kernel
theorem dX5_excess_32 : decode cX5_excess 32 = .ok (.iload_n 3, 1) := by decide +kernel
theorem dX5_excess_33 : decode cX5_excess 33 = .ok (.iaload, 1) := by decide +kernel
theorem dX5_excess_34 : decode cX5_excess 34 = .ok (.ishl, 1) := by decide +kernel
theorem dX5_excess_35 : decode cX5_excess 35 = .ok (.ior, 1) := by decide +kernel
theorem dX5_excess_36 : decode cX5_excess 36 = .ok (.istore_n 2, 1) := by decide +kernel
theorem dX5_excess_37 : decode cX5_excess 37 = .ok (.iinc 3 1, 3) := by decide +kernel
theorem dX5_excess_40 : decode cX5_excess 40 = .ok (.goto (-36), 3) := by decide +kernel
theorem dX5_excess_43 : decode cX5_excess 43 = .ok (.iload_n 1, 1) := by decide +kernel
theorem dX5_excess_44 : decode cX5_excess 44 = .ok (.invokestatic 215, 3) := by decide +kernel
theorem dX5_excess_47 : decode cX5_excess 47 = .ok (.aload_n 0, 1) := by decide +kernel
theorem dX5_excess_48 : decode cX5_excess 48 = .ok (.getfield 19, 3) := by decide +kernel
theorem dX5_excess_51 : decode cX5_excess 51 = .ok (.iload_n 2, 1) := by decide +kernel
theorem dX5_excess_52 : decode cX5_excess 52 = .ok (.invokevirtual 171, 3) := by decide +kernel
theorem dX5_excess_55 : decode cX5_excess 55 = .ok (.invokestatic 215, 3) := by decide +kernel
theorem dX5_excess_58 : decode cX5_excess 58 = .ok (.isub, 1) := by decide +kernel
theorem dX5_excess_59 : decode cX5_excess 59 = .ok (.ireturn, 1) := by decide +kernel
theorem dX5_leastWaste_0 : decode cX5_leastWaste 0 = .ok (.aload_n 0, 1) := by decide +kernel
theorem dX5_leastWaste_1 : decode cX5_leastWaste 1 = .ok (.getfield 26, 3) := by decide +kernel
theorem dX5_leastWaste_4 : decode cX5_leastWaste 4 = .ok (.getfield 220, 3) := by decide +kernel
theorem dX5_leastWaste_7 : decode cX5_leastWaste 7 = .ok (.iconst (-1), 1) := by decide +kernel
theorem dX5_leastWaste_8 : decode cX5_leastWaste 8 = .ok (.if_icmp .ne 5, 3) := by decide +kernel
theorem dX5_leastWaste_11 : decode cX5_leastWaste 11 = .ok (.iconst (-1), 1) := by decide +kernel
theorem dX5_leastWaste_12 : decode cX5_leastWaste 12 = .ok (.ireturn, 1) := by decide +kernel
theorem dX5_leastWaste_13 : decode cX5_leastWaste 13 = .ok (.aload_n 0, 1) := by decide +kernel
theorem dX5_leastWaste_14 : decode cX5_leastWaste 14 = .ok (.getfield 33, 3) := by decide +kernel
theorem dX5_leastWaste_17 : decode cX5_leastWaste 17 = .ok (.invokevirtual 329, 3) := by decide +kernel
theorem dX5_leastWaste_20 : decode cX5_leastWaste 20 = .ok (.iconst 0, 1) := by decide +kernel
theorem dX5_leastWaste_21 : decode cX5_leastWaste 21 = .ok (.istore_n 2, 1) := by decide +kernel
theorem dX5_leastWaste_22 : decode cX5_leastWaste 22 = .ok (.iload_n 2, 1) := by decide +kernel
theorem dX5_leastWaste_23 : decode cX5_leastWaste 23 = .ok (.aload_n 0, 1) := by decide +kernel
theorem dX5_leastWaste_24 : decode cX5_leastWaste 24 = .ok (.getfield 10, 3) := by decide +kernel
theorem dX5_leastWaste_27 : decode cX5_leastWaste 27 = .ok (.getfield 48, 3) := by decide +kernel
theorem dX5_leastWaste_30 : decode cX5_leastWaste 30 = .ok (.if_icmp .ge 61, 3) := by decide +kernel
theorem dX5_leastWaste_33 : decode cX5_leastWaste 33 = .ok (.iload_n 1, 1) := by decide +kernel
theorem dX5_leastWaste_34 : decode cX5_leastWaste 34 = .ok (.iload_n 2, 1) := by decide +kernel
theorem dX5_leastWaste_35 : decode cX5_leastWaste 35 = .ok (.invokestatic 102, 3) := by decide +kernel
theorem dX5_leastWaste_38 : decode cX5_leastWaste 38 = .ok (.ifCond .ne 6, 3) := by decide +kernel
theorem dX5_leastWaste_41 : decode cX5_leastWaste 41 = .ok (.goto 44, 3) := by decide +kernel
theorem dX5_leastWaste_44 : decode cX5_leastWaste 44 = .ok (.aload_n 0, 1) := by decide +kernel
theorem dX5_leastWaste_45 : decode cX5_leastWaste 45 = .ok (.getfield 26, 3) := by decide +kernel
theorem dX5_leastWaste_48 : decode cX5_leastWaste 48 = .ok (.iload_n 2, 1) := by decide +kernel
theorem dX5_leastWaste_49 : decode cX5_leastWaste 49 = .ok (.invokevirtual 174, 3) := by decide +kernel
theorem dX5_leastWaste_52 : decode cX5_leastWaste 52 = .ok (.istore_n 3, 1) := by decide +kernel
theorem dX5_leastWaste_53 : decode cX5_leastWaste 53 = .ok (.iload_n 3, 1) := by decide +kernel
theorem dX5_leastWaste_54 : decode cX5_leastWaste 54 = .ok (.iconst (-1), 1) := by decide +kernel
theorem dX5_leastWaste_55 : decode cX5_leastWaste 55 = .ok (.if_icmp .ne 5, 3) := by decide +kernel
theorem dX5_leastWaste_58 : decode cX5_leastWaste 58 = .ok (.iconst (-1), 1) := by decide +kernel
theorem dX5_leastWaste_59 : decode cX5_leastWaste 59 = .ok (.ireturn, 1) := by decide +kernel
theorem dX5_leastWaste_60 : decode cX5_leastWaste 60 = .ok (.aload_n 0, 1) := by decide +kernel
theorem dX5_leastWaste_61 : decode cX5_leastWaste 61 = .ok (.getfield 33, 3) := by decide +kernel
theorem dX5_leastWaste_64 : decode cX5_leastWaste 64 = .ok (.aload_n 0, 1) := by decide +kernel
theorem dX5_leastWaste_65 : decode cX5_leastWaste 65 = .ok (.getfield 10, 3) := by decide +kernel
theorem dX5_leastWaste_68 : decode cX5_leastWaste 68 = .ok (.getfield 157, 3) := by decide +kernel
theorem dX5_leastWaste_71 : decode cX5_leastWaste 71 = .ok (.iload_n 2, 1) := by decide +kernel
theorem dX5_leastWaste_72 : decode cX5_leastWaste 72 = .ok (.iaload, 1) := by decide +kernel
theorem dX5_leastWaste_73 : decode cX5_leastWaste 73 = .ok (.aload_n 0, 1) := by decide +kernel
theorem dX5_leastWaste_74 : decode cX5_leastWaste 74 = .ok (.getfield 19, 3) := by decide +kernel
theorem dX5_leastWaste_77 : decode cX5_leastWaste 77 = .ok (.getfield 180, 3) := by decide +kernel
theorem dX5_leastWaste_80 : decode cX5_leastWaste 80 = .ok (.iload_n 3, 1) := by decide +kernel
theorem dX5_leastWaste_81 : decode cX5_leastWaste 81 = .ok (.iaload, 1) := by decide +kernel
theorem dX5_leastWaste_82 : decode cX5_leastWaste 82 = .ok (.invokevirtual 332, 3) := by decide +kernel
theorem dX5_leastWaste_85 : decode cX5_leastWaste 85 = .ok (.iinc 2 1, 3) := by decide +kernel
theorem dX5_leastWaste_88 : decode cX5_leastWaste 88 = .ok (.goto (-66), 3) := by decide +kernel
theorem dX5_leastWaste_91 : decode cX5_leastWaste 91 = .ok (.aload_n 0, 1) := by decide +kernel
theorem dX5_leastWaste_92 : decode cX5_leastWaste 92 = .ok (.getfield 33, 3) := by decide +kernel
theorem dX5_leastWaste_95 : decode cX5_leastWaste 95 = .ok (.invokevirtual 335, 3) := by decide +kernel
theorem dX5_leastWaste_98 : decode cX5_leastWaste 98 = .ok (.ireturn, 1) := by decide +kernel
theorem dX6_init_0 : decode cX6_init 0 = .ok (.aload_n 0, 1) := by decide +kernel
theorem dX6_init_1 : decode cX6_init 1 = .ok (.invokespecial 1, 3) := by decide +kernel
theorem dX6_init_4 : decode cX6_init 4 = .ok (.return_, 1) := by decide +kernel
theorem dX7_init_0 : decode cX7_init 0 = .ok (.aload_n 0, 1) := by decide +kernel
theorem dX7_init_1 : decode cX7_init 1 = .ok (.invokespecial 1, 3) := by decide +kernel
theorem dX7_init_4 : decode cX7_init 4 = .ok (.return_, 1) := by decide +kernel
theorem dX8_init_0 : decode cX8_init 0 = .ok (.aload_n 0, 1) := by decide +kernel
theorem dX8_init_1 : decode cX8_init 1 = .ok (.invokespecial 1, 3) := by decide +kernel
theorem dX8_init_4 : decode cX8_init 4 = .ok (.return_, 1) := by decide +kernel
theorem dX9_init_0 : decode cX9_init 0 = .ok (.aload_n 0, 1) := by decide +kernel
theorem dX9_init_1 : decode cX9_init 1 = .ok (.invokespecial 1, 3) := by decide +kernel
theorem dX9_init_4 : decode cX9_init 4 = .ok (.return_, 1) := by decide +kernel
theorem dX10_init_0 : decode cX10_init 0 = .ok (.aload_n 0, 1) := by decide +kernel
theorem dX10_init_1 : decode cX10_init 1 = .ok (.invokespecial 1, 3) := by decide +kernel
theorem dX10_init_4 : decode cX10_init 4 = .ok (.return_, 1) := by decide +kernel
theorem dX11_init_0 : decode cX11_init 0 = .ok (.aload_n 0, 1) := by decide +kernel
theorem dX11_init_1 : decode cX11_init 1 = .ok (.invokespecial 1, 3) := by decide +kernel
theorem dX11_init_4 : decode cX11_init 4 = .ok (.return_, 1) := by decide +kernel
