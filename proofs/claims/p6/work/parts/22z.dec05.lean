theorem dX12_fills_90 : decode cX12_fills 90 = .ok (.istore 7, 2) := by decide +kernel
theorem dX12_fills_92 : decode cX12_fills 92 = .ok (.iload 7, 2) := by decide +kernel
theorem dX12_fills_94 : decode cX12_fills 94 = .ok (.iload_n 1, 1) := by decide +kernel
theorem dX12_fills_95 : decode cX12_fills 95 = .ok (.if_icmp .ge 45, 3) := by decide +kernel
theorem dX12_fills_98 : decode cX12_fills 98 = .ok (.iload 6, 2) := by decide +kernel
theorem dX12_fills_100 : decode cX12_fills 100 = .ok (.aload_n 0, 1) := by decide +kernel
theorem dX12_fills_101 : decode cX12_fills 101 = .ok (.getfield 32, 3) := by decide +kernel
theorem dX12_fills_104 : decode cX12_fills 104 = .ok (.iload 7, 2) := by decide +kernel
theorem dX12_fills_106 : decode cX12_fills 106 = .ok (.iaload, 1) := by decide +kernel
theorem dX12_fills_107 : decode cX12_fills 107 = .ok (.iload 5, 2) := by decide +kernel
theorem dX12_fills_109 : decode cX12_fills 109 = .ok (.if_icmp .ne 17, 3) := by decide +kernel
theorem dX12_fills_112 : decode cX12_fills 112 = .ok (.aload_n 0, 1) := by decide +kernel
theorem dX12_fills_113 : decode cX12_fills 113 = .ok (.getfield 35, 3) := by decide +kernel
theorem dX12_fills_116 : decode cX12_fills 116 = .ok (.iload_n 1, 1) := by decide +kernel
theorem dX12_fills_117 : decode cX12_fills 117 = .ok (.iaload, 1) := by decide +kernel
theorem dX12_fills_118 : decode cX12_fills 118 = .ok (.iload 7, 2) := by decide +kernel
theorem dX12_fills_120 : decode cX12_fills 120 = .ok (.invokestatic 159, 3) := by decide +kernel
theorem dX12_fills_123 : decode cX12_fills 123 = .ok (.ifCond .ne 7, 3) := by decide +kernel
theorem dX12_fills_126 : decode cX12_fills 126 = .ok (.iconst 1, 1) := by decide +kernel
theorem dX12_fills_127 : decode cX12_fills 127 = .ok (.goto 4, 3) := by decide +kernel
theorem dX12_fills_130 : decode cX12_fills 130 = .ok (.iconst 0, 1) := by decide +kernel
theorem dX12_fills_131 : decode cX12_fills 131 = .ok (.iand, 1) := by decide +kernel
theorem dX12_fills_132 : decode cX12_fills 132 = .ok (.istore 6, 2) := by decide +kernel
theorem dX12_fills_134 : decode cX12_fills 134 = .ok (.iinc 7 1, 3) := by decide +kernel
theorem dX12_fills_137 : decode cX12_fills 137 = .ok (.goto (-45), 3) := by decide +kernel
theorem dX12_fills_140 : decode cX12_fills 140 = .ok (.aload_n 0, 1) := by decide +kernel
theorem dX12_fills_141 : decode cX12_fills 141 = .ok (.getfield 32, 3) := by decide +kernel
theorem dX12_fills_144 : decode cX12_fills 144 = .ok (.iload_n 1, 1) := by decide +kernel
theorem dX12_fills_145 : decode cX12_fills 145 = .ok (.iload 5, 2) := by decide +kernel
theorem dX12_fills_147 : decode cX12_fills 147 = .ok (.iastore, 1) := by decide +kernel
theorem dX12_fills_148 : decode cX12_fills 148 = .ok (.iload 6, 2) := by decide +kernel
theorem dX12_fills_150 : decode cX12_fills 150 = .ok (.ifCond .eq 24, 3) := by decide +kernel
theorem dX12_fills_153 : decode cX12_fills 153 = .ok (.aload_n 0, 1) := by decide +kernel
theorem dX12_fills_154 : decode cX12_fills 154 = .ok (.iload_n 1, 1) := by decide +kernel
theorem dX12_fills_155 : decode cX12_fills 155 = .ok (.iconst 1, 1) := by decide +kernel
theorem dX12_fills_156 : decode cX12_fills 156 = .ok (.iadd, 1) := by decide +kernel
theorem dX12_fills_157 : decode cX12_fills 157 = .ok (.iload_n 2, 1) := by decide +kernel
theorem dX12_fills_158 : decode cX12_fills 158 = .ok (.iload_n 3, 1) := by decide +kernel
theorem dX12_fills_159 : decode cX12_fills 159 = .ok (.iconst 1, 1) := by decide +kernel
theorem dX12_fills_160 : decode cX12_fills 160 = .ok (.iload 5, 2) := by decide +kernel
theorem dX12_fills_162 : decode cX12_fills 162 = .ok (.ishl, 1) := by decide +kernel
theorem dX12_fills_163 : decode cX12_fills 163 = .ok (.ior, 1) := by decide +kernel
theorem dX12_fills_164 : decode cX12_fills 164 = .ok (.iload 4, 2) := by decide +kernel
theorem dX12_fills_166 : decode cX12_fills 166 = .ok (.invokevirtual 166, 3) := by decide +kernel
theorem dX12_fills_169 : decode cX12_fills 169 = .ok (.ifCond .eq 5, 3) := by decide +kernel
theorem dX12_fills_172 : decode cX12_fills 172 = .ok (.iconst 1, 1) := by decide +kernel
theorem dX12_fills_173 : decode cX12_fills 173 = .ok (.ireturn, 1) := by decide +kernel
theorem dX12_fills_174 : decode cX12_fills 174 = .ok (.aload_n 0, 1) := by decide +kernel
theorem dX12_fills_175 : decode cX12_fills 175 = .ok (.getfield 32, 3) := by decide +kernel
theorem dX12_fills_178 : decode cX12_fills 178 = .ok (.iload_n 1, 1) := by decide +kernel
theorem dX12_fills_179 : decode cX12_fills 179 = .ok (.iconst (-1), 1) := by decide +kernel
theorem dX12_fills_180 : decode cX12_fills 180 = .ok (.iastore, 1) := by decide +kernel
theorem dX12_fills_181 : decode cX12_fills 181 = .ok (.iinc 5 1, 3) := by decide +kernel
theorem dX12_fills_184 : decode cX12_fills 184 = .ok (.goto (-141), 3) := by decide +kernel
theorem dX12_fills_187 : decode cX12_fills 187 = .ok (.iconst 0, 1) := by decide +kernel
theorem dX12_fills_188 : decode cX12_fills 188 = .ok (.ireturn, 1) := by decide +kernel
theorem dX12_needs_0 : decode cX12_needs 0 = .ok (.aload_n 0, 1) := by decide +kernel
theorem dX12_needs_1 : decode cX12_needs 1 = .ok (.iload_n 1, 1) := by decide +kernel
theorem dX12_needs_2 : decode cX12_needs 2 = .ok (.invokevirtual 175, 3) := by decide +kernel
theorem dX12_needs_5 : decode cX12_needs 5 = .ok (.aload_n 0, 1) := by decide +kernel
theorem dX12_needs_6 : decode cX12_needs 6 = .ok (.iload_n 1, 1) := by decide +kernel
theorem dX12_needs_7 : decode cX12_needs 7 = .ok (.invokevirtual 179, 3) := by decide +kernel
theorem dX12_needs_10 : decode cX12_needs 10 = .ok (.istore_n 2, 1) := by decide +kernel
theorem dX12_needs_11 : decode cX12_needs 11 = .ok (.aload_n 0, 1) := by decide +kernel
theorem dX12_needs_12 : decode cX12_needs 12 = .ok (.iconst 0, 1) := by decide +kernel
theorem dX12_needs_13 : decode cX12_needs 13 = .ok (.iload_n 2, 1) := by decide +kernel
theorem dX12_needs_14 : decode cX12_needs 14 = .ok (.iconst 0, 1) := by decide +kernel
theorem dX12_needs_15 : decode cX12_needs 15 = .ok (.aload_n 0, 1) := by decide +kernel
theorem dX12_needs_16 : decode cX12_needs 16 = .ok (.getfield 16, 3) := by decide +kernel
theorem dX12_needs_19 : decode cX12_needs 19 = .ok (.invokevirtual 42, 3) := by decide +kernel
theorem dX12_needs_22 : decode cX12_needs 22 = .ok (.invokevirtual 166, 3) := by decide +kernel
theorem dX12_needs_25 : decode cX12_needs 25 = .ok (.ifCond .ne 5, 3) := by decide +kernel
theorem dX12_needs_28 : decode cX12_needs 28 = .ok (.iconst (-1), 1) := by decide +kernel
theorem dX12_needs_29 : decode cX12_needs 29 = .ok (.ireturn, 1) := by decide +kernel
theorem dX12_needs_30 : decode cX12_needs 30 = .ok (.iconst 0, 1) := by decide +kernel
theorem dX12_needs_31 : decode cX12_needs 31 = .ok (.istore_n 3, 1) := by decide +kernel
theorem dX12_needs_32 : decode cX12_needs 32 = .ok (.iload_n 3, 1) := by decide +kernel
theorem dX12_needs_33 : decode cX12_needs 33 = .ok (.aload_n 0, 1) := by decide +kernel
theorem dX12_needs_34 : decode cX12_needs 34 = .ok (.getfield 16, 3) := by decide +kernel
theorem dX12_needs_37 : decode cX12_needs 37 = .ok (.invokevirtual 42, 3) := by decide +kernel
theorem dX12_needs_40 : decode cX12_needs 40 = .ok (.if_icmp .ge 22, 3) := by decide +kernel
theorem dX12_needs_43 : decode cX12_needs 43 = .ok (.aload_n 0, 1) := by decide +kernel
theorem dX12_needs_44 : decode cX12_needs 44 = .ok (.iconst 0, 1) := by decide +kernel
theorem dX12_needs_45 : decode cX12_needs 45 = .ok (.iload_n 2, 1) := by decide +kernel
theorem dX12_needs_46 : decode cX12_needs 46 = .ok (.iconst 0, 1) := by decide +kernel
theorem dX12_needs_47 : decode cX12_needs 47 = .ok (.iload_n 3, 1) := by decide +kernel
theorem dX12_needs_48 : decode cX12_needs 48 = .ok (.invokevirtual 166, 3) := by decide +kernel
theorem dX12_needs_51 : decode cX12_needs 51 = .ok (.ifCond .eq 5, 3) := by decide +kernel
theorem dX12_needs_54 : decode cX12_needs 54 = .ok (.iload_n 3, 1) := by decide +kernel
theorem dX12_needs_55 : decode cX12_needs 55 = .ok (.ireturn, 1) := by decide +kernel
theorem dX12_needs_56 : decode cX12_needs 56 = .ok (.iinc 3 1, 3) := by decide +kernel
theorem dX12_needs_59 : decode cX12_needs 59 = .ok (.goto (-27), 3) := by decide +kernel
theorem dX12_needs_62 : decode cX12_needs 62 = .ok (.aload_n 0, 1) := by decide +kernel
theorem dX12_needs_63 : decode cX12_needs 63 = .ok (.iconst 0, 1) := by decide +kernel
theorem dX12_needs_64 : decode cX12_needs 64 = .ok (.iload_n 2, 1) := by decide +kernel
theorem dX12_needs_65 : decode cX12_needs 65 = .ok (.iconst 0, 1) := by decide +kernel
theorem dX12_needs_66 : decode cX12_needs 66 = .ok (.aload_n 0, 1) := by decide +kernel
theorem dX12_needs_67 : decode cX12_needs 67 = .ok (.getfield 16, 3) := by decide +kernel
theorem dX12_needs_70 : decode cX12_needs 70 = .ok (.invokevirtual 42, 3) := by decide +kernel
theorem dX12_needs_73 : decode cX12_needs 73 = .ok (.invokevirtual 166, 3) := by decide +kernel
theorem dX12_needs_76 : decode cX12_needs 76 = .ok (.pop, 1) := by decide +kernel
theorem dX12_needs_77 : decode cX12_needs 77 = .ok (.aload_n 0, 1) := by decide +kernel
theorem dX12_needs_78 : decode cX12_needs 78 = .ok (.getfield 16, 3) := by decide +kernel
theorem dX12_needs_81 : decode cX12_needs 81 = .ok (.invokevirtual 42, 3) := by decide +kernel
theorem dX12_needs_84 : decode cX12_needs 84 = .ok (.ireturn, 1) := by decide +kernel
theorem dX12_isCast_0 : decode cX12_isCast 0 = .ok (.aload_n 0, 1) := by decide +kernel
theorem dX12_isCast_1 : decode cX12_isCast 1 = .ok (.getfield 70, 3) := by decide +kernel
theorem dX12_isCast_4 : decode cX12_isCast 4 = .ok (.ifCond .ne 51, 3) := by decide +kernel
theorem dX12_isCast_7 : decode cX12_isCast 7 = .ok (.aload_n 0, 1) := by decide +kernel
theorem dX12_isCast_8 : decode cX12_isCast 8 = .ok (.aload_n 0, 1) := by decide +kernel
theorem dX12_isCast_9 : decode cX12_isCast 9 = .ok (.aload_n 0, 1) := by decide +kernel
theorem dX12_isCast_10 : decode cX12_isCast 10 = .ok (.invokevirtual 182, 3) := by decide +kernel
theorem dX12_isCast_13 : decode cX12_isCast 13 = .ok (.invokevirtual 185, 3) := by decide +kernel
theorem dX12_isCast_16 : decode cX12_isCast 16 = .ok (.putfield 188, 3) := by decide +kernel
theorem dX12_isCast_19 : decode cX12_isCast 19 = .ok (.iconst 0, 1) := by decide +kernel
theorem dX12_isCast_20 : decode cX12_isCast 20 = .ok (.istore_n 1, 1) := by decide +kernel
theorem dX12_isCast_21 : decode cX12_isCast 21 = .ok (.iload_n 1, 1) := by decide +kernel
theorem dX12_isCast_22 : decode cX12_isCast 22 = .ok (.aload_n 0, 1) := by decide +kernel
theorem dX12_isCast_23 : decode cX12_isCast 23 = .ok (.getfield 10, 3) := by decide +kernel
theorem dX12_isCast_26 : decode cX12_isCast 26 = .ok (.invokevirtual 42, 3) := by decide +kernel
theorem dX12_isCast_29 : decode cX12_isCast 29 = .ok (.if_icmp .ge 21, 3) := by decide +kernel
theorem dX12_isCast_32 : decode cX12_isCast 32 = .ok (.aload_n 0, 1) := by decide +kernel
theorem dX12_isCast_33 : decode cX12_isCast 33 = .ok (.getfield 28, 3) := by decide +kernel
theorem dX12_isCast_36 : decode cX12_isCast 36 = .ok (.iload_n 1, 1) := by decide +kernel
theorem dX12_isCast_37 : decode cX12_isCast 37 = .ok (.aload_n 0, 1) := by decide +kernel
theorem dX12_isCast_38 : decode cX12_isCast 38 = .ok (.getfield 32, 3) := by decide +kernel
theorem dX12_isCast_41 : decode cX12_isCast 41 = .ok (.iload_n 1, 1) := by decide +kernel
theorem dX12_isCast_42 : decode cX12_isCast 42 = .ok (.iaload, 1) := by decide +kernel
theorem dX12_isCast_43 : decode cX12_isCast 43 = .ok (.iastore, 1) := by decide +kernel
theorem dX12_isCast_44 : decode cX12_isCast 44 = .ok (.iinc 1 1, 3) := by decide +kernel
theorem dX12_isCast_47 : decode cX12_isCast 47 = .ok (.goto (-26), 3) := by decide +kernel
theorem dX12_isCast_50 : decode cX12_isCast 50 = .ok (.aload_n 0, 1) := by decide +kernel
theorem dX12_isCast_51 : decode cX12_isCast 51 = .ok (.iconst 1, 1) := by decide +kernel
theorem dX12_isCast_52 : decode cX12_isCast 52 = .ok (.putfield 70, 3) := by decide +kernel
theorem dX12_isCast_55 : decode cX12_isCast 55 = .ok (.aload_n 0, 1) := by decide +kernel
theorem dX12_isCast_56 : decode cX12_isCast 56 = .ok (.getfield 188, 3) := by decide +kernel
theorem dX12_isCast_59 : decode cX12_isCast 59 = .ok (.iconst (-1), 1) := by decide +kernel
theorem dX12_isCast_60 : decode cX12_isCast 60 = .ok (.if_icmp .eq 7, 3) := by decide +kernel
theorem dX12_isCast_63 : decode cX12_isCast 63 = .ok (.iconst 1, 1) := by decide +kernel
theorem dX12_isCast_64 : decode cX12_isCast 64 = .ok (.goto 4, 3) := by decide +kernel
theorem dX12_isCast_67 : decode cX12_isCast 67 = .ok (.iconst 0, 1) := by decide +kernel
theorem dX12_isCast_68 : decode cX12_isCast 68 = .ok (.ireturn, 1) := by decide +kernel
theorem dX12_cutScenes_0 : decode cX12_cutScenes 0 = .ok (.aload_n 0, 1) := by decide +kernel
theorem dX12_cutScenes_1 : decode cX12_cutScenes 1 = .ok (.invokevirtual 182, 3) := by decide +kernel
theorem dX12_cutScenes_4 : decode cX12_cutScenes 4 = .ok (.istore_n 1, 1) := by decide +kernel
theorem dX12_cutScenes_5 : decode cX12_cutScenes 5 = .ok (.iconst 0, 1) := by decide +kernel
theorem dX12_cutScenes_6 : decode cX12_cutScenes 6 = .ok (.istore_n 2, 1) := by decide +kernel
theorem dX12_cutScenes_7 : decode cX12_cutScenes 7 = .ok (.iload_n 2, 1) := by decide +kernel
theorem dX12_cutScenes_8 : decode cX12_cutScenes 8 = .ok (.aload_n 0, 1) := by decide +kernel
theorem dX12_cutScenes_9 : decode cX12_cutScenes 9 = .ok (.invokevirtual 182, 3) := by decide +kernel
theorem dX12_cutScenes_12 : decode cX12_cutScenes 12 = .ok (.if_icmp .gt 65, 3) := by decide +kernel
theorem dX12_cutScenes_15 : decode cX12_cutScenes 15 = .ok (.iload_n 2, 1) := by decide +kernel
theorem dX12_cutScenes_16 : decode cX12_cutScenes 16 = .ok (.invokestatic 170, 3) := by decide +kernel
theorem dX12_cutScenes_19 : decode cX12_cutScenes 19 = .ok (.iload_n 1, 1) := by decide +kernel
theorem dX12_cutScenes_20 : decode cX12_cutScenes 20 = .ok (.invokestatic 170, 3) := by decide +kernel
theorem dX12_cutScenes_23 : decode cX12_cutScenes 23 = .ok (.if_icmp .lt 6, 3) := by decide +kernel
theorem dX12_cutScenes_26 : decode cX12_cutScenes 26 = .ok (.goto 45, 3) := by decide +kernel
theorem dX12_cutScenes_29 : decode cX12_cutScenes 29 = .ok (.aload_n 0, 1) := by decide +kernel
theorem dX12_cutScenes_30 : decode cX12_cutScenes 30 = .ok (.aload_n 0, 1) := by decide +kernel
theorem dX12_cutScenes_31 : decode cX12_cutScenes 31 = .ok (.invokevirtual 182, 3) := by decide +kernel
theorem dX12_cutScenes_34 : decode cX12_cutScenes 34 = .ok (.iload_n 2, 1) := by decide +kernel
theorem dX12_cutScenes_35 : decode cX12_cutScenes 35 = .ok (.iconst (-1), 1) := by decide +kernel
theorem dX12_cutScenes_36 : decode cX12_cutScenes 36 = .ok (.ixor, 1) := by decide +kernel
theorem dX12_cutScenes_37 : decode cX12_cutScenes 37 = .ok (.iand, 1) := by decide +kernel
theorem dX12_cutScenes_38 : decode cX12_cutScenes 38 = .ok (.invokevirtual 175, 3) := by decide +kernel
theorem dX12_cutScenes_41 : decode cX12_cutScenes 41 = .ok (.aload_n 0, 1) := by decide +kernel
theorem dX12_cutScenes_42 : decode cX12_cutScenes 42 = .ok (.iconst 0, 1) := by decide +kernel
theorem dX12_cutScenes_43 : decode cX12_cutScenes 43 = .ok (.aload_n 0, 1) := by decide +kernel
theorem dX12_cutScenes_44 : decode cX12_cutScenes 44 = .ok (.aload_n 0, 1) := by decide +kernel
theorem dX12_cutScenes_45 : decode cX12_cutScenes 45 = .ok (.invokevirtual 182, 3) := by decide +kernel
theorem dX12_cutScenes_48 : decode cX12_cutScenes 48 = .ok (.iload_n 2, 1) := by decide +kernel
theorem dX12_cutScenes_49 : decode cX12_cutScenes 49 = .ok (.iconst (-1), 1) := by decide +kernel
theorem dX12_cutScenes_50 : decode cX12_cutScenes 50 = .ok (.ixor, 1) := by decide +kernel
theorem dX12_cutScenes_51 : decode cX12_cutScenes 51 = .ok (.iand, 1) := by decide +kernel
theorem dX12_cutScenes_52 : decode cX12_cutScenes 52 = .ok (.invokevirtual 179, 3) := by decide +kernel
theorem dX12_cutScenes_55 : decode cX12_cutScenes 55 = .ok (.iconst 0, 1) := by decide +kernel
theorem dX12_cutScenes_56 : decode cX12_cutScenes 56 = .ok (.aload_n 0, 1) := by decide +kernel
theorem dX12_cutScenes_57 : decode cX12_cutScenes 57 = .ok (.getfield 16, 3) := by decide +kernel
theorem dX12_cutScenes_60 : decode cX12_cutScenes 60 = .ok (.invokevirtual 42, 3) := by decide +kernel
theorem dX12_cutScenes_63 : decode cX12_cutScenes 63 = .ok (.invokevirtual 166, 3) := by decide +kernel
theorem dX12_cutScenes_66 : decode cX12_cutScenes 66 = .ok (.ifCond .eq 5, 3) := by decide +kernel
theorem dX12_cutScenes_69 : decode cX12_cutScenes 69 = .ok (.iload_n 2, 1) := by decide +kernel
theorem dX12_cutScenes_70 : decode cX12_cutScenes 70 = .ok (.istore_n 1, 1) := by decide +kernel
theorem dX12_cutScenes_71 : decode cX12_cutScenes 71 = .ok (.iinc 2 1, 3) := by decide +kernel
theorem dX12_cutScenes_74 : decode cX12_cutScenes 74 = .ok (.goto (-67), 3) := by decide +kernel
theorem dX12_cutScenes_77 : decode cX12_cutScenes 77 = .ok (.iload_n 1, 1) := by decide +kernel
theorem dX12_cutScenes_78 : decode cX12_cutScenes 78 = .ok (.ireturn, 1) := by decide +kernel
theorem dX12_finds_0 : decode cX12_finds 0 = .ok (.iconst 0, 1) := by decide +kernel
theorem dX12_finds_1 : decode cX12_finds 1 = .ok (.istore 5, 2) := by decide +kernel
theorem dX12_finds_3 : decode cX12_finds 3 = .ok (.iload 5, 2) := by decide +kernel
theorem dX12_finds_5 : decode cX12_finds 5 = .ok (.aload_n 0, 1) := by decide +kernel
theorem dX12_finds_6 : decode cX12_finds 6 = .ok (.getfield 16, 3) := by decide +kernel
theorem dX12_finds_9 : decode cX12_finds 9 = .ok (.invokevirtual 42, 3) := by decide +kernel
theorem dX12_finds_12 : decode cX12_finds 12 = .ok (.if_icmp .ge 69, 3) := by decide +kernel
theorem dX12_finds_15 : decode cX12_finds 15 = .ok (.aload_n 0, 1) := by decide +kernel
theorem dX12_finds_16 : decode cX12_finds 16 = .ok (.iload 5, 2) := by decide +kernel
theorem dX12_finds_18 : decode cX12_finds 18 = .ok (.iload_n 1, 1) := by decide +kernel
theorem dX12_finds_19 : decode cX12_finds 19 = .ok (.invokevirtual 163, 3) := by decide +kernel
theorem dX12_finds_22 : decode cX12_finds 22 = .ok (.ifCond .eq 53, 3) := by decide +kernel
theorem dX12_finds_25 : decode cX12_finds 25 = .ok (.aload 4, 2) := by decide +kernel
theorem dX12_finds_27 : decode cX12_finds 27 = .ok (.iload 5, 2) := by decide +kernel
theorem dX12_finds_29 : decode cX12_finds 29 = .ok (.baload, 1) := by decide +kernel
theorem dX12_finds_30 : decode cX12_finds 30 = .ok (.ifCond .eq 6, 3) := by decide +kernel
theorem dX12_finds_33 : decode cX12_finds 33 = .ok (.goto 42, 3) := by decide +kernel
theorem dX12_finds_36 : decode cX12_finds 36 = .ok (.aload 4, 2) := by decide +kernel
theorem dX12_finds_38 : decode cX12_finds 38 = .ok (.iload 5, 2) := by decide +kernel
theorem dX12_finds_40 : decode cX12_finds 40 = .ok (.iconst 1, 1) := by decide +kernel
theorem dX12_finds_41 : decode cX12_finds 41 = .ok (.bastore, 1) := by decide +kernel
theorem dX12_finds_42 : decode cX12_finds 42 = .ok (.aload_n 3, 1) := by decide +kernel
theorem dX12_finds_43 : decode cX12_finds 43 = .ok (.iload 5, 2) := by decide +kernel
theorem dX12_finds_45 : decode cX12_finds 45 = .ok (.iaload, 1) := by decide +kernel
theorem dX12_finds_46 : decode cX12_finds 46 = .ok (.iconst (-1), 1) := by decide +kernel
theorem dX12_finds_47 : decode cX12_finds 47 = .ok (.if_icmp .eq 21, 3) := by decide +kernel
theorem dX12_finds_50 : decode cX12_finds 50 = .ok (.aload_n 0, 1) := by decide +kernel
theorem dX12_finds_51 : decode cX12_finds 51 = .ok (.aload_n 3, 1) := by decide +kernel
theorem dX12_finds_52 : decode cX12_finds 52 = .ok (.iload 5, 2) := by decide +kernel
theorem dX12_finds_54 : decode cX12_finds 54 = .ok (.iaload, 1) := by decide +kernel
theorem dX12_finds_55 : decode cX12_finds 55 = .ok (.iload_n 2, 1) := by decide +kernel
theorem dX12_finds_56 : decode cX12_finds 56 = .ok (.aload_n 3, 1) := by decide +kernel
theorem dX12_finds_57 : decode cX12_finds 57 = .ok (.aload 4, 2) := by decide +kernel
theorem dX12_finds_59 : decode cX12_finds 59 = .ok (.invokevirtual 191, 3) := by decide +kernel
theorem dX12_finds_62 : decode cX12_finds 62 = .ok (.ifCond .ne 6, 3) := by decide +kernel
theorem dX12_finds_65 : decode cX12_finds 65 = .ok (.goto 10, 3) := by decide +kernel
theorem dX12_finds_68 : decode cX12_finds 68 = .ok (.aload_n 3, 1) := by decide +kernel
theorem dX12_finds_69 : decode cX12_finds 69 = .ok (.iload 5, 2) := by decide +kernel
theorem dX12_finds_71 : decode cX12_finds 71 = .ok (.iload_n 1, 1) := by decide +kernel
theorem dX12_finds_72 : decode cX12_finds 72 = .ok (.iastore, 1) := by decide +kernel
theorem dX12_finds_73 : decode cX12_finds 73 = .ok (.iconst 1, 1) := by decide +kernel
theorem dX12_finds_74 : decode cX12_finds 74 = .ok (.ireturn, 1) := by decide +kernel
theorem dX12_finds_75 : decode cX12_finds 75 = .ok (.iinc 5 1, 3) := by decide +kernel
theorem dX12_finds_78 : decode cX12_finds 78 = .ok (.goto (-75), 3) := by decide +kernel
theorem dX12_finds_81 : decode cX12_finds 81 = .ok (.iconst 0, 1) := by decide +kernel
theorem dX12_finds_82 : decode cX12_finds 82 = .ok (.ireturn, 1) := by decide +kernel
theorem dX12_filled_0 : decode cX12_filled 0 = .ok (.iconst 5, 1) := by decide +kernel
theorem dX12_filled_1 : decode cX12_filled 1 = .ok (.newarray .int, 2) := by decide +kernel
theorem dX12_filled_3 : decode cX12_filled 3 = .ok (.dup, 1) := by decide +kernel
theorem dX12_filled_4 : decode cX12_filled 4 = .ok (.iconst 0, 1) := by decide +kernel
theorem dX12_filled_5 : decode cX12_filled 5 = .ok (.iconst (-1), 1) := by decide +kernel
theorem dX12_filled_6 : decode cX12_filled 6 = .ok (.iastore, 1) := by decide +kernel
theorem dX12_filled_7 : decode cX12_filled 7 = .ok (.dup, 1) := by decide +kernel
theorem dX12_filled_8 : decode cX12_filled 8 = .ok (.iconst 1, 1) := by decide +kernel
theorem dX12_filled_9 : decode cX12_filled 9 = .ok (.iconst (-1), 1) := by decide +kernel
theorem dX12_filled_10 : decode cX12_filled 10 = .ok (.iastore, 1) := by decide +kernel
theorem dX12_filled_11 : decode cX12_filled 11 = .ok (.dup, 1) := by decide +kernel
theorem dX12_filled_12 : decode cX12_filled 12 = .ok (.iconst 2, 1) := by decide +kernel
theorem dX12_filled_13 : decode cX12_filled 13 = .ok (.iconst (-1), 1) := by decide +kernel
theorem dX12_filled_14 : decode cX12_filled 14 = .ok (.iastore, 1) := by decide +kernel
theorem dX12_filled_15 : decode cX12_filled 15 = .ok (.dup, 1) := by decide +kernel
theorem dX12_filled_16 : decode cX12_filled 16 = .ok (.iconst 3, 1) := by decide +kernel
theorem dX12_filled_17 : decode cX12_filled 17 = .ok (.iconst (-1), 1) := by decide +kernel
theorem dX12_filled_18 : decode cX12_filled 18 = .ok (.iastore, 1) := by decide +kernel
theorem dX12_filled_19 : decode cX12_filled 19 = .ok (.dup, 1) := by decide +kernel
theorem dX12_filled_20 : decode cX12_filled 20 = .ok (.iconst 4, 1) := by decide +kernel
theorem dX12_filled_21 : decode cX12_filled 21 = .ok (.iconst (-1), 1) := by decide +kernel
theorem dX12_filled_22 : decode cX12_filled 22 = .ok (.iastore, 1) := by decide +kernel
theorem dX12_filled_23 : decode cX12_filled 23 = .ok (.astore_n 2, 1) := by decide +kernel
theorem dX12_filled_24 : decode cX12_filled 24 = .ok (.iconst 0, 1) := by decide +kernel
theorem dX12_filled_25 : decode cX12_filled 25 = .ok (.istore_n 3, 1) := by decide +kernel
theorem dX12_filled_26 : decode cX12_filled 26 = .ok (.iconst 0, 1) := by decide +kernel
theorem dX12_filled_27 : decode cX12_filled 27 = .ok (.istore 4, 2) := by decide +kernel
theorem dX12_filled_29 : decode cX12_filled 29 = .ok (.iload 4, 2) := by decide +kernel
theorem dX12_filled_31 : decode cX12_filled 31 = .ok (.aload_n 0, 1) := by decide +kernel
theorem dX12_filled_32 : decode cX12_filled 32 = .ok (.getfield 10, 3) := by decide +kernel
theorem dX12_filled_35 : decode cX12_filled 35 = .ok (.invokevirtual 42, 3) := by decide +kernel
theorem dX12_filled_38 : decode cX12_filled 38 = .ok (.if_icmp .ge 40, 3) := by decide +kernel
theorem dX12_filled_41 : decode cX12_filled 41 = .ok (.iload_n 1, 1) := by decide +kernel
theorem dX12_filled_42 : decode cX12_filled 42 = .ok (.iload 4, 2) := by decide +kernel
theorem dX12_filled_44 : decode cX12_filled 44 = .ok (.invokestatic 159, 3) := by decide +kernel
theorem dX12_filled_47 : decode cX12_filled 47 = .ok (.ifCond .eq 25, 3) := by decide +kernel
theorem dX12_filled_50 : decode cX12_filled 50 = .ok (.iload_n 3, 1) := by decide +kernel
theorem dX12_filled_51 : decode cX12_filled 51 = .ok (.aload_n 0, 1) := by decide +kernel
theorem dX12_filled_52 : decode cX12_filled 52 = .ok (.iload 4, 2) := by decide +kernel
theorem dX12_filled_54 : decode cX12_filled 54 = .ok (.iload_n 1, 1) := by decide +kernel
theorem dX12_filled_55 : decode cX12_filled 55 = .ok (.aload_n 2, 1) := by decide +kernel
theorem dX12_filled_56 : decode cX12_filled 56 = .ok (.iconst 5, 1) := by decide +kernel
theorem dX12_filled_57 : decode cX12_filled 57 = .ok (.newarray .boolean, 2) := by decide +kernel
theorem dX12_filled_59 : decode cX12_filled 59 = .ok (.invokevirtual 191, 3) := by decide +kernel
theorem dX12_filled_62 : decode cX12_filled 62 = .ok (.ifCond .eq 7, 3) := by decide +kernel
theorem dX12_filled_65 : decode cX12_filled 65 = .ok (.iconst 1, 1) := by decide +kernel
theorem dX12_filled_66 : decode cX12_filled 66 = .ok (.goto 4, 3) := by decide +kernel
theorem dX12_filled_69 : decode cX12_filled 69 = .ok (.iconst 0, 1) := by decide +kernel
theorem dX12_filled_70 : decode cX12_filled 70 = .ok (.iadd, 1) := by decide +kernel
theorem dX12_filled_71 : decode cX12_filled 71 = .ok (.istore_n 3, 1) := by decide +kernel
theorem dX12_filled_72 : decode cX12_filled 72 = .ok (.iinc 4 1, 3) := by decide +kernel
theorem dX12_filled_75 : decode cX12_filled 75 = .ok (.goto (-46), 3) := by decide +kernel
theorem dX12_filled_78 : decode cX12_filled 78 = .ok (.iload_n 3, 1) := by decide +kernel
theorem dX12_filled_79 : decode cX12_filled 79 = .ok (.ireturn, 1) := by decide +kernel
theorem dX12_excess_0 : decode cX12_excess 0 = .ok (.iconst 0, 1) := by decide +kernel
theorem dX12_excess_1 : decode cX12_excess 1 = .ok (.istore_n 2, 1) := by decide +kernel
theorem dX12_excess_2 : decode cX12_excess 2 = .ok (.iconst 0, 1) := by decide +kernel
theorem dX12_excess_3 : decode cX12_excess 3 = .ok (.istore_n 3, 1) := by decide +kernel
theorem dX12_excess_4 : decode cX12_excess 4 = .ok (.iload_n 3, 1) := by decide +kernel
theorem dX12_excess_5 : decode cX12_excess 5 = .ok (.aload_n 0, 1) := by decide +kernel
theorem dX12_excess_6 : decode cX12_excess 6 = .ok (.getfield 10, 3) := by decide +kernel
theorem dX12_excess_9 : decode cX12_excess 9 = .ok (.invokevirtual 42, 3) := by decide +kernel
theorem dX12_excess_12 : decode cX12_excess 12 = .ok (.if_icmp .ge 29, 3) := by decide +kernel
theorem dX12_excess_15 : decode cX12_excess 15 = .ok (.iload_n 2, 1) := by decide +kernel
theorem dX12_excess_16 : decode cX12_excess 16 = .ok (.iload_n 1, 1) := by decide +kernel
theorem dX12_excess_17 : decode cX12_excess 17 = .ok (.iload_n 3, 1) := by decide +kernel
theorem dX12_excess_18 : decode cX12_excess 18 = .ok (.invokestatic 159, 3) := by decide +kernel
theorem dX12_excess_21 : decode cX12_excess 21 = .ok (.ifCond .eq 11, 3) := by decide +kernel
theorem dX12_excess_24 : decode cX12_excess 24 = .ok (.aload_n 0, 1) := by decide +kernel
theorem dX12_excess_25 : decode cX12_excess 25 = .ok (.iload_n 3, 1) := by decide +kernel
theorem dX12_excess_26 : decode cX12_excess 26 = .ok (.invokevirtual 195, 3) := by decide +kernel
theorem dX12_excess_29 : decode cX12_excess 29 = .ok (.goto 4, 3) := by decide +kernel
theorem dX12_excess_32 : decode cX12_excess 32 = .ok (.iconst 0, 1) := by decide +kernel
theorem dX12_excess_33 : decode cX12_excess 33 = .ok (.ior, 1) := by decide +kernel
theorem dX12_excess_34 : decode cX12_excess 34 = .ok (.istore_n 2, 1) := by decide +kernel
theorem dX12_excess_35 : decode cX12_excess 35 = .ok (.iinc 3 1, 3) := by decide +kernel
theorem dX12_excess_38 : decode cX12_excess 38 = .ok (.goto (-34), 3) := by decide +kernel
theorem dX12_excess_41 : decode cX12_excess 41 = .ok (.iload_n 1, 1) := by decide +kernel
theorem dX12_excess_42 : decode cX12_excess 42 = .ok (.invokestatic 170, 3) := by decide +kernel
theorem dX12_excess_45 : decode cX12_excess 45 = .ok (.iload_n 2, 1) := by decide +kernel
theorem dX12_excess_46 : decode cX12_excess 46 = .ok (.invokestatic 170, 3) := by decide +kernel
theorem dX12_excess_49 : decode cX12_excess 49 = .ok (.isub, 1) := by decide +kernel
theorem dX12_excess_50 : decode cX12_excess 50 = .ok (.ireturn, 1) := by decide +kernel
theorem dX12_lack_0 : decode cX12_lack 0 = .ok (.iconst 0, 1) := by decide +kernel
theorem dX12_lack_1 : decode cX12_lack 1 = .ok (.istore_n 2, 1) := by decide +kernel
theorem dX12_lack_2 : decode cX12_lack 2 = .ok (.iconst 1, 1) := by decide +kernel
theorem dX12_lack_3 : decode cX12_lack 3 = .ok (.istore_n 3, 1) := by decide +kernel
theorem dX12_lack_4 : decode cX12_lack 4 = .ok (.iload_n 3, 1) := by decide +kernel
theorem dX12_lack_5 : decode cX12_lack 5 = .ok (.iload_n 1, 1) := by decide +kernel
theorem dX12_lack_6 : decode cX12_lack 6 = .ok (.if_icmp .gt 32, 3) := by decide +kernel
theorem dX12_lack_9 : decode cX12_lack 9 = .ok (.iload_n 3, 1) := by decide +kernel
theorem dX12_lack_10 : decode cX12_lack 10 = .ok (.iload_n 1, 1) := by decide +kernel
theorem dX12_lack_11 : decode cX12_lack 11 = .ok (.iconst (-1), 1) := by decide +kernel
theorem dX12_lack_12 : decode cX12_lack 12 = .ok (.ixor, 1) := by decide +kernel
theorem dX12_lack_13 : decode cX12_lack 13 = .ok (.iand, 1) := by decide +kernel
theorem dX12_lack_14 : decode cX12_lack 14 = .ok (.ifCond .ne 18, 3) := by decide +kernel
theorem dX12_lack_17 : decode cX12_lack 17 = .ok (.aload_n 0, 1) := by decide +kernel
theorem dX12_lack_18 : decode cX12_lack 18 = .ok (.iload_n 3, 1) := by decide +kernel
theorem dX12_lack_19 : decode cX12_lack 19 = .ok (.invokevirtual 197, 3) := by decide +kernel
theorem dX12_lack_22 : decode cX12_lack 22 = .ok (.aload_n 0, 1) := by decide +kernel
theorem dX12_lack_23 : decode cX12_lack 23 = .ok (.iload_n 2, 1) := by decide +kernel
theorem dX12_lack_24 : decode cX12_lack 24 = .ok (.invokevirtual 197, 3) := by decide +kernel
theorem dX12_lack_27 : decode cX12_lack 27 = .ok (.if_icmp .le 5, 3) := by decide +kernel
theorem dX12_lack_30 : decode cX12_lack 30 = .ok (.iload_n 3, 1) := by decide +kernel
theorem dX12_lack_31 : decode cX12_lack 31 = .ok (.istore_n 2, 1) := by decide +kernel
theorem dX12_lack_32 : decode cX12_lack 32 = .ok (.iinc 3 1, 3) := by decide +kernel
theorem dX12_lack_35 : decode cX12_lack 35 = .ok (.goto (-31), 3) := by decide +kernel
theorem dX12_lack_38 : decode cX12_lack 38 = .ok (.iload_n 2, 1) := by decide +kernel
theorem dX12_lack_39 : decode cX12_lack 39 = .ok (.ireturn, 1) := by decide +kernel
theorem dX12_waste_0 : decode cX12_waste 0 = .ok (.aload_n 1, 1) := by decide +kernel
theorem dX12_waste_1 : decode cX12_waste 1 = .ok (.getfield 128, 3) := by decide +kernel
theorem dX12_waste_4 : decode cX12_waste 4 = .ok (.aload_n 0, 1) := by decide +kernel
theorem dX12_waste_5 : decode cX12_waste 5 = .ok (.getfield 16, 3) := by decide +kernel
theorem dX12_waste_8 : decode cX12_waste 8 = .ok (.aload_n 0, 1) := by decide +kernel
theorem dX12_waste_9 : decode cX12_waste 9 = .ok (.getfield 28, 3) := by decide +kernel
theorem dX12_waste_12 : decode cX12_waste 12 = .ok (.iload_n 2, 1) := by decide +kernel
theorem dX12_waste_13 : decode cX12_waste 13 = .ok (.iaload, 1) := by decide +kernel
theorem dX12_waste_14 : decode cX12_waste 14 = .ok (.invokevirtual 97, 3) := by decide +kernel
theorem dX12_waste_17 : decode cX12_waste 17 = .ok (.checkcast 74, 3) := by decide +kernel
theorem dX12_waste_20 : decode cX12_waste 20 = .ok (.getfield 80, 3) := by decide +kernel
theorem dX12_waste_23 : decode cX12_waste 23 = .ok (.isub, 1) := by decide +kernel
theorem dX12_waste_24 : decode cX12_waste 24 = .ok (.invokestatic 200, 3) := by decide +kernel
theorem dX12_waste_27 : decode cX12_waste 27 = .ok (.istore_n 3, 1) := by decide +kernel
theorem dX12_waste_28 : decode cX12_waste 28 = .ok (.aload_n 1, 1) := by decide +kernel
theorem dX12_waste_29 : decode cX12_waste 29 = .ok (.getfield 127, 3) := by decide +kernel
theorem dX12_waste_32 : decode cX12_waste 32 = .ok (.aload_n 0, 1) := by decide +kernel
theorem dX12_waste_33 : decode cX12_waste 33 = .ok (.getfield 10, 3) := by decide +kernel
theorem dX12_waste_36 : decode cX12_waste 36 = .ok (.iload_n 2, 1) := by decide +kernel
theorem dX12_waste_37 : decode cX12_waste 37 = .ok (.invokevirtual 97, 3) := by decide +kernel
theorem dX12_waste_40 : decode cX12_waste 40 = .ok (.checkcast 54, 3) := by decide +kernel
theorem dX12_waste_43 : decode cX12_waste 43 = .ok (.getfield 60, 3) := by decide +kernel
theorem dX12_waste_46 : decode cX12_waste 46 = .ok (.isub, 1) := by decide +kernel
theorem dX12_waste_47 : decode cX12_waste 47 = .ok (.istore 4, 2) := by decide +kernel
theorem dX12_waste_49 : decode cX12_waste 49 = .ok (.aload_n 1, 1) := by decide +kernel
theorem dX12_waste_50 : decode cX12_waste 50 = .ok (.getfield 135, 3) := by decide +kernel
theorem dX12_waste_53 : decode cX12_waste 53 = .ok (.ifCond .ne 13, 3) := by decide +kernel
theorem dX12_waste_56 : decode cX12_waste 56 = .ok (.iload 4, 2) := by decide +kernel
theorem dX12_waste_58 : decode cX12_waste 58 = .ok (.ifCond .lt 8, 3) := by decide +kernel
theorem dX12_waste_61 : decode cX12_waste 61 = .ok (.iload_n 3, 1) := by decide +kernel
theorem dX12_waste_62 : decode cX12_waste 62 = .ok (.iconst 2, 1) := by decide +kernel
theorem dX12_waste_63 : decode cX12_waste 63 = .ok (.if_icmp .le 7, 3) := by decide +kernel
theorem dX12_waste_66 : decode cX12_waste 66 = .ok (.iconst (-1), 1) := by decide +kernel
theorem dX12_waste_67 : decode cX12_waste 67 = .ok (.goto 7, 3) := by decide +kernel
theorem dX12_waste_70 : decode cX12_waste 70 = .ok (.iload 4, 2) := by decide +kernel
theorem dX12_waste_72 : decode cX12_waste 72 = .ok (.iload_n 3, 1) := by decide +kernel
theorem dX12_waste_73 : decode cX12_waste 73 = .ok (.iadd, 1) := by decide +kernel
theorem dX12_waste_74 : decode cX12_waste 74 = .ok (.ireturn, 1) := by decide +kernel
theorem dX12_dress_0 : decode cX12_dress 0 = .ok (.aload_n 0, 1) := by decide +kernel
theorem dX12_dress_1 : decode cX12_dress 1 = .ok (.getfield 205, 3) := by decide +kernel
theorem dX12_dress_4 : decode cX12_dress 4 = .ok (.iconst (-1), 1) := by decide +kernel
theorem dX12_dress_5 : decode cX12_dress 5 = .ok (.if_icmp .eq 12, 3) := by decide +kernel
theorem dX12_dress_8 : decode cX12_dress 8 = .ok (.iload_n 3, 1) := by decide +kernel
theorem dX12_dress_9 : decode cX12_dress 9 = .ok (.aload_n 0, 1) := by decide +kernel
theorem dX12_dress_10 : decode cX12_dress 10 = .ok (.getfield 205, 3) := by decide +kernel
theorem dX12_dress_13 : decode cX12_dress 13 = .ok (.if_icmp .lt 4, 3) := by decide +kernel
theorem dX12_dress_16 : decode cX12_dress 16 = .ok (.return_, 1) := by decide +kernel
theorem dX12_dress_17 : decode cX12_dress 17 = .ok (.iload_n 1, 1) := by decide +kernel
theorem dX12_dress_18 : decode cX12_dress 18 = .ok (.ifCond .ne 9, 3) := by decide +kernel
theorem dX12_dress_21 : decode cX12_dress 21 = .ok (.aload_n 0, 1) := by decide +kernel
theorem dX12_dress_22 : decode cX12_dress 22 = .ok (.iload_n 3, 1) := by decide +kernel
theorem dX12_dress_23 : decode cX12_dress 23 = .ok (.putfield 205, 3) := by decide +kernel
theorem dX12_dress_26 : decode cX12_dress 26 = .ok (.return_, 1) := by decide +kernel
theorem dX12_dress_27 : decode cX12_dress 27 = .ok (.iload_n 1, 1) := by decide +kernel
theorem dX12_dress_28 : decode cX12_dress 28 = .ok (.invokestatic 208, 3) := by decide +kernel
theorem dX12_dress_31 : decode cX12_dress 31 = .ok (.istore 4, 2) := by decide +kernel
theorem dX12_dress_33 : decode cX12_dress 33 = .ok (.iconst 0, 1) := by decide +kernel
theorem dX12_dress_34 : decode cX12_dress 34 = .ok (.istore 5, 2) := by decide +kernel
theorem dX12_dress_36 : decode cX12_dress 36 = .ok (.iload 5, 2) := by decide +kernel
theorem dX12_dress_38 : decode cX12_dress 38 = .ok (.aload_n 0, 1) := by decide +kernel
theorem dX12_dress_39 : decode cX12_dress 39 = .ok (.getfield 22, 3) := by decide +kernel
theorem dX12_dress_42 : decode cX12_dress 42 = .ok (.invokevirtual 42, 3) := by decide +kernel
theorem dX12_dress_45 : decode cX12_dress 45 = .ok (.if_icmp .ge 67, 3) := by decide +kernel
theorem dX12_dress_48 : decode cX12_dress 48 = .ok (.iload_n 2, 1) := by decide +kernel
theorem dX12_dress_49 : decode cX12_dress 49 = .ok (.iload 5, 2) := by decide +kernel
theorem dX12_dress_51 : decode cX12_dress 51 = .ok (.invokestatic 159, 3) := by decide +kernel
theorem dX12_dress_54 : decode cX12_dress 54 = .ok (.ifCond .eq 7, 3) := by decide +kernel
theorem dX12_dress_57 : decode cX12_dress 57 = .ok (.iconst (-1), 1) := by decide +kernel
theorem dX12_dress_58 : decode cX12_dress 58 = .ok (.goto 21, 3) := by decide +kernel
theorem dX12_dress_61 : decode cX12_dress 61 = .ok (.aload_n 0, 1) := by decide +kernel
theorem dX12_dress_62 : decode cX12_dress 62 = .ok (.aload_n 0, 1) := by decide +kernel
theorem dX12_dress_63 : decode cX12_dress 63 = .ok (.getfield 22, 3) := by decide +kernel
theorem dX12_dress_66 : decode cX12_dress 66 = .ok (.iload 5, 2) := by decide +kernel
theorem dX12_dress_68 : decode cX12_dress 68 = .ok (.invokevirtual 97, 3) := by decide +kernel
theorem dX12_dress_71 : decode cX12_dress 71 = .ok (.checkcast 124, 3) := by decide +kernel
theorem dX12_dress_74 : decode cX12_dress 74 = .ok (.iload 4, 2) := by decide +kernel
theorem dX12_dress_76 : decode cX12_dress 76 = .ok (.invokevirtual 211, 3) := by decide +kernel
theorem dX12_dress_79 : decode cX12_dress 79 = .ok (.istore 6, 2) := by decide +kernel
theorem dX12_dress_81 : decode cX12_dress 81 = .ok (.iload 6, 2) := by decide +kernel
theorem dX12_dress_83 : decode cX12_dress 83 = .ok (.iconst (-1), 1) := by decide +kernel
theorem dX12_dress_84 : decode cX12_dress 84 = .ok (.if_icmp .eq 22, 3) := by decide +kernel
theorem dX12_dress_87 : decode cX12_dress 87 = .ok (.aload_n 0, 1) := by decide +kernel
theorem dX12_dress_88 : decode cX12_dress 88 = .ok (.iload_n 1, 1) := by decide +kernel
theorem dX12_dress_89 : decode cX12_dress 89 = .ok (.iload_n 1, 1) := by decide +kernel
theorem dX12_dress_90 : decode cX12_dress 90 = .ok (.iconst 1, 1) := by decide +kernel
theorem dX12_dress_91 : decode cX12_dress 91 = .ok (.isub, 1) := by decide +kernel
theorem dX12_dress_92 : decode cX12_dress 92 = .ok (.iand, 1) := by decide +kernel
theorem dX12_dress_93 : decode cX12_dress 93 = .ok (.iload_n 2, 1) := by decide +kernel
theorem dX12_dress_94 : decode cX12_dress 94 = .ok (.iconst 1, 1) := by decide +kernel
theorem dX12_dress_95 : decode cX12_dress 95 = .ok (.iload 5, 2) := by decide +kernel
theorem dX12_dress_97 : decode cX12_dress 97 = .ok (.ishl, 1) := by decide +kernel
theorem dX12_dress_98 : decode cX12_dress 98 = .ok (.ior, 1) := by decide +kernel
theorem dX12_dress_99 : decode cX12_dress 99 = .ok (.iload_n 3, 1) := by decide +kernel
theorem dX12_dress_100 : decode cX12_dress 100 = .ok (.iload 6, 2) := by decide +kernel
theorem dX12_dress_102 : decode cX12_dress 102 = .ok (.iadd, 1) := by decide +kernel
theorem dX12_dress_103 : decode cX12_dress 103 = .ok (.invokevirtual 215, 3) := by decide +kernel
theorem dX12_dress_106 : decode cX12_dress 106 = .ok (.iinc 5 1, 3) := by decide +kernel
theorem dX12_dress_109 : decode cX12_dress 109 = .ok (.goto (-73), 3) := by decide +kernel
theorem dX12_dress_112 : decode cX12_dress 112 = .ok (.return_, 1) := by decide +kernel
theorem dX12_dressed_0 : decode cX12_dressed 0 = .ok (.aload_n 0, 1) := by decide +kernel
theorem dX12_dressed_1 : decode cX12_dressed 1 = .ok (.iconst (-1), 1) := by decide +kernel
theorem dX12_dressed_2 : decode cX12_dressed 2 = .ok (.putfield 205, 3) := by decide +kernel
theorem dX12_dressed_5 : decode cX12_dressed 5 = .ok (.aload_n 0, 1) := by decide +kernel
theorem dX12_dressed_6 : decode cX12_dressed 6 = .ok (.invokevirtual 219, 3) := by decide +kernel
theorem dX12_dressed_9 : decode cX12_dressed 9 = .ok (.ifCond .eq 10, 3) := by decide +kernel
theorem dX12_dressed_12 : decode cX12_dressed 12 = .ok (.aload_n 0, 1) := by decide +kernel
theorem dX12_dressed_13 : decode cX12_dressed 13 = .ok (.iload_n 1, 1) := by decide +kernel
theorem dX12_dressed_14 : decode cX12_dressed 14 = .ok (.iconst 0, 1) := by decide +kernel
theorem dX12_dressed_15 : decode cX12_dressed 15 = .ok (.iconst 0, 1) := by decide +kernel
theorem dX12_dressed_16 : decode cX12_dressed 16 = .ok (.invokevirtual 215, 3) := by decide +kernel
theorem dX12_dressed_19 : decode cX12_dressed 19 = .ok (.aload_n 0, 1) := by decide +kernel
theorem dX12_dressed_20 : decode cX12_dressed 20 = .ok (.getfield 205, 3) := by decide +kernel
theorem dX12_dressed_23 : decode cX12_dressed 23 = .ok (.ireturn, 1) := by decide +kernel
theorem dX12_partsWith_0 : decode cX12_partsWith 0 = .ok (.iconst 0, 1) := by decide +kernel
theorem dX12_partsWith_1 : decode cX12_partsWith 1 = .ok (.istore_n 2, 1) := by decide +kernel
theorem dX12_partsWith_2 : decode cX12_partsWith 2 = .ok (.iconst 0, 1) := by decide +kernel
theorem dX12_partsWith_3 : decode cX12_partsWith 3 = .ok (.istore_n 3, 1) := by decide +kernel
theorem dX12_partsWith_4 : decode cX12_partsWith 4 = .ok (.iload_n 3, 1) := by decide +kernel
theorem dX12_partsWith_5 : decode cX12_partsWith 5 = .ok (.aload_n 0, 1) := by decide +kernel
theorem dX12_partsWith_6 : decode cX12_partsWith 6 = .ok (.getfield 10, 3) := by decide +kernel
theorem dX12_partsWith_9 : decode cX12_partsWith 9 = .ok (.invokevirtual 42, 3) := by decide +kernel
theorem dX12_partsWith_12 : decode cX12_partsWith 12 = .ok (.if_icmp .ge 36, 3) := by decide +kernel
theorem dX12_partsWith_15 : decode cX12_partsWith 15 = .ok (.aload_n 0, 1) := by decide +kernel
theorem dX12_partsWith_16 : decode cX12_partsWith 16 = .ok (.invokevirtual 219, 3) := by decide +kernel
theorem dX12_partsWith_19 : decode cX12_partsWith 19 = .ok (.ifCond .eq 29, 3) := by decide +kernel
theorem dX12_partsWith_22 : decode cX12_partsWith 22 = .ok (.iload_n 2, 1) := by decide +kernel
theorem dX12_partsWith_23 : decode cX12_partsWith 23 = .ok (.aload_n 0, 1) := by decide +kernel
theorem dX12_partsWith_24 : decode cX12_partsWith 24 = .ok (.getfield 28, 3) := by decide +kernel
theorem dX12_partsWith_27 : decode cX12_partsWith 27 = .ok (.iload_n 3, 1) := by decide +kernel
theorem dX12_partsWith_28 : decode cX12_partsWith 28 = .ok (.iaload, 1) := by decide +kernel
theorem dX12_partsWith_29 : decode cX12_partsWith 29 = .ok (.iload_n 1, 1) := by decide +kernel
theorem dX12_partsWith_30 : decode cX12_partsWith 30 = .ok (.if_icmp .ne 9, 3) := by decide +kernel
theorem dX12_partsWith_33 : decode cX12_partsWith 33 = .ok (.iconst 1, 1) := by decide +kernel
theorem dX12_partsWith_34 : decode cX12_partsWith 34 = .ok (.iload_n 3, 1) := by decide +kernel
theorem dX12_partsWith_35 : decode cX12_partsWith 35 = .ok (.ishl, 1) := by decide +kernel
theorem dX12_partsWith_36 : decode cX12_partsWith 36 = .ok (.goto 4, 3) := by decide +kernel
theorem dX12_partsWith_39 : decode cX12_partsWith 39 = .ok (.iconst 0, 1) := by decide +kernel
theorem dX12_partsWith_40 : decode cX12_partsWith 40 = .ok (.ior, 1) := by decide +kernel
theorem dX12_partsWith_41 : decode cX12_partsWith 41 = .ok (.istore_n 2, 1) := by decide +kernel
theorem dX12_partsWith_42 : decode cX12_partsWith 42 = .ok (.iinc 3 1, 3) := by decide +kernel
theorem dX12_partsWith_45 : decode cX12_partsWith 45 = .ok (.goto (-41), 3) := by decide +kernel
theorem dX12_partsWith_48 : decode cX12_partsWith 48 = .ok (.iload_n 2, 1) := by decide +kernel
theorem dX12_partsWith_49 : decode cX12_partsWith 49 = .ok (.ireturn, 1) := by decide +kernel
theorem dX12_shares_0 : decode cX12_shares 0 = .ok (.iconst 0, 1) := by decide +kernel
theorem dX12_shares_1 : decode cX12_shares 1 = .ok (.istore_n 1, 1) := by decide +kernel
theorem dX12_shares_2 : decode cX12_shares 2 = .ok (.iconst 0, 1) := by decide +kernel
theorem dX12_shares_3 : decode cX12_shares 3 = .ok (.istore_n 2, 1) := by decide +kernel
theorem dX12_shares_4 : decode cX12_shares 4 = .ok (.iload_n 2, 1) := by decide +kernel
theorem dX12_shares_5 : decode cX12_shares 5 = .ok (.aload_n 0, 1) := by decide +kernel
theorem dX12_shares_6 : decode cX12_shares 6 = .ok (.getfield 16, 3) := by decide +kernel
theorem dX12_shares_9 : decode cX12_shares 9 = .ok (.invokevirtual 42, 3) := by decide +kernel
theorem dX12_shares_12 : decode cX12_shares 12 = .ok (.if_icmp .ge 38, 3) := by decide +kernel
theorem dX12_shares_15 : decode cX12_shares 15 = .ok (.iload_n 1, 1) := by decide +kernel
theorem dX12_shares_16 : decode cX12_shares 16 = .ok (.aload_n 0, 1) := by decide +kernel
theorem dX12_shares_17 : decode cX12_shares 17 = .ok (.iload_n 2, 1) := by decide +kernel
theorem dX12_shares_18 : decode cX12_shares 18 = .ok (.invokevirtual 222, 3) := by decide +kernel
theorem dX12_shares_21 : decode cX12_shares 21 = .ok (.ifCond .eq 20, 3) := by decide +kernel
theorem dX12_shares_24 : decode cX12_shares 24 = .ok (.aload_n 0, 1) := by decide +kernel
theorem dX12_shares_25 : decode cX12_shares 25 = .ok (.getfield 16, 3) := by decide +kernel
theorem dX12_shares_28 : decode cX12_shares 28 = .ok (.iload_n 2, 1) := by decide +kernel
theorem dX12_shares_29 : decode cX12_shares 29 = .ok (.invokevirtual 97, 3) := by decide +kernel
theorem dX12_shares_32 : decode cX12_shares 32 = .ok (.checkcast 74, 3) := by decide +kernel
theorem dX12_shares_35 : decode cX12_shares 35 = .ok (.getfield 82, 3) := by decide +kernel
theorem dX12_shares_38 : decode cX12_shares 38 = .ok (.goto 4, 3) := by decide +kernel
theorem dX12_shares_41 : decode cX12_shares 41 = .ok (.iconst 0, 1) := by decide +kernel
theorem dX12_shares_42 : decode cX12_shares 42 = .ok (.iadd, 1) := by decide +kernel
theorem dX12_shares_43 : decode cX12_shares 43 = .ok (.istore_n 1, 1) := by decide +kernel
theorem dX12_shares_44 : decode cX12_shares 44 = .ok (.iinc 2 1, 3) := by decide +kernel
theorem dX12_shares_47 : decode cX12_shares 47 = .ok (.goto (-43), 3) := by decide +kernel
theorem dX12_shares_50 : decode cX12_shares 50 = .ok (.iload_n 1, 1) := by decide +kernel
theorem dX12_shares_51 : decode cX12_shares 51 = .ok (.ireturn, 1) := by decide +kernel
theorem dX12_shareNow_0 : decode cX12_shareNow 0 = .ok (.aload_n 0, 1) := by decide +kernel
theorem dX12_shareNow_1 : decode cX12_shareNow 1 = .ok (.invokevirtual 225, 3) := by decide +kernel
theorem dX12_shareNow_4 : decode cX12_shareNow 4 = .ok (.istore_n 3, 1) := by decide +kernel
theorem dX12_shareNow_5 : decode cX12_shareNow 5 = .ok (.iload_n 3, 1) := by decide +kernel
theorem dX12_shareNow_6 : decode cX12_shareNow 6 = .ok (.ifCond .eq 11, 3) := by decide +kernel
theorem dX12_shareNow_9 : decode cX12_shareNow 9 = .ok (.aload_n 0, 1) := by decide +kernel
theorem dX12_shareNow_10 : decode cX12_shareNow 10 = .ok (.iload_n 2, 1) := by decide +kernel
theorem dX12_shareNow_11 : decode cX12_shareNow 11 = .ok (.invokevirtual 222, 3) := by decide +kernel
theorem dX12_shareNow_14 : decode cX12_shareNow 14 = .ok (.ifCond .ne 5, 3) := by decide +kernel
theorem dX12_shareNow_17 : decode cX12_shareNow 17 = .ok (.iconst 0, 1) := by decide +kernel
theorem dX12_shareNow_18 : decode cX12_shareNow 18 = .ok (.ireturn, 1) := by decide +kernel
theorem dX12_shareNow_19 : decode cX12_shareNow 19 = .ok (.iload_n 1, 1) := by decide +kernel
theorem dX12_shareNow_20 : decode cX12_shareNow 20 = .ok (.istore 4, 2) := by decide +kernel
theorem dX12_shareNow_22 : decode cX12_shareNow 22 = .ok (.iconst 0, 1) := by decide +kernel
theorem dX12_shareNow_23 : decode cX12_shareNow 23 = .ok (.istore 5, 2) := by decide +kernel
theorem dX12_shareNow_25 : decode cX12_shareNow 25 = .ok (.iload_n 1, 1) := by decide +kernel
theorem dX12_shareNow_26 : decode cX12_shareNow 26 = .ok (.aload_n 0, 1) := by decide +kernel
theorem dX12_shareNow_27 : decode cX12_shareNow 27 = .ok (.getfield 16, 3) := by decide +kernel
theorem dX12_shareNow_30 : decode cX12_shareNow 30 = .ok (.iload_n 2, 1) := by decide +kernel
theorem dX12_shareNow_31 : decode cX12_shareNow 31 = .ok (.invokevirtual 97, 3) := by decide +kernel
theorem dX12_shareNow_34 : decode cX12_shareNow 34 = .ok (.checkcast 74, 3) := by decide +kernel
theorem dX12_shareNow_37 : decode cX12_shareNow 37 = .ok (.getfield 82, 3) := by decide +kernel
theorem dX12_shareNow_40 : decode cX12_shareNow 40 = .ok (.imul, 1) := by decide +kernel
theorem dX12_shareNow_41 : decode cX12_shareNow 41 = .ok (.iload_n 3, 1) := by decide +kernel
theorem dX12_shareNow_42 : decode cX12_shareNow 42 = .ok (.irem, 1) := by decide +kernel
theorem dX12_shareNow_43 : decode cX12_shareNow 43 = .ok (.istore 6, 2) := by decide +kernel
theorem dX12_shareNow_45 : decode cX12_shareNow 45 = .ok (.iconst 0, 1) := by decide +kernel
theorem dX12_shareNow_46 : decode cX12_shareNow 46 = .ok (.istore 7, 2) := by decide +kernel
theorem dX12_shareNow_48 : decode cX12_shareNow 48 = .ok (.iload 7, 2) := by decide +kernel
theorem dX12_shareNow_50 : decode cX12_shareNow 50 = .ok (.aload_n 0, 1) := by decide +kernel
theorem dX12_shareNow_51 : decode cX12_shareNow 51 = .ok (.getfield 16, 3) := by decide +kernel
theorem dX12_shareNow_54 : decode cX12_shareNow 54 = .ok (.invokevirtual 42, 3) := by decide +kernel
theorem dX12_shareNow_57 : decode cX12_shareNow 57 = .ok (.if_icmp .ge 83, 3) := by decide +kernel
theorem dX12_shareNow_60 : decode cX12_shareNow 60 = .ok (.aload_n 0, 1) := by decide +kernel
theorem dX12_shareNow_61 : decode cX12_shareNow 61 = .ok (.iload 7, 2) := by decide +kernel
theorem dX12_shareNow_63 : decode cX12_shareNow 63 = .ok (.invokevirtual 222, 3) := by decide +kernel
theorem dX12_shareNow_66 : decode cX12_shareNow 66 = .ok (.ifCond .ne 6, 3) := by decide +kernel
theorem dX12_shareNow_69 : decode cX12_shareNow 69 = .ok (.goto 65, 3) := by decide +kernel
theorem dX12_shareNow_72 : decode cX12_shareNow 72 = .ok (.iload_n 1, 1) := by decide +kernel
theorem dX12_shareNow_73 : decode cX12_shareNow 73 = .ok (.aload_n 0, 1) := by decide +kernel
theorem dX12_shareNow_74 : decode cX12_shareNow 74 = .ok (.getfield 16, 3) := by decide +kernel
theorem dX12_shareNow_77 : decode cX12_shareNow 77 = .ok (.iload 7, 2) := by decide +kernel
theorem dX12_shareNow_79 : decode cX12_shareNow 79 = .ok (.invokevirtual 97, 3) := by decide +kernel
theorem dX12_shareNow_82 : decode cX12_shareNow 82 = .ok (.checkcast 74, 3) := by decide +kernel
theorem dX12_shareNow_85 : decode cX12_shareNow 85 = .ok (.getfield 82, 3) := by decide +kernel
theorem dX12_shareNow_88 : decode cX12_shareNow 88 = .ok (.imul, 1) := by decide +kernel
theorem dX12_shareNow_89 : decode cX12_shareNow 89 = .ok (.istore 8, 2) := by decide +kernel
theorem dX12_shareNow_91 : decode cX12_shareNow 91 = .ok (.iload 4, 2) := by decide +kernel
theorem dX12_shareNow_93 : decode cX12_shareNow 93 = .ok (.iload 8, 2) := by decide +kernel
theorem dX12_shareNow_95 : decode cX12_shareNow 95 = .ok (.iload_n 3, 1) := by decide +kernel
theorem dX12_shareNow_96 : decode cX12_shareNow 96 = .ok (.idiv, 1) := by decide +kernel
theorem dX12_shareNow_97 : decode cX12_shareNow 97 = .ok (.isub, 1) := by decide +kernel
theorem dX12_shareNow_98 : decode cX12_shareNow 98 = .ok (.istore 4, 2) := by decide +kernel
theorem dX12_shareNow_100 : decode cX12_shareNow 100 = .ok (.iload 5, 2) := by decide +kernel
theorem dX12_shareNow_102 : decode cX12_shareNow 102 = .ok (.iload 8, 2) := by decide +kernel
theorem dX12_shareNow_104 : decode cX12_shareNow 104 = .ok (.iload_n 3, 1) := by decide +kernel
theorem dX12_shareNow_105 : decode cX12_shareNow 105 = .ok (.irem, 1) := by decide +kernel
theorem dX12_shareNow_106 : decode cX12_shareNow 106 = .ok (.iload 6, 2) := by decide +kernel
theorem dX12_shareNow_108 : decode cX12_shareNow 108 = .ok (.if_icmp .gt 18, 3) := by decide +kernel
theorem dX12_shareNow_111 : decode cX12_shareNow 111 = .ok (.iload 8, 2) := by decide +kernel
theorem dX12_shareNow_113 : decode cX12_shareNow 113 = .ok (.iload_n 3, 1) := by decide +kernel
theorem dX12_shareNow_114 : decode cX12_shareNow 114 = .ok (.irem, 1) := by decide +kernel
theorem dX12_shareNow_115 : decode cX12_shareNow 115 = .ok (.iload 6, 2) := by decide +kernel
theorem dX12_shareNow_117 : decode cX12_shareNow 117 = .ok (.if_icmp .ne 13, 3) := by decide +kernel
theorem dX12_shareNow_120 : decode cX12_shareNow 120 = .ok (.iload 7, 2) := by decide +kernel
theorem dX12_shareNow_122 : decode cX12_shareNow 122 = .ok (.iload_n 2, 1) := by decide +kernel
theorem dX12_shareNow_123 : decode cX12_shareNow 123 = .ok (.if_icmp .ge 7, 3) := by decide +kernel
theorem dX12_shareNow_126 : decode cX12_shareNow 126 = .ok (.iconst 1, 1) := by decide +kernel
theorem dX12_shareNow_127 : decode cX12_shareNow 127 = .ok (.goto 4, 3) := by decide +kernel
theorem dX12_shareNow_130 : decode cX12_shareNow 130 = .ok (.iconst 0, 1) := by decide +kernel
theorem dX12_shareNow_131 : decode cX12_shareNow 131 = .ok (.iadd, 1) := by decide +kernel
theorem dX12_shareNow_132 : decode cX12_shareNow 132 = .ok (.istore 5, 2) := by decide +kernel
theorem dX12_shareNow_134 : decode cX12_shareNow 134 = .ok (.iinc 7 1, 3) := by decide +kernel
theorem dX12_shareNow_137 : decode cX12_shareNow 137 = .ok (.goto (-89), 3) := by decide +kernel
theorem dX12_shareNow_140 : decode cX12_shareNow 140 = .ok (.iload_n 1, 1) := by decide +kernel
theorem dX12_shareNow_141 : decode cX12_shareNow 141 = .ok (.aload_n 0, 1) := by decide +kernel
theorem dX12_shareNow_142 : decode cX12_shareNow 142 = .ok (.getfield 16, 3) := by decide +kernel
theorem dX12_shareNow_145 : decode cX12_shareNow 145 = .ok (.iload_n 2, 1) := by decide +kernel
theorem dX12_shareNow_146 : decode cX12_shareNow 146 = .ok (.invokevirtual 97, 3) := by decide +kernel
theorem dX12_shareNow_149 : decode cX12_shareNow 149 = .ok (.checkcast 74, 3) := by decide +kernel
theorem dX12_shareNow_152 : decode cX12_shareNow 152 = .ok (.getfield 82, 3) := by decide +kernel
theorem dX12_shareNow_155 : decode cX12_shareNow 155 = .ok (.imul, 1) := by decide +kernel
theorem dX12_shareNow_156 : decode cX12_shareNow 156 = .ok (.iload_n 3, 1) := by decide +kernel
theorem dX12_shareNow_157 : decode cX12_shareNow 157 = .ok (.idiv, 1) := by decide +kernel
theorem dX12_shareNow_158 : decode cX12_shareNow 158 = .ok (.iload 5, 2) := by decide +kernel
theorem dX12_shareNow_160 : decode cX12_shareNow 160 = .ok (.iload 4, 2) := by decide +kernel
theorem dX12_shareNow_162 : decode cX12_shareNow 162 = .ok (.if_icmp .ge 7, 3) := by decide +kernel
theorem dX12_shareNow_165 : decode cX12_shareNow 165 = .ok (.iconst 1, 1) := by decide +kernel
theorem dX12_shareNow_166 : decode cX12_shareNow 166 = .ok (.goto 4, 3) := by decide +kernel
theorem dX12_shareNow_169 : decode cX12_shareNow 169 = .ok (.iconst 0, 1) := by decide +kernel
theorem dX12_shareNow_170 : decode cX12_shareNow 170 = .ok (.iadd, 1) := by decide +kernel
theorem dX12_shareNow_171 : decode cX12_shareNow 171 = .ok (.ireturn, 1) := by decide +kernel
theorem dX12_night_0 : decode cX12_night 0 = .ok (.aload_n 0, 1) := by decide +kernel
theorem dX12_night_1 : decode cX12_night 1 = .ok (.iconst 0, 1) := by decide +kernel
theorem dX12_night_2 : decode cX12_night 2 = .ok (.putfield 38, 3) := by decide +kernel
theorem dX12_night_5 : decode cX12_night 5 = .ok (.aload_n 0, 1) := by decide +kernel
theorem dX12_night_6 : decode cX12_night 6 = .ok (.iload_n 1, 1) := by decide +kernel
theorem dX12_night_7 : decode cX12_night 7 = .ok (.invokevirtual 228, 3) := by decide +kernel
theorem dX12_night_10 : decode cX12_night 10 = .ok (.ifCond .ne 9, 3) := by decide +kernel
theorem dX12_night_13 : decode cX12_night 13 = .ok (.aload_n 0, 1) := by decide +kernel
theorem dX12_night_14 : decode cX12_night 14 = .ok (.iconst 1, 1) := by decide +kernel
theorem dX12_night_15 : decode cX12_night 15 = .ok (.invokevirtual 50, 3) := by decide +kernel
theorem dX12_night_18 : decode cX12_night 18 = .ok (.ireturn, 1) := by decide +kernel
theorem dX12_night_19 : decode cX12_night 19 = .ok (.aload_n 0, 1) := by decide +kernel
theorem dX12_night_20 : decode cX12_night 20 = .ok (.invokevirtual 219, 3) := by decide +kernel
theorem dX12_night_23 : decode cX12_night 23 = .ok (.ifCond .eq 10, 3) := by decide +kernel
theorem dX12_night_26 : decode cX12_night 26 = .ok (.aload_n 0, 1) := by decide +kernel
theorem dX12_night_27 : decode cX12_night 27 = .ok (.getfield 188, 3) := by decide +kernel
theorem dX12_night_30 : decode cX12_night 30 = .ok (.ifCond .ne 9, 3) := by decide +kernel
theorem dX12_night_33 : decode cX12_night 33 = .ok (.aload_n 0, 1) := by decide +kernel
theorem dX12_night_34 : decode cX12_night 34 = .ok (.iconst 2, 1) := by decide +kernel
theorem dX12_night_35 : decode cX12_night 35 = .ok (.invokevirtual 50, 3) := by decide +kernel
theorem dX12_night_38 : decode cX12_night 38 = .ok (.ireturn, 1) := by decide +kernel
theorem dX12_night_39 : decode cX12_night 39 = .ok (.aload_n 0, 1) := by decide +kernel
theorem dX12_night_40 : decode cX12_night 40 = .ok (.getfield 25, 3) := by decide +kernel
theorem dX12_night_43 : decode cX12_night 43 = .ok (.iload_n 1, 1) := by decide +kernel
theorem dX12_night_44 : decode cX12_night 44 = .ok (.invokevirtual 97, 3) := by decide +kernel
theorem dX12_night_47 : decode cX12_night 47 = .ok (.checkcast 147, 3) := by decide +kernel
theorem dX12_night_50 : decode cX12_night 50 = .ok (.astore_n 2, 1) := by decide +kernel
theorem dX12_night_51 : decode cX12_night 51 = .ok (.aload_n 2, 1) := by decide +kernel
theorem dX12_night_52 : decode cX12_night 52 = .ok (.getfield 156, 3) := by decide +kernel
theorem dX12_night_55 : decode cX12_night 55 = .ok (.istore_n 3, 1) := by decide +kernel
theorem dX12_night_56 : decode cX12_night 56 = .ok (.iconst 0, 1) := by decide +kernel
theorem dX12_night_57 : decode cX12_night 57 = .ok (.istore 4, 2) := by decide +kernel
theorem dX12_night_59 : decode cX12_night 59 = .ok (.iload 4, 2) := by decide +kernel
theorem dX12_night_61 : decode cX12_night 61 = .ok (.aload_n 0, 1) := by decide +kernel
theorem dX12_night_62 : decode cX12_night 62 = .ok (.getfield 16, 3) := by decide +kernel
theorem dX12_night_65 : decode cX12_night 65 = .ok (.invokevirtual 42, 3) := by decide +kernel
theorem dX12_night_68 : decode cX12_night 68 = .ok (.if_icmp .ge 36, 3) := by decide +kernel
theorem dX12_night_71 : decode cX12_night 71 = .ok (.aload_n 0, 1) := by decide +kernel
theorem dX12_night_72 : decode cX12_night 72 = .ok (.getfield 16, 3) := by decide +kernel
theorem dX12_night_75 : decode cX12_night 75 = .ok (.iload 4, 2) := by decide +kernel
theorem dX12_night_77 : decode cX12_night 77 = .ok (.invokevirtual 97, 3) := by decide +kernel
theorem dX12_night_80 : decode cX12_night 80 = .ok (.checkcast 74, 3) := by decide +kernel
theorem dX12_night_83 : decode cX12_night 83 = .ok (.dup, 1) := by decide +kernel
theorem dX12_night_84 : decode cX12_night 84 = .ok (.getfield 141, 3) := by decide +kernel
theorem dX12_night_87 : decode cX12_night 87 = .ok (.aload_n 0, 1) := by decide +kernel
theorem dX12_night_88 : decode cX12_night 88 = .ok (.iload_n 3, 1) := by decide +kernel
theorem dX12_night_89 : decode cX12_night 89 = .ok (.iload 4, 2) := by decide +kernel
theorem dX12_night_91 : decode cX12_night 91 = .ok (.invokevirtual 231, 3) := by decide +kernel
theorem dX12_night_94 : decode cX12_night 94 = .ok (.iadd, 1) := by decide +kernel
theorem dX12_night_95 : decode cX12_night 95 = .ok (.putfield 141, 3) := by decide +kernel
theorem dX12_night_98 : decode cX12_night 98 = .ok (.iinc 4 1, 3) := by decide +kernel
theorem dX12_night_101 : decode cX12_night 101 = .ok (.goto (-42), 3) := by decide +kernel
theorem dX12_night_104 : decode cX12_night 104 = .ok (.aload_n 0, 1) := by decide +kernel
theorem dX12_night_105 : decode cX12_night 105 = .ok (.dup, 1) := by decide +kernel
theorem dX12_night_106 : decode cX12_night 106 = .ok (.getfield 138, 3) := by decide +kernel
theorem dX12_night_109 : decode cX12_night 109 = .ok (.iload_n 3, 1) := by decide +kernel
theorem dX12_night_110 : decode cX12_night 110 = .ok (.iadd, 1) := by decide +kernel
theorem dX12_night_111 : decode cX12_night 111 = .ok (.putfield 138, 3) := by decide +kernel
theorem dX12_night_114 : decode cX12_night 114 = .ok (.aload_n 2, 1) := by decide +kernel
theorem dX12_night_115 : decode cX12_night 115 = .ok (.iload_n 3, 1) := by decide +kernel
theorem dX12_night_116 : decode cX12_night 116 = .ok (.iconst 2, 1) := by decide +kernel
theorem dX12_night_117 : decode cX12_night 117 = .ok (.idiv, 1) := by decide +kernel
theorem dX12_night_118 : decode cX12_night 118 = .ok (.putfield 156, 3) := by decide +kernel
theorem dX12_night_121 : decode cX12_night 121 = .ok (.aload_n 0, 1) := by decide +kernel
theorem dX12_night_122 : decode cX12_night 122 = .ok (.dup, 1) := by decide +kernel
theorem dX12_night_123 : decode cX12_night 123 = .ok (.getfield 235, 3) := by decide +kernel
theorem dX12_night_126 : decode cX12_night 126 = .ok (.iconst 1, 1) := by decide +kernel
theorem dX12_night_127 : decode cX12_night 127 = .ok (.iadd, 1) := by decide +kernel
theorem dX12_night_128 : decode cX12_night 128 = .ok (.putfield 235, 3) := by decide +kernel
theorem dX12_night_131 : decode cX12_night 131 = .ok (.iload_n 3, 1) := by decide +kernel
theorem dX12_night_132 : decode cX12_night 132 = .ok (.ireturn, 1) := by decide +kernel
theorem dX12_knock_0 : decode cX12_knock 0 = .ok (.aload_n 0, 1) := by decide +kernel
theorem dX12_knock_1 : decode cX12_knock 1 = .ok (.iconst 0, 1) := by decide +kernel
theorem dX12_knock_2 : decode cX12_knock 2 = .ok (.putfield 38, 3) := by decide +kernel
theorem dX12_knock_5 : decode cX12_knock 5 = .ok (.aload_n 0, 1) := by decide +kernel
theorem dX12_knock_6 : decode cX12_knock 6 = .ok (.dup, 1) := by decide +kernel
theorem dX12_knock_7 : decode cX12_knock 7 = .ok (.getfield 238, 3) := by decide +kernel
theorem dX12_knock_10 : decode cX12_knock 10 = .ok (.iconst 1, 1) := by decide +kernel
theorem dX12_knock_11 : decode cX12_knock 11 = .ok (.iadd, 1) := by decide +kernel
theorem dX12_knock_12 : decode cX12_knock 12 = .ok (.putfield 238, 3) := by decide +kernel
theorem dX12_knock_15 : decode cX12_knock 15 = .ok (.aload_n 0, 1) := by decide +kernel
theorem dX12_knock_16 : decode cX12_knock 16 = .ok (.getfield 238, 3) := by decide +kernel
theorem dX12_knock_19 : decode cX12_knock 19 = .ok (.ireturn, 1) := by decide +kernel
theorem dX12_miles_0 : decode cX12_miles 0 = .ok (.iload_n 0, 1) := by decide +kernel
theorem dX12_miles_1 : decode cX12_miles 1 = .ok (.iload_n 2, 1) := by decide +kernel
theorem dX12_miles_2 : decode cX12_miles 2 = .ok (.isub, 1) := by decide +kernel
theorem dX12_miles_3 : decode cX12_miles 3 = .ok (.invokestatic 200, 3) := by decide +kernel
theorem dX12_miles_6 : decode cX12_miles 6 = .ok (.iload_n 1, 1) := by decide +kernel
theorem dX12_miles_7 : decode cX12_miles 7 = .ok (.iload_n 3, 1) := by decide +kernel
theorem dX12_miles_8 : decode cX12_miles 8 = .ok (.isub, 1) := by decide +kernel
theorem dX12_miles_9 : decode cX12_miles 9 = .ok (.invokestatic 200, 3) := by decide +kernel
theorem dX12_miles_12 : decode cX12_miles 12 = .ok (.iadd, 1) := by decide +kernel
theorem dX12_miles_13 : decode cX12_miles 13 = .ok (.ireturn, 1) := by decide +kernel
theorem dX12_go_0 : decode cX12_go 0 = .ok (.iload 5, 2) := by decide +kernel
theorem dX12_go_2 : decode cX12_go 2 = .ok (.iload_n 1, 1) := by decide +kernel
theorem dX12_go_3 : decode cX12_go 3 = .ok (.iload_n 2, 1) := by decide +kernel
theorem dX12_go_4 : decode cX12_go 4 = .ok (.iconst 0, 1) := by decide +kernel
theorem dX12_go_5 : decode cX12_go 5 = .ok (.iconst 0, 1) := by decide +kernel
theorem dX12_go_6 : decode cX12_go 6 = .ok (.invokestatic 241, 3) := by decide +kernel
theorem dX12_go_9 : decode cX12_go 9 = .ok (.iadd, 1) := by decide +kernel
theorem dX12_go_10 : decode cX12_go 10 = .ok (.istore 7, 2) := by decide +kernel
theorem dX12_go_12 : decode cX12_go 12 = .ok (.iload 7, 2) := by decide +kernel
theorem dX12_go_14 : decode cX12_go 14 = .ok (.iload 6, 2) := by decide +kernel
theorem dX12_go_16 : decode cX12_go 16 = .ok (.if_icmp .le 4, 3) := by decide +kernel
theorem dX12_go_19 : decode cX12_go 19 = .ok (.return_, 1) := by decide +kernel
theorem dX12_go_20 : decode cX12_go 20 = .ok (.iload 4, 2) := by decide +kernel
theorem dX12_go_22 : decode cX12_go 22 = .ok (.aload_n 0, 1) := by decide +kernel
theorem dX12_go_23 : decode cX12_go 23 = .ok (.getfield 245, 3) := by decide +kernel
theorem dX12_go_26 : decode cX12_go 26 = .ok (.if_icmp .gt 38, 3) := by decide +kernel
theorem dX12_go_29 : decode cX12_go 29 = .ok (.iload 4, 2) := by decide +kernel
theorem dX12_go_31 : decode cX12_go 31 = .ok (.aload_n 0, 1) := by decide +kernel
theorem dX12_go_32 : decode cX12_go 32 = .ok (.getfield 245, 3) := by decide +kernel
theorem dX12_go_35 : decode cX12_go 35 = .ok (.if_icmp .ne 46, 3) := by decide +kernel
theorem dX12_go_38 : decode cX12_go 38 = .ok (.iload 7, 2) := by decide +kernel
theorem dX12_go_40 : decode cX12_go 40 = .ok (.aload_n 0, 1) := by decide +kernel
theorem dX12_go_41 : decode cX12_go 41 = .ok (.getfield 248, 3) := by decide +kernel
theorem dX12_go_44 : decode cX12_go 44 = .ok (.if_icmp .lt 20, 3) := by decide +kernel
theorem dX12_go_47 : decode cX12_go 47 = .ok (.iload 7, 2) := by decide +kernel
theorem dX12_go_49 : decode cX12_go 49 = .ok (.aload_n 0, 1) := by decide +kernel
theorem dX12_go_50 : decode cX12_go 50 = .ok (.getfield 248, 3) := by decide +kernel
theorem dX12_go_53 : decode cX12_go 53 = .ok (.if_icmp .ne 28, 3) := by decide +kernel
theorem dX12_go_56 : decode cX12_go 56 = .ok (.iload_n 3, 1) := by decide +kernel
theorem dX12_go_57 : decode cX12_go 57 = .ok (.aload_n 0, 1) := by decide +kernel
theorem dX12_go_58 : decode cX12_go 58 = .ok (.getfield 251, 3) := by decide +kernel
theorem dX12_go_61 : decode cX12_go 61 = .ok (.if_icmp .ge 20, 3) := by decide +kernel
theorem dX12_go_64 : decode cX12_go 64 = .ok (.aload_n 0, 1) := by decide +kernel
theorem dX12_go_65 : decode cX12_go 65 = .ok (.iload 4, 2) := by decide +kernel
theorem dX12_go_67 : decode cX12_go 67 = .ok (.putfield 245, 3) := by decide +kernel
theorem dX12_go_70 : decode cX12_go 70 = .ok (.aload_n 0, 1) := by decide +kernel
theorem dX12_go_71 : decode cX12_go 71 = .ok (.iload 7, 2) := by decide +kernel
theorem dX12_go_73 : decode cX12_go 73 = .ok (.putfield 248, 3) := by decide +kernel
theorem dX12_go_76 : decode cX12_go 76 = .ok (.aload_n 0, 1) := by decide +kernel
theorem dX12_go_77 : decode cX12_go 77 = .ok (.iload_n 3, 1) := by decide +kernel
theorem dX12_go_78 : decode cX12_go 78 = .ok (.putfield 251, 3) := by decide +kernel
theorem dX12_go_81 : decode cX12_go 81 = .ok (.iconst 0, 1) := by decide +kernel
theorem dX12_go_82 : decode cX12_go 82 = .ok (.istore 8, 2) := by decide +kernel
theorem dX12_go_84 : decode cX12_go 84 = .ok (.iload 8, 2) := by decide +kernel
theorem dX12_go_86 : decode cX12_go 86 = .ok (.aload_n 0, 1) := by decide +kernel
theorem dX12_go_87 : decode cX12_go 87 = .ok (.getfield 25, 3) := by decide +kernel
theorem dX12_go_90 : decode cX12_go 90 = .ok (.invokevirtual 42, 3) := by decide +kernel
theorem dX12_go_93 : decode cX12_go 93 = .ok (.if_icmp .ge 80, 3) := by decide +kernel
theorem dX12_go_96 : decode cX12_go 96 = .ok (.aload_n 0, 1) := by decide +kernel
theorem dX12_go_97 : decode cX12_go 97 = .ok (.getfield 25, 3) := by decide +kernel
theorem dX12_go_100 : decode cX12_go 100 = .ok (.iload 8, 2) := by decide +kernel
theorem dX12_go_102 : decode cX12_go 102 = .ok (.invokevirtual 97, 3) := by decide +kernel
theorem dX12_go_105 : decode cX12_go 105 = .ok (.checkcast 147, 3) := by decide +kernel
theorem dX12_go_108 : decode cX12_go 108 = .ok (.astore 9, 2) := by decide +kernel
theorem dX12_go_110 : decode cX12_go 110 = .ok (.iload_n 3, 1) := by decide +kernel
theorem dX12_go_111 : decode cX12_go 111 = .ok (.iload 8, 2) := by decide +kernel
theorem dX12_go_113 : decode cX12_go 113 = .ok (.invokestatic 159, 3) := by decide +kernel
theorem dX12_go_116 : decode cX12_go 116 = .ok (.ifCond .ne 51, 3) := by decide +kernel
theorem dX12_go_119 : decode cX12_go 119 = .ok (.aload_n 0, 1) := by decide +kernel
theorem dX12_go_120 : decode cX12_go 120 = .ok (.aload 9, 2) := by decide +kernel
theorem dX12_go_122 : decode cX12_go 122 = .ok (.getfield 150, 3) := by decide +kernel
theorem dX12_go_125 : decode cX12_go 125 = .ok (.aload 9, 2) := by decide +kernel
theorem dX12_go_127 : decode cX12_go 127 = .ok (.getfield 153, 3) := by decide +kernel
theorem dX12_go_130 : decode cX12_go 130 = .ok (.iload_n 3, 1) := by decide +kernel
theorem dX12_go_131 : decode cX12_go 131 = .ok (.iconst 1, 1) := by decide +kernel
theorem dX12_go_132 : decode cX12_go 132 = .ok (.iload 8, 2) := by decide +kernel
theorem dX12_go_134 : decode cX12_go 134 = .ok (.ishl, 1) := by decide +kernel
theorem dX12_go_135 : decode cX12_go 135 = .ok (.ior, 1) := by decide +kernel
theorem dX12_go_136 : decode cX12_go 136 = .ok (.iload 4, 2) := by decide +kernel
theorem dX12_go_138 : decode cX12_go 138 = .ok (.aload 9, 2) := by decide +kernel
theorem dX12_go_140 : decode cX12_go 140 = .ok (.getfield 156, 3) := by decide +kernel
theorem dX12_go_143 : decode cX12_go 143 = .ok (.iadd, 1) := by decide +kernel
theorem dX12_go_144 : decode cX12_go 144 = .ok (.iload 5, 2) := by decide +kernel
theorem dX12_go_146 : decode cX12_go 146 = .ok (.iload_n 1, 1) := by decide +kernel
theorem dX12_go_147 : decode cX12_go 147 = .ok (.iload_n 2, 1) := by decide +kernel
theorem dX12_go_148 : decode cX12_go 148 = .ok (.aload 9, 2) := by decide +kernel
theorem dX12_go_150 : decode cX12_go 150 = .ok (.getfield 150, 3) := by decide +kernel
theorem dX12_go_153 : decode cX12_go 153 = .ok (.aload 9, 2) := by decide +kernel
theorem dX12_go_155 : decode cX12_go 155 = .ok (.getfield 153, 3) := by decide +kernel
theorem dX12_go_158 : decode cX12_go 158 = .ok (.invokestatic 241, 3) := by decide +kernel
theorem dX12_go_161 : decode cX12_go 161 = .ok (.iadd, 1) := by decide +kernel
theorem dX12_go_162 : decode cX12_go 162 = .ok (.iload 6, 2) := by decide +kernel
theorem dX12_go_164 : decode cX12_go 164 = .ok (.invokevirtual 254, 3) := by decide +kernel
theorem dX12_go_167 : decode cX12_go 167 = .ok (.iinc 8 1, 3) := by decide +kernel
theorem dX12_go_170 : decode cX12_go 170 = .ok (.goto (-86), 3) := by decide +kernel
theorem dX12_go_173 : decode cX12_go 173 = .ok (.return_, 1) := by decide +kernel
theorem dX12_tourNow_0 : decode cX12_tourNow 0 = .ok (.aload_n 0, 1) := by decide +kernel
theorem dX12_tourNow_1 : decode cX12_tourNow 1 = .ok (.iconst (-1), 1) := by decide +kernel
theorem dX12_tourNow_2 : decode cX12_tourNow 2 = .ok (.putfield 245, 3) := by decide +kernel
theorem dX12_tourNow_5 : decode cX12_tourNow 5 = .ok (.aload_n 0, 1) := by decide +kernel
theorem dX12_tourNow_6 : decode cX12_tourNow 6 = .ok (.iconst 0, 1) := by decide +kernel
theorem dX12_tourNow_7 : decode cX12_tourNow 7 = .ok (.iconst 0, 1) := by decide +kernel
theorem dX12_tourNow_8 : decode cX12_tourNow 8 = .ok (.iconst 0, 1) := by decide +kernel
theorem dX12_tourNow_9 : decode cX12_tourNow 9 = .ok (.iconst 0, 1) := by decide +kernel
theorem dX12_tourNow_10 : decode cX12_tourNow 10 = .ok (.iconst 0, 1) := by decide +kernel
theorem dX12_tourNow_11 : decode cX12_tourNow 11 = .ok (.iload_n 1, 1) := by decide +kernel
theorem dX12_tourNow_12 : decode cX12_tourNow 12 = .ok (.invokevirtual 254, 3) := by decide +kernel
theorem dX12_tourNow_15 : decode cX12_tourNow 15 = .ok (.iload_n 2, 1) := by decide +kernel
theorem dX12_tourNow_16 : decode cX12_tourNow 16 = .ok (.ifCond .ne 10, 3) := by decide +kernel
theorem dX12_tourNow_19 : decode cX12_tourNow 19 = .ok (.aload_n 0, 1) := by decide +kernel
theorem dX12_tourNow_20 : decode cX12_tourNow 20 = .ok (.getfield 251, 3) := by decide +kernel
theorem dX12_tourNow_23 : decode cX12_tourNow 23 = .ok (.goto 19, 3) := by decide +kernel
theorem dX12_tourNow_26 : decode cX12_tourNow 26 = .ok (.iload_n 2, 1) := by decide +kernel
theorem dX12_tourNow_27 : decode cX12_tourNow 27 = .ok (.iconst 1, 1) := by decide +kernel
theorem dX12_tourNow_28 : decode cX12_tourNow 28 = .ok (.if_icmp .ne 10, 3) := by decide +kernel
theorem dX12_tourNow_31 : decode cX12_tourNow 31 = .ok (.aload_n 0, 1) := by decide +kernel
theorem dX12_tourNow_32 : decode cX12_tourNow 32 = .ok (.getfield 245, 3) := by decide +kernel
theorem dX12_tourNow_35 : decode cX12_tourNow 35 = .ok (.goto 7, 3) := by decide +kernel
theorem dX12_tourNow_38 : decode cX12_tourNow 38 = .ok (.aload_n 0, 1) := by decide +kernel
theorem dX12_tourNow_39 : decode cX12_tourNow 39 = .ok (.getfield 248, 3) := by decide +kernel
theorem dX12_tourNow_42 : decode cX12_tourNow 42 = .ok (.ireturn, 1) := by decide +kernel
theorem dX12_scenesWith_0 : decode cX12_scenesWith 0 = .ok (.iconst 0, 1) := by decide +kernel
theorem dX12_scenesWith_1 : decode cX12_scenesWith 1 = .ok (.istore_n 2, 1) := by decide +kernel
theorem dX12_scenesWith_2 : decode cX12_scenesWith 2 = .ok (.iconst 0, 1) := by decide +kernel
theorem dX12_scenesWith_3 : decode cX12_scenesWith 3 = .ok (.istore_n 3, 1) := by decide +kernel
theorem dX12_scenesWith_4 : decode cX12_scenesWith 4 = .ok (.iload_n 3, 1) := by decide +kernel
theorem dX12_scenesWith_5 : decode cX12_scenesWith 5 = .ok (.aload_n 0, 1) := by decide +kernel
theorem dX12_scenesWith_6 : decode cX12_scenesWith 6 = .ok (.getfield 19, 3) := by decide +kernel
theorem dX12_scenesWith_9 : decode cX12_scenesWith 9 = .ok (.invokevirtual 42, 3) := by decide +kernel
theorem dX12_scenesWith_12 : decode cX12_scenesWith 12 = .ok (.if_icmp .ge 40, 3) := by decide +kernel
theorem dX12_scenesWith_15 : decode cX12_scenesWith 15 = .ok (.iload_n 2, 1) := by decide +kernel
theorem dX12_scenesWith_16 : decode cX12_scenesWith 16 = .ok (.aload_n 0, 1) := by decide +kernel
theorem dX12_scenesWith_17 : decode cX12_scenesWith 17 = .ok (.getfield 19, 3) := by decide +kernel
theorem dX12_scenesWith_20 : decode cX12_scenesWith 20 = .ok (.iload_n 3, 1) := by decide +kernel
theorem dX12_scenesWith_21 : decode cX12_scenesWith 21 = .ok (.invokevirtual 97, 3) := by decide +kernel
theorem dX12_scenesWith_24 : decode cX12_scenesWith 24 = .ok (.checkcast 85, 3) := by decide +kernel
theorem dX12_scenesWith_27 : decode cX12_scenesWith 27 = .ok (.getfield 88, 3) := by decide +kernel
theorem dX12_scenesWith_30 : decode cX12_scenesWith 30 = .ok (.iload_n 1, 1) := by decide +kernel
theorem dX12_scenesWith_31 : decode cX12_scenesWith 31 = .ok (.invokestatic 159, 3) := by decide +kernel
theorem dX12_scenesWith_34 : decode cX12_scenesWith 34 = .ok (.ifCond .eq 9, 3) := by decide +kernel
theorem dX12_scenesWith_37 : decode cX12_scenesWith 37 = .ok (.iconst 1, 1) := by decide +kernel
theorem dX12_scenesWith_38 : decode cX12_scenesWith 38 = .ok (.iload_n 3, 1) := by decide +kernel
theorem dX12_scenesWith_39 : decode cX12_scenesWith 39 = .ok (.ishl, 1) := by decide +kernel
theorem dX12_scenesWith_40 : decode cX12_scenesWith 40 = .ok (.goto 4, 3) := by decide +kernel
theorem dX12_scenesWith_43 : decode cX12_scenesWith 43 = .ok (.iconst 0, 1) := by decide +kernel
theorem dX12_scenesWith_44 : decode cX12_scenesWith 44 = .ok (.ior, 1) := by decide +kernel
theorem dX12_scenesWith_45 : decode cX12_scenesWith 45 = .ok (.istore_n 2, 1) := by decide +kernel
theorem dX12_scenesWith_46 : decode cX12_scenesWith 46 = .ok (.iinc 3 1, 3) := by decide +kernel
theorem dX12_scenesWith_49 : decode cX12_scenesWith 49 = .ok (.goto (-45), 3) := by decide +kernel
theorem dX12_scenesWith_52 : decode cX12_scenesWith 52 = .ok (.iload_n 2, 1) := by decide +kernel
theorem dX12_scenesWith_53 : decode cX12_scenesWith 53 = .ok (.ireturn, 1) := by decide +kernel
theorem dX12_ofPartNow_0 : decode cX12_ofPartNow 0 = .ok (.aload_n 0, 1) := by decide +kernel
theorem dX12_ofPartNow_1 : decode cX12_ofPartNow 1 = .ok (.getfield 10, 3) := by decide +kernel
theorem dX12_ofPartNow_4 : decode cX12_ofPartNow 4 = .ok (.iload_n 1, 1) := by decide +kernel
theorem dX12_ofPartNow_5 : decode cX12_ofPartNow 5 = .ok (.invokevirtual 97, 3) := by decide +kernel
theorem dX12_ofPartNow_8 : decode cX12_ofPartNow 8 = .ok (.checkcast 54, 3) := by decide +kernel
theorem dX12_ofPartNow_11 : decode cX12_ofPartNow 11 = .ok (.astore_n 3, 1) := by decide +kernel
theorem dX12_ofPartNow_12 : decode cX12_ofPartNow 12 = .ok (.iload_n 2, 1) := by decide +kernel
theorem dX12_ofPartNow_13 : decode cX12_ofPartNow 13 = .ok (.tableswitch 81 0 5 #[39, 44, 49, 54, 60, 75], 39) := by decide +kernel
theorem dX12_ofPartNow_52 : decode cX12_ofPartNow 52 = .ok (.aload_n 3, 1) := by decide +kernel
theorem dX12_ofPartNow_53 : decode cX12_ofPartNow 53 = .ok (.getfield 57, 3) := by decide +kernel
theorem dX12_ofPartNow_56 : decode cX12_ofPartNow 56 = .ok (.ireturn, 1) := by decide +kernel
theorem dX12_ofPartNow_57 : decode cX12_ofPartNow 57 = .ok (.aload_n 3, 1) := by decide +kernel
theorem dX12_ofPartNow_58 : decode cX12_ofPartNow 58 = .ok (.getfield 60, 3) := by decide +kernel
theorem dX12_ofPartNow_61 : decode cX12_ofPartNow 61 = .ok (.ireturn, 1) := by decide +kernel
theorem dX12_ofPartNow_62 : decode cX12_ofPartNow 62 = .ok (.aload_n 3, 1) := by decide +kernel
theorem dX12_ofPartNow_63 : decode cX12_ofPartNow 63 = .ok (.getfield 63, 3) := by decide +kernel
theorem dX12_ofPartNow_66 : decode cX12_ofPartNow 66 = .ok (.ireturn, 1) := by decide +kernel
theorem dX12_ofPartNow_67 : decode cX12_ofPartNow 67 = .ok (.aload_n 0, 1) := by decide +kernel
theorem dX12_ofPartNow_68 : decode cX12_ofPartNow 68 = .ok (.iload_n 1, 1) := by decide +kernel
theorem dX12_ofPartNow_69 : decode cX12_ofPartNow 69 = .ok (.invokevirtual 258, 3) := by decide +kernel
theorem dX12_ofPartNow_72 : decode cX12_ofPartNow 72 = .ok (.ireturn, 1) := by decide +kernel
theorem dX12_ofPartNow_73 : decode cX12_ofPartNow 73 = .ok (.aload_n 0, 1) := by decide +kernel
theorem dX12_ofPartNow_74 : decode cX12_ofPartNow 74 = .ok (.aload_n 0, 1) := by decide +kernel
theorem dX12_ofPartNow_75 : decode cX12_ofPartNow 75 = .ok (.invokevirtual 182, 3) := by decide +kernel
theorem dX12_ofPartNow_78 : decode cX12_ofPartNow 78 = .ok (.invokevirtual 175, 3) := by decide +kernel
theorem dX12_ofPartNow_81 : decode cX12_ofPartNow 81 = .ok (.aload_n 0, 1) := by decide +kernel
theorem dX12_ofPartNow_82 : decode cX12_ofPartNow 82 = .ok (.getfield 35, 3) := by decide +kernel
theorem dX12_ofPartNow_85 : decode cX12_ofPartNow 85 = .ok (.iload_n 1, 1) := by decide +kernel
theorem dX12_ofPartNow_86 : decode cX12_ofPartNow 86 = .ok (.iaload, 1) := by decide +kernel
theorem dX12_ofPartNow_87 : decode cX12_ofPartNow 87 = .ok (.ireturn, 1) := by decide +kernel
theorem dX12_ofPartNow_88 : decode cX12_ofPartNow 88 = .ok (.aload_n 0, 1) := by decide +kernel
theorem dX12_ofPartNow_89 : decode cX12_ofPartNow 89 = .ok (.iload_n 1, 1) := by decide +kernel
theorem dX12_ofPartNow_90 : decode cX12_ofPartNow 90 = .ok (.invokevirtual 195, 3) := by decide +kernel
theorem dX12_ofPartNow_93 : decode cX12_ofPartNow 93 = .ok (.ireturn, 1) := by decide +kernel
theorem dX12_ofPartNow_94 : decode cX12_ofPartNow 94 = .ok (.aload_n 0, 1) := by decide +kernel
theorem dX12_ofPartNow_95 : decode cX12_ofPartNow 95 = .ok (.invokevirtual 219, 3) := by decide +kernel
theorem dX12_ofPartNow_98 : decode cX12_ofPartNow 98 = .ok (.ifCond .eq 12, 3) := by decide +kernel
theorem dX12_ofPartNow_101 : decode cX12_ofPartNow 101 = .ok (.aload_n 0, 1) := by decide +kernel
theorem dX12_ofPartNow_102 : decode cX12_ofPartNow 102 = .ok (.getfield 28, 3) := by decide +kernel
theorem dX12_ofPartNow_105 : decode cX12_ofPartNow 105 = .ok (.iload_n 1, 1) := by decide +kernel
theorem dX12_ofPartNow_106 : decode cX12_ofPartNow 106 = .ok (.iaload, 1) := by decide +kernel
theorem dX12_ofPartNow_107 : decode cX12_ofPartNow 107 = .ok (.goto 4, 3) := by decide +kernel
theorem dX12_ofPartNow_110 : decode cX12_ofPartNow 110 = .ok (.iconst (-1), 1) := by decide +kernel
theorem dX12_ofPartNow_111 : decode cX12_ofPartNow 111 = .ok (.ireturn, 1) := by decide +kernel
theorem dX12_ofPart_0 : decode cX12_ofPart 0 = .ok (.aload_n 0, 1) := by decide +kernel
theorem dX12_ofPart_1 : decode cX12_ofPart 1 = .ok (.iconst 0, 1) := by decide +kernel
theorem dX12_ofPart_2 : decode cX12_ofPart 2 = .ok (.putfield 38, 3) := by decide +kernel
theorem dX12_ofPart_5 : decode cX12_ofPart 5 = .ok (.aload_n 0, 1) := by decide +kernel
theorem dX12_ofPart_6 : decode cX12_ofPart 6 = .ok (.iload_n 1, 1) := by decide +kernel
theorem dX12_ofPart_7 : decode cX12_ofPart 7 = .ok (.invokevirtual 261, 3) := by decide +kernel
theorem dX12_ofPart_10 : decode cX12_ofPart 10 = .ok (.ifCond .ne 9, 3) := by decide +kernel
theorem dX12_ofPart_13 : decode cX12_ofPart 13 = .ok (.aload_n 0, 1) := by decide +kernel
theorem dX12_ofPart_14 : decode cX12_ofPart 14 = .ok (.iconst 1, 1) := by decide +kernel
theorem dX12_ofPart_15 : decode cX12_ofPart 15 = .ok (.invokevirtual 50, 3) := by decide +kernel
theorem dX12_ofPart_18 : decode cX12_ofPart 18 = .ok (.ireturn, 1) := by decide +kernel
theorem dX12_ofPart_19 : decode cX12_ofPart 19 = .ok (.iload_n 2, 1) := by decide +kernel
theorem dX12_ofPart_20 : decode cX12_ofPart 20 = .ok (.iconst 0, 1) := by decide +kernel
theorem dX12_ofPart_21 : decode cX12_ofPart 21 = .ok (.bipush 6, 2) := by decide +kernel
theorem dX12_ofPart_23 : decode cX12_ofPart 23 = .ok (.invokestatic 46, 3) := by decide +kernel
theorem dX12_ofPart_26 : decode cX12_ofPart 26 = .ok (.ifCond .eq 12, 3) := by decide +kernel
theorem dX12_ofPart_29 : decode cX12_ofPart 29 = .ok (.aload_n 0, 1) := by decide +kernel
