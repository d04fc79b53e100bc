theorem dX11_note_0 : decode cX11_note 0 = .ok (.aload_n 0, 1) := by decide +kernel
theorem dX11_note_1 : decode cX11_note 1 = .ok (.iload_n 1, 1) := by decide +kernel
theorem dX11_note_2 : decode cX11_note 2 = .ok (.iconst 0, 1) := by decide +kernel
theorem dX11_note_3 : decode cX11_note 3 = .ok (.bipush 127, 2) := by decide +kernel
theorem dX11_note_5 : decode cX11_note 5 = .ok (.invokevirtual 180, 3) := by decide +kernel
theorem dX11_note_8 : decode cX11_note 8 = .ok (.ifCond .eq 29, 3) := by decide +kernel
theorem dX11_note_11 : decode cX11_note 11 = .ok (.aload_n 0, 1) := by decide +kernel
theorem dX11_note_12 : decode cX11_note 12 = .ok (.iload_n 2, 1) := by decide +kernel
theorem dX11_note_13 : decode cX11_note 13 = .ok (.iconst 0, 1) := by decide +kernel
theorem dX11_note_14 : decode cX11_note 14 = .ok (.sipush 9998, 3) := by decide +kernel
theorem dX11_note_17 : decode cX11_note 17 = .ok (.invokevirtual 180, 3) := by decide +kernel
theorem dX11_note_20 : decode cX11_note 20 = .ok (.ifCond .eq 17, 3) := by decide +kernel
theorem dX11_note_23 : decode cX11_note 23 = .ok (.aload_n 0, 1) := by decide +kernel
theorem dX11_note_24 : decode cX11_note 24 = .ok (.iload_n 3, 1) := by decide +kernel
theorem dX11_note_25 : decode cX11_note 25 = .ok (.iload_n 2, 1) := by decide +kernel
theorem dX11_note_26 : decode cX11_note 26 = .ok (.iconst 1, 1) := by decide +kernel
theorem dX11_note_27 : decode cX11_note 27 = .ok (.iadd, 1) := by decide +kernel
theorem dX11_note_28 : decode cX11_note 28 = .ok (.sipush 9999, 3) := by decide +kernel
theorem dX11_note_31 : decode cX11_note 31 = .ok (.invokevirtual 180, 3) := by decide +kernel
theorem dX11_note_34 : decode cX11_note 34 = .ok (.ifCond .ne 5, 3) := by decide +kernel
theorem dX11_note_37 : decode cX11_note 37 = .ok (.iconst (-1), 1) := by decide +kernel
theorem dX11_note_38 : decode cX11_note 38 = .ok (.ireturn, 1) := by decide +kernel
theorem dX11_note_39 : decode cX11_note 39 = .ok (.aload_n 0, 1) := by decide +kernel
theorem dX11_note_40 : decode cX11_note 40 = .ok (.getfield 150, 3) := by decide +kernel
theorem dX11_note_43 : decode cX11_note 43 = .ok (.bipush 16, 2) := by decide +kernel
theorem dX11_note_45 : decode cX11_note 45 = .ok (.if_icmp .ne 6, 3) := by decide +kernel
theorem dX11_note_48 : decode cX11_note 48 = .ok (.bipush (-3), 2) := by decide +kernel
theorem dX11_note_50 : decode cX11_note 50 = .ok (.ireturn, 1) := by decide +kernel
theorem dX11_note_51 : decode cX11_note 51 = .ok (.iconst 0, 1) := by decide +kernel
theorem dX11_note_52 : decode cX11_note 52 = .ok (.istore 4, 2) := by decide +kernel
theorem dX11_note_54 : decode cX11_note 54 = .ok (.iload 4, 2) := by decide +kernel
theorem dX11_note_56 : decode cX11_note 56 = .ok (.aload_n 0, 1) := by decide +kernel
theorem dX11_note_57 : decode cX11_note 57 = .ok (.getfield 150, 3) := by decide +kernel
theorem dX11_note_60 : decode cX11_note 60 = .ok (.if_icmp .gt 108, 3) := by decide +kernel
theorem dX11_note_63 : decode cX11_note 63 = .ok (.iload 4, 2) := by decide +kernel
theorem dX11_note_65 : decode cX11_note 65 = .ok (.aload_n 0, 1) := by decide +kernel
theorem dX11_note_66 : decode cX11_note 66 = .ok (.getfield 150, 3) := by decide +kernel
theorem dX11_note_69 : decode cX11_note 69 = .ok (.if_icmp .ne 7, 3) := by decide +kernel
theorem dX11_note_72 : decode cX11_note 72 = .ok (.iload_n 2, 1) := by decide +kernel
theorem dX11_note_73 : decode cX11_note 73 = .ok (.goto 10, 3) := by decide +kernel
theorem dX11_note_76 : decode cX11_note 76 = .ok (.aload_n 0, 1) := by decide +kernel
theorem dX11_note_77 : decode cX11_note 77 = .ok (.getfield 13, 3) := by decide +kernel
theorem dX11_note_80 : decode cX11_note 80 = .ok (.iload 4, 2) := by decide +kernel
theorem dX11_note_82 : decode cX11_note 82 = .ok (.iaload, 1) := by decide +kernel
theorem dX11_note_83 : decode cX11_note 83 = .ok (.istore 5, 2) := by decide +kernel
theorem dX11_note_85 : decode cX11_note 85 = .ok (.iconst 0, 1) := by decide +kernel
theorem dX11_note_86 : decode cX11_note 86 = .ok (.istore 6, 2) := by decide +kernel
theorem dX11_note_88 : decode cX11_note 88 = .ok (.iconst 0, 1) := by decide +kernel
theorem dX11_note_89 : decode cX11_note 89 = .ok (.istore 7, 2) := by decide +kernel
theorem dX11_note_91 : decode cX11_note 91 = .ok (.iload 7, 2) := by decide +kernel
theorem dX11_note_93 : decode cX11_note 93 = .ok (.aload_n 0, 1) := by decide +kernel
theorem dX11_note_94 : decode cX11_note 94 = .ok (.getfield 150, 3) := by decide +kernel
theorem dX11_note_97 : decode cX11_note 97 = .ok (.if_icmp .ge 43, 3) := by decide +kernel
theorem dX11_note_100 : decode cX11_note 100 = .ok (.iload 6, 2) := by decide +kernel
theorem dX11_note_102 : decode cX11_note 102 = .ok (.aload_n 0, 1) := by decide +kernel
theorem dX11_note_103 : decode cX11_note 103 = .ok (.getfield 13, 3) := by decide +kernel
theorem dX11_note_106 : decode cX11_note 106 = .ok (.iload 7, 2) := by decide +kernel
theorem dX11_note_108 : decode cX11_note 108 = .ok (.iaload, 1) := by decide +kernel
theorem dX11_note_109 : decode cX11_note 109 = .ok (.iload 5, 2) := by decide +kernel
theorem dX11_note_111 : decode cX11_note 111 = .ok (.if_icmp .gt 19, 3) := by decide +kernel
theorem dX11_note_114 : decode cX11_note 114 = .ok (.aload_n 0, 1) := by decide +kernel
theorem dX11_note_115 : decode cX11_note 115 = .ok (.getfield 16, 3) := by decide +kernel
theorem dX11_note_118 : decode cX11_note 118 = .ok (.iload 7, 2) := by decide +kernel
theorem dX11_note_120 : decode cX11_note 120 = .ok (.iaload, 1) := by decide +kernel
theorem dX11_note_121 : decode cX11_note 121 = .ok (.iload 5, 2) := by decide +kernel
theorem dX11_note_123 : decode cX11_note 123 = .ok (.if_icmp .le 7, 3) := by decide +kernel
theorem dX11_note_126 : decode cX11_note 126 = .ok (.iconst 1, 1) := by decide +kernel
theorem dX11_note_127 : decode cX11_note 127 = .ok (.goto 4, 3) := by decide +kernel
theorem dX11_note_130 : decode cX11_note 130 = .ok (.iconst 0, 1) := by decide +kernel
theorem dX11_note_131 : decode cX11_note 131 = .ok (.iadd, 1) := by decide +kernel
theorem dX11_note_132 : decode cX11_note 132 = .ok (.istore 6, 2) := by decide +kernel
theorem dX11_note_134 : decode cX11_note 134 = .ok (.iinc 7 1, 3) := by decide +kernel
theorem dX11_note_137 : decode cX11_note 137 = .ok (.goto (-46), 3) := by decide +kernel
theorem dX11_note_140 : decode cX11_note 140 = .ok (.iload 5, 2) := by decide +kernel
theorem dX11_note_142 : decode cX11_note 142 = .ok (.iload_n 2, 1) := by decide +kernel
theorem dX11_note_143 : decode cX11_note 143 = .ok (.if_icmp .lt 19, 3) := by decide +kernel
theorem dX11_note_146 : decode cX11_note 146 = .ok (.iload 5, 2) := by decide +kernel
theorem dX11_note_148 : decode cX11_note 148 = .ok (.iload_n 3, 1) := by decide +kernel
theorem dX11_note_149 : decode cX11_note 149 = .ok (.if_icmp .ge 13, 3) := by decide +kernel
theorem dX11_note_152 : decode cX11_note 152 = .ok (.iload 6, 2) := by decide +kernel
theorem dX11_note_154 : decode cX11_note 154 = .ok (.bipush 6, 2) := by decide +kernel
theorem dX11_note_156 : decode cX11_note 156 = .ok (.if_icmp .lt 6, 3) := by decide +kernel
theorem dX11_note_159 : decode cX11_note 159 = .ok (.bipush (-3), 2) := by decide +kernel
theorem dX11_note_161 : decode cX11_note 161 = .ok (.ireturn, 1) := by decide +kernel
theorem dX11_note_162 : decode cX11_note 162 = .ok (.iinc 4 1, 3) := by decide +kernel
theorem dX11_note_165 : decode cX11_note 165 = .ok (.goto (-111), 3) := by decide +kernel
theorem dX11_note_168 : decode cX11_note 168 = .ok (.aload_n 0, 1) := by decide +kernel
theorem dX11_note_169 : decode cX11_note 169 = .ok (.getfield 7, 3) := by decide +kernel
theorem dX11_note_172 : decode cX11_note 172 = .ok (.aload_n 0, 1) := by decide +kernel
theorem dX11_note_173 : decode cX11_note 173 = .ok (.getfield 150, 3) := by decide +kernel
theorem dX11_note_176 : decode cX11_note 176 = .ok (.iload_n 1, 1) := by decide +kernel
theorem dX11_note_177 : decode cX11_note 177 = .ok (.iastore, 1) := by decide +kernel
theorem dX11_note_178 : decode cX11_note 178 = .ok (.aload_n 0, 1) := by decide +kernel
theorem dX11_note_179 : decode cX11_note 179 = .ok (.getfield 13, 3) := by decide +kernel
theorem dX11_note_182 : decode cX11_note 182 = .ok (.aload_n 0, 1) := by decide +kernel
theorem dX11_note_183 : decode cX11_note 183 = .ok (.getfield 150, 3) := by decide +kernel
theorem dX11_note_186 : decode cX11_note 186 = .ok (.iload_n 2, 1) := by decide +kernel
theorem dX11_note_187 : decode cX11_note 187 = .ok (.iastore, 1) := by decide +kernel
theorem dX11_note_188 : decode cX11_note 188 = .ok (.aload_n 0, 1) := by decide +kernel
theorem dX11_note_189 : decode cX11_note 189 = .ok (.getfield 16, 3) := by decide +kernel
theorem dX11_note_192 : decode cX11_note 192 = .ok (.aload_n 0, 1) := by decide +kernel
theorem dX11_note_193 : decode cX11_note 193 = .ok (.getfield 150, 3) := by decide +kernel
theorem dX11_note_196 : decode cX11_note 196 = .ok (.iload_n 3, 1) := by decide +kernel
theorem dX11_note_197 : decode cX11_note 197 = .ok (.iastore, 1) := by decide +kernel
theorem dX11_note_198 : decode cX11_note 198 = .ok (.aload_n 0, 1) := by decide +kernel
theorem dX11_note_199 : decode cX11_note 199 = .ok (.getfield 19, 3) := by decide +kernel
theorem dX11_note_202 : decode cX11_note 202 = .ok (.aload_n 0, 1) := by decide +kernel
theorem dX11_note_203 : decode cX11_note 203 = .ok (.getfield 150, 3) := by decide +kernel
theorem dX11_note_206 : decode cX11_note 206 = .ok (.iconst 0, 1) := by decide +kernel
theorem dX11_note_207 : decode cX11_note 207 = .ok (.bastore, 1) := by decide +kernel
theorem dX11_note_208 : decode cX11_note 208 = .ok (.aload_n 0, 1) := by decide +kernel
theorem dX11_note_209 : decode cX11_note 209 = .ok (.dup, 1) := by decide +kernel
theorem dX11_note_210 : decode cX11_note 210 = .ok (.getfield 150, 3) := by decide +kernel
theorem dX11_note_213 : decode cX11_note 213 = .ok (.iconst 1, 1) := by decide +kernel
theorem dX11_note_214 : decode cX11_note 214 = .ok (.iadd, 1) := by decide +kernel
theorem dX11_note_215 : decode cX11_note 215 = .ok (.putfield 150, 3) := by decide +kernel
theorem dX11_note_218 : decode cX11_note 218 = .ok (.aload_n 0, 1) := by decide +kernel
theorem dX11_note_219 : decode cX11_note 219 = .ok (.invokevirtual 136, 3) := by decide +kernel
theorem dX11_note_222 : decode cX11_note 222 = .ok (.aload_n 0, 1) := by decide +kernel
theorem dX11_note_223 : decode cX11_note 223 = .ok (.getfield 150, 3) := by decide +kernel
theorem dX11_note_226 : decode cX11_note 226 = .ok (.iconst 1, 1) := by decide +kernel
theorem dX11_note_227 : decode cX11_note 227 = .ok (.isub, 1) := by decide +kernel
theorem dX11_note_228 : decode cX11_note 228 = .ok (.ireturn, 1) := by decide +kernel
theorem dX11_clear_0 : decode cX11_clear 0 = .ok (.aload_n 0, 1) := by decide +kernel
theorem dX11_clear_1 : decode cX11_clear 1 = .ok (.getfield 150, 3) := by decide +kernel
theorem dX11_clear_4 : decode cX11_clear 4 = .ok (.istore_n 1, 1) := by decide +kernel
theorem dX11_clear_5 : decode cX11_clear 5 = .ok (.aload_n 0, 1) := by decide +kernel
theorem dX11_clear_6 : decode cX11_clear 6 = .ok (.iconst 0, 1) := by decide +kernel
theorem dX11_clear_7 : decode cX11_clear 7 = .ok (.putfield 150, 3) := by decide +kernel
theorem dX11_clear_10 : decode cX11_clear 10 = .ok (.aload_n 0, 1) := by decide +kernel
theorem dX11_clear_11 : decode cX11_clear 11 = .ok (.invokevirtual 136, 3) := by decide +kernel
theorem dX11_clear_14 : decode cX11_clear 14 = .ok (.iload_n 1, 1) := by decide +kernel
theorem dX11_clear_15 : decode cX11_clear 15 = .ok (.ireturn, 1) := by decide +kernel
theorem dX11_bind_0 : decode cX11_bind 0 = .ok (.aload_n 0, 1) := by decide +kernel
theorem dX11_bind_1 : decode cX11_bind 1 = .ok (.iload_n 1, 1) := by decide +kernel
theorem dX11_bind_2 : decode cX11_bind 2 = .ok (.invokevirtual 188, 3) := by decide +kernel
theorem dX11_bind_5 : decode cX11_bind 5 = .ok (.ifCond .ne 5, 3) := by decide +kernel
theorem dX11_bind_8 : decode cX11_bind 8 = .ok (.iconst (-1), 1) := by decide +kernel
theorem dX11_bind_9 : decode cX11_bind 9 = .ok (.ireturn, 1) := by decide +kernel
theorem dX11_bind_10 : decode cX11_bind 10 = .ok (.aload_n 0, 1) := by decide +kernel
theorem dX11_bind_11 : decode cX11_bind 11 = .ok (.getfield 19, 3) := by decide +kernel
theorem dX11_bind_14 : decode cX11_bind 14 = .ok (.iload_n 1, 1) := by decide +kernel
theorem dX11_bind_15 : decode cX11_bind 15 = .ok (.baload, 1) := by decide +kernel
theorem dX11_bind_16 : decode cX11_bind 16 = .ok (.ifCond .eq 7, 3) := by decide +kernel
theorem dX11_bind_19 : decode cX11_bind 19 = .ok (.iconst 1, 1) := by decide +kernel
theorem dX11_bind_20 : decode cX11_bind 20 = .ok (.goto 4, 3) := by decide +kernel
theorem dX11_bind_23 : decode cX11_bind 23 = .ok (.iconst 0, 1) := by decide +kernel
theorem dX11_bind_24 : decode cX11_bind 24 = .ok (.istore_n 3, 1) := by decide +kernel
theorem dX11_bind_25 : decode cX11_bind 25 = .ok (.aload_n 0, 1) := by decide +kernel
theorem dX11_bind_26 : decode cX11_bind 26 = .ok (.getfield 19, 3) := by decide +kernel
theorem dX11_bind_29 : decode cX11_bind 29 = .ok (.iload_n 1, 1) := by decide +kernel
theorem dX11_bind_30 : decode cX11_bind 30 = .ok (.iload_n 2, 1) := by decide +kernel
theorem dX11_bind_31 : decode cX11_bind 31 = .ok (.bastore, 1) := by decide +kernel
theorem dX11_bind_32 : decode cX11_bind 32 = .ok (.aload_n 0, 1) := by decide +kernel
theorem dX11_bind_33 : decode cX11_bind 33 = .ok (.invokevirtual 136, 3) := by decide +kernel
theorem dX11_bind_36 : decode cX11_bind 36 = .ok (.iload_n 3, 1) := by decide +kernel
theorem dX11_bind_37 : decode cX11_bind 37 = .ok (.ireturn, 1) := by decide +kernel
theorem dX11_ratio_0 : decode cX11_ratio 0 = .ok (.aload_n 0, 1) := by decide +kernel
theorem dX11_ratio_1 : decode cX11_ratio 1 = .ok (.iload_n 1, 1) := by decide +kernel
theorem dX11_ratio_2 : decode cX11_ratio 2 = .ok (.iconst 0, 1) := by decide +kernel
theorem dX11_ratio_3 : decode cX11_ratio 3 = .ok (.bipush 11, 2) := by decide +kernel
theorem dX11_ratio_5 : decode cX11_ratio 5 = .ok (.invokevirtual 180, 3) := by decide +kernel
theorem dX11_ratio_8 : decode cX11_ratio 8 = .ok (.ifCond .eq 39, 3) := by decide +kernel
theorem dX11_ratio_11 : decode cX11_ratio 11 = .ok (.aload_n 0, 1) := by decide +kernel
theorem dX11_ratio_12 : decode cX11_ratio 12 = .ok (.iload_n 2, 1) := by decide +kernel
theorem dX11_ratio_13 : decode cX11_ratio 13 = .ok (.iconst 1, 1) := by decide +kernel
theorem dX11_ratio_14 : decode cX11_ratio 14 = .ok (.sipush 9999, 3) := by decide +kernel
theorem dX11_ratio_17 : decode cX11_ratio 17 = .ok (.invokevirtual 180, 3) := by decide +kernel
theorem dX11_ratio_20 : decode cX11_ratio 20 = .ok (.ifCond .eq 27, 3) := by decide +kernel
theorem dX11_ratio_23 : decode cX11_ratio 23 = .ok (.aload_n 0, 1) := by decide +kernel
theorem dX11_ratio_24 : decode cX11_ratio 24 = .ok (.iload_n 3, 1) := by decide +kernel
theorem dX11_ratio_25 : decode cX11_ratio 25 = .ok (.iconst 1, 1) := by decide +kernel
theorem dX11_ratio_26 : decode cX11_ratio 26 = .ok (.sipush 9999, 3) := by decide +kernel
theorem dX11_ratio_29 : decode cX11_ratio 29 = .ok (.invokevirtual 180, 3) := by decide +kernel
theorem dX11_ratio_32 : decode cX11_ratio 32 = .ok (.ifCond .eq 15, 3) := by decide +kernel
theorem dX11_ratio_35 : decode cX11_ratio 35 = .ok (.iload_n 2, 1) := by decide +kernel
theorem dX11_ratio_36 : decode cX11_ratio 36 = .ok (.iload_n 3, 1) := by decide +kernel
theorem dX11_ratio_37 : decode cX11_ratio 37 = .ok (.if_icmp .lt 10, 3) := by decide +kernel
theorem dX11_ratio_40 : decode cX11_ratio 40 = .ok (.iload_n 2, 1) := by decide +kernel
theorem dX11_ratio_41 : decode cX11_ratio 41 = .ok (.iconst 2, 1) := by decide +kernel
theorem dX11_ratio_42 : decode cX11_ratio 42 = .ok (.iload_n 3, 1) := by decide +kernel
theorem dX11_ratio_43 : decode cX11_ratio 43 = .ok (.imul, 1) := by decide +kernel
theorem dX11_ratio_44 : decode cX11_ratio 44 = .ok (.if_icmp .lt 5, 3) := by decide +kernel
theorem dX11_ratio_47 : decode cX11_ratio 47 = .ok (.iconst (-1), 1) := by decide +kernel
theorem dX11_ratio_48 : decode cX11_ratio 48 = .ok (.ireturn, 1) := by decide +kernel
theorem dX11_ratio_49 : decode cX11_ratio 49 = .ok (.iload_n 2, 1) := by decide +kernel
theorem dX11_ratio_50 : decode cX11_ratio 50 = .ok (.istore 4, 2) := by decide +kernel
theorem dX11_ratio_52 : decode cX11_ratio 52 = .ok (.iload_n 3, 1) := by decide +kernel
theorem dX11_ratio_53 : decode cX11_ratio 53 = .ok (.istore 5, 2) := by decide +kernel
theorem dX11_ratio_55 : decode cX11_ratio 55 = .ok (.iconst 0, 1) := by decide +kernel
theorem dX11_ratio_56 : decode cX11_ratio 56 = .ok (.istore 6, 2) := by decide +kernel
theorem dX11_ratio_58 : decode cX11_ratio 58 = .ok (.iload 6, 2) := by decide +kernel
theorem dX11_ratio_60 : decode cX11_ratio 60 = .ok (.bipush 6, 2) := by decide +kernel
theorem dX11_ratio_62 : decode cX11_ratio 62 = .ok (.if_icmp .ge 72, 3) := by decide +kernel
theorem dX11_ratio_65 : decode cX11_ratio 65 = .ok (.aload_n 0, 1) := by decide +kernel
theorem dX11_ratio_66 : decode cX11_ratio 66 = .ok (.getfield 35, 3) := by decide +kernel
theorem dX11_ratio_69 : decode cX11_ratio 69 = .ok (.iload 6, 2) := by decide +kernel
theorem dX11_ratio_71 : decode cX11_ratio 71 = .ok (.iaload, 1) := by decide +kernel
theorem dX11_ratio_72 : decode cX11_ratio 72 = .ok (.istore 7, 2) := by decide +kernel
theorem dX11_ratio_74 : decode cX11_ratio 74 = .ok (.iload 4, 2) := by decide +kernel
theorem dX11_ratio_76 : decode cX11_ratio 76 = .ok (.iload 7, 2) := by decide +kernel
theorem dX11_ratio_78 : decode cX11_ratio 78 = .ok (.irem, 1) := by decide +kernel
theorem dX11_ratio_79 : decode cX11_ratio 79 = .ok (.ifCond .ne 13, 3) := by decide +kernel
theorem dX11_ratio_82 : decode cX11_ratio 82 = .ok (.iload 5, 2) := by decide +kernel
theorem dX11_ratio_84 : decode cX11_ratio 84 = .ok (.iload 7, 2) := by decide +kernel
theorem dX11_ratio_86 : decode cX11_ratio 86 = .ok (.irem, 1) := by decide +kernel
theorem dX11_ratio_87 : decode cX11_ratio 87 = .ok (.ifCond .ne 5, 3) := by decide +kernel
theorem dX11_ratio_90 : decode cX11_ratio 90 = .ok (.iconst (-1), 1) := by decide +kernel
theorem dX11_ratio_91 : decode cX11_ratio 91 = .ok (.ireturn, 1) := by decide +kernel
theorem dX11_ratio_92 : decode cX11_ratio 92 = .ok (.iload 4, 2) := by decide +kernel
theorem dX11_ratio_94 : decode cX11_ratio 94 = .ok (.iload 7, 2) := by decide +kernel
theorem dX11_ratio_96 : decode cX11_ratio 96 = .ok (.irem, 1) := by decide +kernel
theorem dX11_ratio_97 : decode cX11_ratio 97 = .ok (.ifCond .ne 13, 3) := by decide +kernel
theorem dX11_ratio_100 : decode cX11_ratio 100 = .ok (.iload 4, 2) := by decide +kernel
theorem dX11_ratio_102 : decode cX11_ratio 102 = .ok (.iload 7, 2) := by decide +kernel
theorem dX11_ratio_104 : decode cX11_ratio 104 = .ok (.idiv, 1) := by decide +kernel
theorem dX11_ratio_105 : decode cX11_ratio 105 = .ok (.istore 4, 2) := by decide +kernel
theorem dX11_ratio_107 : decode cX11_ratio 107 = .ok (.goto (-15), 3) := by decide +kernel
theorem dX11_ratio_110 : decode cX11_ratio 110 = .ok (.iload 5, 2) := by decide +kernel
theorem dX11_ratio_112 : decode cX11_ratio 112 = .ok (.iload 7, 2) := by decide +kernel
theorem dX11_ratio_114 : decode cX11_ratio 114 = .ok (.irem, 1) := by decide +kernel
theorem dX11_ratio_115 : decode cX11_ratio 115 = .ok (.ifCond .ne 13, 3) := by decide +kernel
theorem dX11_ratio_118 : decode cX11_ratio 118 = .ok (.iload 5, 2) := by decide +kernel
theorem dX11_ratio_120 : decode cX11_ratio 120 = .ok (.iload 7, 2) := by decide +kernel
theorem dX11_ratio_122 : decode cX11_ratio 122 = .ok (.idiv, 1) := by decide +kernel
theorem dX11_ratio_123 : decode cX11_ratio 123 = .ok (.istore 5, 2) := by decide +kernel
theorem dX11_ratio_125 : decode cX11_ratio 125 = .ok (.goto (-15), 3) := by decide +kernel
theorem dX11_ratio_128 : decode cX11_ratio 128 = .ok (.iinc 6 1, 3) := by decide +kernel
theorem dX11_ratio_131 : decode cX11_ratio 131 = .ok (.goto (-73), 3) := by decide +kernel
theorem dX11_ratio_134 : decode cX11_ratio 134 = .ok (.iload 4, 2) := by decide +kernel
theorem dX11_ratio_136 : decode cX11_ratio 136 = .ok (.iconst 1, 1) := by decide +kernel
theorem dX11_ratio_137 : decode cX11_ratio 137 = .ok (.if_icmp .ne 9, 3) := by decide +kernel
theorem dX11_ratio_140 : decode cX11_ratio 140 = .ok (.iload 5, 2) := by decide +kernel
theorem dX11_ratio_142 : decode cX11_ratio 142 = .ok (.iconst 1, 1) := by decide +kernel
theorem dX11_ratio_143 : decode cX11_ratio 143 = .ok (.if_icmp .eq 5, 3) := by decide +kernel
theorem dX11_ratio_146 : decode cX11_ratio 146 = .ok (.iconst (-1), 1) := by decide +kernel
theorem dX11_ratio_147 : decode cX11_ratio 147 = .ok (.ireturn, 1) := by decide +kernel
theorem dX11_ratio_148 : decode cX11_ratio 148 = .ok (.iconst 0, 1) := by decide +kernel
theorem dX11_ratio_149 : decode cX11_ratio 149 = .ok (.istore 6, 2) := by decide +kernel
theorem dX11_ratio_151 : decode cX11_ratio 151 = .ok (.iload 6, 2) := by decide +kernel
theorem dX11_ratio_153 : decode cX11_ratio 153 = .ok (.aload_n 0, 1) := by decide +kernel
theorem dX11_ratio_154 : decode cX11_ratio 154 = .ok (.getfield 23, 3) := by decide +kernel
theorem dX11_ratio_157 : decode cX11_ratio 157 = .ok (.iload_n 1, 1) := by decide +kernel
theorem dX11_ratio_158 : decode cX11_ratio 158 = .ok (.iaload, 1) := by decide +kernel
theorem dX11_ratio_159 : decode cX11_ratio 159 = .ok (.if_icmp .ge 41, 3) := by decide +kernel
theorem dX11_ratio_162 : decode cX11_ratio 162 = .ok (.aload_n 0, 1) := by decide +kernel
theorem dX11_ratio_163 : decode cX11_ratio 163 = .ok (.getfield 26, 3) := by decide +kernel
theorem dX11_ratio_166 : decode cX11_ratio 166 = .ok (.iconst 3, 1) := by decide +kernel
theorem dX11_ratio_167 : decode cX11_ratio 167 = .ok (.iload_n 1, 1) := by decide +kernel
theorem dX11_ratio_168 : decode cX11_ratio 168 = .ok (.imul, 1) := by decide +kernel
theorem dX11_ratio_169 : decode cX11_ratio 169 = .ok (.iload 6, 2) := by decide +kernel
theorem dX11_ratio_171 : decode cX11_ratio 171 = .ok (.iadd, 1) := by decide +kernel
theorem dX11_ratio_172 : decode cX11_ratio 172 = .ok (.iaload, 1) := by decide +kernel
theorem dX11_ratio_173 : decode cX11_ratio 173 = .ok (.iload_n 2, 1) := by decide +kernel
theorem dX11_ratio_174 : decode cX11_ratio 174 = .ok (.if_icmp .ne 20, 3) := by decide +kernel
theorem dX11_ratio_177 : decode cX11_ratio 177 = .ok (.aload_n 0, 1) := by decide +kernel
theorem dX11_ratio_178 : decode cX11_ratio 178 = .ok (.getfield 29, 3) := by decide +kernel
theorem dX11_ratio_181 : decode cX11_ratio 181 = .ok (.iconst 3, 1) := by decide +kernel
theorem dX11_ratio_182 : decode cX11_ratio 182 = .ok (.iload_n 1, 1) := by decide +kernel
theorem dX11_ratio_183 : decode cX11_ratio 183 = .ok (.imul, 1) := by decide +kernel
theorem dX11_ratio_184 : decode cX11_ratio 184 = .ok (.iload 6, 2) := by decide +kernel
theorem dX11_ratio_186 : decode cX11_ratio 186 = .ok (.iadd, 1) := by decide +kernel
theorem dX11_ratio_187 : decode cX11_ratio 187 = .ok (.iaload, 1) := by decide +kernel
theorem dX11_ratio_188 : decode cX11_ratio 188 = .ok (.iload_n 3, 1) := by decide +kernel
theorem dX11_ratio_189 : decode cX11_ratio 189 = .ok (.if_icmp .ne 5, 3) := by decide +kernel
theorem dX11_ratio_192 : decode cX11_ratio 192 = .ok (.iconst (-1), 1) := by decide +kernel
theorem dX11_ratio_193 : decode cX11_ratio 193 = .ok (.ireturn, 1) := by decide +kernel
theorem dX11_ratio_194 : decode cX11_ratio 194 = .ok (.iinc 6 1, 3) := by decide +kernel
theorem dX11_ratio_197 : decode cX11_ratio 197 = .ok (.goto (-46), 3) := by decide +kernel
theorem dX11_ratio_200 : decode cX11_ratio 200 = .ok (.aload_n 0, 1) := by decide +kernel
theorem dX11_ratio_201 : decode cX11_ratio 201 = .ok (.getfield 23, 3) := by decide +kernel
theorem dX11_ratio_204 : decode cX11_ratio 204 = .ok (.iload_n 1, 1) := by decide +kernel
theorem dX11_ratio_205 : decode cX11_ratio 205 = .ok (.iaload, 1) := by decide +kernel
theorem dX11_ratio_206 : decode cX11_ratio 206 = .ok (.iconst 3, 1) := by decide +kernel
theorem dX11_ratio_207 : decode cX11_ratio 207 = .ok (.if_icmp .ne 6, 3) := by decide +kernel
theorem dX11_ratio_210 : decode cX11_ratio 210 = .ok (.bipush (-3), 2) := by decide +kernel
theorem dX11_ratio_212 : decode cX11_ratio 212 = .ok (.ireturn, 1) := by decide +kernel
theorem dX11_ratio_213 : decode cX11_ratio 213 = .ok (.aload_n 0, 1) := by decide +kernel
theorem dX11_ratio_214 : decode cX11_ratio 214 = .ok (.iload_n 1, 1) := by decide +kernel
theorem dX11_ratio_215 : decode cX11_ratio 215 = .ok (.iload_n 2, 1) := by decide +kernel
theorem dX11_ratio_216 : decode cX11_ratio 216 = .ok (.iload_n 3, 1) := by decide +kernel
theorem dX11_ratio_217 : decode cX11_ratio 217 = .ok (.invokevirtual 132, 3) := by decide +kernel
theorem dX11_ratio_220 : decode cX11_ratio 220 = .ok (.aload_n 0, 1) := by decide +kernel
theorem dX11_ratio_221 : decode cX11_ratio 221 = .ok (.invokevirtual 136, 3) := by decide +kernel
theorem dX11_ratio_224 : decode cX11_ratio 224 = .ok (.aload_n 0, 1) := by decide +kernel
theorem dX11_ratio_225 : decode cX11_ratio 225 = .ok (.getfield 23, 3) := by decide +kernel
theorem dX11_ratio_228 : decode cX11_ratio 228 = .ok (.iload_n 1, 1) := by decide +kernel
theorem dX11_ratio_229 : decode cX11_ratio 229 = .ok (.iaload, 1) := by decide +kernel
theorem dX11_ratio_230 : decode cX11_ratio 230 = .ok (.iconst 1, 1) := by decide +kernel
theorem dX11_ratio_231 : decode cX11_ratio 231 = .ok (.isub, 1) := by decide +kernel
theorem dX11_ratio_232 : decode cX11_ratio 232 = .ok (.ireturn, 1) := by decide +kernel
theorem dX11_empty_0 : decode cX11_empty 0 = .ok (.aload_n 0, 1) := by decide +kernel
theorem dX11_empty_1 : decode cX11_empty 1 = .ok (.iload_n 1, 1) := by decide +kernel
theorem dX11_empty_2 : decode cX11_empty 2 = .ok (.iconst 0, 1) := by decide +kernel
theorem dX11_empty_3 : decode cX11_empty 3 = .ok (.bipush 11, 2) := by decide +kernel
theorem dX11_empty_5 : decode cX11_empty 5 = .ok (.invokevirtual 180, 3) := by decide +kernel
theorem dX11_empty_8 : decode cX11_empty 8 = .ok (.ifCond .ne 5, 3) := by decide +kernel
theorem dX11_empty_11 : decode cX11_empty 11 = .ok (.iconst (-1), 1) := by decide +kernel
theorem dX11_empty_12 : decode cX11_empty 12 = .ok (.ireturn, 1) := by decide +kernel
theorem dX11_empty_13 : decode cX11_empty 13 = .ok (.aload_n 0, 1) := by decide +kernel
theorem dX11_empty_14 : decode cX11_empty 14 = .ok (.getfield 23, 3) := by decide +kernel
theorem dX11_empty_17 : decode cX11_empty 17 = .ok (.iload_n 1, 1) := by decide +kernel
theorem dX11_empty_18 : decode cX11_empty 18 = .ok (.iaload, 1) := by decide +kernel
theorem dX11_empty_19 : decode cX11_empty 19 = .ok (.istore_n 2, 1) := by decide +kernel
theorem dX11_empty_20 : decode cX11_empty 20 = .ok (.aload_n 0, 1) := by decide +kernel
theorem dX11_empty_21 : decode cX11_empty 21 = .ok (.getfield 23, 3) := by decide +kernel
theorem dX11_empty_24 : decode cX11_empty 24 = .ok (.iload_n 1, 1) := by decide +kernel
theorem dX11_empty_25 : decode cX11_empty 25 = .ok (.iconst 0, 1) := by decide +kernel
theorem dX11_empty_26 : decode cX11_empty 26 = .ok (.iastore, 1) := by decide +kernel
theorem dX11_empty_27 : decode cX11_empty 27 = .ok (.aload_n 0, 1) := by decide +kernel
theorem dX11_empty_28 : decode cX11_empty 28 = .ok (.invokevirtual 136, 3) := by decide +kernel
theorem dX11_empty_31 : decode cX11_empty 31 = .ok (.iload_n 2, 1) := by decide +kernel
theorem dX11_empty_32 : decode cX11_empty 32 = .ok (.ireturn, 1) := by decide +kernel
theorem dX11_weight_0 : decode cX11_weight 0 = .ok (.aload_n 0, 1) := by decide +kernel
theorem dX11_weight_1 : decode cX11_weight 1 = .ok (.iload_n 1, 1) := by decide +kernel
theorem dX11_weight_2 : decode cX11_weight 2 = .ok (.iconst 0, 1) := by decide +kernel
theorem dX11_weight_3 : decode cX11_weight 3 = .ok (.iconst 4, 1) := by decide +kernel
theorem dX11_weight_4 : decode cX11_weight 4 = .ok (.invokevirtual 180, 3) := by decide +kernel
theorem dX11_weight_7 : decode cX11_weight 7 = .ok (.ifCond .eq 23, 3) := by decide +kernel
theorem dX11_weight_10 : decode cX11_weight 10 = .ok (.aload_n 0, 1) := by decide +kernel
theorem dX11_weight_11 : decode cX11_weight 11 = .ok (.iload_n 2, 1) := by decide +kernel
theorem dX11_weight_12 : decode cX11_weight 12 = .ok (.iconst 0, 1) := by decide +kernel
theorem dX11_weight_13 : decode cX11_weight 13 = .ok (.iload_n 1, 1) := by decide +kernel
theorem dX11_weight_14 : decode cX11_weight 14 = .ok (.ifCond .ne 8, 3) := by decide +kernel
theorem dX11_weight_17 : decode cX11_weight 17 = .ok (.ldc 191, 2) := by decide +kernel
theorem dX11_weight_19 : decode cX11_weight 19 = .ok (.goto 5, 3) := by decide +kernel
theorem dX11_weight_22 : decode cX11_weight 22 = .ok (.bipush 99, 2) := by decide +kernel
theorem dX11_weight_24 : decode cX11_weight 24 = .ok (.invokevirtual 180, 3) := by decide +kernel
theorem dX11_weight_27 : decode cX11_weight 27 = .ok (.ifCond .ne 5, 3) := by decide +kernel
theorem dX11_weight_30 : decode cX11_weight 30 = .ok (.iconst (-1), 1) := by decide +kernel
theorem dX11_weight_31 : decode cX11_weight 31 = .ok (.ireturn, 1) := by decide +kernel
theorem dX11_weight_32 : decode cX11_weight 32 = .ok (.aload_n 0, 1) := by decide +kernel
theorem dX11_weight_33 : decode cX11_weight 33 = .ok (.getfield 48, 3) := by decide +kernel
theorem dX11_weight_36 : decode cX11_weight 36 = .ok (.iload_n 1, 1) := by decide +kernel
theorem dX11_weight_37 : decode cX11_weight 37 = .ok (.iaload, 1) := by decide +kernel
theorem dX11_weight_38 : decode cX11_weight 38 = .ok (.istore_n 3, 1) := by decide +kernel
theorem dX11_weight_39 : decode cX11_weight 39 = .ok (.aload_n 0, 1) := by decide +kernel
theorem dX11_weight_40 : decode cX11_weight 40 = .ok (.getfield 48, 3) := by decide +kernel
theorem dX11_weight_43 : decode cX11_weight 43 = .ok (.iload_n 1, 1) := by decide +kernel
theorem dX11_weight_44 : decode cX11_weight 44 = .ok (.iload_n 2, 1) := by decide +kernel
theorem dX11_weight_45 : decode cX11_weight 45 = .ok (.iastore, 1) := by decide +kernel
theorem dX11_weight_46 : decode cX11_weight 46 = .ok (.aload_n 0, 1) := by decide +kernel
theorem dX11_weight_47 : decode cX11_weight 47 = .ok (.invokevirtual 136, 3) := by decide +kernel
theorem dX11_weight_50 : decode cX11_weight 50 = .ok (.iload_n 3, 1) := by decide +kernel
theorem dX11_weight_51 : decode cX11_weight 51 = .ok (.ireturn, 1) := by decide +kernel
theorem dX11_sets_0 : decode cX11_sets 0 = .ok (.aload_n 0, 1) := by decide +kernel
theorem dX11_sets_1 : decode cX11_sets 1 = .ok (.getfield 154, 3) := by decide +kernel
theorem dX11_sets_4 : decode cX11_sets 4 = .ok (.ireturn, 1) := by decide +kernel
theorem dX11_set_0 : decode cX11_set 0 = .ok (.aload_n 0, 1) := by decide +kernel
theorem dX11_set_1 : decode cX11_set 1 = .ok (.iload_n 1, 1) := by decide +kernel
theorem dX11_set_2 : decode cX11_set 2 = .ok (.invokevirtual 184, 3) := by decide +kernel
theorem dX11_set_5 : decode cX11_set 5 = .ok (.ifCond .eq 13, 3) := by decide +kernel
theorem dX11_set_8 : decode cX11_set 8 = .ok (.aload_n 0, 1) := by decide +kernel
theorem dX11_set_9 : decode cX11_set 9 = .ok (.iload_n 2, 1) := by decide +kernel
theorem dX11_set_10 : decode cX11_set 10 = .ok (.iconst 0, 1) := by decide +kernel
theorem dX11_set_11 : decode cX11_set 11 = .ok (.iconst 4, 1) := by decide +kernel
theorem dX11_set_12 : decode cX11_set 12 = .ok (.invokevirtual 180, 3) := by decide +kernel
theorem dX11_set_15 : decode cX11_set 15 = .ok (.ifCond .ne 5, 3) := by decide +kernel
theorem dX11_set_18 : decode cX11_set 18 = .ok (.iconst (-1), 1) := by decide +kernel
theorem dX11_set_19 : decode cX11_set 19 = .ok (.ireturn, 1) := by decide +kernel
theorem dX11_set_20 : decode cX11_set 20 = .ok (.iload_n 2, 1) := by decide +kernel
theorem dX11_set_21 : decode cX11_set 21 = .ok (.ifCond .ne 12, 3) := by decide +kernel
theorem dX11_set_24 : decode cX11_set 24 = .ok (.aload_n 0, 1) := by decide +kernel
theorem dX11_set_25 : decode cX11_set 25 = .ok (.getfield 51, 3) := by decide +kernel
theorem dX11_set_28 : decode cX11_set 28 = .ok (.iload_n 1, 1) := by decide +kernel
theorem dX11_set_29 : decode cX11_set 29 = .ok (.iaload, 1) := by decide +kernel
theorem dX11_set_30 : decode cX11_set 30 = .ok (.goto 51, 3) := by decide +kernel
theorem dX11_set_33 : decode cX11_set 33 = .ok (.iload_n 2, 1) := by decide +kernel
theorem dX11_set_34 : decode cX11_set 34 = .ok (.iconst 1, 1) := by decide +kernel
theorem dX11_set_35 : decode cX11_set 35 = .ok (.if_icmp .ne 12, 3) := by decide +kernel
theorem dX11_set_38 : decode cX11_set 38 = .ok (.aload_n 0, 1) := by decide +kernel
theorem dX11_set_39 : decode cX11_set 39 = .ok (.getfield 54, 3) := by decide +kernel
theorem dX11_set_42 : decode cX11_set 42 = .ok (.iload_n 1, 1) := by decide +kernel
theorem dX11_set_43 : decode cX11_set 43 = .ok (.iaload, 1) := by decide +kernel
theorem dX11_set_44 : decode cX11_set 44 = .ok (.goto 37, 3) := by decide +kernel
theorem dX11_set_47 : decode cX11_set 47 = .ok (.iload_n 2, 1) := by decide +kernel
theorem dX11_set_48 : decode cX11_set 48 = .ok (.iconst 2, 1) := by decide +kernel
theorem dX11_set_49 : decode cX11_set 49 = .ok (.if_icmp .ne 12, 3) := by decide +kernel
theorem dX11_set_52 : decode cX11_set 52 = .ok (.aload_n 0, 1) := by decide +kernel
theorem dX11_set_53 : decode cX11_set 53 = .ok (.getfield 60, 3) := by decide +kernel
theorem dX11_set_56 : decode cX11_set 56 = .ok (.iload_n 1, 1) := by decide +kernel
theorem dX11_set_57 : decode cX11_set 57 = .ok (.iaload, 1) := by decide +kernel
theorem dX11_set_58 : decode cX11_set 58 = .ok (.goto 23, 3) := by decide +kernel
theorem dX11_set_61 : decode cX11_set 61 = .ok (.iload_n 2, 1) := by decide +kernel
theorem dX11_set_62 : decode cX11_set 62 = .ok (.iconst 3, 1) := by decide +kernel
theorem dX11_set_63 : decode cX11_set 63 = .ok (.if_icmp .ne 12, 3) := by decide +kernel
theorem dX11_set_66 : decode cX11_set 66 = .ok (.aload_n 0, 1) := by decide +kernel
theorem dX11_set_67 : decode cX11_set 67 = .ok (.getfield 63, 3) := by decide +kernel
theorem dX11_set_70 : decode cX11_set 70 = .ok (.iload_n 1, 1) := by decide +kernel
theorem dX11_set_71 : decode cX11_set 71 = .ok (.iaload, 1) := by decide +kernel
theorem dX11_set_72 : decode cX11_set 72 = .ok (.goto 9, 3) := by decide +kernel
theorem dX11_set_75 : decode cX11_set 75 = .ok (.aload_n 0, 1) := by decide +kernel
theorem dX11_set_76 : decode cX11_set 76 = .ok (.getfield 66, 3) := by decide +kernel
theorem dX11_set_79 : decode cX11_set 79 = .ok (.iload_n 1, 1) := by decide +kernel
theorem dX11_set_80 : decode cX11_set 80 = .ok (.iaload, 1) := by decide +kernel
theorem dX11_set_81 : decode cX11_set 81 = .ok (.ireturn, 1) := by decide +kernel
theorem dX11_sounds_0 : decode cX11_sounds 0 = .ok (.aload_n 0, 1) := by decide +kernel
theorem dX11_sounds_1 : decode cX11_sounds 1 = .ok (.iload_n 1, 1) := by decide +kernel
theorem dX11_sounds_2 : decode cX11_sounds 2 = .ok (.invokevirtual 184, 3) := by decide +kernel
theorem dX11_sounds_5 : decode cX11_sounds 5 = .ok (.ifCond .eq 11, 3) := by decide +kernel
theorem dX11_sounds_8 : decode cX11_sounds 8 = .ok (.aload_n 0, 1) := by decide +kernel
theorem dX11_sounds_9 : decode cX11_sounds 9 = .ok (.iload_n 2, 1) := by decide +kernel
theorem dX11_sounds_10 : decode cX11_sounds 10 = .ok (.invokevirtual 188, 3) := by decide +kernel
theorem dX11_sounds_13 : decode cX11_sounds 13 = .ok (.ifCond .ne 5, 3) := by decide +kernel
theorem dX11_sounds_16 : decode cX11_sounds 16 = .ok (.iconst (-1), 1) := by decide +kernel
theorem dX11_sounds_17 : decode cX11_sounds 17 = .ok (.ireturn, 1) := by decide +kernel
theorem dX11_sounds_18 : decode cX11_sounds 18 = .ok (.aload_n 0, 1) := by decide +kernel
theorem dX11_sounds_19 : decode cX11_sounds 19 = .ok (.iload_n 1, 1) := by decide +kernel
theorem dX11_sounds_20 : decode cX11_sounds 20 = .ok (.iload_n 2, 1) := by decide +kernel
theorem dX11_sounds_21 : decode cX11_sounds 21 = .ok (.invokevirtual 163, 3) := by decide +kernel
theorem dX11_sounds_24 : decode cX11_sounds 24 = .ok (.ifCond .eq 7, 3) := by decide +kernel
theorem dX11_sounds_27 : decode cX11_sounds 27 = .ok (.iconst 1, 1) := by decide +kernel
theorem dX11_sounds_28 : decode cX11_sounds 28 = .ok (.goto 4, 3) := by decide +kernel
theorem dX11_sounds_31 : decode cX11_sounds 31 = .ok (.iconst 0, 1) := by decide +kernel
theorem dX11_sounds_32 : decode cX11_sounds 32 = .ok (.ireturn, 1) := by decide +kernel
theorem dX11_reading_0 : decode cX11_reading 0 = .ok (.aload_n 0, 1) := by decide +kernel
theorem dX11_reading_1 : decode cX11_reading 1 = .ok (.iload_n 1, 1) := by decide +kernel
theorem dX11_reading_2 : decode cX11_reading 2 = .ok (.iload_n 3, 1) := by decide +kernel
theorem dX11_reading_3 : decode cX11_reading 3 = .ok (.invokevirtual 192, 3) := by decide +kernel
theorem dX11_reading_6 : decode cX11_reading 6 = .ok (.ifCond .eq 31, 3) := by decide +kernel
theorem dX11_reading_9 : decode cX11_reading 9 = .ok (.aload_n 0, 1) := by decide +kernel
theorem dX11_reading_10 : decode cX11_reading 10 = .ok (.iload_n 2, 1) := by decide +kernel
theorem dX11_reading_11 : decode cX11_reading 11 = .ok (.iconst 0, 1) := by decide +kernel
theorem dX11_reading_12 : decode cX11_reading 12 = .ok (.aload_n 0, 1) := by decide +kernel
theorem dX11_reading_13 : decode cX11_reading 13 = .ok (.getfield 66, 3) := by decide +kernel
theorem dX11_reading_16 : decode cX11_reading 16 = .ok (.iload_n 1, 1) := by decide +kernel
theorem dX11_reading_17 : decode cX11_reading 17 = .ok (.iaload, 1) := by decide +kernel
theorem dX11_reading_18 : decode cX11_reading 18 = .ok (.iconst 1, 1) := by decide +kernel
theorem dX11_reading_19 : decode cX11_reading 19 = .ok (.isub, 1) := by decide +kernel
theorem dX11_reading_20 : decode cX11_reading 20 = .ok (.invokevirtual 180, 3) := by decide +kernel
theorem dX11_reading_23 : decode cX11_reading 23 = .ok (.ifCond .eq 14, 3) := by decide +kernel
theorem dX11_reading_26 : decode cX11_reading 26 = .ok (.aload_n 0, 1) := by decide +kernel
theorem dX11_reading_27 : decode cX11_reading 27 = .ok (.iload 4, 2) := by decide +kernel
theorem dX11_reading_29 : decode cX11_reading 29 = .ok (.iconst 0, 1) := by decide +kernel
theorem dX11_reading_30 : decode cX11_reading 30 = .ok (.iconst 2, 1) := by decide +kernel
theorem dX11_reading_31 : decode cX11_reading 31 = .ok (.invokevirtual 180, 3) := by decide +kernel
theorem dX11_reading_34 : decode cX11_reading 34 = .ok (.ifCond .ne 5, 3) := by decide +kernel
theorem dX11_reading_37 : decode cX11_reading 37 = .ok (.iconst (-1), 1) := by decide +kernel
theorem dX11_reading_38 : decode cX11_reading 38 = .ok (.ireturn, 1) := by decide +kernel
theorem dX11_reading_39 : decode cX11_reading 39 = .ok (.aload_n 0, 1) := by decide +kernel
theorem dX11_reading_40 : decode cX11_reading 40 = .ok (.iload_n 1, 1) := by decide +kernel
theorem dX11_reading_41 : decode cX11_reading 41 = .ok (.iload_n 2, 1) := by decide +kernel
theorem dX11_reading_42 : decode cX11_reading 42 = .ok (.iload_n 3, 1) := by decide +kernel
theorem dX11_reading_43 : decode cX11_reading 43 = .ok (.invokevirtual 170, 3) := by decide +kernel
theorem dX11_reading_46 : decode cX11_reading 46 = .ok (.istore 5, 2) := by decide +kernel
theorem dX11_reading_48 : decode cX11_reading 48 = .ok (.iload 4, 2) := by decide +kernel
theorem dX11_reading_50 : decode cX11_reading 50 = .ok (.iconst 2, 1) := by decide +kernel
theorem dX11_reading_51 : decode cX11_reading 51 = .ok (.if_icmp .ne 13, 3) := by decide +kernel
theorem dX11_reading_54 : decode cX11_reading 54 = .ok (.aload_n 0, 1) := by decide +kernel
theorem dX11_reading_55 : decode cX11_reading 55 = .ok (.iload_n 1, 1) := by decide +kernel
theorem dX11_reading_56 : decode cX11_reading 56 = .ok (.iload_n 2, 1) := by decide +kernel
theorem dX11_reading_57 : decode cX11_reading 57 = .ok (.iload_n 3, 1) := by decide +kernel
theorem dX11_reading_58 : decode cX11_reading 58 = .ok (.invokevirtual 195, 3) := by decide +kernel
theorem dX11_reading_61 : decode cX11_reading 61 = .ok (.goto 36, 3) := by decide +kernel
theorem dX11_reading_64 : decode cX11_reading 64 = .ok (.iload 5, 2) := by decide +kernel
theorem dX11_reading_66 : decode cX11_reading 66 = .ok (.bipush (-9), 2) := by decide +kernel
theorem dX11_reading_68 : decode cX11_reading 68 = .ok (.if_icmp .ne 7, 3) := by decide +kernel
theorem dX11_reading_71 : decode cX11_reading 71 = .ok (.iconst 1, 1) := by decide +kernel
theorem dX11_reading_72 : decode cX11_reading 72 = .ok (.goto 25, 3) := by decide +kernel
theorem dX11_reading_75 : decode cX11_reading 75 = .ok (.iload 4, 2) := by decide +kernel
theorem dX11_reading_77 : decode cX11_reading 77 = .ok (.ifCond .ne 13, 3) := by decide +kernel
theorem dX11_reading_80 : decode cX11_reading 80 = .ok (.aload_n 0, 1) := by decide +kernel
theorem dX11_reading_81 : decode cX11_reading 81 = .ok (.getfield 26, 3) := by decide +kernel
theorem dX11_reading_84 : decode cX11_reading 84 = .ok (.iload 5, 2) := by decide +kernel
theorem dX11_reading_86 : decode cX11_reading 86 = .ok (.iaload, 1) := by decide +kernel
theorem dX11_reading_87 : decode cX11_reading 87 = .ok (.goto 10, 3) := by decide +kernel
theorem dX11_reading_90 : decode cX11_reading 90 = .ok (.aload_n 0, 1) := by decide +kernel
theorem dX11_reading_91 : decode cX11_reading 91 = .ok (.getfield 29, 3) := by decide +kernel
theorem dX11_reading_94 : decode cX11_reading 94 = .ok (.iload 5, 2) := by decide +kernel
theorem dX11_reading_96 : decode cX11_reading 96 = .ok (.iaload, 1) := by decide +kernel
theorem dX11_reading_97 : decode cX11_reading 97 = .ok (.ireturn, 1) := by decide +kernel
theorem dX11_harsh_0 : decode cX11_harsh 0 = .ok (.aload_n 0, 1) := by decide +kernel
theorem dX11_harsh_1 : decode cX11_harsh 1 = .ok (.iload_n 1, 1) := by decide +kernel
theorem dX11_harsh_2 : decode cX11_harsh 2 = .ok (.invokevirtual 184, 3) := by decide +kernel
theorem dX11_harsh_5 : decode cX11_harsh 5 = .ok (.ifCond .eq 29, 3) := by decide +kernel
theorem dX11_harsh_8 : decode cX11_harsh 8 = .ok (.aload_n 0, 1) := by decide +kernel
theorem dX11_harsh_9 : decode cX11_harsh 9 = .ok (.iload_n 2, 1) := by decide +kernel
theorem dX11_harsh_10 : decode cX11_harsh 10 = .ok (.iconst 0, 1) := by decide +kernel
theorem dX11_harsh_11 : decode cX11_harsh 11 = .ok (.aload_n 0, 1) := by decide +kernel
theorem dX11_harsh_12 : decode cX11_harsh 12 = .ok (.getfield 66, 3) := by decide +kernel
theorem dX11_harsh_15 : decode cX11_harsh 15 = .ok (.iload_n 1, 1) := by decide +kernel
theorem dX11_harsh_16 : decode cX11_harsh 16 = .ok (.iaload, 1) := by decide +kernel
theorem dX11_harsh_17 : decode cX11_harsh 17 = .ok (.iconst 1, 1) := by decide +kernel
theorem dX11_harsh_18 : decode cX11_harsh 18 = .ok (.isub, 1) := by decide +kernel
theorem dX11_harsh_19 : decode cX11_harsh 19 = .ok (.invokevirtual 180, 3) := by decide +kernel
theorem dX11_harsh_22 : decode cX11_harsh 22 = .ok (.ifCond .eq 12, 3) := by decide +kernel
theorem dX11_harsh_25 : decode cX11_harsh 25 = .ok (.aload_n 0, 1) := by decide +kernel
theorem dX11_harsh_26 : decode cX11_harsh 26 = .ok (.iload_n 1, 1) := by decide +kernel
theorem dX11_harsh_27 : decode cX11_harsh 27 = .ok (.iload_n 2, 1) := by decide +kernel
theorem dX11_harsh_28 : decode cX11_harsh 28 = .ok (.invokevirtual 198, 3) := by decide +kernel
theorem dX11_harsh_31 : decode cX11_harsh 31 = .ok (.goto 4, 3) := by decide +kernel
theorem dX11_harsh_34 : decode cX11_harsh 34 = .ok (.iconst (-1), 1) := by decide +kernel
theorem dX11_harsh_35 : decode cX11_harsh 35 = .ok (.ireturn, 1) := by decide +kernel
theorem dX11_strain_0 : decode cX11_strain 0 = .ok (.iconst 0, 1) := by decide +kernel
theorem dX11_strain_1 : decode cX11_strain 1 = .ok (.istore 4, 2) := by decide +kernel
theorem dX11_strain_3 : decode cX11_strain 3 = .ok (.lconst 0, 1) := by decide +kernel
theorem dX11_strain_4 : decode cX11_strain 4 = .ok (.lstore 5, 2) := by decide +kernel
theorem dX11_strain_6 : decode cX11_strain 6 = .ok (.lconst 0, 1) := by decide +kernel
theorem dX11_strain_7 : decode cX11_strain 7 = .ok (.lstore 7, 2) := by decide +kernel
theorem dX11_strain_9 : decode cX11_strain 9 = .ok (.iconst 0, 1) := by decide +kernel
theorem dX11_strain_10 : decode cX11_strain 10 = .ok (.istore 9, 2) := by decide +kernel
theorem dX11_strain_12 : decode cX11_strain 12 = .ok (.iload 9, 2) := by decide +kernel
theorem dX11_strain_14 : decode cX11_strain 14 = .ok (.aload_n 0, 1) := by decide +kernel
theorem dX11_strain_15 : decode cX11_strain 15 = .ok (.getfield 150, 3) := by decide +kernel
theorem dX11_strain_18 : decode cX11_strain 18 = .ok (.if_icmp .ge 121, 3) := by decide +kernel
theorem dX11_strain_21 : decode cX11_strain 21 = .ok (.aload_n 0, 1) := by decide +kernel
theorem dX11_strain_22 : decode cX11_strain 22 = .ok (.iload_n 1, 1) := by decide +kernel
theorem dX11_strain_23 : decode cX11_strain 23 = .ok (.iload 9, 2) := by decide +kernel
theorem dX11_strain_25 : decode cX11_strain 25 = .ok (.invokevirtual 163, 3) := by decide +kernel
theorem dX11_strain_28 : decode cX11_strain 28 = .ok (.ifCond .eq 105, 3) := by decide +kernel
theorem dX11_strain_31 : decode cX11_strain 31 = .ok (.aload_n 0, 1) := by decide +kernel
theorem dX11_strain_32 : decode cX11_strain 32 = .ok (.iload_n 1, 1) := by decide +kernel
theorem dX11_strain_33 : decode cX11_strain 33 = .ok (.iconst 1, 1) := by decide +kernel
theorem dX11_strain_34 : decode cX11_strain 34 = .ok (.iadd, 1) := by decide +kernel
theorem dX11_strain_35 : decode cX11_strain 35 = .ok (.iload 9, 2) := by decide +kernel
theorem dX11_strain_37 : decode cX11_strain 37 = .ok (.invokevirtual 163, 3) := by decide +kernel
theorem dX11_strain_40 : decode cX11_strain 40 = .ok (.ifCond .eq 93, 3) := by decide +kernel
theorem dX11_strain_43 : decode cX11_strain 43 = .ok (.aload_n 0, 1) := by decide +kernel
theorem dX11_strain_44 : decode cX11_strain 44 = .ok (.getfield 83, 3) := by decide +kernel
theorem dX11_strain_47 : decode cX11_strain 47 = .ok (.bipush 16, 2) := by decide +kernel
theorem dX11_strain_49 : decode cX11_strain 49 = .ok (.bipush 64, 2) := by decide +kernel
theorem dX11_strain_51 : decode cX11_strain 51 = .ok (.iload_n 1, 1) := by decide +kernel
theorem dX11_strain_52 : decode cX11_strain 52 = .ok (.iconst 1, 1) := by decide +kernel
theorem dX11_strain_53 : decode cX11_strain 53 = .ok (.iadd, 1) := by decide +kernel
theorem dX11_strain_54 : decode cX11_strain 54 = .ok (.imul, 1) := by decide +kernel
theorem dX11_strain_55 : decode cX11_strain 55 = .ok (.iload_n 3, 1) := by decide +kernel
theorem dX11_strain_56 : decode cX11_strain 56 = .ok (.iadd, 1) := by decide +kernel
theorem dX11_strain_57 : decode cX11_strain 57 = .ok (.imul, 1) := by decide +kernel
theorem dX11_strain_58 : decode cX11_strain 58 = .ok (.iload 9, 2) := by decide +kernel
theorem dX11_strain_60 : decode cX11_strain 60 = .ok (.iadd, 1) := by decide +kernel
theorem dX11_strain_61 : decode cX11_strain 61 = .ok (.iaload, 1) := by decide +kernel
theorem dX11_strain_62 : decode cX11_strain 62 = .ok (.aload_n 0, 1) := by decide +kernel
theorem dX11_strain_63 : decode cX11_strain 63 = .ok (.getfield 83, 3) := by decide +kernel
theorem dX11_strain_66 : decode cX11_strain 66 = .ok (.bipush 16, 2) := by decide +kernel
theorem dX11_strain_68 : decode cX11_strain 68 = .ok (.bipush 64, 2) := by decide +kernel
theorem dX11_strain_70 : decode cX11_strain 70 = .ok (.iload_n 1, 1) := by decide +kernel
theorem dX11_strain_71 : decode cX11_strain 71 = .ok (.imul, 1) := by decide +kernel
theorem dX11_strain_72 : decode cX11_strain 72 = .ok (.iload_n 2, 1) := by decide +kernel
theorem dX11_strain_73 : decode cX11_strain 73 = .ok (.iadd, 1) := by decide +kernel
theorem dX11_strain_74 : decode cX11_strain 74 = .ok (.imul, 1) := by decide +kernel
theorem dX11_strain_75 : decode cX11_strain 75 = .ok (.iload 9, 2) := by decide +kernel
theorem dX11_strain_77 : decode cX11_strain 77 = .ok (.iadd, 1) := by decide +kernel
theorem dX11_strain_78 : decode cX11_strain 78 = .ok (.iaload, 1) := by decide +kernel
theorem dX11_strain_79 : decode cX11_strain 79 = .ok (.isub, 1) := by decide +kernel
theorem dX11_strain_80 : decode cX11_strain 80 = .ok (.sipush 10000, 3) := by decide +kernel
theorem dX11_strain_83 : decode cX11_strain 83 = .ok (.aload_n 0, 1) := by decide +kernel
theorem dX11_strain_84 : decode cX11_strain 84 = .ok (.getfield 7, 3) := by decide +kernel
theorem dX11_strain_87 : decode cX11_strain 87 = .ok (.aload_n 0, 1) := by decide +kernel
theorem dX11_strain_88 : decode cX11_strain 88 = .ok (.getfield 60, 3) := by decide +kernel
theorem dX11_strain_91 : decode cX11_strain 91 = .ok (.iload_n 1, 1) := by decide +kernel
theorem dX11_strain_92 : decode cX11_strain 92 = .ok (.iconst 1, 1) := by decide +kernel
theorem dX11_strain_93 : decode cX11_strain 93 = .ok (.iadd, 1) := by decide +kernel
theorem dX11_strain_94 : decode cX11_strain 94 = .ok (.iaload, 1) := by decide +kernel
theorem dX11_strain_95 : decode cX11_strain 95 = .ok (.iaload, 1) := by decide +kernel
theorem dX11_strain_96 : decode cX11_strain 96 = .ok (.aload_n 0, 1) := by decide +kernel
theorem dX11_strain_97 : decode cX11_strain 97 = .ok (.getfield 7, 3) := by decide +kernel
theorem dX11_strain_100 : decode cX11_strain 100 = .ok (.aload_n 0, 1) := by decide +kernel
theorem dX11_strain_101 : decode cX11_strain 101 = .ok (.getfield 60, 3) := by decide +kernel
theorem dX11_strain_104 : decode cX11_strain 104 = .ok (.iload_n 1, 1) := by decide +kernel
theorem dX11_strain_105 : decode cX11_strain 105 = .ok (.iaload, 1) := by decide +kernel
theorem dX11_strain_106 : decode cX11_strain 106 = .ok (.iaload, 1) := by decide +kernel
theorem dX11_strain_107 : decode cX11_strain 107 = .ok (.isub, 1) := by decide +kernel
theorem dX11_strain_108 : decode cX11_strain 108 = .ok (.imul, 1) := by decide +kernel
theorem dX11_strain_109 : decode cX11_strain 109 = .ok (.iadd, 1) := by decide +kernel
theorem dX11_strain_110 : decode cX11_strain 110 = .ok (.i2l, 1) := by decide +kernel
theorem dX11_strain_111 : decode cX11_strain 111 = .ok (.lstore 10, 2) := by decide +kernel
theorem dX11_strain_113 : decode cX11_strain 113 = .ok (.iinc 4 1, 3) := by decide +kernel
theorem dX11_strain_116 : decode cX11_strain 116 = .ok (.lload 5, 2) := by decide +kernel
theorem dX11_strain_118 : decode cX11_strain 118 = .ok (.lload 10, 2) := by decide +kernel
theorem dX11_strain_120 : decode cX11_strain 120 = .ok (.ladd, 1) := by decide +kernel
theorem dX11_strain_121 : decode cX11_strain 121 = .ok (.lstore 5, 2) := by decide +kernel
theorem dX11_strain_123 : decode cX11_strain 123 = .ok (.lload 7, 2) := by decide +kernel
theorem dX11_strain_125 : decode cX11_strain 125 = .ok (.lload 10, 2) := by decide +kernel
theorem dX11_strain_127 : decode cX11_strain 127 = .ok (.lload 10, 2) := by decide +kernel
theorem dX11_strain_129 : decode cX11_strain 129 = .ok (.lmul, 1) := by decide +kernel
theorem dX11_strain_130 : decode cX11_strain 130 = .ok (.ladd, 1) := by decide +kernel
theorem dX11_strain_131 : decode cX11_strain 131 = .ok (.lstore 7, 2) := by decide +kernel
theorem dX11_strain_133 : decode cX11_strain 133 = .ok (.iinc 9 1, 3) := by decide +kernel
theorem dX11_strain_136 : decode cX11_strain 136 = .ok (.goto (-124), 3) := by decide +kernel
theorem dX11_strain_139 : decode cX11_strain 139 = .ok (.iload 4, 2) := by decide +kernel
theorem dX11_strain_141 : decode cX11_strain 141 = .ok (.ifCond .ne 7, 3) := by decide +kernel
theorem dX11_strain_144 : decode cX11_strain 144 = .ok (.lconst 0, 1) := by decide +kernel
theorem dX11_strain_145 : decode cX11_strain 145 = .ok (.goto 22, 3) := by decide +kernel
theorem dX11_strain_148 : decode cX11_strain 148 = .ok (.bipush 60, 2) := by decide +kernel
theorem dX11_strain_150 : decode cX11_strain 150 = .ok (.iload 4, 2) := by decide +kernel
theorem dX11_strain_152 : decode cX11_strain 152 = .ok (.idiv, 1) := by decide +kernel
theorem dX11_strain_153 : decode cX11_strain 153 = .ok (.i2l, 1) := by decide +kernel
theorem dX11_strain_154 : decode cX11_strain 154 = .ok (.iload 4, 2) := by decide +kernel
theorem dX11_strain_156 : decode cX11_strain 156 = .ok (.i2l, 1) := by decide +kernel
theorem dX11_strain_157 : decode cX11_strain 157 = .ok (.lload 7, 2) := by decide +kernel
theorem dX11_strain_159 : decode cX11_strain 159 = .ok (.lmul, 1) := by decide +kernel
theorem dX11_strain_160 : decode cX11_strain 160 = .ok (.lload 5, 2) := by decide +kernel
theorem dX11_strain_162 : decode cX11_strain 162 = .ok (.lload 5, 2) := by decide +kernel
theorem dX11_strain_164 : decode cX11_strain 164 = .ok (.lmul, 1) := by decide +kernel
theorem dX11_strain_165 : decode cX11_strain 165 = .ok (.lsub, 1) := by decide +kernel
theorem dX11_strain_166 : decode cX11_strain 166 = .ok (.lmul, 1) := by decide +kernel
theorem dX11_strain_167 : decode cX11_strain 167 = .ok (.lreturn, 1) := by decide +kernel
theorem dX11_choose_0 : decode cX11_choose 0 = .ok (.aload_n 0, 1) := by decide +kernel
theorem dX11_choose_1 : decode cX11_choose 1 = .ok (.getfield 154, 3) := by decide +kernel
theorem dX11_choose_4 : decode cX11_choose 4 = .ok (.ifCond .le 7, 3) := by decide +kernel
theorem dX11_choose_7 : decode cX11_choose 7 = .ok (.iconst 1, 1) := by decide +kernel
theorem dX11_choose_8 : decode cX11_choose 8 = .ok (.goto 4, 3) := by decide +kernel
theorem dX11_choose_11 : decode cX11_choose 11 = .ok (.iconst 0, 1) := by decide +kernel
theorem dX11_choose_12 : decode cX11_choose 12 = .ok (.istore_n 1, 1) := by decide +kernel
theorem dX11_choose_13 : decode cX11_choose 13 = .ok (.iconst 0, 1) := by decide +kernel
theorem dX11_choose_14 : decode cX11_choose 14 = .ok (.istore_n 2, 1) := by decide +kernel
theorem dX11_choose_15 : decode cX11_choose 15 = .ok (.iconst 0, 1) := by decide +kernel
theorem dX11_choose_16 : decode cX11_choose 16 = .ok (.istore_n 3, 1) := by decide +kernel
theorem dX11_choose_17 : decode cX11_choose 17 = .ok (.iload_n 3, 1) := by decide +kernel
theorem dX11_choose_18 : decode cX11_choose 18 = .ok (.aload_n 0, 1) := by decide +kernel
theorem dX11_choose_19 : decode cX11_choose 19 = .ok (.getfield 154, 3) := by decide +kernel
theorem dX11_choose_22 : decode cX11_choose 22 = .ok (.if_icmp .ge 45, 3) := by decide +kernel
theorem dX11_choose_25 : decode cX11_choose 25 = .ok (.iload_n 1, 1) := by decide +kernel
theorem dX11_choose_26 : decode cX11_choose 26 = .ok (.aload_n 0, 1) := by decide +kernel
theorem dX11_choose_27 : decode cX11_choose 27 = .ok (.getfield 66, 3) := by decide +kernel
theorem dX11_choose_30 : decode cX11_choose 30 = .ok (.iload_n 3, 1) := by decide +kernel
theorem dX11_choose_31 : decode cX11_choose 31 = .ok (.iaload, 1) := by decide +kernel
theorem dX11_choose_32 : decode cX11_choose 32 = .ok (.ifCond .le 7, 3) := by decide +kernel
theorem dX11_choose_35 : decode cX11_choose 35 = .ok (.iconst 1, 1) := by decide +kernel
theorem dX11_choose_36 : decode cX11_choose 36 = .ok (.goto 4, 3) := by decide +kernel
theorem dX11_choose_39 : decode cX11_choose 39 = .ok (.iconst 0, 1) := by decide +kernel
theorem dX11_choose_40 : decode cX11_choose 40 = .ok (.iand, 1) := by decide +kernel
theorem dX11_choose_41 : decode cX11_choose 41 = .ok (.istore_n 1, 1) := by decide +kernel
theorem dX11_choose_42 : decode cX11_choose 42 = .ok (.iload_n 2, 1) := by decide +kernel
theorem dX11_choose_43 : decode cX11_choose 43 = .ok (.aload_n 0, 1) := by decide +kernel
theorem dX11_choose_44 : decode cX11_choose 44 = .ok (.getfield 66, 3) := by decide +kernel
theorem dX11_choose_47 : decode cX11_choose 47 = .ok (.iload_n 3, 1) := by decide +kernel
theorem dX11_choose_48 : decode cX11_choose 48 = .ok (.iaload, 1) := by decide +kernel
theorem dX11_choose_49 : decode cX11_choose 49 = .ok (.bipush 64, 2) := by decide +kernel
theorem dX11_choose_51 : decode cX11_choose 51 = .ok (.if_icmp .le 7, 3) := by decide +kernel
theorem dX11_choose_54 : decode cX11_choose 54 = .ok (.iconst 1, 1) := by decide +kernel
theorem dX11_choose_55 : decode cX11_choose 55 = .ok (.goto 4, 3) := by decide +kernel
theorem dX11_choose_58 : decode cX11_choose 58 = .ok (.iconst 0, 1) := by decide +kernel
theorem dX11_choose_59 : decode cX11_choose 59 = .ok (.ior, 1) := by decide +kernel
theorem dX11_choose_60 : decode cX11_choose 60 = .ok (.istore_n 2, 1) := by decide +kernel
theorem dX11_choose_61 : decode cX11_choose 61 = .ok (.iinc 3 1, 3) := by decide +kernel
theorem dX11_choose_64 : decode cX11_choose 64 = .ok (.goto (-47), 3) := by decide +kernel
theorem dX11_choose_67 : decode cX11_choose 67 = .ok (.iload_n 1, 1) := by decide +kernel
theorem dX11_choose_68 : decode cX11_choose 68 = .ok (.ifCond .ne 7, 3) := by decide +kernel
theorem dX11_choose_71 : decode cX11_choose 71 = .ok (.ldc2_w 201, 3) := by decide +kernel
theorem dX11_choose_74 : decode cX11_choose 74 = .ok (.lreturn, 1) := by decide +kernel
theorem dX11_choose_75 : decode cX11_choose 75 = .ok (.iload_n 2, 1) := by decide +kernel
theorem dX11_choose_76 : decode cX11_choose 76 = .ok (.ifCond .eq 7, 3) := by decide +kernel
theorem dX11_choose_79 : decode cX11_choose 79 = .ok (.ldc2_w 203, 3) := by decide +kernel
theorem dX11_choose_82 : decode cX11_choose 82 = .ok (.lreturn, 1) := by decide +kernel
theorem dX11_choose_83 : decode cX11_choose 83 = .ok (.iconst 0, 1) := by decide +kernel
theorem dX11_choose_84 : decode cX11_choose 84 = .ok (.istore_n 3, 1) := by decide +kernel
theorem dX11_choose_85 : decode cX11_choose 85 = .ok (.iload_n 3, 1) := by decide +kernel
theorem dX11_choose_86 : decode cX11_choose 86 = .ok (.aload_n 0, 1) := by decide +kernel
theorem dX11_choose_87 : decode cX11_choose 87 = .ok (.getfield 154, 3) := by decide +kernel
theorem dX11_choose_90 : decode cX11_choose 90 = .ok (.if_icmp .ge 84, 3) := by decide +kernel
theorem dX11_choose_93 : decode cX11_choose 93 = .ok (.iconst 0, 1) := by decide +kernel
theorem dX11_choose_94 : decode cX11_choose 94 = .ok (.istore 4, 2) := by decide +kernel
theorem dX11_choose_96 : decode cX11_choose 96 = .ok (.iload 4, 2) := by decide +kernel
theorem dX11_choose_98 : decode cX11_choose 98 = .ok (.aload_n 0, 1) := by decide +kernel
theorem dX11_choose_99 : decode cX11_choose 99 = .ok (.getfield 66, 3) := by decide +kernel
theorem dX11_choose_102 : decode cX11_choose 102 = .ok (.iload_n 3, 1) := by decide +kernel
theorem dX11_choose_103 : decode cX11_choose 103 = .ok (.iaload, 1) := by decide +kernel
theorem dX11_choose_104 : decode cX11_choose 104 = .ok (.if_icmp .ge 64, 3) := by decide +kernel
theorem dX11_choose_107 : decode cX11_choose 107 = .ok (.iconst 0, 1) := by decide +kernel
theorem dX11_choose_108 : decode cX11_choose 108 = .ok (.istore 5, 2) := by decide +kernel
theorem dX11_choose_110 : decode cX11_choose 110 = .ok (.iload 5, 2) := by decide +kernel
theorem dX11_choose_112 : decode cX11_choose 112 = .ok (.aload_n 0, 1) := by decide +kernel
theorem dX11_choose_113 : decode cX11_choose 113 = .ok (.getfield 150, 3) := by decide +kernel
theorem dX11_choose_116 : decode cX11_choose 116 = .ok (.if_icmp .ge 46, 3) := by decide +kernel
theorem dX11_choose_119 : decode cX11_choose 119 = .ok (.aload_n 0, 1) := by decide +kernel
theorem dX11_choose_120 : decode cX11_choose 120 = .ok (.iload_n 3, 1) := by decide +kernel
theorem dX11_choose_121 : decode cX11_choose 121 = .ok (.iload 5, 2) := by decide +kernel
theorem dX11_choose_123 : decode cX11_choose 123 = .ok (.invokevirtual 163, 3) := by decide +kernel
theorem dX11_choose_126 : decode cX11_choose 126 = .ok (.ifCond .eq 30, 3) := by decide +kernel
theorem dX11_choose_129 : decode cX11_choose 129 = .ok (.aload_n 0, 1) := by decide +kernel
theorem dX11_choose_130 : decode cX11_choose 130 = .ok (.getfield 83, 3) := by decide +kernel
theorem dX11_choose_133 : decode cX11_choose 133 = .ok (.bipush 16, 2) := by decide +kernel
theorem dX11_choose_135 : decode cX11_choose 135 = .ok (.bipush 64, 2) := by decide +kernel
theorem dX11_choose_137 : decode cX11_choose 137 = .ok (.iload_n 3, 1) := by decide +kernel
theorem dX11_choose_138 : decode cX11_choose 138 = .ok (.imul, 1) := by decide +kernel
theorem dX11_choose_139 : decode cX11_choose 139 = .ok (.iload 4, 2) := by decide +kernel
theorem dX11_choose_141 : decode cX11_choose 141 = .ok (.iadd, 1) := by decide +kernel
theorem dX11_choose_142 : decode cX11_choose 142 = .ok (.imul, 1) := by decide +kernel
theorem dX11_choose_143 : decode cX11_choose 143 = .ok (.iload 5, 2) := by decide +kernel
theorem dX11_choose_145 : decode cX11_choose 145 = .ok (.iadd, 1) := by decide +kernel
theorem dX11_choose_146 : decode cX11_choose 146 = .ok (.aload_n 0, 1) := by decide +kernel
theorem dX11_choose_147 : decode cX11_choose 147 = .ok (.iload_n 3, 1) := by decide +kernel
theorem dX11_choose_148 : decode cX11_choose 148 = .ok (.iload 4, 2) := by decide +kernel
theorem dX11_choose_150 : decode cX11_choose 150 = .ok (.iload 5, 2) := by decide +kernel
theorem dX11_choose_152 : decode cX11_choose 152 = .ok (.invokevirtual 195, 3) := by decide +kernel
theorem dX11_choose_155 : decode cX11_choose 155 = .ok (.iastore, 1) := by decide +kernel
theorem dX11_choose_156 : decode cX11_choose 156 = .ok (.iinc 5 1, 3) := by decide +kernel
theorem dX11_choose_159 : decode cX11_choose 159 = .ok (.goto (-49), 3) := by decide +kernel
theorem dX11_choose_162 : decode cX11_choose 162 = .ok (.iinc 4 1, 3) := by decide +kernel
theorem dX11_choose_165 : decode cX11_choose 165 = .ok (.goto (-69), 3) := by decide +kernel
theorem dX11_choose_168 : decode cX11_choose 168 = .ok (.iinc 3 1, 3) := by decide +kernel
theorem dX11_choose_171 : decode cX11_choose 171 = .ok (.goto (-86), 3) := by decide +kernel
theorem dX11_choose_174 : decode cX11_choose 174 = .ok (.aload_n 0, 1) := by decide +kernel
theorem dX11_choose_175 : decode cX11_choose 175 = .ok (.getfield 154, 3) := by decide +kernel
theorem dX11_choose_178 : decode cX11_choose 178 = .ok (.iconst 1, 1) := by decide +kernel
theorem dX11_choose_179 : decode cX11_choose 179 = .ok (.isub, 1) := by decide +kernel
theorem dX11_choose_180 : decode cX11_choose 180 = .ok (.istore_n 3, 1) := by decide +kernel
theorem dX11_choose_181 : decode cX11_choose 181 = .ok (.iload_n 3, 1) := by decide +kernel
theorem dX11_choose_182 : decode cX11_choose 182 = .ok (.ifCond .lt 151, 3) := by decide +kernel
theorem dX11_choose_185 : decode cX11_choose 185 = .ok (.iconst 0, 1) := by decide +kernel
theorem dX11_choose_186 : decode cX11_choose 186 = .ok (.istore 4, 2) := by decide +kernel
theorem dX11_choose_188 : decode cX11_choose 188 = .ok (.iload 4, 2) := by decide +kernel
theorem dX11_choose_190 : decode cX11_choose 190 = .ok (.aload_n 0, 1) := by decide +kernel
theorem dX11_choose_191 : decode cX11_choose 191 = .ok (.getfield 66, 3) := by decide +kernel
theorem dX11_choose_194 : decode cX11_choose 194 = .ok (.iload_n 3, 1) := by decide +kernel
theorem dX11_choose_195 : decode cX11_choose 195 = .ok (.iaload, 1) := by decide +kernel
theorem dX11_choose_196 : decode cX11_choose 196 = .ok (.if_icmp .ge 131, 3) := by decide +kernel
theorem dX11_choose_199 : decode cX11_choose 199 = .ok (.lconst 0, 1) := by decide +kernel
theorem dX11_choose_200 : decode cX11_choose 200 = .ok (.lstore 5, 2) := by decide +kernel
theorem dX11_choose_202 : decode cX11_choose 202 = .ok (.iconst 0, 1) := by decide +kernel
theorem dX11_choose_203 : decode cX11_choose 203 = .ok (.istore 7, 2) := by decide +kernel
theorem dX11_choose_205 : decode cX11_choose 205 = .ok (.iload_n 3, 1) := by decide +kernel
theorem dX11_choose_206 : decode cX11_choose 206 = .ok (.iconst 1, 1) := by decide +kernel
theorem dX11_choose_207 : decode cX11_choose 207 = .ok (.iadd, 1) := by decide +kernel
theorem dX11_choose_208 : decode cX11_choose 208 = .ok (.aload_n 0, 1) := by decide +kernel
theorem dX11_choose_209 : decode cX11_choose 209 = .ok (.getfield 154, 3) := by decide +kernel
theorem dX11_choose_212 : decode cX11_choose 212 = .ok (.if_icmp .ge 78, 3) := by decide +kernel
theorem dX11_choose_215 : decode cX11_choose 215 = .ok (.iload 7, 2) := by decide +kernel
theorem dX11_choose_217 : decode cX11_choose 217 = .ok (.aload_n 0, 1) := by decide +kernel
theorem dX11_choose_218 : decode cX11_choose 218 = .ok (.getfield 66, 3) := by decide +kernel
theorem dX11_choose_221 : decode cX11_choose 221 = .ok (.iload_n 3, 1) := by decide +kernel
theorem dX11_choose_222 : decode cX11_choose 222 = .ok (.iconst 1, 1) := by decide +kernel
theorem dX11_choose_223 : decode cX11_choose 223 = .ok (.iadd, 1) := by decide +kernel
theorem dX11_choose_224 : decode cX11_choose 224 = .ok (.iaload, 1) := by decide +kernel
theorem dX11_choose_225 : decode cX11_choose 225 = .ok (.if_icmp .ge 65, 3) := by decide +kernel
theorem dX11_choose_228 : decode cX11_choose 228 = .ok (.aload_n 0, 1) := by decide +kernel
theorem dX11_choose_229 : decode cX11_choose 229 = .ok (.getfield 78, 3) := by decide +kernel
theorem dX11_choose_232 : decode cX11_choose 232 = .ok (.bipush 64, 2) := by decide +kernel
theorem dX11_choose_234 : decode cX11_choose 234 = .ok (.iload_n 3, 1) := by decide +kernel
theorem dX11_choose_235 : decode cX11_choose 235 = .ok (.iconst 1, 1) := by decide +kernel
theorem dX11_choose_236 : decode cX11_choose 236 = .ok (.iadd, 1) := by decide +kernel
theorem dX11_choose_237 : decode cX11_choose 237 = .ok (.imul, 1) := by decide +kernel
theorem dX11_choose_238 : decode cX11_choose 238 = .ok (.iload 7, 2) := by decide +kernel
theorem dX11_choose_240 : decode cX11_choose 240 = .ok (.iadd, 1) := by decide +kernel
theorem dX11_choose_241 : decode cX11_choose 241 = .ok (.laload, 1) := by decide +kernel
theorem dX11_choose_242 : decode cX11_choose 242 = .ok (.aload_n 0, 1) := by decide +kernel
theorem dX11_choose_243 : decode cX11_choose 243 = .ok (.getfield 48, 3) := by decide +kernel
theorem dX11_choose_246 : decode cX11_choose 246 = .ok (.iconst 1, 1) := by decide +kernel
theorem dX11_choose_247 : decode cX11_choose 247 = .ok (.iaload, 1) := by decide +kernel
theorem dX11_choose_248 : decode cX11_choose 248 = .ok (.i2l, 1) := by decide +kernel
theorem dX11_choose_249 : decode cX11_choose 249 = .ok (.aload_n 0, 1) := by decide +kernel
theorem dX11_choose_250 : decode cX11_choose 250 = .ok (.iload_n 3, 1) := by decide +kernel
theorem dX11_choose_251 : decode cX11_choose 251 = .ok (.iload 4, 2) := by decide +kernel
theorem dX11_choose_253 : decode cX11_choose 253 = .ok (.iload 7, 2) := by decide +kernel
theorem dX11_choose_255 : decode cX11_choose 255 = .ok (.invokevirtual 205, 3) := by decide +kernel
theorem dX11_choose_258 : decode cX11_choose 258 = .ok (.lmul, 1) := by decide +kernel
theorem dX11_choose_259 : decode cX11_choose 259 = .ok (.ladd, 1) := by decide +kernel
theorem dX11_choose_260 : decode cX11_choose 260 = .ok (.lstore 8, 2) := by decide +kernel
theorem dX11_choose_262 : decode cX11_choose 262 = .ok (.iload 7, 2) := by decide +kernel
theorem dX11_choose_264 : decode cX11_choose 264 = .ok (.ifCond .eq 11, 3) := by decide +kernel
theorem dX11_choose_267 : decode cX11_choose 267 = .ok (.lload 8, 2) := by decide +kernel
theorem dX11_choose_269 : decode cX11_choose 269 = .ok (.lload 5, 2) := by decide +kernel
theorem dX11_choose_271 : decode cX11_choose 271 = .ok (.lcmp, 1) := by decide +kernel
theorem dX11_choose_272 : decode cX11_choose 272 = .ok (.ifCond .ge 8, 3) := by decide +kernel
theorem dX11_choose_275 : decode cX11_choose 275 = .ok (.lload 8, 2) := by decide +kernel
theorem dX11_choose_277 : decode cX11_choose 277 = .ok (.goto 5, 3) := by decide +kernel
theorem dX11_choose_280 : decode cX11_choose 280 = .ok (.lload 5, 2) := by decide +kernel
theorem dX11_choose_282 : decode cX11_choose 282 = .ok (.lstore 5, 2) := by decide +kernel
theorem dX11_choose_284 : decode cX11_choose 284 = .ok (.iinc 7 1, 3) := by decide +kernel
theorem dX11_choose_287 : decode cX11_choose 287 = .ok (.goto (-82), 3) := by decide +kernel
theorem dX11_choose_290 : decode cX11_choose 290 = .ok (.aload_n 0, 1) := by decide +kernel
theorem dX11_choose_291 : decode cX11_choose 291 = .ok (.getfield 78, 3) := by decide +kernel
theorem dX11_choose_294 : decode cX11_choose 294 = .ok (.bipush 64, 2) := by decide +kernel
theorem dX11_choose_296 : decode cX11_choose 296 = .ok (.iload_n 3, 1) := by decide +kernel
theorem dX11_choose_297 : decode cX11_choose 297 = .ok (.imul, 1) := by decide +kernel
theorem dX11_choose_298 : decode cX11_choose 298 = .ok (.iload 4, 2) := by decide +kernel
theorem dX11_choose_300 : decode cX11_choose 300 = .ok (.iadd, 1) := by decide +kernel
theorem dX11_choose_301 : decode cX11_choose 301 = .ok (.lload 5, 2) := by decide +kernel
theorem dX11_choose_303 : decode cX11_choose 303 = .ok (.aload_n 0, 1) := by decide +kernel
theorem dX11_choose_304 : decode cX11_choose 304 = .ok (.getfield 48, 3) := by decide +kernel
theorem dX11_choose_307 : decode cX11_choose 307 = .ok (.iconst 0, 1) := by decide +kernel
theorem dX11_choose_308 : decode cX11_choose 308 = .ok (.iaload, 1) := by decide +kernel
theorem dX11_choose_309 : decode cX11_choose 309 = .ok (.i2l, 1) := by decide +kernel
theorem dX11_choose_310 : decode cX11_choose 310 = .ok (.aload_n 0, 1) := by decide +kernel
theorem dX11_choose_311 : decode cX11_choose 311 = .ok (.iload_n 3, 1) := by decide +kernel
theorem dX11_choose_312 : decode cX11_choose 312 = .ok (.iload 4, 2) := by decide +kernel
theorem dX11_choose_314 : decode cX11_choose 314 = .ok (.invokevirtual 198, 3) := by decide +kernel
theorem dX11_choose_317 : decode cX11_choose 317 = .ok (.i2l, 1) := by decide +kernel
theorem dX11_choose_318 : decode cX11_choose 318 = .ok (.lmul, 1) := by decide +kernel
theorem dX11_choose_319 : decode cX11_choose 319 = .ok (.ladd, 1) := by decide +kernel
theorem dX11_choose_320 : decode cX11_choose 320 = .ok (.lastore, 1) := by decide +kernel
theorem dX11_choose_321 : decode cX11_choose 321 = .ok (.iinc 4 1, 3) := by decide +kernel
theorem dX11_choose_324 : decode cX11_choose 324 = .ok (.goto (-136), 3) := by decide +kernel
theorem dX11_choose_327 : decode cX11_choose 327 = .ok (.iinc 3 (-1), 3) := by decide +kernel
theorem dX11_choose_330 : decode cX11_choose 330 = .ok (.goto (-149), 3) := by decide +kernel
theorem dX11_choose_333 : decode cX11_choose 333 = .ok (.lconst 0, 1) := by decide +kernel
theorem dX11_choose_334 : decode cX11_choose 334 = .ok (.lstore_n 3, 1) := by decide +kernel
theorem dX11_choose_335 : decode cX11_choose 335 = .ok (.iconst 0, 1) := by decide +kernel
theorem dX11_choose_336 : decode cX11_choose 336 = .ok (.istore 5, 2) := by decide +kernel
theorem dX11_choose_338 : decode cX11_choose 338 = .ok (.iload 5, 2) := by decide +kernel
theorem dX11_choose_340 : decode cX11_choose 340 = .ok (.aload_n 0, 1) := by decide +kernel
theorem dX11_choose_341 : decode cX11_choose 341 = .ok (.getfield 154, 3) := by decide +kernel
theorem dX11_choose_344 : decode cX11_choose 344 = .ok (.if_icmp .ge 130, 3) := by decide +kernel
theorem dX11_choose_347 : decode cX11_choose 347 = .ok (.lconst 0, 1) := by decide +kernel
theorem dX11_choose_348 : decode cX11_choose 348 = .ok (.lstore 6, 2) := by decide +kernel
theorem dX11_choose_350 : decode cX11_choose 350 = .ok (.iconst 0, 1) := by decide +kernel
theorem dX11_choose_351 : decode cX11_choose 351 = .ok (.istore 8, 2) := by decide +kernel
theorem dX11_choose_353 : decode cX11_choose 353 = .ok (.iconst 0, 1) := by decide +kernel
theorem dX11_choose_354 : decode cX11_choose 354 = .ok (.istore 9, 2) := by decide +kernel
theorem dX11_choose_356 : decode cX11_choose 356 = .ok (.iload 9, 2) := by decide +kernel
theorem dX11_choose_358 : decode cX11_choose 358 = .ok (.aload_n 0, 1) := by decide +kernel
theorem dX11_choose_359 : decode cX11_choose 359 = .ok (.getfield 66, 3) := by decide +kernel
theorem dX11_choose_362 : decode cX11_choose 362 = .ok (.iload 5, 2) := by decide +kernel
theorem dX11_choose_364 : decode cX11_choose 364 = .ok (.iaload, 1) := by decide +kernel
theorem dX11_choose_365 : decode cX11_choose 365 = .ok (.if_icmp .ge 82, 3) := by decide +kernel
theorem dX11_choose_368 : decode cX11_choose 368 = .ok (.aload_n 0, 1) := by decide +kernel
theorem dX11_choose_369 : decode cX11_choose 369 = .ok (.getfield 78, 3) := by decide +kernel
theorem dX11_choose_372 : decode cX11_choose 372 = .ok (.bipush 64, 2) := by decide +kernel
theorem dX11_choose_374 : decode cX11_choose 374 = .ok (.iload 5, 2) := by decide +kernel
theorem dX11_choose_376 : decode cX11_choose 376 = .ok (.imul, 1) := by decide +kernel
theorem dX11_choose_377 : decode cX11_choose 377 = .ok (.iload 9, 2) := by decide +kernel
theorem dX11_choose_379 : decode cX11_choose 379 = .ok (.iadd, 1) := by decide +kernel
theorem dX11_choose_380 : decode cX11_choose 380 = .ok (.laload, 1) := by decide +kernel
theorem dX11_choose_381 : decode cX11_choose 381 = .ok (.iload 5, 2) := by decide +kernel
theorem dX11_choose_383 : decode cX11_choose 383 = .ok (.ifCond .ne 7, 3) := by decide +kernel
theorem dX11_choose_386 : decode cX11_choose 386 = .ok (.lconst 0, 1) := by decide +kernel
theorem dX11_choose_387 : decode cX11_choose 387 = .ok (.goto 30, 3) := by decide +kernel
theorem dX11_choose_390 : decode cX11_choose 390 = .ok (.aload_n 0, 1) := by decide +kernel
theorem dX11_choose_391 : decode cX11_choose 391 = .ok (.getfield 48, 3) := by decide +kernel
theorem dX11_choose_394 : decode cX11_choose 394 = .ok (.iconst 1, 1) := by decide +kernel
theorem dX11_choose_395 : decode cX11_choose 395 = .ok (.iaload, 1) := by decide +kernel
theorem dX11_choose_396 : decode cX11_choose 396 = .ok (.i2l, 1) := by decide +kernel
theorem dX11_choose_397 : decode cX11_choose 397 = .ok (.aload_n 0, 1) := by decide +kernel
theorem dX11_choose_398 : decode cX11_choose 398 = .ok (.iload 5, 2) := by decide +kernel
theorem dX11_choose_400 : decode cX11_choose 400 = .ok (.iconst 1, 1) := by decide +kernel
theorem dX11_choose_401 : decode cX11_choose 401 = .ok (.isub, 1) := by decide +kernel
theorem dX11_choose_402 : decode cX11_choose 402 = .ok (.aload_n 0, 1) := by decide +kernel
theorem dX11_choose_403 : decode cX11_choose 403 = .ok (.getfield 75, 3) := by decide +kernel
theorem dX11_choose_406 : decode cX11_choose 406 = .ok (.iload 5, 2) := by decide +kernel
theorem dX11_choose_408 : decode cX11_choose 408 = .ok (.iconst 1, 1) := by decide +kernel
theorem dX11_choose_409 : decode cX11_choose 409 = .ok (.isub, 1) := by decide +kernel
theorem dX11_choose_410 : decode cX11_choose 410 = .ok (.iaload, 1) := by decide +kernel
theorem dX11_choose_411 : decode cX11_choose 411 = .ok (.iload 9, 2) := by decide +kernel
theorem dX11_choose_413 : decode cX11_choose 413 = .ok (.invokevirtual 205, 3) := by decide +kernel
theorem dX11_choose_416 : decode cX11_choose 416 = .ok (.lmul, 1) := by decide +kernel
theorem dX11_choose_417 : decode cX11_choose 417 = .ok (.ladd, 1) := by decide +kernel
theorem dX11_choose_418 : decode cX11_choose 418 = .ok (.lstore 10, 2) := by decide +kernel
theorem dX11_choose_420 : decode cX11_choose 420 = .ok (.iload 9, 2) := by decide +kernel
theorem dX11_choose_422 : decode cX11_choose 422 = .ok (.ifCond .eq 11, 3) := by decide +kernel
theorem dX11_choose_425 : decode cX11_choose 425 = .ok (.lload 10, 2) := by decide +kernel
theorem dX11_choose_427 : decode cX11_choose 427 = .ok (.lload 6, 2) := by decide +kernel
theorem dX11_choose_429 : decode cX11_choose 429 = .ok (.lcmp, 1) := by decide +kernel
theorem dX11_choose_430 : decode cX11_choose 430 = .ok (.ifCond .ge 11, 3) := by decide +kernel
theorem dX11_choose_433 : decode cX11_choose 433 = .ok (.lload 10, 2) := by decide +kernel
theorem dX11_choose_435 : decode cX11_choose 435 = .ok (.lstore 6, 2) := by decide +kernel
theorem dX11_choose_437 : decode cX11_choose 437 = .ok (.iload 9, 2) := by decide +kernel
theorem dX11_choose_439 : decode cX11_choose 439 = .ok (.istore 8, 2) := by decide +kernel
theorem dX11_choose_441 : decode cX11_choose 441 = .ok (.iinc 9 1, 3) := by decide +kernel
theorem dX11_choose_444 : decode cX11_choose 444 = .ok (.goto (-88), 3) := by decide +kernel
theorem dX11_choose_447 : decode cX11_choose 447 = .ok (.aload_n 0, 1) := by decide +kernel
theorem dX11_choose_448 : decode cX11_choose 448 = .ok (.getfield 75, 3) := by decide +kernel
theorem dX11_choose_451 : decode cX11_choose 451 = .ok (.iload 5, 2) := by decide +kernel
theorem dX11_choose_453 : decode cX11_choose 453 = .ok (.iload 8, 2) := by decide +kernel
theorem dX11_choose_455 : decode cX11_choose 455 = .ok (.iastore, 1) := by decide +kernel
theorem dX11_choose_456 : decode cX11_choose 456 = .ok (.iload 5, 2) := by decide +kernel
theorem dX11_choose_458 : decode cX11_choose 458 = .ok (.ifCond .ne 8, 3) := by decide +kernel
theorem dX11_choose_461 : decode cX11_choose 461 = .ok (.lload 6, 2) := by decide +kernel
theorem dX11_choose_463 : decode cX11_choose 463 = .ok (.goto 4, 3) := by decide +kernel
theorem dX11_choose_466 : decode cX11_choose 466 = .ok (.lload_n 3, 1) := by decide +kernel
theorem dX11_choose_467 : decode cX11_choose 467 = .ok (.lstore_n 3, 1) := by decide +kernel
theorem dX11_choose_468 : decode cX11_choose 468 = .ok (.iinc 5 1, 3) := by decide +kernel
theorem dX11_choose_471 : decode cX11_choose 471 = .ok (.goto (-133), 3) := by decide +kernel
theorem dX11_choose_474 : decode cX11_choose 474 = .ok (.aload_n 0, 1) := by decide +kernel
theorem dX11_choose_475 : decode cX11_choose 475 = .ok (.iconst 1, 1) := by decide +kernel
theorem dX11_choose_476 : decode cX11_choose 476 = .ok (.putfield 143, 3) := by decide +kernel
theorem dX11_choose_479 : decode cX11_choose 479 = .ok (.aload_n 0, 1) := by decide +kernel
theorem dX11_choose_480 : decode cX11_choose 480 = .ok (.iconst 0, 1) := by decide +kernel
theorem dX11_choose_481 : decode cX11_choose 481 = .ok (.putfield 147, 3) := by decide +kernel
theorem dX11_choose_484 : decode cX11_choose 484 = .ok (.lload_n 3, 1) := by decide +kernel
theorem dX11_choose_485 : decode cX11_choose 485 = .ok (.lreturn, 1) := by decide +kernel
theorem dX11_chosen_0 : decode cX11_chosen 0 = .ok (.aload_n 0, 1) := by decide +kernel
theorem dX11_chosen_1 : decode cX11_chosen 1 = .ok (.iload_n 1, 1) := by decide +kernel
theorem dX11_chosen_2 : decode cX11_chosen 2 = .ok (.invokevirtual 184, 3) := by decide +kernel
theorem dX11_chosen_5 : decode cX11_chosen 5 = .ok (.ifCond .ne 7, 3) := by decide +kernel
theorem dX11_chosen_8 : decode cX11_chosen 8 = .ok (.iconst (-1), 1) := by decide +kernel
theorem dX11_chosen_9 : decode cX11_chosen 9 = .ok (.goto 21, 3) := by decide +kernel
theorem dX11_chosen_12 : decode cX11_chosen 12 = .ok (.aload_n 0, 1) := by decide +kernel
theorem dX11_chosen_13 : decode cX11_chosen 13 = .ok (.getfield 143, 3) := by decide +kernel
theorem dX11_chosen_16 : decode cX11_chosen 16 = .ok (.ifCond .eq 12, 3) := by decide +kernel
theorem dX11_chosen_19 : decode cX11_chosen 19 = .ok (.aload_n 0, 1) := by decide +kernel
theorem dX11_chosen_20 : decode cX11_chosen 20 = .ok (.getfield 75, 3) := by decide +kernel
theorem dX11_chosen_23 : decode cX11_chosen 23 = .ok (.iload_n 1, 1) := by decide +kernel
theorem dX11_chosen_24 : decode cX11_chosen 24 = .ok (.iaload, 1) := by decide +kernel
theorem dX11_chosen_25 : decode cX11_chosen 25 = .ok (.goto 5, 3) := by decide +kernel
theorem dX11_chosen_28 : decode cX11_chosen 28 = .ok (.bipush (-9), 2) := by decide +kernel
theorem dX11_chosen_30 : decode cX11_chosen 30 = .ok (.ireturn, 1) := by decide +kernel
theorem dX11_addTerm_0 : decode cX11_addTerm 0 = .ok (.aload_n 0, 1) := by decide +kernel
theorem dX11_addTerm_1 : decode cX11_addTerm 1 = .ok (.getfield 86, 3) := by decide +kernel
theorem dX11_addTerm_4 : decode cX11_addTerm 4 = .ok (.bipush 20, 2) := by decide +kernel
theorem dX11_addTerm_6 : decode cX11_addTerm 6 = .ok (.iload_n 1, 1) := by decide +kernel
theorem dX11_addTerm_7 : decode cX11_addTerm 7 = .ok (.imul, 1) := by decide +kernel
theorem dX11_addTerm_8 : decode cX11_addTerm 8 = .ok (.iload_n 1, 1) := by decide +kernel
theorem dX11_addTerm_9 : decode cX11_addTerm 9 = .ok (.iadd, 1) := by decide +kernel
theorem dX11_addTerm_10 : decode cX11_addTerm 10 = .ok (.dup2, 1) := by decide +kernel
theorem dX11_addTerm_11 : decode cX11_addTerm 11 = .ok (.laload, 1) := by decide +kernel
theorem dX11_addTerm_12 : decode cX11_addTerm 12 = .ok (.lload 5, 2) := by decide +kernel
theorem dX11_addTerm_14 : decode cX11_addTerm 14 = .ok (.ladd, 1) := by decide +kernel
theorem dX11_addTerm_15 : decode cX11_addTerm 15 = .ok (.lastore, 1) := by decide +kernel
theorem dX11_addTerm_16 : decode cX11_addTerm 16 = .ok (.aload_n 0, 1) := by decide +kernel
theorem dX11_addTerm_17 : decode cX11_addTerm 17 = .ok (.getfield 86, 3) := by decide +kernel
theorem dX11_addTerm_20 : decode cX11_addTerm 20 = .ok (.bipush 20, 2) := by decide +kernel
theorem dX11_addTerm_22 : decode cX11_addTerm 22 = .ok (.iload_n 2, 1) := by decide +kernel
theorem dX11_addTerm_23 : decode cX11_addTerm 23 = .ok (.imul, 1) := by decide +kernel
theorem dX11_addTerm_24 : decode cX11_addTerm 24 = .ok (.iload_n 2, 1) := by decide +kernel
theorem dX11_addTerm_25 : decode cX11_addTerm 25 = .ok (.iadd, 1) := by decide +kernel
theorem dX11_addTerm_26 : decode cX11_addTerm 26 = .ok (.dup2, 1) := by decide +kernel
theorem dX11_addTerm_27 : decode cX11_addTerm 27 = .ok (.laload, 1) := by decide +kernel
theorem dX11_addTerm_28 : decode cX11_addTerm 28 = .ok (.lload 5, 2) := by decide +kernel
theorem dX11_addTerm_30 : decode cX11_addTerm 30 = .ok (.ladd, 1) := by decide +kernel
theorem dX11_addTerm_31 : decode cX11_addTerm 31 = .ok (.lastore, 1) := by decide +kernel
theorem dX11_addTerm_32 : decode cX11_addTerm 32 = .ok (.aload_n 0, 1) := by decide +kernel
theorem dX11_addTerm_33 : decode cX11_addTerm 33 = .ok (.getfield 86, 3) := by decide +kernel
theorem dX11_addTerm_36 : decode cX11_addTerm 36 = .ok (.bipush 20, 2) := by decide +kernel
theorem dX11_addTerm_38 : decode cX11_addTerm 38 = .ok (.iload_n 1, 1) := by decide +kernel
theorem dX11_addTerm_39 : decode cX11_addTerm 39 = .ok (.imul, 1) := by decide +kernel
theorem dX11_addTerm_40 : decode cX11_addTerm 40 = .ok (.iload_n 2, 1) := by decide +kernel
theorem dX11_addTerm_41 : decode cX11_addTerm 41 = .ok (.iadd, 1) := by decide +kernel
theorem dX11_addTerm_42 : decode cX11_addTerm 42 = .ok (.dup2, 1) := by decide +kernel
theorem dX11_addTerm_43 : decode cX11_addTerm 43 = .ok (.laload, 1) := by decide +kernel
theorem dX11_addTerm_44 : decode cX11_addTerm 44 = .ok (.lload 5, 2) := by decide +kernel
theorem dX11_addTerm_46 : decode cX11_addTerm 46 = .ok (.lsub, 1) := by decide +kernel
theorem dX11_addTerm_47 : decode cX11_addTerm 47 = .ok (.lastore, 1) := by decide +kernel
theorem dX11_addTerm_48 : decode cX11_addTerm 48 = .ok (.aload_n 0, 1) := by decide +kernel
theorem dX11_addTerm_49 : decode cX11_addTerm 49 = .ok (.getfield 86, 3) := by decide +kernel
theorem dX11_addTerm_52 : decode cX11_addTerm 52 = .ok (.bipush 20, 2) := by decide +kernel
theorem dX11_addTerm_54 : decode cX11_addTerm 54 = .ok (.iload_n 2, 1) := by decide +kernel
theorem dX11_addTerm_55 : decode cX11_addTerm 55 = .ok (.imul, 1) := by decide +kernel
theorem dX11_addTerm_56 : decode cX11_addTerm 56 = .ok (.iload_n 1, 1) := by decide +kernel
theorem dX11_addTerm_57 : decode cX11_addTerm 57 = .ok (.iadd, 1) := by decide +kernel
theorem dX11_addTerm_58 : decode cX11_addTerm 58 = .ok (.dup2, 1) := by decide +kernel
theorem dX11_addTerm_59 : decode cX11_addTerm 59 = .ok (.laload, 1) := by decide +kernel
theorem dX11_addTerm_60 : decode cX11_addTerm 60 = .ok (.lload 5, 2) := by decide +kernel
theorem dX11_addTerm_62 : decode cX11_addTerm 62 = .ok (.lsub, 1) := by decide +kernel
theorem dX11_addTerm_63 : decode cX11_addTerm 63 = .ok (.lastore, 1) := by decide +kernel
theorem dX11_addTerm_64 : decode cX11_addTerm 64 = .ok (.aload_n 0, 1) := by decide +kernel
theorem dX11_addTerm_65 : decode cX11_addTerm 65 = .ok (.getfield 89, 3) := by decide +kernel
theorem dX11_addTerm_68 : decode cX11_addTerm 68 = .ok (.iload_n 1, 1) := by decide +kernel
theorem dX11_addTerm_69 : decode cX11_addTerm 69 = .ok (.dup2, 1) := by decide +kernel
theorem dX11_addTerm_70 : decode cX11_addTerm 70 = .ok (.laload, 1) := by decide +kernel
theorem dX11_addTerm_71 : decode cX11_addTerm 71 = .ok (.lload 5, 2) := by decide +kernel
theorem dX11_addTerm_73 : decode cX11_addTerm 73 = .ok (.lload_n 3, 1) := by decide +kernel
theorem dX11_addTerm_74 : decode cX11_addTerm 74 = .ok (.lmul, 1) := by decide +kernel
theorem dX11_addTerm_75 : decode cX11_addTerm 75 = .ok (.ladd, 1) := by decide +kernel
theorem dX11_addTerm_76 : decode cX11_addTerm 76 = .ok (.lastore, 1) := by decide +kernel
theorem dX11_addTerm_77 : decode cX11_addTerm 77 = .ok (.aload_n 0, 1) := by decide +kernel
theorem dX11_addTerm_78 : decode cX11_addTerm 78 = .ok (.getfield 89, 3) := by decide +kernel
theorem dX11_addTerm_81 : decode cX11_addTerm 81 = .ok (.iload_n 2, 1) := by decide +kernel
theorem dX11_addTerm_82 : decode cX11_addTerm 82 = .ok (.dup2, 1) := by decide +kernel
theorem dX11_addTerm_83 : decode cX11_addTerm 83 = .ok (.laload, 1) := by decide +kernel
theorem dX11_addTerm_84 : decode cX11_addTerm 84 = .ok (.lload 5, 2) := by decide +kernel
theorem dX11_addTerm_86 : decode cX11_addTerm 86 = .ok (.lload_n 3, 1) := by decide +kernel
theorem dX11_addTerm_87 : decode cX11_addTerm 87 = .ok (.lmul, 1) := by decide +kernel
theorem dX11_addTerm_88 : decode cX11_addTerm 88 = .ok (.lsub, 1) := by decide +kernel
theorem dX11_addTerm_89 : decode cX11_addTerm 89 = .ok (.lastore, 1) := by decide +kernel
theorem dX11_addTerm_90 : decode cX11_addTerm 90 = .ok (.aload_n 0, 1) := by decide +kernel
theorem dX11_addTerm_91 : decode cX11_addTerm 91 = .ok (.dup, 1) := by decide +kernel
theorem dX11_addTerm_92 : decode cX11_addTerm 92 = .ok (.getfield 209, 3) := by decide +kernel
theorem dX11_addTerm_95 : decode cX11_addTerm 95 = .ok (.lload 5, 2) := by decide +kernel
theorem dX11_addTerm_97 : decode cX11_addTerm 97 = .ok (.lload_n 3, 1) := by decide +kernel
theorem dX11_addTerm_98 : decode cX11_addTerm 98 = .ok (.lmul, 1) := by decide +kernel
theorem dX11_addTerm_99 : decode cX11_addTerm 99 = .ok (.lload_n 3, 1) := by decide +kernel
theorem dX11_addTerm_100 : decode cX11_addTerm 100 = .ok (.lmul, 1) := by decide +kernel
theorem dX11_addTerm_101 : decode cX11_addTerm 101 = .ok (.ladd, 1) := by decide +kernel
theorem dX11_addTerm_102 : decode cX11_addTerm 102 = .ok (.putfield 209, 3) := by decide +kernel
theorem dX11_addTerm_105 : decode cX11_addTerm 105 = .ok (.lload 5, 2) := by decide +kernel
theorem dX11_addTerm_107 : decode cX11_addTerm 107 = .ok (.lconst 0, 1) := by decide +kernel
theorem dX11_addTerm_108 : decode cX11_addTerm 108 = .ok (.lcmp, 1) := by decide +kernel
theorem dX11_addTerm_109 : decode cX11_addTerm 109 = .ok (.ifCond .le 68, 3) := by decide +kernel
theorem dX11_addTerm_112 : decode cX11_addTerm 112 = .ok (.aload_n 0, 1) := by decide +kernel
theorem dX11_addTerm_113 : decode cX11_addTerm 113 = .ok (.getfield 95, 3) := by decide +kernel
theorem dX11_addTerm_116 : decode cX11_addTerm 116 = .ok (.iload_n 1, 1) := by decide +kernel
theorem dX11_addTerm_117 : decode cX11_addTerm 117 = .ok (.iaload, 1) := by decide +kernel
theorem dX11_addTerm_118 : decode cX11_addTerm 118 = .ok (.istore 7, 2) := by decide +kernel
theorem dX11_addTerm_120 : decode cX11_addTerm 120 = .ok (.aload_n 0, 1) := by decide +kernel
theorem dX11_addTerm_121 : decode cX11_addTerm 121 = .ok (.getfield 95, 3) := by decide +kernel
theorem dX11_addTerm_124 : decode cX11_addTerm 124 = .ok (.iload_n 2, 1) := by decide +kernel
theorem dX11_addTerm_125 : decode cX11_addTerm 125 = .ok (.iaload, 1) := by decide +kernel
theorem dX11_addTerm_126 : decode cX11_addTerm 126 = .ok (.istore 8, 2) := by decide +kernel
theorem dX11_addTerm_128 : decode cX11_addTerm 128 = .ok (.iconst 0, 1) := by decide +kernel
theorem dX11_addTerm_129 : decode cX11_addTerm 129 = .ok (.istore 9, 2) := by decide +kernel
theorem dX11_addTerm_131 : decode cX11_addTerm 131 = .ok (.iload 9, 2) := by decide +kernel
theorem dX11_addTerm_133 : decode cX11_addTerm 133 = .ok (.aload_n 0, 1) := by decide +kernel
theorem dX11_addTerm_134 : decode cX11_addTerm 134 = .ok (.getfield 160, 3) := by decide +kernel
theorem dX11_addTerm_137 : decode cX11_addTerm 137 = .ok (.if_icmp .ge 40, 3) := by decide +kernel
theorem dX11_addTerm_140 : decode cX11_addTerm 140 = .ok (.aload_n 0, 1) := by decide +kernel
theorem dX11_addTerm_141 : decode cX11_addTerm 141 = .ok (.getfield 95, 3) := by decide +kernel
theorem dX11_addTerm_144 : decode cX11_addTerm 144 = .ok (.iload 9, 2) := by decide +kernel
theorem dX11_addTerm_146 : decode cX11_addTerm 146 = .ok (.aload_n 0, 1) := by decide +kernel
theorem dX11_addTerm_147 : decode cX11_addTerm 147 = .ok (.getfield 95, 3) := by decide +kernel
theorem dX11_addTerm_150 : decode cX11_addTerm 150 = .ok (.iload 9, 2) := by decide +kernel
theorem dX11_addTerm_152 : decode cX11_addTerm 152 = .ok (.iaload, 1) := by decide +kernel
theorem dX11_addTerm_153 : decode cX11_addTerm 153 = .ok (.iload 7, 2) := by decide +kernel
theorem dX11_addTerm_155 : decode cX11_addTerm 155 = .ok (.if_icmp .ne 8, 3) := by decide +kernel
theorem dX11_addTerm_158 : decode cX11_addTerm 158 = .ok (.iload 8, 2) := by decide +kernel
theorem dX11_addTerm_160 : decode cX11_addTerm 160 = .ok (.goto 10, 3) := by decide +kernel
theorem dX11_addTerm_163 : decode cX11_addTerm 163 = .ok (.aload_n 0, 1) := by decide +kernel
theorem dX11_addTerm_164 : decode cX11_addTerm 164 = .ok (.getfield 95, 3) := by decide +kernel
theorem dX11_addTerm_167 : decode cX11_addTerm 167 = .ok (.iload 9, 2) := by decide +kernel
theorem dX11_addTerm_169 : decode cX11_addTerm 169 = .ok (.iaload, 1) := by decide +kernel
theorem dX11_addTerm_170 : decode cX11_addTerm 170 = .ok (.iastore, 1) := by decide +kernel
theorem dX11_addTerm_171 : decode cX11_addTerm 171 = .ok (.iinc 9 1, 3) := by decide +kernel
theorem dX11_addTerm_174 : decode cX11_addTerm 174 = .ok (.goto (-43), 3) := by decide +kernel
theorem dX11_addTerm_177 : decode cX11_addTerm 177 = .ok (.return_, 1) := by decide +kernel
