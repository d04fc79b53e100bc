theorem dX11_isOdd_0 : decode cX11_isOdd 0 = .ok (.aload_n 0, 1) := by decide +kernel
theorem dX11_isOdd_1 : decode cX11_isOdd 1 = .ok (.getfield 113, 3) := by decide +kernel
theorem dX11_isOdd_4 : decode cX11_isOdd 4 = .ok (.bipush 18, 2) := by decide +kernel
theorem dX11_isOdd_6 : decode cX11_isOdd 6 = .ok (.iload_n 1, 1) := by decide +kernel
theorem dX11_isOdd_7 : decode cX11_isOdd 7 = .ok (.imul, 1) := by decide +kernel
theorem dX11_isOdd_8 : decode cX11_isOdd 8 = .ok (.laload, 1) := by decide +kernel
theorem dX11_isOdd_9 : decode cX11_isOdd 9 = .ok (.lconst 1, 1) := by decide +kernel
theorem dX11_isOdd_10 : decode cX11_isOdd 10 = .ok (.land, 1) := by decide +kernel
theorem dX11_isOdd_11 : decode cX11_isOdd 11 = .ok (.lconst 1, 1) := by decide +kernel
theorem dX11_isOdd_12 : decode cX11_isOdd 12 = .ok (.lcmp, 1) := by decide +kernel
theorem dX11_isOdd_13 : decode cX11_isOdd 13 = .ok (.ifCond .ne 7, 3) := by decide +kernel
theorem dX11_isOdd_16 : decode cX11_isOdd 16 = .ok (.iconst 1, 1) := by decide +kernel
theorem dX11_isOdd_17 : decode cX11_isOdd 17 = .ok (.goto 4, 3) := by decide +kernel
theorem dX11_isOdd_20 : decode cX11_isOdd 20 = .ok (.iconst 0, 1) := by decide +kernel
theorem dX11_isOdd_21 : decode cX11_isOdd 21 = .ok (.ireturn, 1) := by decide +kernel
theorem dX11_divisor_0 : decode cX11_divisor 0 = .ok (.iconst 0, 1) := by decide +kernel
theorem dX11_divisor_1 : decode cX11_divisor 1 = .ok (.istore 4, 2) := by decide +kernel
theorem dX11_divisor_3 : decode cX11_divisor 3 = .ok (.aload_n 0, 1) := by decide +kernel
theorem dX11_divisor_4 : decode cX11_divisor 4 = .ok (.iload_n 2, 1) := by decide +kernel
theorem dX11_divisor_5 : decode cX11_divisor 5 = .ok (.invokevirtual 255, 3) := by decide +kernel
theorem dX11_divisor_8 : decode cX11_divisor 8 = .ok (.ifCond .ne 43, 3) := by decide +kernel
theorem dX11_divisor_11 : decode cX11_divisor 11 = .ok (.aload_n 0, 1) := by decide +kernel
theorem dX11_divisor_12 : decode cX11_divisor 12 = .ok (.iload_n 3, 1) := by decide +kernel
theorem dX11_divisor_13 : decode cX11_divisor 13 = .ok (.invokevirtual 255, 3) := by decide +kernel
theorem dX11_divisor_16 : decode cX11_divisor 16 = .ok (.ifCond .ne 35, 3) := by decide +kernel
theorem dX11_divisor_19 : decode cX11_divisor 19 = .ok (.aload_n 0, 1) := by decide +kernel
theorem dX11_divisor_20 : decode cX11_divisor 20 = .ok (.iload_n 2, 1) := by decide +kernel
theorem dX11_divisor_21 : decode cX11_divisor 21 = .ok (.invokevirtual 258, 3) := by decide +kernel
theorem dX11_divisor_24 : decode cX11_divisor 24 = .ok (.ifCond .ne 27, 3) := by decide +kernel
theorem dX11_divisor_27 : decode cX11_divisor 27 = .ok (.aload_n 0, 1) := by decide +kernel
theorem dX11_divisor_28 : decode cX11_divisor 28 = .ok (.iload_n 3, 1) := by decide +kernel
theorem dX11_divisor_29 : decode cX11_divisor 29 = .ok (.invokevirtual 258, 3) := by decide +kernel
theorem dX11_divisor_32 : decode cX11_divisor 32 = .ok (.ifCond .ne 19, 3) := by decide +kernel
theorem dX11_divisor_35 : decode cX11_divisor 35 = .ok (.aload_n 0, 1) := by decide +kernel
theorem dX11_divisor_36 : decode cX11_divisor 36 = .ok (.iload_n 2, 1) := by decide +kernel
theorem dX11_divisor_37 : decode cX11_divisor 37 = .ok (.invokevirtual 261, 3) := by decide +kernel
theorem dX11_divisor_40 : decode cX11_divisor 40 = .ok (.aload_n 0, 1) := by decide +kernel
theorem dX11_divisor_41 : decode cX11_divisor 41 = .ok (.iload_n 3, 1) := by decide +kernel
theorem dX11_divisor_42 : decode cX11_divisor 42 = .ok (.invokevirtual 261, 3) := by decide +kernel
theorem dX11_divisor_45 : decode cX11_divisor 45 = .ok (.iinc 4 1, 3) := by decide +kernel
theorem dX11_divisor_48 : decode cX11_divisor 48 = .ok (.goto (-45), 3) := by decide +kernel
theorem dX11_divisor_51 : decode cX11_divisor 51 = .ok (.aload_n 0, 1) := by decide +kernel
theorem dX11_divisor_52 : decode cX11_divisor 52 = .ok (.iload_n 2, 1) := by decide +kernel
theorem dX11_divisor_53 : decode cX11_divisor 53 = .ok (.invokevirtual 255, 3) := by decide +kernel
theorem dX11_divisor_56 : decode cX11_divisor 56 = .ok (.ifCond .ne 70, 3) := by decide +kernel
theorem dX11_divisor_59 : decode cX11_divisor 59 = .ok (.aload_n 0, 1) := by decide +kernel
theorem dX11_divisor_60 : decode cX11_divisor 60 = .ok (.iload_n 3, 1) := by decide +kernel
theorem dX11_divisor_61 : decode cX11_divisor 61 = .ok (.invokevirtual 255, 3) := by decide +kernel
theorem dX11_divisor_64 : decode cX11_divisor 64 = .ok (.ifCond .ne 62, 3) := by decide +kernel
theorem dX11_divisor_67 : decode cX11_divisor 67 = .ok (.aload_n 0, 1) := by decide +kernel
theorem dX11_divisor_68 : decode cX11_divisor 68 = .ok (.iload_n 2, 1) := by decide +kernel
theorem dX11_divisor_69 : decode cX11_divisor 69 = .ok (.invokevirtual 258, 3) := by decide +kernel
theorem dX11_divisor_72 : decode cX11_divisor 72 = .ok (.ifCond .ne 11, 3) := by decide +kernel
theorem dX11_divisor_75 : decode cX11_divisor 75 = .ok (.aload_n 0, 1) := by decide +kernel
theorem dX11_divisor_76 : decode cX11_divisor 76 = .ok (.iload_n 2, 1) := by decide +kernel
theorem dX11_divisor_77 : decode cX11_divisor 77 = .ok (.invokevirtual 261, 3) := by decide +kernel
theorem dX11_divisor_80 : decode cX11_divisor 80 = .ok (.goto (-29), 3) := by decide +kernel
theorem dX11_divisor_83 : decode cX11_divisor 83 = .ok (.aload_n 0, 1) := by decide +kernel
theorem dX11_divisor_84 : decode cX11_divisor 84 = .ok (.iload_n 3, 1) := by decide +kernel
theorem dX11_divisor_85 : decode cX11_divisor 85 = .ok (.invokevirtual 258, 3) := by decide +kernel
theorem dX11_divisor_88 : decode cX11_divisor 88 = .ok (.ifCond .ne 11, 3) := by decide +kernel
theorem dX11_divisor_91 : decode cX11_divisor 91 = .ok (.aload_n 0, 1) := by decide +kernel
theorem dX11_divisor_92 : decode cX11_divisor 92 = .ok (.iload_n 3, 1) := by decide +kernel
theorem dX11_divisor_93 : decode cX11_divisor 93 = .ok (.invokevirtual 261, 3) := by decide +kernel
theorem dX11_divisor_96 : decode cX11_divisor 96 = .ok (.goto (-45), 3) := by decide +kernel
theorem dX11_divisor_99 : decode cX11_divisor 99 = .ok (.aload_n 0, 1) := by decide +kernel
theorem dX11_divisor_100 : decode cX11_divisor 100 = .ok (.iload_n 2, 1) := by decide +kernel
theorem dX11_divisor_101 : decode cX11_divisor 101 = .ok (.iload_n 3, 1) := by decide +kernel
theorem dX11_divisor_102 : decode cX11_divisor 102 = .ok (.invokevirtual 265, 3) := by decide +kernel
theorem dX11_divisor_105 : decode cX11_divisor 105 = .ok (.ifCond .ge 12, 3) := by decide +kernel
theorem dX11_divisor_108 : decode cX11_divisor 108 = .ok (.aload_n 0, 1) := by decide +kernel
theorem dX11_divisor_109 : decode cX11_divisor 109 = .ok (.iload_n 3, 1) := by decide +kernel
theorem dX11_divisor_110 : decode cX11_divisor 110 = .ok (.iload_n 2, 1) := by decide +kernel
theorem dX11_divisor_111 : decode cX11_divisor 111 = .ok (.invokevirtual 268, 3) := by decide +kernel
theorem dX11_divisor_114 : decode cX11_divisor 114 = .ok (.goto (-63), 3) := by decide +kernel
theorem dX11_divisor_117 : decode cX11_divisor 117 = .ok (.aload_n 0, 1) := by decide +kernel
theorem dX11_divisor_118 : decode cX11_divisor 118 = .ok (.iload_n 2, 1) := by decide +kernel
theorem dX11_divisor_119 : decode cX11_divisor 119 = .ok (.iload_n 3, 1) := by decide +kernel
theorem dX11_divisor_120 : decode cX11_divisor 120 = .ok (.invokevirtual 268, 3) := by decide +kernel
theorem dX11_divisor_123 : decode cX11_divisor 123 = .ok (.goto (-72), 3) := by decide +kernel
theorem dX11_divisor_126 : decode cX11_divisor 126 = .ok (.aload_n 0, 1) := by decide +kernel
theorem dX11_divisor_127 : decode cX11_divisor 127 = .ok (.iload_n 1, 1) := by decide +kernel
theorem dX11_divisor_128 : decode cX11_divisor 128 = .ok (.aload_n 0, 1) := by decide +kernel
theorem dX11_divisor_129 : decode cX11_divisor 129 = .ok (.iload_n 2, 1) := by decide +kernel
theorem dX11_divisor_130 : decode cX11_divisor 130 = .ok (.invokevirtual 255, 3) := by decide +kernel
theorem dX11_divisor_133 : decode cX11_divisor 133 = .ok (.ifCond .eq 7, 3) := by decide +kernel
theorem dX11_divisor_136 : decode cX11_divisor 136 = .ok (.iload_n 3, 1) := by decide +kernel
theorem dX11_divisor_137 : decode cX11_divisor 137 = .ok (.goto 4, 3) := by decide +kernel
theorem dX11_divisor_140 : decode cX11_divisor 140 = .ok (.iload_n 2, 1) := by decide +kernel
theorem dX11_divisor_141 : decode cX11_divisor 141 = .ok (.invokevirtual 272, 3) := by decide +kernel
theorem dX11_divisor_144 : decode cX11_divisor 144 = .ok (.iconst 0, 1) := by decide +kernel
theorem dX11_divisor_145 : decode cX11_divisor 145 = .ok (.istore 5, 2) := by decide +kernel
theorem dX11_divisor_147 : decode cX11_divisor 147 = .ok (.iload 5, 2) := by decide +kernel
theorem dX11_divisor_149 : decode cX11_divisor 149 = .ok (.iload 4, 2) := by decide +kernel
theorem dX11_divisor_151 : decode cX11_divisor 151 = .ok (.if_icmp .ge 18, 3) := by decide +kernel
theorem dX11_divisor_154 : decode cX11_divisor 154 = .ok (.aload_n 0, 1) := by decide +kernel
theorem dX11_divisor_155 : decode cX11_divisor 155 = .ok (.iload_n 1, 1) := by decide +kernel
theorem dX11_divisor_156 : decode cX11_divisor 156 = .ok (.ldc2_w 222, 3) := by decide +kernel
theorem dX11_divisor_159 : decode cX11_divisor 159 = .ok (.lconst 0, 1) := by decide +kernel
theorem dX11_divisor_160 : decode cX11_divisor 160 = .ok (.invokevirtual 275, 3) := by decide +kernel
theorem dX11_divisor_163 : decode cX11_divisor 163 = .ok (.iinc 5 1, 3) := by decide +kernel
theorem dX11_divisor_166 : decode cX11_divisor 166 = .ok (.goto (-19), 3) := by decide +kernel
theorem dX11_divisor_169 : decode cX11_divisor 169 = .ok (.return_, 1) := by decide +kernel
theorem dX11_divide__0 : decode cX11_divide_ 0 = .ok (.aload_n 0, 1) := by decide +kernel
theorem dX11_divide__1 : decode cX11_divide_ 1 = .ok (.iload_n 1, 1) := by decide +kernel
theorem dX11_divide__2 : decode cX11_divide_ 2 = .ok (.invokevirtual 279, 3) := by decide +kernel
theorem dX11_divide__5 : decode cX11_divide_ 5 = .ok (.bipush 17, 2) := by decide +kernel
theorem dX11_divide__7 : decode cX11_divide_ 7 = .ok (.istore 4, 2) := by decide +kernel
theorem dX11_divide__9 : decode cX11_divide_ 9 = .ok (.iload 4, 2) := by decide +kernel
theorem dX11_divide__11 : decode cX11_divide_ 11 = .ok (.ifCond .lt 26, 3) := by decide +kernel
theorem dX11_divide__14 : decode cX11_divide_ 14 = .ok (.aload_n 0, 1) := by decide +kernel
theorem dX11_divide__15 : decode cX11_divide_ 15 = .ok (.getfield 113, 3) := by decide +kernel
theorem dX11_divide__18 : decode cX11_divide_ 18 = .ok (.bipush 18, 2) := by decide +kernel
theorem dX11_divide__20 : decode cX11_divide_ 20 = .ok (.iload_n 3, 1) := by decide +kernel
theorem dX11_divide__21 : decode cX11_divide_ 21 = .ok (.imul, 1) := by decide +kernel
theorem dX11_divide__22 : decode cX11_divide_ 22 = .ok (.iload 4, 2) := by decide +kernel
theorem dX11_divide__24 : decode cX11_divide_ 24 = .ok (.iadd, 1) := by decide +kernel
theorem dX11_divide__25 : decode cX11_divide_ 25 = .ok (.laload, 1) := by decide +kernel
theorem dX11_divide__26 : decode cX11_divide_ 26 = .ok (.lconst 0, 1) := by decide +kernel
theorem dX11_divide__27 : decode cX11_divide_ 27 = .ok (.lcmp, 1) := by decide +kernel
theorem dX11_divide__28 : decode cX11_divide_ 28 = .ok (.ifCond .ne 9, 3) := by decide +kernel
theorem dX11_divide__31 : decode cX11_divide_ 31 = .ok (.iinc 4 (-1), 3) := by decide +kernel
theorem dX11_divide__34 : decode cX11_divide_ 34 = .ok (.goto (-25), 3) := by decide +kernel
theorem dX11_divide__37 : decode cX11_divide_ 37 = .ok (.bipush 16, 2) := by decide +kernel
theorem dX11_divide__39 : decode cX11_divide_ 39 = .ok (.iload 4, 2) := by decide +kernel
theorem dX11_divide__41 : decode cX11_divide_ 41 = .ok (.isub, 1) := by decide +kernel
theorem dX11_divide__42 : decode cX11_divide_ 42 = .ok (.istore 5, 2) := by decide +kernel
theorem dX11_divide__44 : decode cX11_divide_ 44 = .ok (.iload 5, 2) := by decide +kernel
theorem dX11_divide__46 : decode cX11_divide_ 46 = .ok (.ifCond .lt 125, 3) := by decide +kernel
theorem dX11_divide__49 : decode cX11_divide_ 49 = .ok (.lconst 0, 1) := by decide +kernel
theorem dX11_divide__50 : decode cX11_divide_ 50 = .ok (.lstore 6, 2) := by decide +kernel
theorem dX11_divide__52 : decode cX11_divide_ 52 = .ok (.ldc2_w 253, 3) := by decide +kernel
theorem dX11_divide__55 : decode cX11_divide_ 55 = .ok (.lstore 8, 2) := by decide +kernel
theorem dX11_divide__57 : decode cX11_divide_ 57 = .ok (.lload 8, 2) := by decide +kernel
theorem dX11_divide__59 : decode cX11_divide_ 59 = .ok (.lload 6, 2) := by decide +kernel
theorem dX11_divide__61 : decode cX11_divide_ 61 = .ok (.lsub, 1) := by decide +kernel
theorem dX11_divide__62 : decode cX11_divide_ 62 = .ok (.lconst 1, 1) := by decide +kernel
theorem dX11_divide__63 : decode cX11_divide_ 63 = .ok (.lcmp, 1) := by decide +kernel
theorem dX11_divide__64 : decode cX11_divide_ 64 = .ok (.ifCond .le 71, 3) := by decide +kernel
theorem dX11_divide__67 : decode cX11_divide_ 67 = .ok (.lload 6, 2) := by decide +kernel
theorem dX11_divide__69 : decode cX11_divide_ 69 = .ok (.lload 8, 2) := by decide +kernel
theorem dX11_divide__71 : decode cX11_divide_ 71 = .ok (.ladd, 1) := by decide +kernel
theorem dX11_divide__72 : decode cX11_divide_ 72 = .ok (.ldc2_w 222, 3) := by decide +kernel
theorem dX11_divide__75 : decode cX11_divide_ 75 = .ok (.ldiv, 1) := by decide +kernel
theorem dX11_divide__76 : decode cX11_divide_ 76 = .ok (.lstore 10, 2) := by decide +kernel
theorem dX11_divide__78 : decode cX11_divide_ 78 = .ok (.aload_n 0, 1) := by decide +kernel
theorem dX11_divide__79 : decode cX11_divide_ 79 = .ok (.iload_n 3, 1) := by decide +kernel
theorem dX11_divide__80 : decode cX11_divide_ 80 = .ok (.lload 10, 2) := by decide +kernel
theorem dX11_divide__82 : decode cX11_divide_ 82 = .ok (.iload 5, 2) := by decide +kernel
theorem dX11_divide__84 : decode cX11_divide_ 84 = .ok (.invokevirtual 282, 3) := by decide +kernel
theorem dX11_divide__87 : decode cX11_divide_ 87 = .ok (.aload_n 0, 1) := by decide +kernel
theorem dX11_divide__88 : decode cX11_divide_ 88 = .ok (.bipush 11, 2) := by decide +kernel
theorem dX11_divide__90 : decode cX11_divide_ 90 = .ok (.iload_n 2, 1) := by decide +kernel
theorem dX11_divide__91 : decode cX11_divide_ 91 = .ok (.invokevirtual 265, 3) := by decide +kernel
theorem dX11_divide__94 : decode cX11_divide_ 94 = .ok (.ifCond .gt 7, 3) := by decide +kernel
theorem dX11_divide__97 : decode cX11_divide_ 97 = .ok (.iconst 1, 1) := by decide +kernel
theorem dX11_divide__98 : decode cX11_divide_ 98 = .ok (.goto 4, 3) := by decide +kernel
theorem dX11_divide__101 : decode cX11_divide_ 101 = .ok (.iconst 0, 1) := by decide +kernel
theorem dX11_divide__102 : decode cX11_divide_ 102 = .ok (.istore 12, 2) := by decide +kernel
theorem dX11_divide__104 : decode cX11_divide_ 104 = .ok (.iload 12, 2) := by decide +kernel
theorem dX11_divide__106 : decode cX11_divide_ 106 = .ok (.ifCond .eq 8, 3) := by decide +kernel
theorem dX11_divide__109 : decode cX11_divide_ 109 = .ok (.lload 10, 2) := by decide +kernel
theorem dX11_divide__111 : decode cX11_divide_ 111 = .ok (.goto 5, 3) := by decide +kernel
theorem dX11_divide__114 : decode cX11_divide_ 114 = .ok (.lload 6, 2) := by decide +kernel
theorem dX11_divide__116 : decode cX11_divide_ 116 = .ok (.lstore 6, 2) := by decide +kernel
theorem dX11_divide__118 : decode cX11_divide_ 118 = .ok (.iload 12, 2) := by decide +kernel
theorem dX11_divide__120 : decode cX11_divide_ 120 = .ok (.ifCond .eq 8, 3) := by decide +kernel
theorem dX11_divide__123 : decode cX11_divide_ 123 = .ok (.lload 8, 2) := by decide +kernel
theorem dX11_divide__125 : decode cX11_divide_ 125 = .ok (.goto 5, 3) := by decide +kernel
theorem dX11_divide__128 : decode cX11_divide_ 128 = .ok (.lload 10, 2) := by decide +kernel
theorem dX11_divide__130 : decode cX11_divide_ 130 = .ok (.lstore 8, 2) := by decide +kernel
theorem dX11_divide__132 : decode cX11_divide_ 132 = .ok (.goto (-75), 3) := by decide +kernel
theorem dX11_divide__135 : decode cX11_divide_ 135 = .ok (.aload_n 0, 1) := by decide +kernel
theorem dX11_divide__136 : decode cX11_divide_ 136 = .ok (.iload_n 3, 1) := by decide +kernel
theorem dX11_divide__137 : decode cX11_divide_ 137 = .ok (.lload 6, 2) := by decide +kernel
theorem dX11_divide__139 : decode cX11_divide_ 139 = .ok (.iload 5, 2) := by decide +kernel
theorem dX11_divide__141 : decode cX11_divide_ 141 = .ok (.invokevirtual 282, 3) := by decide +kernel
theorem dX11_divide__144 : decode cX11_divide_ 144 = .ok (.aload_n 0, 1) := by decide +kernel
theorem dX11_divide__145 : decode cX11_divide_ 145 = .ok (.iload_n 2, 1) := by decide +kernel
theorem dX11_divide__146 : decode cX11_divide_ 146 = .ok (.bipush 11, 2) := by decide +kernel
theorem dX11_divide__148 : decode cX11_divide_ 148 = .ok (.invokevirtual 268, 3) := by decide +kernel
theorem dX11_divide__151 : decode cX11_divide_ 151 = .ok (.aload_n 0, 1) := by decide +kernel
theorem dX11_divide__152 : decode cX11_divide_ 152 = .ok (.getfield 113, 3) := by decide +kernel
theorem dX11_divide__155 : decode cX11_divide_ 155 = .ok (.bipush 18, 2) := by decide +kernel
theorem dX11_divide__157 : decode cX11_divide_ 157 = .ok (.iload_n 1, 1) := by decide +kernel
theorem dX11_divide__158 : decode cX11_divide_ 158 = .ok (.imul, 1) := by decide +kernel
theorem dX11_divide__159 : decode cX11_divide_ 159 = .ok (.iload 5, 2) := by decide +kernel
theorem dX11_divide__161 : decode cX11_divide_ 161 = .ok (.iadd, 1) := by decide +kernel
theorem dX11_divide__162 : decode cX11_divide_ 162 = .ok (.lload 6, 2) := by decide +kernel
theorem dX11_divide__164 : decode cX11_divide_ 164 = .ok (.lastore, 1) := by decide +kernel
theorem dX11_divide__165 : decode cX11_divide_ 165 = .ok (.iinc 5 (-1), 3) := by decide +kernel
theorem dX11_divide__168 : decode cX11_divide_ 168 = .ok (.goto (-124), 3) := by decide +kernel
theorem dX11_divide__171 : decode cX11_divide_ 171 = .ok (.return_, 1) := by decide +kernel
theorem dX11_moved_0 : decode cX11_moved 0 = .ok (.lconst 0, 1) := by decide +kernel
theorem dX11_moved_1 : decode cX11_moved 1 = .ok (.lstore 5, 2) := by decide +kernel
theorem dX11_moved_3 : decode cX11_moved 3 = .ok (.iconst 0, 1) := by decide +kernel
theorem dX11_moved_4 : decode cX11_moved 4 = .ok (.istore 7, 2) := by decide +kernel
theorem dX11_moved_6 : decode cX11_moved 6 = .ok (.iload 7, 2) := by decide +kernel
theorem dX11_moved_8 : decode cX11_moved 8 = .ok (.bipush 18, 2) := by decide +kernel
theorem dX11_moved_10 : decode cX11_moved 10 = .ok (.if_icmp .ge 67, 3) := by decide +kernel
theorem dX11_moved_13 : decode cX11_moved 13 = .ok (.iload 7, 2) := by decide +kernel
theorem dX11_moved_15 : decode cX11_moved 15 = .ok (.iload 4, 2) := by decide +kernel
theorem dX11_moved_17 : decode cX11_moved 17 = .ok (.if_icmp .ge 7, 3) := by decide +kernel
theorem dX11_moved_20 : decode cX11_moved 20 = .ok (.lconst 0, 1) := by decide +kernel
theorem dX11_moved_21 : decode cX11_moved 21 = .ok (.goto 18, 3) := by decide +kernel
theorem dX11_moved_24 : decode cX11_moved 24 = .ok (.aload_n 0, 1) := by decide +kernel
theorem dX11_moved_25 : decode cX11_moved 25 = .ok (.getfield 113, 3) := by decide +kernel
theorem dX11_moved_28 : decode cX11_moved 28 = .ok (.bipush 18, 2) := by decide +kernel
theorem dX11_moved_30 : decode cX11_moved 30 = .ok (.iload_n 1, 1) := by decide +kernel
theorem dX11_moved_31 : decode cX11_moved 31 = .ok (.imul, 1) := by decide +kernel
theorem dX11_moved_32 : decode cX11_moved 32 = .ok (.iload 7, 2) := by decide +kernel
theorem dX11_moved_34 : decode cX11_moved 34 = .ok (.iadd, 1) := by decide +kernel
theorem dX11_moved_35 : decode cX11_moved 35 = .ok (.iload 4, 2) := by decide +kernel
theorem dX11_moved_37 : decode cX11_moved 37 = .ok (.isub, 1) := by decide +kernel
theorem dX11_moved_38 : decode cX11_moved 38 = .ok (.laload, 1) := by decide +kernel
theorem dX11_moved_39 : decode cX11_moved 39 = .ok (.lload_n 2, 1) := by decide +kernel
theorem dX11_moved_40 : decode cX11_moved 40 = .ok (.lmul, 1) := by decide +kernel
theorem dX11_moved_41 : decode cX11_moved 41 = .ok (.lload 5, 2) := by decide +kernel
theorem dX11_moved_43 : decode cX11_moved 43 = .ok (.ladd, 1) := by decide +kernel
theorem dX11_moved_44 : decode cX11_moved 44 = .ok (.lstore 8, 2) := by decide +kernel
theorem dX11_moved_46 : decode cX11_moved 46 = .ok (.aload_n 0, 1) := by decide +kernel
theorem dX11_moved_47 : decode cX11_moved 47 = .ok (.getfield 113, 3) := by decide +kernel
theorem dX11_moved_50 : decode cX11_moved 50 = .ok (.sipush 198, 3) := by decide +kernel
theorem dX11_moved_53 : decode cX11_moved 53 = .ok (.iload 7, 2) := by decide +kernel
theorem dX11_moved_55 : decode cX11_moved 55 = .ok (.iadd, 1) := by decide +kernel
theorem dX11_moved_56 : decode cX11_moved 56 = .ok (.lload 8, 2) := by decide +kernel
theorem dX11_moved_58 : decode cX11_moved 58 = .ok (.ldc2_w 253, 3) := by decide +kernel
theorem dX11_moved_61 : decode cX11_moved 61 = .ok (.lrem, 1) := by decide +kernel
theorem dX11_moved_62 : decode cX11_moved 62 = .ok (.lastore, 1) := by decide +kernel
theorem dX11_moved_63 : decode cX11_moved 63 = .ok (.lload 8, 2) := by decide +kernel
theorem dX11_moved_65 : decode cX11_moved 65 = .ok (.ldc2_w 253, 3) := by decide +kernel
theorem dX11_moved_68 : decode cX11_moved 68 = .ok (.ldiv, 1) := by decide +kernel
theorem dX11_moved_69 : decode cX11_moved 69 = .ok (.lstore 5, 2) := by decide +kernel
theorem dX11_moved_71 : decode cX11_moved 71 = .ok (.iinc 7 1, 3) := by decide +kernel
theorem dX11_moved_74 : decode cX11_moved 74 = .ok (.goto (-68), 3) := by decide +kernel
theorem dX11_moved_77 : decode cX11_moved 77 = .ok (.return_, 1) := by decide +kernel
theorem dX11_join_0 : decode cX11_join 0 = .ok (.iconst 0, 1) := by decide +kernel
theorem dX11_join_1 : decode cX11_join 1 = .ok (.istore_n 3, 1) := by decide +kernel
theorem dX11_join_2 : decode cX11_join 2 = .ok (.iload_n 3, 1) := by decide +kernel
theorem dX11_join_3 : decode cX11_join 3 = .ok (.bipush 14, 2) := by decide +kernel
theorem dX11_join_5 : decode cX11_join 5 = .ok (.if_icmp .ge 119, 3) := by decide +kernel
theorem dX11_join_8 : decode cX11_join 8 = .ok (.aload_n 0, 1) := by decide +kernel
theorem dX11_join_9 : decode cX11_join 9 = .ok (.getfield 104, 3) := by decide +kernel
theorem dX11_join_12 : decode cX11_join 12 = .ok (.iload_n 3, 1) := by decide +kernel
theorem dX11_join_13 : decode cX11_join 13 = .ok (.laload, 1) := by decide +kernel
theorem dX11_join_14 : decode cX11_join 14 = .ok (.lstore 4, 2) := by decide +kernel
theorem dX11_join_16 : decode cX11_join 16 = .ok (.aload_n 0, 1) := by decide +kernel
theorem dX11_join_17 : decode cX11_join 17 = .ok (.getfield 107, 3) := by decide +kernel
theorem dX11_join_20 : decode cX11_join 20 = .ok (.bipush 22, 2) := by decide +kernel
theorem dX11_join_22 : decode cX11_join 22 = .ok (.iload_n 3, 1) := by decide +kernel
theorem dX11_join_23 : decode cX11_join 23 = .ok (.imul, 1) := by decide +kernel
theorem dX11_join_24 : decode cX11_join 24 = .ok (.iload_n 2, 1) := by decide +kernel
theorem dX11_join_25 : decode cX11_join 25 = .ok (.iadd, 1) := by decide +kernel
theorem dX11_join_26 : decode cX11_join 26 = .ok (.laload, 1) := by decide +kernel
theorem dX11_join_27 : decode cX11_join 27 = .ok (.lstore 6, 2) := by decide +kernel
theorem dX11_join_29 : decode cX11_join 29 = .ok (.lconst 1, 1) := by decide +kernel
theorem dX11_join_30 : decode cX11_join 30 = .ok (.lstore 8, 2) := by decide +kernel
theorem dX11_join_32 : decode cX11_join 32 = .ok (.lconst 0, 1) := by decide +kernel
theorem dX11_join_33 : decode cX11_join 33 = .ok (.lstore 10, 2) := by decide +kernel
theorem dX11_join_35 : decode cX11_join 35 = .ok (.iconst 0, 1) := by decide +kernel
theorem dX11_join_36 : decode cX11_join 36 = .ok (.istore 12, 2) := by decide +kernel
theorem dX11_join_38 : decode cX11_join 38 = .ok (.iload 12, 2) := by decide +kernel
theorem dX11_join_40 : decode cX11_join 40 = .ok (.iload_n 3, 1) := by decide +kernel
theorem dX11_join_41 : decode cX11_join 41 = .ok (.if_icmp .ge 48, 3) := by decide +kernel
theorem dX11_join_44 : decode cX11_join 44 = .ok (.lload 10, 2) := by decide +kernel
theorem dX11_join_46 : decode cX11_join 46 = .ok (.aload_n 0, 1) := by decide +kernel
theorem dX11_join_47 : decode cX11_join 47 = .ok (.getfield 116, 3) := by decide +kernel
theorem dX11_join_50 : decode cX11_join 50 = .ok (.iload 12, 2) := by decide +kernel
theorem dX11_join_52 : decode cX11_join 52 = .ok (.laload, 1) := by decide +kernel
theorem dX11_join_53 : decode cX11_join 53 = .ok (.lload 4, 2) := by decide +kernel
theorem dX11_join_55 : decode cX11_join 55 = .ok (.lrem, 1) := by decide +kernel
theorem dX11_join_56 : decode cX11_join 56 = .ok (.lload 8, 2) := by decide +kernel
theorem dX11_join_58 : decode cX11_join 58 = .ok (.lmul, 1) := by decide +kernel
theorem dX11_join_59 : decode cX11_join 59 = .ok (.ladd, 1) := by decide +kernel
theorem dX11_join_60 : decode cX11_join 60 = .ok (.lload 4, 2) := by decide +kernel
theorem dX11_join_62 : decode cX11_join 62 = .ok (.lrem, 1) := by decide +kernel
theorem dX11_join_63 : decode cX11_join 63 = .ok (.lstore 10, 2) := by decide +kernel
theorem dX11_join_65 : decode cX11_join 65 = .ok (.lload 8, 2) := by decide +kernel
theorem dX11_join_67 : decode cX11_join 67 = .ok (.aload_n 0, 1) := by decide +kernel
theorem dX11_join_68 : decode cX11_join 68 = .ok (.getfield 104, 3) := by decide +kernel
theorem dX11_join_71 : decode cX11_join 71 = .ok (.iload 12, 2) := by decide +kernel
theorem dX11_join_73 : decode cX11_join 73 = .ok (.laload, 1) := by decide +kernel
theorem dX11_join_74 : decode cX11_join 74 = .ok (.lload 4, 2) := by decide +kernel
theorem dX11_join_76 : decode cX11_join 76 = .ok (.lrem, 1) := by decide +kernel
theorem dX11_join_77 : decode cX11_join 77 = .ok (.lmul, 1) := by decide +kernel
theorem dX11_join_78 : decode cX11_join 78 = .ok (.lload 4, 2) := by decide +kernel
theorem dX11_join_80 : decode cX11_join 80 = .ok (.lrem, 1) := by decide +kernel
theorem dX11_join_81 : decode cX11_join 81 = .ok (.lstore 8, 2) := by decide +kernel
theorem dX11_join_83 : decode cX11_join 83 = .ok (.iinc 12 1, 3) := by decide +kernel
theorem dX11_join_86 : decode cX11_join 86 = .ok (.goto (-48), 3) := by decide +kernel
theorem dX11_join_89 : decode cX11_join 89 = .ok (.aload_n 0, 1) := by decide +kernel
theorem dX11_join_90 : decode cX11_join 90 = .ok (.getfield 116, 3) := by decide +kernel
theorem dX11_join_93 : decode cX11_join 93 = .ok (.iload_n 3, 1) := by decide +kernel
theorem dX11_join_94 : decode cX11_join 94 = .ok (.aload_n 0, 1) := by decide +kernel
theorem dX11_join_95 : decode cX11_join 95 = .ok (.lload 6, 2) := by decide +kernel
theorem dX11_join_97 : decode cX11_join 97 = .ok (.lload 10, 2) := by decide +kernel
theorem dX11_join_99 : decode cX11_join 99 = .ok (.lsub, 1) := by decide +kernel
theorem dX11_join_100 : decode cX11_join 100 = .ok (.lload 4, 2) := by decide +kernel
theorem dX11_join_102 : decode cX11_join 102 = .ok (.invokevirtual 230, 3) := by decide +kernel
theorem dX11_join_105 : decode cX11_join 105 = .ok (.aload_n 0, 1) := by decide +kernel
theorem dX11_join_106 : decode cX11_join 106 = .ok (.lload 8, 2) := by decide +kernel
theorem dX11_join_108 : decode cX11_join 108 = .ok (.lload 4, 2) := by decide +kernel
theorem dX11_join_110 : decode cX11_join 110 = .ok (.invokevirtual 234, 3) := by decide +kernel
theorem dX11_join_113 : decode cX11_join 113 = .ok (.lmul, 1) := by decide +kernel
theorem dX11_join_114 : decode cX11_join 114 = .ok (.lload 4, 2) := by decide +kernel
theorem dX11_join_116 : decode cX11_join 116 = .ok (.lrem, 1) := by decide +kernel
theorem dX11_join_117 : decode cX11_join 117 = .ok (.lastore, 1) := by decide +kernel
theorem dX11_join_118 : decode cX11_join 118 = .ok (.iinc 3 1, 3) := by decide +kernel
theorem dX11_join_121 : decode cX11_join 121 = .ok (.goto (-119), 3) := by decide +kernel
theorem dX11_join_124 : decode cX11_join 124 = .ok (.aload_n 0, 1) := by decide +kernel
theorem dX11_join_125 : decode cX11_join 125 = .ok (.iload_n 1, 1) := by decide +kernel
theorem dX11_join_126 : decode cX11_join 126 = .ok (.invokevirtual 279, 3) := by decide +kernel
theorem dX11_join_129 : decode cX11_join 129 = .ok (.aload_n 0, 1) := by decide +kernel
theorem dX11_join_130 : decode cX11_join 130 = .ok (.bipush 9, 2) := by decide +kernel
theorem dX11_join_132 : decode cX11_join 132 = .ok (.invokevirtual 279, 3) := by decide +kernel
theorem dX11_join_135 : decode cX11_join 135 = .ok (.aload_n 0, 1) := by decide +kernel
theorem dX11_join_136 : decode cX11_join 136 = .ok (.getfield 113, 3) := by decide +kernel
theorem dX11_join_139 : decode cX11_join 139 = .ok (.sipush 162, 3) := by decide +kernel
theorem dX11_join_142 : decode cX11_join 142 = .ok (.lconst 1, 1) := by decide +kernel
theorem dX11_join_143 : decode cX11_join 143 = .ok (.lastore, 1) := by decide +kernel
theorem dX11_join_144 : decode cX11_join 144 = .ok (.iconst 0, 1) := by decide +kernel
theorem dX11_join_145 : decode cX11_join 145 = .ok (.istore_n 3, 1) := by decide +kernel
theorem dX11_join_146 : decode cX11_join 146 = .ok (.iload_n 3, 1) := by decide +kernel
theorem dX11_join_147 : decode cX11_join 147 = .ok (.bipush 14, 2) := by decide +kernel
theorem dX11_join_149 : decode cX11_join 149 = .ok (.if_icmp .ge 35, 3) := by decide +kernel
theorem dX11_join_152 : decode cX11_join 152 = .ok (.aload_n 0, 1) := by decide +kernel
theorem dX11_join_153 : decode cX11_join 153 = .ok (.iload_n 1, 1) := by decide +kernel
theorem dX11_join_154 : decode cX11_join 154 = .ok (.bipush 9, 2) := by decide +kernel
theorem dX11_join_156 : decode cX11_join 156 = .ok (.aload_n 0, 1) := by decide +kernel
theorem dX11_join_157 : decode cX11_join 157 = .ok (.getfield 116, 3) := by decide +kernel
theorem dX11_join_160 : decode cX11_join 160 = .ok (.iload_n 3, 1) := by decide +kernel
theorem dX11_join_161 : decode cX11_join 161 = .ok (.laload, 1) := by decide +kernel
theorem dX11_join_162 : decode cX11_join 162 = .ok (.invokevirtual 286, 3) := by decide +kernel
theorem dX11_join_165 : decode cX11_join 165 = .ok (.aload_n 0, 1) := by decide +kernel
theorem dX11_join_166 : decode cX11_join 166 = .ok (.bipush 9, 2) := by decide +kernel
theorem dX11_join_168 : decode cX11_join 168 = .ok (.aload_n 0, 1) := by decide +kernel
theorem dX11_join_169 : decode cX11_join 169 = .ok (.getfield 104, 3) := by decide +kernel
theorem dX11_join_172 : decode cX11_join 172 = .ok (.iload_n 3, 1) := by decide +kernel
theorem dX11_join_173 : decode cX11_join 173 = .ok (.laload, 1) := by decide +kernel
theorem dX11_join_174 : decode cX11_join 174 = .ok (.lconst 0, 1) := by decide +kernel
theorem dX11_join_175 : decode cX11_join 175 = .ok (.invokevirtual 275, 3) := by decide +kernel
theorem dX11_join_178 : decode cX11_join 178 = .ok (.iinc 3 1, 3) := by decide +kernel
theorem dX11_join_181 : decode cX11_join 181 = .ok (.goto (-35), 3) := by decide +kernel
theorem dX11_join_184 : decode cX11_join 184 = .ok (.aload_n 0, 1) := by decide +kernel
theorem dX11_join_185 : decode cX11_join 185 = .ok (.bipush 10, 2) := by decide +kernel
theorem dX11_join_187 : decode cX11_join 187 = .ok (.iload_n 1, 1) := by decide +kernel
theorem dX11_join_188 : decode cX11_join 188 = .ok (.invokevirtual 272, 3) := by decide +kernel
theorem dX11_join_191 : decode cX11_join 191 = .ok (.aload_n 0, 1) := by decide +kernel
theorem dX11_join_192 : decode cX11_join 192 = .ok (.bipush 10, 2) := by decide +kernel
theorem dX11_join_194 : decode cX11_join 194 = .ok (.ldc2_w 222, 3) := by decide +kernel
theorem dX11_join_197 : decode cX11_join 197 = .ok (.lconst 0, 1) := by decide +kernel
theorem dX11_join_198 : decode cX11_join 198 = .ok (.invokevirtual 275, 3) := by decide +kernel
theorem dX11_join_201 : decode cX11_join 201 = .ok (.aload_n 0, 1) := by decide +kernel
theorem dX11_join_202 : decode cX11_join 202 = .ok (.bipush 10, 2) := by decide +kernel
theorem dX11_join_204 : decode cX11_join 204 = .ok (.bipush 9, 2) := by decide +kernel
theorem dX11_join_206 : decode cX11_join 206 = .ok (.invokevirtual 265, 3) := by decide +kernel
theorem dX11_join_209 : decode cX11_join 209 = .ok (.ifCond .gt 5, 3) := by decide +kernel
theorem dX11_join_212 : decode cX11_join 212 = .ok (.iconst 0, 1) := by decide +kernel
theorem dX11_join_213 : decode cX11_join 213 = .ok (.ireturn, 1) := by decide +kernel
theorem dX11_join_214 : decode cX11_join 214 = .ok (.aload_n 0, 1) := by decide +kernel
theorem dX11_join_215 : decode cX11_join 215 = .ok (.bipush 10, 2) := by decide +kernel
theorem dX11_join_217 : decode cX11_join 217 = .ok (.bipush 9, 2) := by decide +kernel
theorem dX11_join_219 : decode cX11_join 219 = .ok (.invokevirtual 272, 3) := by decide +kernel
theorem dX11_join_222 : decode cX11_join 222 = .ok (.aload_n 0, 1) := by decide +kernel
theorem dX11_join_223 : decode cX11_join 223 = .ok (.bipush 10, 2) := by decide +kernel
theorem dX11_join_225 : decode cX11_join 225 = .ok (.iload_n 1, 1) := by decide +kernel
theorem dX11_join_226 : decode cX11_join 226 = .ok (.invokevirtual 268, 3) := by decide +kernel
theorem dX11_join_229 : decode cX11_join 229 = .ok (.aload_n 0, 1) := by decide +kernel
theorem dX11_join_230 : decode cX11_join 230 = .ok (.iload_n 1, 1) := by decide +kernel
theorem dX11_join_231 : decode cX11_join 231 = .ok (.bipush 10, 2) := by decide +kernel
theorem dX11_join_233 : decode cX11_join 233 = .ok (.invokevirtual 272, 3) := by decide +kernel
theorem dX11_join_236 : decode cX11_join 236 = .ok (.iconst 1, 1) := by decide +kernel
theorem dX11_join_237 : decode cX11_join 237 = .ok (.ireturn, 1) := by decide +kernel
theorem dX11_write_0 : decode cX11_write 0 = .ok (.bipush 17, 2) := by decide +kernel
theorem dX11_write_2 : decode cX11_write 2 = .ok (.istore_n 2, 1) := by decide +kernel
theorem dX11_write_3 : decode cX11_write 3 = .ok (.iload_n 2, 1) := by decide +kernel
theorem dX11_write_4 : decode cX11_write 4 = .ok (.ifCond .le 25, 3) := by decide +kernel
theorem dX11_write_7 : decode cX11_write 7 = .ok (.aload_n 0, 1) := by decide +kernel
theorem dX11_write_8 : decode cX11_write 8 = .ok (.getfield 113, 3) := by decide +kernel
theorem dX11_write_11 : decode cX11_write 11 = .ok (.bipush 18, 2) := by decide +kernel
theorem dX11_write_13 : decode cX11_write 13 = .ok (.iload_n 1, 1) := by decide +kernel
theorem dX11_write_14 : decode cX11_write 14 = .ok (.imul, 1) := by decide +kernel
theorem dX11_write_15 : decode cX11_write 15 = .ok (.iload_n 2, 1) := by decide +kernel
theorem dX11_write_16 : decode cX11_write 16 = .ok (.iadd, 1) := by decide +kernel
theorem dX11_write_17 : decode cX11_write 17 = .ok (.laload, 1) := by decide +kernel
theorem dX11_write_18 : decode cX11_write 18 = .ok (.lconst 0, 1) := by decide +kernel
theorem dX11_write_19 : decode cX11_write 19 = .ok (.lcmp, 1) := by decide +kernel
theorem dX11_write_20 : decode cX11_write 20 = .ok (.ifCond .ne 9, 3) := by decide +kernel
theorem dX11_write_23 : decode cX11_write 23 = .ok (.iinc 2 (-1), 3) := by decide +kernel
theorem dX11_write_26 : decode cX11_write 26 = .ok (.goto (-23), 3) := by decide +kernel
theorem dX11_write_29 : decode cX11_write 29 = .ok (.iload_n 2, 1) := by decide +kernel
theorem dX11_write_30 : decode cX11_write 30 = .ok (.istore_n 3, 1) := by decide +kernel
theorem dX11_write_31 : decode cX11_write 31 = .ok (.iload_n 3, 1) := by decide +kernel
theorem dX11_write_32 : decode cX11_write 32 = .ok (.ifCond .lt 115, 3) := by decide +kernel
theorem dX11_write_35 : decode cX11_write 35 = .ok (.aload_n 0, 1) := by decide +kernel
theorem dX11_write_36 : decode cX11_write 36 = .ok (.getfield 113, 3) := by decide +kernel
theorem dX11_write_39 : decode cX11_write 39 = .ok (.bipush 18, 2) := by decide +kernel
theorem dX11_write_41 : decode cX11_write 41 = .ok (.iload_n 1, 1) := by decide +kernel
theorem dX11_write_42 : decode cX11_write 42 = .ok (.imul, 1) := by decide +kernel
theorem dX11_write_43 : decode cX11_write 43 = .ok (.iload_n 3, 1) := by decide +kernel
theorem dX11_write_44 : decode cX11_write 44 = .ok (.iadd, 1) := by decide +kernel
theorem dX11_write_45 : decode cX11_write 45 = .ok (.laload, 1) := by decide +kernel
theorem dX11_write_46 : decode cX11_write 46 = .ok (.lstore 4, 2) := by decide +kernel
theorem dX11_write_48 : decode cX11_write 48 = .ok (.ldc2_w 290, 3) := by decide +kernel
theorem dX11_write_51 : decode cX11_write 51 = .ok (.lstore 6, 2) := by decide +kernel
theorem dX11_write_53 : decode cX11_write 53 = .ok (.iload_n 3, 1) := by decide +kernel
theorem dX11_write_54 : decode cX11_write 54 = .ok (.iload_n 2, 1) := by decide +kernel
theorem dX11_write_55 : decode cX11_write 55 = .ok (.if_icmp .ne 31, 3) := by decide +kernel
theorem dX11_write_58 : decode cX11_write 58 = .ok (.lload 6, 2) := by decide +kernel
theorem dX11_write_60 : decode cX11_write 60 = .ok (.lconst 1, 1) := by decide +kernel
theorem dX11_write_61 : decode cX11_write 61 = .ok (.lcmp, 1) := by decide +kernel
theorem dX11_write_62 : decode cX11_write 62 = .ok (.ifCond .le 24, 3) := by decide +kernel
theorem dX11_write_65 : decode cX11_write 65 = .ok (.lload 4, 2) := by decide +kernel
theorem dX11_write_67 : decode cX11_write 67 = .ok (.lload 6, 2) := by decide +kernel
theorem dX11_write_69 : decode cX11_write 69 = .ok (.ldiv, 1) := by decide +kernel
theorem dX11_write_70 : decode cX11_write 70 = .ok (.lconst 0, 1) := by decide +kernel
theorem dX11_write_71 : decode cX11_write 71 = .ok (.lcmp, 1) := by decide +kernel
theorem dX11_write_72 : decode cX11_write 72 = .ok (.ifCond .ne 14, 3) := by decide +kernel
theorem dX11_write_75 : decode cX11_write 75 = .ok (.lload 6, 2) := by decide +kernel
theorem dX11_write_77 : decode cX11_write 77 = .ok (.ldc2_w 292, 3) := by decide +kernel
theorem dX11_write_80 : decode cX11_write 80 = .ok (.ldiv, 1) := by decide +kernel
theorem dX11_write_81 : decode cX11_write 81 = .ok (.lstore 6, 2) := by decide +kernel
theorem dX11_write_83 : decode cX11_write 83 = .ok (.goto (-30), 3) := by decide +kernel
theorem dX11_write_86 : decode cX11_write 86 = .ok (.lload 6, 2) := by decide +kernel
theorem dX11_write_88 : decode cX11_write 88 = .ok (.lconst 0, 1) := by decide +kernel
theorem dX11_write_89 : decode cX11_write 89 = .ok (.lcmp, 1) := by decide +kernel
theorem dX11_write_90 : decode cX11_write 90 = .ok (.ifCond .le 51, 3) := by decide +kernel
theorem dX11_write_93 : decode cX11_write 93 = .ok (.aload_n 0, 1) := by decide +kernel
theorem dX11_write_94 : decode cX11_write 94 = .ok (.getfield 119, 3) := by decide +kernel
theorem dX11_write_97 : decode cX11_write 97 = .ok (.aload_n 0, 1) := by decide +kernel
theorem dX11_write_98 : decode cX11_write 98 = .ok (.getfield 294, 3) := by decide +kernel
theorem dX11_write_101 : decode cX11_write 101 = .ok (.ldc2_w 297, 3) := by decide +kernel
theorem dX11_write_104 : decode cX11_write 104 = .ok (.lload 4, 2) := by decide +kernel
theorem dX11_write_106 : decode cX11_write 106 = .ok (.lload 6, 2) := by decide +kernel
theorem dX11_write_108 : decode cX11_write 108 = .ok (.ldiv, 1) := by decide +kernel
theorem dX11_write_109 : decode cX11_write 109 = .ok (.ladd, 1) := by decide +kernel
theorem dX11_write_110 : decode cX11_write 110 = .ok (.l2i, 1) := by decide +kernel
theorem dX11_write_111 : decode cX11_write 111 = .ok (.i2b, 1) := by decide +kernel
theorem dX11_write_112 : decode cX11_write 112 = .ok (.bastore, 1) := by decide +kernel
theorem dX11_write_113 : decode cX11_write 113 = .ok (.aload_n 0, 1) := by decide +kernel
theorem dX11_write_114 : decode cX11_write 114 = .ok (.dup, 1) := by decide +kernel
theorem dX11_write_115 : decode cX11_write 115 = .ok (.getfield 294, 3) := by decide +kernel
theorem dX11_write_118 : decode cX11_write 118 = .ok (.iconst 1, 1) := by decide +kernel
theorem dX11_write_119 : decode cX11_write 119 = .ok (.iadd, 1) := by decide +kernel
theorem dX11_write_120 : decode cX11_write 120 = .ok (.putfield 294, 3) := by decide +kernel
theorem dX11_write_123 : decode cX11_write 123 = .ok (.lload 4, 2) := by decide +kernel
theorem dX11_write_125 : decode cX11_write 125 = .ok (.lload 6, 2) := by decide +kernel
theorem dX11_write_127 : decode cX11_write 127 = .ok (.lrem, 1) := by decide +kernel
theorem dX11_write_128 : decode cX11_write 128 = .ok (.lstore 4, 2) := by decide +kernel
theorem dX11_write_130 : decode cX11_write 130 = .ok (.lload 6, 2) := by decide +kernel
theorem dX11_write_132 : decode cX11_write 132 = .ok (.ldc2_w 292, 3) := by decide +kernel
theorem dX11_write_135 : decode cX11_write 135 = .ok (.ldiv, 1) := by decide +kernel
theorem dX11_write_136 : decode cX11_write 136 = .ok (.lstore 6, 2) := by decide +kernel
theorem dX11_write_138 : decode cX11_write 138 = .ok (.goto (-52), 3) := by decide +kernel
theorem dX11_write_141 : decode cX11_write 141 = .ok (.iinc 3 (-1), 3) := by decide +kernel
theorem dX11_write_144 : decode cX11_write 144 = .ok (.goto (-113), 3) := by decide +kernel
theorem dX11_write_147 : decode cX11_write 147 = .ok (.return_, 1) := by decide +kernel
theorem dX11_tell_0 : decode cX11_tell 0 = .ok (.aload_n 0, 1) := by decide +kernel
theorem dX11_tell_1 : decode cX11_tell 1 = .ok (.iconst 0, 1) := by decide +kernel
theorem dX11_tell_2 : decode cX11_tell 2 = .ok (.putfield 294, 3) := by decide +kernel
theorem dX11_tell_5 : decode cX11_tell 5 = .ok (.aload_n 0, 1) := by decide +kernel
theorem dX11_tell_6 : decode cX11_tell 6 = .ok (.iconst 2, 1) := by decide +kernel
theorem dX11_tell_7 : decode cX11_tell 7 = .ok (.iconst 0, 1) := by decide +kernel
theorem dX11_tell_8 : decode cX11_tell 8 = .ok (.invokevirtual 272, 3) := by decide +kernel
theorem dX11_tell_11 : decode cX11_tell 11 = .ok (.aload_n 0, 1) := by decide +kernel
theorem dX11_tell_12 : decode cX11_tell 12 = .ok (.iconst 3, 1) := by decide +kernel
theorem dX11_tell_13 : decode cX11_tell 13 = .ok (.iconst 1, 1) := by decide +kernel
theorem dX11_tell_14 : decode cX11_tell 14 = .ok (.invokevirtual 272, 3) := by decide +kernel
theorem dX11_tell_17 : decode cX11_tell 17 = .ok (.aload_n 0, 1) := by decide +kernel
theorem dX11_tell_18 : decode cX11_tell 18 = .ok (.iconst 4, 1) := by decide +kernel
theorem dX11_tell_19 : decode cX11_tell 19 = .ok (.iconst 2, 1) := by decide +kernel
theorem dX11_tell_20 : decode cX11_tell 20 = .ok (.iconst 3, 1) := by decide +kernel
theorem dX11_tell_21 : decode cX11_tell 21 = .ok (.invokevirtual 299, 3) := by decide +kernel
theorem dX11_tell_24 : decode cX11_tell 24 = .ok (.aload_n 0, 1) := by decide +kernel
theorem dX11_tell_25 : decode cX11_tell 25 = .ok (.iconst 2, 1) := by decide +kernel
theorem dX11_tell_26 : decode cX11_tell 26 = .ok (.iconst 0, 1) := by decide +kernel
theorem dX11_tell_27 : decode cX11_tell 27 = .ok (.invokevirtual 272, 3) := by decide +kernel
theorem dX11_tell_30 : decode cX11_tell 30 = .ok (.aload_n 0, 1) := by decide +kernel
theorem dX11_tell_31 : decode cX11_tell 31 = .ok (.iconst 5, 1) := by decide +kernel
theorem dX11_tell_32 : decode cX11_tell 32 = .ok (.iconst 2, 1) := by decide +kernel
theorem dX11_tell_33 : decode cX11_tell 33 = .ok (.iconst 4, 1) := by decide +kernel
theorem dX11_tell_34 : decode cX11_tell 34 = .ok (.invokevirtual 302, 3) := by decide +kernel
theorem dX11_tell_37 : decode cX11_tell 37 = .ok (.aload_n 0, 1) := by decide +kernel
theorem dX11_tell_38 : decode cX11_tell 38 = .ok (.iconst 2, 1) := by decide +kernel
theorem dX11_tell_39 : decode cX11_tell 39 = .ok (.iconst 1, 1) := by decide +kernel
theorem dX11_tell_40 : decode cX11_tell 40 = .ok (.invokevirtual 272, 3) := by decide +kernel
theorem dX11_tell_43 : decode cX11_tell 43 = .ok (.aload_n 0, 1) := by decide +kernel
theorem dX11_tell_44 : decode cX11_tell 44 = .ok (.bipush 6, 2) := by decide +kernel
theorem dX11_tell_46 : decode cX11_tell 46 = .ok (.iconst 2, 1) := by decide +kernel
theorem dX11_tell_47 : decode cX11_tell 47 = .ok (.iconst 4, 1) := by decide +kernel
theorem dX11_tell_48 : decode cX11_tell 48 = .ok (.invokevirtual 302, 3) := by decide +kernel
theorem dX11_tell_51 : decode cX11_tell 51 = .ok (.iload_n 1, 1) := by decide +kernel
theorem dX11_tell_52 : decode cX11_tell 52 = .ok (.ifCond .eq 32, 3) := by decide +kernel
theorem dX11_tell_55 : decode cX11_tell 55 = .ok (.aload_n 0, 1) := by decide +kernel
theorem dX11_tell_56 : decode cX11_tell 56 = .ok (.iconst 5, 1) := by decide +kernel
theorem dX11_tell_57 : decode cX11_tell 57 = .ok (.invokevirtual 255, 3) := by decide +kernel
theorem dX11_tell_60 : decode cX11_tell 60 = .ok (.ifCond .ne 24, 3) := by decide +kernel
theorem dX11_tell_63 : decode cX11_tell 63 = .ok (.aload_n 0, 1) := by decide +kernel
theorem dX11_tell_64 : decode cX11_tell 64 = .ok (.getfield 119, 3) := by decide +kernel
theorem dX11_tell_67 : decode cX11_tell 67 = .ok (.aload_n 0, 1) := by decide +kernel
theorem dX11_tell_68 : decode cX11_tell 68 = .ok (.getfield 294, 3) := by decide +kernel
theorem dX11_tell_71 : decode cX11_tell 71 = .ok (.bipush 45, 2) := by decide +kernel
theorem dX11_tell_73 : decode cX11_tell 73 = .ok (.bastore, 1) := by decide +kernel
theorem dX11_tell_74 : decode cX11_tell 74 = .ok (.aload_n 0, 1) := by decide +kernel
theorem dX11_tell_75 : decode cX11_tell 75 = .ok (.dup, 1) := by decide +kernel
theorem dX11_tell_76 : decode cX11_tell 76 = .ok (.getfield 294, 3) := by decide +kernel
theorem dX11_tell_79 : decode cX11_tell 79 = .ok (.iconst 1, 1) := by decide +kernel
theorem dX11_tell_80 : decode cX11_tell 80 = .ok (.iadd, 1) := by decide +kernel
theorem dX11_tell_81 : decode cX11_tell 81 = .ok (.putfield 294, 3) := by decide +kernel
theorem dX11_tell_84 : decode cX11_tell 84 = .ok (.aload_n 0, 1) := by decide +kernel
theorem dX11_tell_85 : decode cX11_tell 85 = .ok (.iconst 5, 1) := by decide +kernel
theorem dX11_tell_86 : decode cX11_tell 86 = .ok (.invokevirtual 304, 3) := by decide +kernel
theorem dX11_tell_89 : decode cX11_tell 89 = .ok (.aload_n 0, 1) := by decide +kernel
theorem dX11_tell_90 : decode cX11_tell 90 = .ok (.iconst 2, 1) := by decide +kernel
theorem dX11_tell_91 : decode cX11_tell 91 = .ok (.invokevirtual 279, 3) := by decide +kernel
theorem dX11_tell_94 : decode cX11_tell 94 = .ok (.aload_n 0, 1) := by decide +kernel
theorem dX11_tell_95 : decode cX11_tell 95 = .ok (.getfield 113, 3) := by decide +kernel
theorem dX11_tell_98 : decode cX11_tell 98 = .ok (.bipush 36, 2) := by decide +kernel
theorem dX11_tell_100 : decode cX11_tell 100 = .ok (.lconst 1, 1) := by decide +kernel
theorem dX11_tell_101 : decode cX11_tell 101 = .ok (.lastore, 1) := by decide +kernel
theorem dX11_tell_102 : decode cX11_tell 102 = .ok (.aload_n 0, 1) := by decide +kernel
theorem dX11_tell_103 : decode cX11_tell 103 = .ok (.bipush 6, 2) := by decide +kernel
theorem dX11_tell_105 : decode cX11_tell 105 = .ok (.iconst 2, 1) := by decide +kernel
theorem dX11_tell_106 : decode cX11_tell 106 = .ok (.invokevirtual 265, 3) := by decide +kernel
theorem dX11_tell_109 : decode cX11_tell 109 = .ok (.ifCond .eq 30, 3) := by decide +kernel
theorem dX11_tell_112 : decode cX11_tell 112 = .ok (.aload_n 0, 1) := by decide +kernel
theorem dX11_tell_113 : decode cX11_tell 113 = .ok (.getfield 119, 3) := by decide +kernel
theorem dX11_tell_116 : decode cX11_tell 116 = .ok (.aload_n 0, 1) := by decide +kernel
theorem dX11_tell_117 : decode cX11_tell 117 = .ok (.getfield 294, 3) := by decide +kernel
theorem dX11_tell_120 : decode cX11_tell 120 = .ok (.bipush 47, 2) := by decide +kernel
theorem dX11_tell_122 : decode cX11_tell 122 = .ok (.bastore, 1) := by decide +kernel
theorem dX11_tell_123 : decode cX11_tell 123 = .ok (.aload_n 0, 1) := by decide +kernel
theorem dX11_tell_124 : decode cX11_tell 124 = .ok (.dup, 1) := by decide +kernel
theorem dX11_tell_125 : decode cX11_tell 125 = .ok (.getfield 294, 3) := by decide +kernel
theorem dX11_tell_128 : decode cX11_tell 128 = .ok (.iconst 1, 1) := by decide +kernel
theorem dX11_tell_129 : decode cX11_tell 129 = .ok (.iadd, 1) := by decide +kernel
theorem dX11_tell_130 : decode cX11_tell 130 = .ok (.putfield 294, 3) := by decide +kernel
theorem dX11_tell_133 : decode cX11_tell 133 = .ok (.aload_n 0, 1) := by decide +kernel
theorem dX11_tell_134 : decode cX11_tell 134 = .ok (.bipush 6, 2) := by decide +kernel
theorem dX11_tell_136 : decode cX11_tell 136 = .ok (.invokevirtual 304, 3) := by decide +kernel
theorem dX11_tell_139 : decode cX11_tell 139 = .ok (.aload_n 0, 1) := by decide +kernel
theorem dX11_tell_140 : decode cX11_tell 140 = .ok (.getfield 294, 3) := by decide +kernel
theorem dX11_tell_143 : decode cX11_tell 143 = .ok (.ireturn, 1) := by decide +kernel
theorem dX11_fraction_0 : decode cX11_fraction 0 = .ok (.aload_n 0, 1) := by decide +kernel
theorem dX11_fraction_1 : decode cX11_fraction 1 = .ok (.iconst 1, 1) := by decide +kernel
theorem dX11_fraction_2 : decode cX11_fraction 2 = .ok (.bipush 20, 2) := by decide +kernel
theorem dX11_fraction_4 : decode cX11_fraction 4 = .ok (.invokevirtual 307, 3) := by decide +kernel
theorem dX11_fraction_7 : decode cX11_fraction 7 = .ok (.istore_n 2, 1) := by decide +kernel
theorem dX11_fraction_8 : decode cX11_fraction 8 = .ok (.aload_n 0, 1) := by decide +kernel
theorem dX11_fraction_9 : decode cX11_fraction 9 = .ok (.iconst 0, 1) := by decide +kernel
theorem dX11_fraction_10 : decode cX11_fraction 10 = .ok (.iload_n 1, 1) := by decide +kernel
theorem dX11_fraction_11 : decode cX11_fraction 11 = .ok (.invokevirtual 307, 3) := by decide +kernel
theorem dX11_fraction_14 : decode cX11_fraction 14 = .ok (.istore_n 3, 1) := by decide +kernel
theorem dX11_fraction_15 : decode cX11_fraction 15 = .ok (.iload_n 3, 1) := by decide +kernel
theorem dX11_fraction_16 : decode cX11_fraction 16 = .ok (.iload_n 2, 1) := by decide +kernel
theorem dX11_fraction_17 : decode cX11_fraction 17 = .ok (.if_icmp .eq 7, 3) := by decide +kernel
theorem dX11_fraction_20 : decode cX11_fraction 20 = .ok (.iconst 1, 1) := by decide +kernel
theorem dX11_fraction_21 : decode cX11_fraction 21 = .ok (.goto 4, 3) := by decide +kernel
theorem dX11_fraction_24 : decode cX11_fraction 24 = .ok (.iconst 0, 1) := by decide +kernel
theorem dX11_fraction_25 : decode cX11_fraction 25 = .ok (.ireturn, 1) := by decide +kernel
theorem dX11_place_0 : decode cX11_place 0 = .ok (.aload_n 0, 1) := by decide +kernel
theorem dX11_place_1 : decode cX11_place 1 = .ok (.iload_n 1, 1) := by decide +kernel
theorem dX11_place_2 : decode cX11_place 2 = .ok (.iload_n 2, 1) := by decide +kernel
theorem dX11_place_3 : decode cX11_place 3 = .ok (.invokevirtual 192, 3) := by decide +kernel
theorem dX11_place_6 : decode cX11_place 6 = .ok (.ifCond .ne 5, 3) := by decide +kernel
theorem dX11_place_9 : decode cX11_place 9 = .ok (.iconst (-1), 1) := by decide +kernel
theorem dX11_place_10 : decode cX11_place 10 = .ok (.ireturn, 1) := by decide +kernel
theorem dX11_place_11 : decode cX11_place 11 = .ok (.aload_n 0, 1) := by decide +kernel
theorem dX11_place_12 : decode cX11_place 12 = .ok (.getfield 147, 3) := by decide +kernel
theorem dX11_place_15 : decode cX11_place 15 = .ok (.ifCond .ne 6, 3) := by decide +kernel
theorem dX11_place_18 : decode cX11_place 18 = .ok (.bipush (-2), 2) := by decide +kernel
theorem dX11_place_20 : decode cX11_place 20 = .ok (.ireturn, 1) := by decide +kernel
theorem dX11_place_21 : decode cX11_place 21 = .ok (.aload_n 0, 1) := by decide +kernel
theorem dX11_place_22 : decode cX11_place 22 = .ok (.aload_n 0, 1) := by decide +kernel
theorem dX11_place_23 : decode cX11_place 23 = .ok (.aload_n 0, 1) := by decide +kernel
theorem dX11_place_24 : decode cX11_place 24 = .ok (.getfield 69, 3) := by decide +kernel
theorem dX11_place_27 : decode cX11_place 27 = .ok (.bipush 16, 2) := by decide +kernel
theorem dX11_place_29 : decode cX11_place 29 = .ok (.iload_n 1, 1) := by decide +kernel
theorem dX11_place_30 : decode cX11_place 30 = .ok (.imul, 1) := by decide +kernel
theorem dX11_place_31 : decode cX11_place 31 = .ok (.iload_n 2, 1) := by decide +kernel
theorem dX11_place_32 : decode cX11_place 32 = .ok (.iadd, 1) := by decide +kernel
theorem dX11_place_33 : decode cX11_place 33 = .ok (.iaload, 1) := by decide +kernel
theorem dX11_place_34 : decode cX11_place 34 = .ok (.invokevirtual 310, 3) := by decide +kernel
theorem dX11_place_37 : decode cX11_place 37 = .ok (.invokevirtual 313, 3) := by decide +kernel
theorem dX11_place_40 : decode cX11_place 40 = .ok (.ireturn, 1) := by decide +kernel
theorem dX11_move_0 : decode cX11_move 0 = .ok (.aload_n 0, 1) := by decide +kernel
theorem dX11_move_1 : decode cX11_move 1 = .ok (.iload_n 1, 1) := by decide +kernel
theorem dX11_move_2 : decode cX11_move 2 = .ok (.iload_n 2, 1) := by decide +kernel
theorem dX11_move_3 : decode cX11_move 3 = .ok (.invokevirtual 192, 3) := by decide +kernel
theorem dX11_move_6 : decode cX11_move 6 = .ok (.ifCond .ne 5, 3) := by decide +kernel
theorem dX11_move_9 : decode cX11_move 9 = .ok (.iconst (-1), 1) := by decide +kernel
theorem dX11_move_10 : decode cX11_move 10 = .ok (.ireturn, 1) := by decide +kernel
theorem dX11_move_11 : decode cX11_move 11 = .ok (.aload_n 0, 1) := by decide +kernel
theorem dX11_move_12 : decode cX11_move 12 = .ok (.getfield 147, 3) := by decide +kernel
theorem dX11_move_15 : decode cX11_move 15 = .ok (.ifCond .ne 6, 3) := by decide +kernel
theorem dX11_move_18 : decode cX11_move 18 = .ok (.bipush (-2), 2) := by decide +kernel
theorem dX11_move_20 : decode cX11_move 20 = .ok (.ireturn, 1) := by decide +kernel
theorem dX11_move_21 : decode cX11_move 21 = .ok (.aload_n 0, 1) := by decide +kernel
theorem dX11_move_22 : decode cX11_move 22 = .ok (.aload_n 0, 1) := by decide +kernel
theorem dX11_move_23 : decode cX11_move 23 = .ok (.getfield 69, 3) := by decide +kernel
theorem dX11_move_26 : decode cX11_move 26 = .ok (.bipush 16, 2) := by decide +kernel
theorem dX11_move_28 : decode cX11_move 28 = .ok (.iload_n 1, 1) := by decide +kernel
theorem dX11_move_29 : decode cX11_move 29 = .ok (.imul, 1) := by decide +kernel
theorem dX11_move_30 : decode cX11_move 30 = .ok (.iload_n 2, 1) := by decide +kernel
theorem dX11_move_31 : decode cX11_move 31 = .ok (.iadd, 1) := by decide +kernel
theorem dX11_move_32 : decode cX11_move 32 = .ok (.iaload, 1) := by decide +kernel
theorem dX11_move_33 : decode cX11_move 33 = .ok (.invokevirtual 310, 3) := by decide +kernel
theorem dX11_move_36 : decode cX11_move 36 = .ok (.istore_n 3, 1) := by decide +kernel
theorem dX11_move_37 : decode cX11_move 37 = .ok (.aload_n 0, 1) := by decide +kernel
theorem dX11_move_38 : decode cX11_move 38 = .ok (.iconst 2, 1) := by decide +kernel
theorem dX11_move_39 : decode cX11_move 39 = .ok (.invokevirtual 279, 3) := by decide +kernel
theorem dX11_move_42 : decode cX11_move 42 = .ok (.aload_n 0, 1) := by decide +kernel
theorem dX11_move_43 : decode cX11_move 43 = .ok (.iconst 2, 1) := by decide +kernel
theorem dX11_move_44 : decode cX11_move 44 = .ok (.iconst 1, 1) := by decide +kernel
theorem dX11_move_45 : decode cX11_move 45 = .ok (.ldc2_w 317, 3) := by decide +kernel
theorem dX11_move_48 : decode cX11_move 48 = .ok (.aload_n 0, 1) := by decide +kernel
theorem dX11_move_49 : decode cX11_move 49 = .ok (.getfield 7, 3) := by decide +kernel
theorem dX11_move_52 : decode cX11_move 52 = .ok (.iload_n 2, 1) := by decide +kernel
theorem dX11_move_53 : decode cX11_move 53 = .ok (.iaload, 1) := by decide +kernel
theorem dX11_move_54 : decode cX11_move 54 = .ok (.i2l, 1) := by decide +kernel
theorem dX11_move_55 : decode cX11_move 55 = .ok (.lmul, 1) := by decide +kernel
theorem dX11_move_56 : decode cX11_move 56 = .ok (.invokevirtual 286, 3) := by decide +kernel
theorem dX11_move_59 : decode cX11_move 59 = .ok (.iload_n 3, 1) := by decide +kernel
theorem dX11_move_60 : decode cX11_move 60 = .ok (.ifCond .eq 16, 3) := by decide +kernel
theorem dX11_move_63 : decode cX11_move 63 = .ok (.aload_n 0, 1) := by decide +kernel
theorem dX11_move_64 : decode cX11_move 64 = .ok (.iconst 0, 1) := by decide +kernel
theorem dX11_move_65 : decode cX11_move 65 = .ok (.iconst 2, 1) := by decide +kernel
theorem dX11_move_66 : decode cX11_move 66 = .ok (.lconst 1, 1) := by decide +kernel
theorem dX11_move_67 : decode cX11_move 67 = .ok (.invokevirtual 286, 3) := by decide +kernel
theorem dX11_move_70 : decode cX11_move 70 = .ok (.aload_n 0, 1) := by decide +kernel
theorem dX11_move_71 : decode cX11_move 71 = .ok (.iconst 1, 1) := by decide +kernel
theorem dX11_move_72 : decode cX11_move 72 = .ok (.invokevirtual 313, 3) := by decide +kernel
theorem dX11_move_75 : decode cX11_move 75 = .ok (.ireturn, 1) := by decide +kernel
theorem dX11_move_76 : decode cX11_move 76 = .ok (.aload_n 0, 1) := by decide +kernel
theorem dX11_move_77 : decode cX11_move 77 = .ok (.iconst 0, 1) := by decide +kernel
theorem dX11_move_78 : decode cX11_move 78 = .ok (.iconst 2, 1) := by decide +kernel
theorem dX11_move_79 : decode cX11_move 79 = .ok (.invokevirtual 265, 3) := by decide +kernel
theorem dX11_move_82 : decode cX11_move 82 = .ok (.ifCond .lt 15, 3) := by decide +kernel
theorem dX11_move_85 : decode cX11_move 85 = .ok (.aload_n 0, 1) := by decide +kernel
theorem dX11_move_86 : decode cX11_move 86 = .ok (.iconst 0, 1) := by decide +kernel
theorem dX11_move_87 : decode cX11_move 87 = .ok (.iconst 2, 1) := by decide +kernel
theorem dX11_move_88 : decode cX11_move 88 = .ok (.invokevirtual 268, 3) := by decide +kernel
theorem dX11_move_91 : decode cX11_move 91 = .ok (.aload_n 0, 1) := by decide +kernel
theorem dX11_move_92 : decode cX11_move 92 = .ok (.iconst 0, 1) := by decide +kernel
theorem dX11_move_93 : decode cX11_move 93 = .ok (.invokevirtual 313, 3) := by decide +kernel
theorem dX11_move_96 : decode cX11_move 96 = .ok (.ireturn, 1) := by decide +kernel
theorem dX11_move_97 : decode cX11_move 97 = .ok (.aload_n 0, 1) := by decide +kernel
theorem dX11_move_98 : decode cX11_move 98 = .ok (.iconst 2, 1) := by decide +kernel
theorem dX11_move_99 : decode cX11_move 99 = .ok (.iconst 0, 1) := by decide +kernel
theorem dX11_move_100 : decode cX11_move 100 = .ok (.invokevirtual 268, 3) := by decide +kernel
theorem dX11_move_103 : decode cX11_move 103 = .ok (.aload_n 0, 1) := by decide +kernel
theorem dX11_move_104 : decode cX11_move 104 = .ok (.iconst 0, 1) := by decide +kernel
theorem dX11_move_105 : decode cX11_move 105 = .ok (.iconst 2, 1) := by decide +kernel
theorem dX11_move_106 : decode cX11_move 106 = .ok (.invokevirtual 272, 3) := by decide +kernel
theorem dX11_move_109 : decode cX11_move 109 = .ok (.aload_n 0, 1) := by decide +kernel
theorem dX11_move_110 : decode cX11_move 110 = .ok (.iconst 1, 1) := by decide +kernel
theorem dX11_move_111 : decode cX11_move 111 = .ok (.invokevirtual 313, 3) := by decide +kernel
theorem dX11_move_114 : decode cX11_move 114 = .ok (.ireturn, 1) := by decide +kernel
theorem dX11_energy_0 : decode cX11_energy 0 = .ok (.aload_n 0, 1) := by decide +kernel
theorem dX11_energy_1 : decode cX11_energy 1 = .ok (.getfield 147, 3) := by decide +kernel
theorem dX11_energy_4 : decode cX11_energy 4 = .ok (.ifCond .eq 16, 3) := by decide +kernel
theorem dX11_energy_7 : decode cX11_energy 7 = .ok (.aload_n 0, 1) := by decide +kernel
theorem dX11_energy_8 : decode cX11_energy 8 = .ok (.aload_n 0, 1) := by decide +kernel
theorem dX11_energy_9 : decode cX11_energy 9 = .ok (.bipush 21, 2) := by decide +kernel
theorem dX11_energy_11 : decode cX11_energy 11 = .ok (.invokevirtual 310, 3) := by decide +kernel
theorem dX11_energy_14 : decode cX11_energy 14 = .ok (.invokevirtual 313, 3) := by decide +kernel
theorem dX11_energy_17 : decode cX11_energy 17 = .ok (.goto 5, 3) := by decide +kernel
theorem dX11_energy_20 : decode cX11_energy 20 = .ok (.bipush (-2), 2) := by decide +kernel
theorem dX11_energy_22 : decode cX11_energy 22 = .ok (.ireturn, 1) := by decide +kernel
theorem dX11_near_0 : decode cX11_near 0 = .ok (.aload_n 0, 1) := by decide +kernel
theorem dX11_near_1 : decode cX11_near 1 = .ok (.iload_n 1, 1) := by decide +kernel
theorem dX11_near_2 : decode cX11_near 2 = .ok (.iload_n 2, 1) := by decide +kernel
theorem dX11_near_3 : decode cX11_near 3 = .ok (.invokevirtual 192, 3) := by decide +kernel
theorem dX11_near_6 : decode cX11_near 6 = .ok (.ifCond .ne 5, 3) := by decide +kernel
theorem dX11_near_9 : decode cX11_near 9 = .ok (.iconst (-1), 1) := by decide +kernel
theorem dX11_near_10 : decode cX11_near 10 = .ok (.ireturn, 1) := by decide +kernel
theorem dX11_near_11 : decode cX11_near 11 = .ok (.aload_n 0, 1) := by decide +kernel
theorem dX11_near_12 : decode cX11_near 12 = .ok (.getfield 147, 3) := by decide +kernel
theorem dX11_near_15 : decode cX11_near 15 = .ok (.ifCond .ne 6, 3) := by decide +kernel
theorem dX11_near_18 : decode cX11_near 18 = .ok (.bipush (-2), 2) := by decide +kernel
theorem dX11_near_20 : decode cX11_near 20 = .ok (.ireturn, 1) := by decide +kernel
theorem dX11_near_21 : decode cX11_near 21 = .ok (.aload_n 0, 1) := by decide +kernel
theorem dX11_near_22 : decode cX11_near 22 = .ok (.aload_n 0, 1) := by decide +kernel
theorem dX11_near_23 : decode cX11_near 23 = .ok (.getfield 69, 3) := by decide +kernel
theorem dX11_near_26 : decode cX11_near 26 = .ok (.bipush 16, 2) := by decide +kernel
theorem dX11_near_28 : decode cX11_near 28 = .ok (.iload_n 1, 1) := by decide +kernel
theorem dX11_near_29 : decode cX11_near 29 = .ok (.imul, 1) := by decide +kernel
theorem dX11_near_30 : decode cX11_near 30 = .ok (.iload_n 2, 1) := by decide +kernel
theorem dX11_near_31 : decode cX11_near 31 = .ok (.iadd, 1) := by decide +kernel
theorem dX11_near_32 : decode cX11_near 32 = .ok (.iaload, 1) := by decide +kernel
theorem dX11_near_33 : decode cX11_near 33 = .ok (.invokevirtual 310, 3) := by decide +kernel
theorem dX11_near_36 : decode cX11_near 36 = .ok (.istore_n 3, 1) := by decide +kernel
theorem dX11_near_37 : decode cX11_near 37 = .ok (.aload_n 0, 1) := by decide +kernel
theorem dX11_near_38 : decode cX11_near 38 = .ok (.iconst 0, 1) := by decide +kernel
theorem dX11_near_39 : decode cX11_near 39 = .ok (.ldc2_w 222, 3) := by decide +kernel
theorem dX11_near_42 : decode cX11_near 42 = .ok (.lconst 0, 1) := by decide +kernel
theorem dX11_near_43 : decode cX11_near 43 = .ok (.invokevirtual 275, 3) := by decide +kernel
theorem dX11_near_46 : decode cX11_near 46 = .ok (.iload_n 3, 1) := by decide +kernel
theorem dX11_near_47 : decode cX11_near 47 = .ok (.ifCond .ne 13, 3) := by decide +kernel
theorem dX11_near_50 : decode cX11_near 50 = .ok (.aload_n 0, 1) := by decide +kernel
theorem dX11_near_51 : decode cX11_near 51 = .ok (.iconst 0, 1) := by decide +kernel
theorem dX11_near_52 : decode cX11_near 52 = .ok (.iconst 1, 1) := by decide +kernel
theorem dX11_near_53 : decode cX11_near 53 = .ok (.lconst 1, 1) := by decide +kernel
theorem dX11_near_54 : decode cX11_near 54 = .ok (.invokevirtual 286, 3) := by decide +kernel
theorem dX11_near_57 : decode cX11_near 57 = .ok (.goto 41, 3) := by decide +kernel
theorem dX11_near_60 : decode cX11_near 60 = .ok (.aload_n 0, 1) := by decide +kernel
theorem dX11_near_61 : decode cX11_near 61 = .ok (.iconst 0, 1) := by decide +kernel
theorem dX11_near_62 : decode cX11_near 62 = .ok (.iconst 1, 1) := by decide +kernel
theorem dX11_near_63 : decode cX11_near 63 = .ok (.invokevirtual 265, 3) := by decide +kernel
theorem dX11_near_66 : decode cX11_near 66 = .ok (.ifCond .gt 26, 3) := by decide +kernel
theorem dX11_near_69 : decode cX11_near 69 = .ok (.aload_n 0, 1) := by decide +kernel
theorem dX11_near_70 : decode cX11_near 70 = .ok (.iconst 2, 1) := by decide +kernel
theorem dX11_near_71 : decode cX11_near 71 = .ok (.iconst 1, 1) := by decide +kernel
theorem dX11_near_72 : decode cX11_near 72 = .ok (.invokevirtual 272, 3) := by decide +kernel
theorem dX11_near_75 : decode cX11_near 75 = .ok (.aload_n 0, 1) := by decide +kernel
theorem dX11_near_76 : decode cX11_near 76 = .ok (.iconst 2, 1) := by decide +kernel
theorem dX11_near_77 : decode cX11_near 77 = .ok (.iconst 0, 1) := by decide +kernel
theorem dX11_near_78 : decode cX11_near 78 = .ok (.invokevirtual 268, 3) := by decide +kernel
theorem dX11_near_81 : decode cX11_near 81 = .ok (.aload_n 0, 1) := by decide +kernel
theorem dX11_near_82 : decode cX11_near 82 = .ok (.iconst 0, 1) := by decide +kernel
theorem dX11_near_83 : decode cX11_near 83 = .ok (.iconst 2, 1) := by decide +kernel
theorem dX11_near_84 : decode cX11_near 84 = .ok (.invokevirtual 272, 3) := by decide +kernel
theorem dX11_near_87 : decode cX11_near 87 = .ok (.iconst 0, 1) := by decide +kernel
theorem dX11_near_88 : decode cX11_near 88 = .ok (.istore_n 3, 1) := by decide +kernel
theorem dX11_near_89 : decode cX11_near 89 = .ok (.goto 9, 3) := by decide +kernel
theorem dX11_near_92 : decode cX11_near 92 = .ok (.aload_n 0, 1) := by decide +kernel
theorem dX11_near_93 : decode cX11_near 93 = .ok (.iconst 0, 1) := by decide +kernel
theorem dX11_near_94 : decode cX11_near 94 = .ok (.iconst 1, 1) := by decide +kernel
theorem dX11_near_95 : decode cX11_near 95 = .ok (.invokevirtual 268, 3) := by decide +kernel
theorem dX11_near_98 : decode cX11_near 98 = .ok (.aload_n 0, 1) := by decide +kernel
theorem dX11_near_99 : decode cX11_near 99 = .ok (.iconst 1, 1) := by decide +kernel
theorem dX11_near_100 : decode cX11_near 100 = .ok (.ldc2_w 222, 3) := by decide +kernel
theorem dX11_near_103 : decode cX11_near 103 = .ok (.lconst 0, 1) := by decide +kernel
theorem dX11_near_104 : decode cX11_near 104 = .ok (.invokevirtual 275, 3) := by decide +kernel
theorem dX11_near_107 : decode cX11_near 107 = .ok (.aload_n 0, 1) := by decide +kernel
theorem dX11_near_108 : decode cX11_near 108 = .ok (.iconst 3, 1) := by decide +kernel
theorem dX11_near_109 : decode cX11_near 109 = .ok (.iconst 0, 1) := by decide +kernel
theorem dX11_near_110 : decode cX11_near 110 = .ok (.iconst 1, 1) := by decide +kernel
theorem dX11_near_111 : decode cX11_near 111 = .ok (.invokevirtual 302, 3) := by decide +kernel
theorem dX11_near_114 : decode cX11_near 114 = .ok (.aload_n 0, 1) := by decide +kernel
theorem dX11_near_115 : decode cX11_near 115 = .ok (.getfield 113, 3) := by decide +kernel
theorem dX11_near_118 : decode cX11_near 118 = .ok (.bipush 54, 2) := by decide +kernel
theorem dX11_near_120 : decode cX11_near 120 = .ok (.laload, 1) := by decide +kernel
theorem dX11_near_121 : decode cX11_near 121 = .ok (.aload_n 0, 1) := by decide +kernel
theorem dX11_near_122 : decode cX11_near 122 = .ok (.getfield 113, 3) := by decide +kernel
theorem dX11_near_125 : decode cX11_near 125 = .ok (.bipush 55, 2) := by decide +kernel
theorem dX11_near_127 : decode cX11_near 127 = .ok (.laload, 1) := by decide +kernel
theorem dX11_near_128 : decode cX11_near 128 = .ok (.ldc2_w 253, 3) := by decide +kernel
theorem dX11_near_131 : decode cX11_near 131 = .ok (.lmul, 1) := by decide +kernel
theorem dX11_near_132 : decode cX11_near 132 = .ok (.ladd, 1) := by decide +kernel
theorem dX11_near_133 : decode cX11_near 133 = .ok (.l2i, 1) := by decide +kernel
theorem dX11_near_134 : decode cX11_near 134 = .ok (.istore 4, 2) := by decide +kernel
theorem dX11_near_136 : decode cX11_near 136 = .ok (.iload_n 3, 1) := by decide +kernel
theorem dX11_near_137 : decode cX11_near 137 = .ok (.ifCond .ne 8, 3) := by decide +kernel
theorem dX11_near_140 : decode cX11_near 140 = .ok (.iload 4, 2) := by decide +kernel
theorem dX11_near_142 : decode cX11_near 142 = .ok (.goto 22, 3) := by decide +kernel
theorem dX11_near_145 : decode cX11_near 145 = .ok (.aload_n 0, 1) := by decide +kernel
theorem dX11_near_146 : decode cX11_near 146 = .ok (.iconst 0, 1) := by decide +kernel
theorem dX11_near_147 : decode cX11_near 147 = .ok (.invokevirtual 255, 3) := by decide +kernel
theorem dX11_near_150 : decode cX11_near 150 = .ok (.ifCond .eq 9, 3) := by decide +kernel
theorem dX11_near_153 : decode cX11_near 153 = .ok (.iload 4, 2) := by decide +kernel
theorem dX11_near_155 : decode cX11_near 155 = .ok (.ineg, 1) := by decide +kernel
theorem dX11_near_156 : decode cX11_near 156 = .ok (.goto 8, 3) := by decide +kernel
theorem dX11_near_159 : decode cX11_near 159 = .ok (.iload 4, 2) := by decide +kernel
theorem dX11_near_161 : decode cX11_near 161 = .ok (.ineg, 1) := by decide +kernel
theorem dX11_near_162 : decode cX11_near 162 = .ok (.iconst 1, 1) := by decide +kernel
theorem dX11_near_163 : decode cX11_near 163 = .ok (.isub, 1) := by decide +kernel
theorem dX11_near_164 : decode cX11_near 164 = .ok (.ireturn, 1) := by decide +kernel
theorem dX11_text_0 : decode cX11_text 0 = .ok (.aload_n 0, 1) := by decide +kernel
theorem dX11_text_1 : decode cX11_text 1 = .ok (.iload_n 1, 1) := by decide +kernel
theorem dX11_text_2 : decode cX11_text 2 = .ok (.iconst 0, 1) := by decide +kernel
theorem dX11_text_3 : decode cX11_text 3 = .ok (.aload_n 0, 1) := by decide +kernel
theorem dX11_text_4 : decode cX11_text 4 = .ok (.getfield 294, 3) := by decide +kernel
theorem dX11_text_7 : decode cX11_text 7 = .ok (.iconst 1, 1) := by decide +kernel
theorem dX11_text_8 : decode cX11_text 8 = .ok (.isub, 1) := by decide +kernel
theorem dX11_text_9 : decode cX11_text 9 = .ok (.invokevirtual 180, 3) := by decide +kernel
theorem dX11_text_12 : decode cX11_text 12 = .ok (.ifCond .eq 12, 3) := by decide +kernel
theorem dX11_text_15 : decode cX11_text 15 = .ok (.aload_n 0, 1) := by decide +kernel
theorem dX11_text_16 : decode cX11_text 16 = .ok (.getfield 119, 3) := by decide +kernel
theorem dX11_text_19 : decode cX11_text 19 = .ok (.iload_n 1, 1) := by decide +kernel
theorem dX11_text_20 : decode cX11_text 20 = .ok (.baload, 1) := by decide +kernel
theorem dX11_text_21 : decode cX11_text 21 = .ok (.goto 5, 3) := by decide +kernel
theorem dX11_text_24 : decode cX11_text 24 = .ok (.bipush (-9), 2) := by decide +kernel
theorem dX11_text_26 : decode cX11_text 26 = .ok (.ireturn, 1) := by decide +kernel
theorem dX11_shifts_0 : decode cX11_shifts 0 = .ok (.iconst 0, 1) := by decide +kernel
theorem dX11_shifts_1 : decode cX11_shifts 1 = .ok (.istore_n 1, 1) := by decide +kernel
theorem dX11_shifts_2 : decode cX11_shifts 2 = .ok (.iload_n 1, 1) := by decide +kernel
theorem dX11_shifts_3 : decode cX11_shifts 3 = .ok (.aload_n 0, 1) := by decide +kernel
theorem dX11_shifts_4 : decode cX11_shifts 4 = .ok (.getfield 154, 3) := by decide +kernel
theorem dX11_shifts_7 : decode cX11_shifts 7 = .ok (.if_icmp .ge 281, 3) := by decide +kernel
theorem dX11_shifts_10 : decode cX11_shifts 10 = .ok (.bipush (-9), 2) := by decide +kernel
theorem dX11_shifts_12 : decode cX11_shifts 12 = .ok (.istore_n 2, 1) := by decide +kernel
theorem dX11_shifts_13 : decode cX11_shifts 13 = .ok (.aload_n 0, 1) := by decide +kernel
theorem dX11_shifts_14 : decode cX11_shifts 14 = .ok (.getfield 150, 3) := by decide +kernel
theorem dX11_shifts_17 : decode cX11_shifts 17 = .ok (.iconst 1, 1) := by decide +kernel
theorem dX11_shifts_18 : decode cX11_shifts 18 = .ok (.isub, 1) := by decide +kernel
theorem dX11_shifts_19 : decode cX11_shifts 19 = .ok (.istore_n 3, 1) := by decide +kernel
theorem dX11_shifts_20 : decode cX11_shifts 20 = .ok (.iload_n 3, 1) := by decide +kernel
theorem dX11_shifts_21 : decode cX11_shifts 21 = .ok (.ifCond .lt 39, 3) := by decide +kernel
theorem dX11_shifts_24 : decode cX11_shifts 24 = .ok (.iload_n 1, 1) := by decide +kernel
theorem dX11_shifts_25 : decode cX11_shifts 25 = .ok (.ifCond .le 35, 3) := by decide +kernel
theorem dX11_shifts_28 : decode cX11_shifts 28 = .ok (.aload_n 0, 1) := by decide +kernel
theorem dX11_shifts_29 : decode cX11_shifts 29 = .ok (.iload_n 1, 1) := by decide +kernel
theorem dX11_shifts_30 : decode cX11_shifts 30 = .ok (.iload_n 3, 1) := by decide +kernel
theorem dX11_shifts_31 : decode cX11_shifts 31 = .ok (.invokevirtual 163, 3) := by decide +kernel
theorem dX11_shifts_34 : decode cX11_shifts 34 = .ok (.ifCond .eq 18, 3) := by decide +kernel
theorem dX11_shifts_37 : decode cX11_shifts 37 = .ok (.aload_n 0, 1) := by decide +kernel
theorem dX11_shifts_38 : decode cX11_shifts 38 = .ok (.iload_n 1, 1) := by decide +kernel
theorem dX11_shifts_39 : decode cX11_shifts 39 = .ok (.iconst 1, 1) := by decide +kernel
theorem dX11_shifts_40 : decode cX11_shifts 40 = .ok (.isub, 1) := by decide +kernel
theorem dX11_shifts_41 : decode cX11_shifts 41 = .ok (.iload_n 3, 1) := by decide +kernel
theorem dX11_shifts_42 : decode cX11_shifts 42 = .ok (.invokevirtual 163, 3) := by decide +kernel
theorem dX11_shifts_45 : decode cX11_shifts 45 = .ok (.ifCond .eq 7, 3) := by decide +kernel
theorem dX11_shifts_48 : decode cX11_shifts 48 = .ok (.iload_n 3, 1) := by decide +kernel
theorem dX11_shifts_49 : decode cX11_shifts 49 = .ok (.goto 4, 3) := by decide +kernel
theorem dX11_shifts_52 : decode cX11_shifts 52 = .ok (.iload_n 2, 1) := by decide +kernel
theorem dX11_shifts_53 : decode cX11_shifts 53 = .ok (.istore_n 2, 1) := by decide +kernel
theorem dX11_shifts_54 : decode cX11_shifts 54 = .ok (.iinc 3 (-1), 3) := by decide +kernel
theorem dX11_shifts_57 : decode cX11_shifts 57 = .ok (.goto (-37), 3) := by decide +kernel
theorem dX11_shifts_60 : decode cX11_shifts 60 = .ok (.aload_n 0, 1) := by decide +kernel
theorem dX11_shifts_61 : decode cX11_shifts 61 = .ok (.getfield 126, 3) := by decide +kernel
theorem dX11_shifts_64 : decode cX11_shifts 64 = .ok (.iload_n 1, 1) := by decide +kernel
theorem dX11_shifts_65 : decode cX11_shifts 65 = .ok (.iload_n 2, 1) := by decide +kernel
theorem dX11_shifts_66 : decode cX11_shifts 66 = .ok (.bipush (-9), 2) := by decide +kernel
theorem dX11_shifts_68 : decode cX11_shifts 68 = .ok (.if_icmp .ne 7, 3) := by decide +kernel
theorem dX11_shifts_71 : decode cX11_shifts 71 = .ok (.iload_n 1, 1) := by decide +kernel
theorem dX11_shifts_72 : decode cX11_shifts 72 = .ok (.goto 11, 3) := by decide +kernel
theorem dX11_shifts_75 : decode cX11_shifts 75 = .ok (.aload_n 0, 1) := by decide +kernel
theorem dX11_shifts_76 : decode cX11_shifts 76 = .ok (.getfield 126, 3) := by decide +kernel
theorem dX11_shifts_79 : decode cX11_shifts 79 = .ok (.iload_n 1, 1) := by decide +kernel
theorem dX11_shifts_80 : decode cX11_shifts 80 = .ok (.iconst 1, 1) := by decide +kernel
theorem dX11_shifts_81 : decode cX11_shifts 81 = .ok (.isub, 1) := by decide +kernel
theorem dX11_shifts_82 : decode cX11_shifts 82 = .ok (.iaload, 1) := by decide +kernel
theorem dX11_shifts_83 : decode cX11_shifts 83 = .ok (.iastore, 1) := by decide +kernel
theorem dX11_shifts_84 : decode cX11_shifts 84 = .ok (.iconst 0, 1) := by decide +kernel
theorem dX11_shifts_85 : decode cX11_shifts 85 = .ok (.istore_n 3, 1) := by decide +kernel
theorem dX11_shifts_86 : decode cX11_shifts 86 = .ok (.iload_n 3, 1) := by decide +kernel
theorem dX11_shifts_87 : decode cX11_shifts 87 = .ok (.bipush 6, 2) := by decide +kernel
theorem dX11_shifts_89 : decode cX11_shifts 89 = .ok (.if_icmp .ge 114, 3) := by decide +kernel
theorem dX11_shifts_92 : decode cX11_shifts 92 = .ok (.iconst 0, 1) := by decide +kernel
theorem dX11_shifts_93 : decode cX11_shifts 93 = .ok (.istore 4, 2) := by decide +kernel
theorem dX11_shifts_95 : decode cX11_shifts 95 = .ok (.iload_n 2, 1) := by decide +kernel
theorem dX11_shifts_96 : decode cX11_shifts 96 = .ok (.bipush (-9), 2) := by decide +kernel
theorem dX11_shifts_98 : decode cX11_shifts 98 = .ok (.if_icmp .eq 86, 3) := by decide +kernel
theorem dX11_shifts_101 : decode cX11_shifts 101 = .ok (.aload_n 0, 1) := by decide +kernel
theorem dX11_shifts_102 : decode cX11_shifts 102 = .ok (.getfield 123, 3) := by decide +kernel
theorem dX11_shifts_105 : decode cX11_shifts 105 = .ok (.bipush 6, 2) := by decide +kernel
theorem dX11_shifts_107 : decode cX11_shifts 107 = .ok (.iload_n 1, 1) := by decide +kernel
theorem dX11_shifts_108 : decode cX11_shifts 108 = .ok (.iconst 1, 1) := by decide +kernel
theorem dX11_shifts_109 : decode cX11_shifts 109 = .ok (.isub, 1) := by decide +kernel
theorem dX11_shifts_110 : decode cX11_shifts 110 = .ok (.imul, 1) := by decide +kernel
theorem dX11_shifts_111 : decode cX11_shifts 111 = .ok (.iload_n 3, 1) := by decide +kernel
theorem dX11_shifts_112 : decode cX11_shifts 112 = .ok (.iadd, 1) := by decide +kernel
theorem dX11_shifts_113 : decode cX11_shifts 113 = .ok (.iaload, 1) := by decide +kernel
theorem dX11_shifts_114 : decode cX11_shifts 114 = .ok (.aload_n 0, 1) := by decide +kernel
theorem dX11_shifts_115 : decode cX11_shifts 115 = .ok (.aload_n 0, 1) := by decide +kernel
theorem dX11_shifts_116 : decode cX11_shifts 116 = .ok (.iload_n 1, 1) := by decide +kernel
theorem dX11_shifts_117 : decode cX11_shifts 117 = .ok (.iconst 1, 1) := by decide +kernel
theorem dX11_shifts_118 : decode cX11_shifts 118 = .ok (.isub, 1) := by decide +kernel
theorem dX11_shifts_119 : decode cX11_shifts 119 = .ok (.aload_n 0, 1) := by decide +kernel
theorem dX11_shifts_120 : decode cX11_shifts 120 = .ok (.getfield 75, 3) := by decide +kernel
theorem dX11_shifts_123 : decode cX11_shifts 123 = .ok (.iload_n 1, 1) := by decide +kernel
theorem dX11_shifts_124 : decode cX11_shifts 124 = .ok (.iconst 1, 1) := by decide +kernel
theorem dX11_shifts_125 : decode cX11_shifts 125 = .ok (.isub, 1) := by decide +kernel
theorem dX11_shifts_126 : decode cX11_shifts 126 = .ok (.iaload, 1) := by decide +kernel
theorem dX11_shifts_127 : decode cX11_shifts 127 = .ok (.iload_n 2, 1) := by decide +kernel
theorem dX11_shifts_128 : decode cX11_shifts 128 = .ok (.invokevirtual 170, 3) := by decide +kernel
theorem dX11_shifts_131 : decode cX11_shifts 131 = .ok (.iload_n 3, 1) := by decide +kernel
theorem dX11_shifts_132 : decode cX11_shifts 132 = .ok (.invokevirtual 177, 3) := by decide +kernel
theorem dX11_shifts_135 : decode cX11_shifts 135 = .ok (.iadd, 1) := by decide +kernel
theorem dX11_shifts_136 : decode cX11_shifts 136 = .ok (.aload_n 0, 1) := by decide +kernel
theorem dX11_shifts_137 : decode cX11_shifts 137 = .ok (.aload_n 0, 1) := by decide +kernel
theorem dX11_shifts_138 : decode cX11_shifts 138 = .ok (.iload_n 1, 1) := by decide +kernel
theorem dX11_shifts_139 : decode cX11_shifts 139 = .ok (.aload_n 0, 1) := by decide +kernel
theorem dX11_shifts_140 : decode cX11_shifts 140 = .ok (.getfield 75, 3) := by decide +kernel
theorem dX11_shifts_143 : decode cX11_shifts 143 = .ok (.iload_n 1, 1) := by decide +kernel
theorem dX11_shifts_144 : decode cX11_shifts 144 = .ok (.iaload, 1) := by decide +kernel
theorem dX11_shifts_145 : decode cX11_shifts 145 = .ok (.iload_n 2, 1) := by decide +kernel
theorem dX11_shifts_146 : decode cX11_shifts 146 = .ok (.invokevirtual 170, 3) := by decide +kernel
theorem dX11_shifts_149 : decode cX11_shifts 149 = .ok (.iload_n 3, 1) := by decide +kernel
theorem dX11_shifts_150 : decode cX11_shifts 150 = .ok (.invokevirtual 177, 3) := by decide +kernel
theorem dX11_shifts_153 : decode cX11_shifts 153 = .ok (.isub, 1) := by decide +kernel
theorem dX11_shifts_154 : decode cX11_shifts 154 = .ok (.istore 4, 2) := by decide +kernel
theorem dX11_shifts_156 : decode cX11_shifts 156 = .ok (.iload 4, 2) := by decide +kernel
theorem dX11_shifts_158 : decode cX11_shifts 158 = .ok (.iload_n 3, 1) := by decide +kernel
theorem dX11_shifts_159 : decode cX11_shifts 159 = .ok (.ifCond .ne 21, 3) := by decide +kernel
theorem dX11_shifts_162 : decode cX11_shifts 162 = .ok (.aload_n 0, 1) := by decide +kernel
theorem dX11_shifts_163 : decode cX11_shifts 163 = .ok (.iload_n 1, 1) := by decide +kernel
theorem dX11_shifts_164 : decode cX11_shifts 164 = .ok (.iconst 1, 1) := by decide +kernel
theorem dX11_shifts_165 : decode cX11_shifts 165 = .ok (.isub, 1) := by decide +kernel
theorem dX11_shifts_166 : decode cX11_shifts 166 = .ok (.iload_n 2, 1) := by decide +kernel
theorem dX11_shifts_167 : decode cX11_shifts 167 = .ok (.invokevirtual 174, 3) := by decide +kernel
theorem dX11_shifts_170 : decode cX11_shifts 170 = .ok (.aload_n 0, 1) := by decide +kernel
theorem dX11_shifts_171 : decode cX11_shifts 171 = .ok (.iload_n 1, 1) := by decide +kernel
theorem dX11_shifts_172 : decode cX11_shifts 172 = .ok (.iload_n 2, 1) := by decide +kernel
theorem dX11_shifts_173 : decode cX11_shifts 173 = .ok (.invokevirtual 174, 3) := by decide +kernel
theorem dX11_shifts_176 : decode cX11_shifts 176 = .ok (.isub, 1) := by decide +kernel
theorem dX11_shifts_177 : decode cX11_shifts 177 = .ok (.goto 4, 3) := by decide +kernel
theorem dX11_shifts_180 : decode cX11_shifts 180 = .ok (.iconst 0, 1) := by decide +kernel
theorem dX11_shifts_181 : decode cX11_shifts 181 = .ok (.iadd, 1) := by decide +kernel
theorem dX11_shifts_182 : decode cX11_shifts 182 = .ok (.istore 4, 2) := by decide +kernel
theorem dX11_shifts_184 : decode cX11_shifts 184 = .ok (.aload_n 0, 1) := by decide +kernel
theorem dX11_shifts_185 : decode cX11_shifts 185 = .ok (.getfield 123, 3) := by decide +kernel
theorem dX11_shifts_188 : decode cX11_shifts 188 = .ok (.bipush 6, 2) := by decide +kernel
theorem dX11_shifts_190 : decode cX11_shifts 190 = .ok (.iload_n 1, 1) := by decide +kernel
theorem dX11_shifts_191 : decode cX11_shifts 191 = .ok (.imul, 1) := by decide +kernel
theorem dX11_shifts_192 : decode cX11_shifts 192 = .ok (.iload_n 3, 1) := by decide +kernel
theorem dX11_shifts_193 : decode cX11_shifts 193 = .ok (.iadd, 1) := by decide +kernel
theorem dX11_shifts_194 : decode cX11_shifts 194 = .ok (.iload 4, 2) := by decide +kernel
theorem dX11_shifts_196 : decode cX11_shifts 196 = .ok (.iastore, 1) := by decide +kernel
theorem dX11_shifts_197 : decode cX11_shifts 197 = .ok (.iinc 3 1, 3) := by decide +kernel
theorem dX11_shifts_200 : decode cX11_shifts 200 = .ok (.goto (-114), 3) := by decide +kernel
theorem dX11_shifts_203 : decode cX11_shifts 203 = .ok (.sipush (-10000), 3) := by decide +kernel
theorem dX11_shifts_206 : decode cX11_shifts 206 = .ok (.aload_n 0, 1) := by decide +kernel
theorem dX11_shifts_207 : decode cX11_shifts 207 = .ok (.getfield 7, 3) := by decide +kernel
theorem dX11_shifts_210 : decode cX11_shifts 210 = .ok (.aload_n 0, 1) := by decide +kernel
theorem dX11_shifts_211 : decode cX11_shifts 211 = .ok (.getfield 60, 3) := by decide +kernel
theorem dX11_shifts_214 : decode cX11_shifts 214 = .ok (.iload_n 1, 1) := by decide +kernel
theorem dX11_shifts_215 : decode cX11_shifts 215 = .ok (.iaload, 1) := by decide +kernel
theorem dX11_shifts_216 : decode cX11_shifts 216 = .ok (.iaload, 1) := by decide +kernel
theorem dX11_shifts_217 : decode cX11_shifts 217 = .ok (.aload_n 0, 1) := by decide +kernel
theorem dX11_shifts_218 : decode cX11_shifts 218 = .ok (.getfield 7, 3) := by decide +kernel
theorem dX11_shifts_221 : decode cX11_shifts 221 = .ok (.aload_n 0, 1) := by decide +kernel
theorem dX11_shifts_222 : decode cX11_shifts 222 = .ok (.getfield 60, 3) := by decide +kernel
theorem dX11_shifts_225 : decode cX11_shifts 225 = .ok (.aload_n 0, 1) := by decide +kernel
theorem dX11_shifts_226 : decode cX11_shifts 226 = .ok (.getfield 126, 3) := by decide +kernel
theorem dX11_shifts_229 : decode cX11_shifts 229 = .ok (.iload_n 1, 1) := by decide +kernel
theorem dX11_shifts_230 : decode cX11_shifts 230 = .ok (.iaload, 1) := by decide +kernel
theorem dX11_shifts_231 : decode cX11_shifts 231 = .ok (.iaload, 1) := by decide +kernel
theorem dX11_shifts_232 : decode cX11_shifts 232 = .ok (.iaload, 1) := by decide +kernel
theorem dX11_shifts_233 : decode cX11_shifts 233 = .ok (.isub, 1) := by decide +kernel
theorem dX11_shifts_234 : decode cX11_shifts 234 = .ok (.imul, 1) := by decide +kernel
theorem dX11_shifts_235 : decode cX11_shifts 235 = .ok (.istore_n 3, 1) := by decide +kernel
theorem dX11_shifts_236 : decode cX11_shifts 236 = .ok (.iconst 0, 1) := by decide +kernel
theorem dX11_shifts_237 : decode cX11_shifts 237 = .ok (.istore 4, 2) := by decide +kernel
theorem dX11_shifts_239 : decode cX11_shifts 239 = .ok (.iload 4, 2) := by decide +kernel
theorem dX11_shifts_241 : decode cX11_shifts 241 = .ok (.bipush 6, 2) := by decide +kernel
theorem dX11_shifts_243 : decode cX11_shifts 243 = .ok (.if_icmp .ge 32, 3) := by decide +kernel
theorem dX11_shifts_246 : decode cX11_shifts 246 = .ok (.iload_n 3, 1) := by decide +kernel
theorem dX11_shifts_247 : decode cX11_shifts 247 = .ok (.aload_n 0, 1) := by decide +kernel
theorem dX11_shifts_248 : decode cX11_shifts 248 = .ok (.getfield 123, 3) := by decide +kernel
theorem dX11_shifts_251 : decode cX11_shifts 251 = .ok (.bipush 6, 2) := by decide +kernel
theorem dX11_shifts_253 : decode cX11_shifts 253 = .ok (.iload_n 1, 1) := by decide +kernel
theorem dX11_shifts_254 : decode cX11_shifts 254 = .ok (.imul, 1) := by decide +kernel
theorem dX11_shifts_255 : decode cX11_shifts 255 = .ok (.iload 4, 2) := by decide +kernel
theorem dX11_shifts_257 : decode cX11_shifts 257 = .ok (.iadd, 1) := by decide +kernel
theorem dX11_shifts_258 : decode cX11_shifts 258 = .ok (.iaload, 1) := by decide +kernel
theorem dX11_shifts_259 : decode cX11_shifts 259 = .ok (.aload_n 0, 1) := by decide +kernel
theorem dX11_shifts_260 : decode cX11_shifts 260 = .ok (.getfield 44, 3) := by decide +kernel
theorem dX11_shifts_263 : decode cX11_shifts 263 = .ok (.iload 4, 2) := by decide +kernel
theorem dX11_shifts_265 : decode cX11_shifts 265 = .ok (.iaload, 1) := by decide +kernel
theorem dX11_shifts_266 : decode cX11_shifts 266 = .ok (.imul, 1) := by decide +kernel
theorem dX11_shifts_267 : decode cX11_shifts 267 = .ok (.iadd, 1) := by decide +kernel
theorem dX11_shifts_268 : decode cX11_shifts 268 = .ok (.istore_n 3, 1) := by decide +kernel
theorem dX11_shifts_269 : decode cX11_shifts 269 = .ok (.iinc 4 1, 3) := by decide +kernel
theorem dX11_shifts_272 : decode cX11_shifts 272 = .ok (.goto (-33), 3) := by decide +kernel
theorem dX11_shifts_275 : decode cX11_shifts 275 = .ok (.aload_n 0, 1) := by decide +kernel
theorem dX11_shifts_276 : decode cX11_shifts 276 = .ok (.getfield 129, 3) := by decide +kernel
theorem dX11_shifts_279 : decode cX11_shifts 279 = .ok (.iload_n 1, 1) := by decide +kernel
theorem dX11_shifts_280 : decode cX11_shifts 280 = .ok (.iload_n 3, 1) := by decide +kernel
theorem dX11_shifts_281 : decode cX11_shifts 281 = .ok (.iastore, 1) := by decide +kernel
theorem dX11_shifts_282 : decode cX11_shifts 282 = .ok (.iinc 1 1, 3) := by decide +kernel
theorem dX11_shifts_285 : decode cX11_shifts 285 = .ok (.goto (-283), 3) := by decide +kernel
theorem dX11_shifts_288 : decode cX11_shifts 288 = .ok (.return_, 1) := by decide +kernel
theorem dX11_pure_0 : decode cX11_pure 0 = .ok (.aload_n 0, 1) := by decide +kernel
theorem dX11_pure_1 : decode cX11_pure 1 = .ok (.iload_n 1, 1) := by decide +kernel
theorem dX11_pure_2 : decode cX11_pure 2 = .ok (.invokevirtual 184, 3) := by decide +kernel
theorem dX11_pure_5 : decode cX11_pure 5 = .ok (.ifCond .eq 14, 3) := by decide +kernel
theorem dX11_pure_8 : decode cX11_pure 8 = .ok (.aload_n 0, 1) := by decide +kernel
theorem dX11_pure_9 : decode cX11_pure 9 = .ok (.iload_n 2, 1) := by decide +kernel
theorem dX11_pure_10 : decode cX11_pure 10 = .ok (.iconst 0, 1) := by decide +kernel
theorem dX11_pure_11 : decode cX11_pure 11 = .ok (.bipush 7, 2) := by decide +kernel
theorem dX11_pure_13 : decode cX11_pure 13 = .ok (.invokevirtual 180, 3) := by decide +kernel
theorem dX11_pure_16 : decode cX11_pure 16 = .ok (.ifCond .ne 5, 3) := by decide +kernel
theorem dX11_pure_19 : decode cX11_pure 19 = .ok (.iconst (-1), 1) := by decide +kernel
theorem dX11_pure_20 : decode cX11_pure 20 = .ok (.ireturn, 1) := by decide +kernel
theorem dX11_pure_21 : decode cX11_pure 21 = .ok (.aload_n 0, 1) := by decide +kernel
theorem dX11_pure_22 : decode cX11_pure 22 = .ok (.getfield 143, 3) := by decide +kernel
theorem dX11_pure_25 : decode cX11_pure 25 = .ok (.ifCond .ne 6, 3) := by decide +kernel
theorem dX11_pure_28 : decode cX11_pure 28 = .ok (.bipush (-2), 2) := by decide +kernel
theorem dX11_pure_30 : decode cX11_pure 30 = .ok (.ireturn, 1) := by decide +kernel
theorem dX11_pure_31 : decode cX11_pure 31 = .ok (.aload_n 0, 1) := by decide +kernel
theorem dX11_pure_32 : decode cX11_pure 32 = .ok (.invokevirtual 319, 3) := by decide +kernel
theorem dX11_pure_35 : decode cX11_pure 35 = .ok (.iload_n 2, 1) := by decide +kernel
theorem dX11_pure_36 : decode cX11_pure 36 = .ok (.bipush 6, 2) := by decide +kernel
theorem dX11_pure_38 : decode cX11_pure 38 = .ok (.if_icmp .ge 17, 3) := by decide +kernel
theorem dX11_pure_41 : decode cX11_pure 41 = .ok (.aload_n 0, 1) := by decide +kernel
theorem dX11_pure_42 : decode cX11_pure 42 = .ok (.getfield 123, 3) := by decide +kernel
theorem dX11_pure_45 : decode cX11_pure 45 = .ok (.bipush 6, 2) := by decide +kernel
theorem dX11_pure_47 : decode cX11_pure 47 = .ok (.iload_n 1, 1) := by decide +kernel
theorem dX11_pure_48 : decode cX11_pure 48 = .ok (.imul, 1) := by decide +kernel
theorem dX11_pure_49 : decode cX11_pure 49 = .ok (.iload_n 2, 1) := by decide +kernel
theorem dX11_pure_50 : decode cX11_pure 50 = .ok (.iadd, 1) := by decide +kernel
theorem dX11_pure_51 : decode cX11_pure 51 = .ok (.iaload, 1) := by decide +kernel
theorem dX11_pure_52 : decode cX11_pure 52 = .ok (.goto 24, 3) := by decide +kernel
theorem dX11_pure_55 : decode cX11_pure 55 = .ok (.iload_n 2, 1) := by decide +kernel
theorem dX11_pure_56 : decode cX11_pure 56 = .ok (.bipush 6, 2) := by decide +kernel
theorem dX11_pure_58 : decode cX11_pure 58 = .ok (.if_icmp .ne 12, 3) := by decide +kernel
theorem dX11_pure_61 : decode cX11_pure 61 = .ok (.aload_n 0, 1) := by decide +kernel
theorem dX11_pure_62 : decode cX11_pure 62 = .ok (.getfield 126, 3) := by decide +kernel
theorem dX11_pure_65 : decode cX11_pure 65 = .ok (.iload_n 1, 1) := by decide +kernel
theorem dX11_pure_66 : decode cX11_pure 66 = .ok (.iaload, 1) := by decide +kernel
theorem dX11_pure_67 : decode cX11_pure 67 = .ok (.goto 9, 3) := by decide +kernel
theorem dX11_pure_70 : decode cX11_pure 70 = .ok (.aload_n 0, 1) := by decide +kernel
theorem dX11_pure_71 : decode cX11_pure 71 = .ok (.getfield 129, 3) := by decide +kernel
theorem dX11_pure_74 : decode cX11_pure 74 = .ok (.iload_n 1, 1) := by decide +kernel
theorem dX11_pure_75 : decode cX11_pure 75 = .ok (.iaload, 1) := by decide +kernel
theorem dX11_pure_76 : decode cX11_pure 76 = .ok (.ireturn, 1) := by decide +kernel
theorem dX11_pump_0 : decode cX11_pump 0 = .ok (.iload_n 1, 1) := by decide +kernel
theorem dX11_pump_1 : decode cX11_pump 1 = .ok (.ifCond .lt 13, 3) := by decide +kernel
theorem dX11_pump_4 : decode cX11_pump 4 = .ok (.aload_n 0, 1) := by decide +kernel
theorem dX11_pump_5 : decode cX11_pump 5 = .ok (.iload_n 2, 1) := by decide +kernel
theorem dX11_pump_6 : decode cX11_pump 6 = .ok (.iconst 0, 1) := by decide +kernel
theorem dX11_pump_7 : decode cX11_pump 7 = .ok (.iconst 2, 1) := by decide +kernel
theorem dX11_pump_8 : decode cX11_pump 8 = .ok (.invokevirtual 180, 3) := by decide +kernel
theorem dX11_pump_11 : decode cX11_pump 11 = .ok (.ifCond .ne 5, 3) := by decide +kernel
theorem dX11_pump_14 : decode cX11_pump 14 = .ok (.iconst (-1), 1) := by decide +kernel
theorem dX11_pump_15 : decode cX11_pump 15 = .ok (.ireturn, 1) := by decide +kernel
theorem dX11_pump_16 : decode cX11_pump 16 = .ok (.aload_n 0, 1) := by decide +kernel
theorem dX11_pump_17 : decode cX11_pump 17 = .ok (.getfield 143, 3) := by decide +kernel
theorem dX11_pump_20 : decode cX11_pump 20 = .ok (.ifCond .ne 6, 3) := by decide +kernel
theorem dX11_pump_23 : decode cX11_pump 23 = .ok (.bipush (-2), 2) := by decide +kernel
theorem dX11_pump_25 : decode cX11_pump 25 = .ok (.ireturn, 1) := by decide +kernel
theorem dX11_pump_26 : decode cX11_pump 26 = .ok (.aload_n 0, 1) := by decide +kernel
theorem dX11_pump_27 : decode cX11_pump 27 = .ok (.invokevirtual 319, 3) := by decide +kernel
theorem dX11_pump_30 : decode cX11_pump 30 = .ok (.iconst 0, 1) := by decide +kernel
theorem dX11_pump_31 : decode cX11_pump 31 = .ok (.istore_n 3, 1) := by decide +kernel
theorem dX11_pump_32 : decode cX11_pump 32 = .ok (.iconst 0, 1) := by decide +kernel
theorem dX11_pump_33 : decode cX11_pump 33 = .ok (.istore 4, 2) := by decide +kernel
theorem dX11_pump_35 : decode cX11_pump 35 = .ok (.iload 4, 2) := by decide +kernel
theorem dX11_pump_37 : decode cX11_pump 37 = .ok (.aload_n 0, 1) := by decide +kernel
theorem dX11_pump_38 : decode cX11_pump 38 = .ok (.getfield 154, 3) := by decide +kernel
theorem dX11_pump_41 : decode cX11_pump 41 = .ok (.if_icmp .ge 129, 3) := by decide +kernel
theorem dX11_pump_44 : decode cX11_pump 44 = .ok (.iconst 0, 1) := by decide +kernel
theorem dX11_pump_45 : decode cX11_pump 45 = .ok (.istore 5, 2) := by decide +kernel
theorem dX11_pump_47 : decode cX11_pump 47 = .ok (.iload 5, 2) := by decide +kernel
theorem dX11_pump_49 : decode cX11_pump 49 = .ok (.iload 4, 2) := by decide +kernel
theorem dX11_pump_51 : decode cX11_pump 51 = .ok (.if_icmp .ge 113, 3) := by decide +kernel
theorem dX11_pump_54 : decode cX11_pump 54 = .ok (.aload_n 0, 1) := by decide +kernel
theorem dX11_pump_55 : decode cX11_pump 55 = .ok (.getfield 126, 3) := by decide +kernel
theorem dX11_pump_58 : decode cX11_pump 58 = .ok (.iload 5, 2) := by decide +kernel
theorem dX11_pump_60 : decode cX11_pump 60 = .ok (.iaload, 1) := by decide +kernel
theorem dX11_pump_61 : decode cX11_pump 61 = .ok (.aload_n 0, 1) := by decide +kernel
theorem dX11_pump_62 : decode cX11_pump 62 = .ok (.getfield 126, 3) := by decide +kernel
theorem dX11_pump_65 : decode cX11_pump 65 = .ok (.iload 4, 2) := by decide +kernel
theorem dX11_pump_67 : decode cX11_pump 67 = .ok (.iaload, 1) := by decide +kernel
theorem dX11_pump_68 : decode cX11_pump 68 = .ok (.if_icmp .ne 90, 3) := by decide +kernel
theorem dX11_pump_71 : decode cX11_pump 71 = .ok (.aload_n 0, 1) := by decide +kernel
theorem dX11_pump_72 : decode cX11_pump 72 = .ok (.getfield 7, 3) := by decide +kernel
theorem dX11_pump_75 : decode cX11_pump 75 = .ok (.aload_n 0, 1) := by decide +kernel
theorem dX11_pump_76 : decode cX11_pump 76 = .ok (.getfield 60, 3) := by decide +kernel
theorem dX11_pump_79 : decode cX11_pump 79 = .ok (.iload 5, 2) := by decide +kernel
theorem dX11_pump_81 : decode cX11_pump 81 = .ok (.iaload, 1) := by decide +kernel
theorem dX11_pump_82 : decode cX11_pump 82 = .ok (.iaload, 1) := by decide +kernel
theorem dX11_pump_83 : decode cX11_pump 83 = .ok (.aload_n 0, 1) := by decide +kernel
theorem dX11_pump_84 : decode cX11_pump 84 = .ok (.getfield 7, 3) := by decide +kernel
theorem dX11_pump_87 : decode cX11_pump 87 = .ok (.aload_n 0, 1) := by decide +kernel
theorem dX11_pump_88 : decode cX11_pump 88 = .ok (.getfield 60, 3) := by decide +kernel
theorem dX11_pump_91 : decode cX11_pump 91 = .ok (.iload 4, 2) := by decide +kernel
theorem dX11_pump_93 : decode cX11_pump 93 = .ok (.iaload, 1) := by decide +kernel
theorem dX11_pump_94 : decode cX11_pump 94 = .ok (.iaload, 1) := by decide +kernel
theorem dX11_pump_95 : decode cX11_pump 95 = .ok (.if_icmp .ne 63, 3) := by decide +kernel
theorem dX11_pump_98 : decode cX11_pump 98 = .ok (.aload_n 0, 1) := by decide +kernel
theorem dX11_pump_99 : decode cX11_pump 99 = .ok (.getfield 129, 3) := by decide +kernel
theorem dX11_pump_102 : decode cX11_pump 102 = .ok (.iload 5, 2) := by decide +kernel
theorem dX11_pump_104 : decode cX11_pump 104 = .ok (.iaload, 1) := by decide +kernel
theorem dX11_pump_105 : decode cX11_pump 105 = .ok (.aload_n 0, 1) := by decide +kernel
theorem dX11_pump_106 : decode cX11_pump 106 = .ok (.getfield 129, 3) := by decide +kernel
theorem dX11_pump_109 : decode cX11_pump 109 = .ok (.iload 4, 2) := by decide +kernel
theorem dX11_pump_111 : decode cX11_pump 111 = .ok (.iaload, 1) := by decide +kernel
theorem dX11_pump_112 : decode cX11_pump 112 = .ok (.if_icmp .eq 46, 3) := by decide +kernel
theorem dX11_pump_115 : decode cX11_pump 115 = .ok (.iload_n 3, 1) := by decide +kernel
theorem dX11_pump_116 : decode cX11_pump 116 = .ok (.iload_n 1, 1) := by decide +kernel
theorem dX11_pump_117 : decode cX11_pump 117 = .ok (.if_icmp .ne 38, 3) := by decide +kernel
theorem dX11_pump_120 : decode cX11_pump 120 = .ok (.iload_n 2, 1) := by decide +kernel
theorem dX11_pump_121 : decode cX11_pump 121 = .ok (.ifCond .ne 8, 3) := by decide +kernel
theorem dX11_pump_124 : decode cX11_pump 124 = .ok (.iload 5, 2) := by decide +kernel
theorem dX11_pump_126 : decode cX11_pump 126 = .ok (.goto 28, 3) := by decide +kernel
theorem dX11_pump_129 : decode cX11_pump 129 = .ok (.iload_n 2, 1) := by decide +kernel
theorem dX11_pump_130 : decode cX11_pump 130 = .ok (.iconst 1, 1) := by decide +kernel
theorem dX11_pump_131 : decode cX11_pump 131 = .ok (.if_icmp .ne 8, 3) := by decide +kernel
theorem dX11_pump_134 : decode cX11_pump 134 = .ok (.iload 4, 2) := by decide +kernel
theorem dX11_pump_136 : decode cX11_pump 136 = .ok (.goto 18, 3) := by decide +kernel
theorem dX11_pump_139 : decode cX11_pump 139 = .ok (.aload_n 0, 1) := by decide +kernel
theorem dX11_pump_140 : decode cX11_pump 140 = .ok (.getfield 129, 3) := by decide +kernel
theorem dX11_pump_143 : decode cX11_pump 143 = .ok (.iload 4, 2) := by decide +kernel
theorem dX11_pump_145 : decode cX11_pump 145 = .ok (.iaload, 1) := by decide +kernel
theorem dX11_pump_146 : decode cX11_pump 146 = .ok (.aload_n 0, 1) := by decide +kernel
theorem dX11_pump_147 : decode cX11_pump 147 = .ok (.getfield 129, 3) := by decide +kernel
theorem dX11_pump_150 : decode cX11_pump 150 = .ok (.iload 5, 2) := by decide +kernel
theorem dX11_pump_152 : decode cX11_pump 152 = .ok (.iaload, 1) := by decide +kernel
theorem dX11_pump_153 : decode cX11_pump 153 = .ok (.isub, 1) := by decide +kernel
theorem dX11_pump_154 : decode cX11_pump 154 = .ok (.ireturn, 1) := by decide +kernel
theorem dX11_pump_155 : decode cX11_pump 155 = .ok (.iinc 3 1, 3) := by decide +kernel
theorem dX11_pump_158 : decode cX11_pump 158 = .ok (.iinc 5 1, 3) := by decide +kernel
theorem dX11_pump_161 : decode cX11_pump 161 = .ok (.goto (-114), 3) := by decide +kernel
theorem dX11_pump_164 : decode cX11_pump 164 = .ok (.iinc 4 1, 3) := by decide +kernel
theorem dX11_pump_167 : decode cX11_pump 167 = .ok (.goto (-132), 3) := by decide +kernel
theorem dX11_pump_170 : decode cX11_pump 170 = .ok (.bipush (-9), 2) := by decide +kernel
theorem dX11_pump_172 : decode cX11_pump 172 = .ok (.ireturn, 1) := by decide +kernel
