theorem dX7_init_0 : decode cX7_init 0 = .ok (.aload_n 0, 1) := by decide +kernel
theorem dX7_init_1 : decode cX7_init 1 = .ok (.invokespecial 3, 3) := by decide +kernel
theorem dX7_init_4 : decode cX7_init 4 = .ok (.aload_n 0, 1) := by decide +kernel
theorem dX7_init_5 : decode cX7_init 5 = .ok (.bipush 20, 2) := by decide +kernel
theorem dX7_init_7 : decode cX7_init 7 = .ok (.bipush 20, 2) := by decide +kernel
theorem dX7_init_9 : decode cX7_init 9 = .ok (.multianewarray 9 2, 4) := by decide +kernel
theorem dX7_init_13 : decode cX7_init 13 = .ok (.putfield 11, 3) := by decide +kernel
theorem dX7_init_16 : decode cX7_init 16 = .ok (.aload_n 0, 1) := by decide +kernel
theorem dX7_init_17 : decode cX7_init 17 = .ok (.bipush 20, 2) := by decide +kernel
theorem dX7_init_19 : decode cX7_init 19 = .ok (.newarray .long, 2) := by decide +kernel
theorem dX7_init_21 : decode cX7_init 21 = .ok (.putfield 16, 3) := by decide +kernel
theorem dX7_init_24 : decode cX7_init 24 = .ok (.aload_n 0, 1) := by decide +kernel
theorem dX7_init_25 : decode cX7_init 25 = .ok (.bipush 20, 2) := by decide +kernel
theorem dX7_init_27 : decode cX7_init 27 = .ok (.newarray .int, 2) := by decide +kernel
theorem dX7_init_29 : decode cX7_init 29 = .ok (.putfield 20, 3) := by decide +kernel
theorem dX7_init_32 : decode cX7_init 32 = .ok (.aload_n 0, 1) := by decide +kernel
theorem dX7_init_33 : decode cX7_init 33 = .ok (.aload_n 1, 1) := by decide +kernel
theorem dX7_init_34 : decode cX7_init 34 = .ok (.putfield 24, 3) := by decide +kernel
theorem dX7_init_37 : decode cX7_init 37 = .ok (.aload_n 0, 1) := by decide +kernel
theorem dX7_init_38 : decode cX7_init 38 = .ok (.aload_n 2, 1) := by decide +kernel
theorem dX7_init_39 : decode cX7_init 39 = .ok (.putfield 28, 3) := by decide +kernel
theorem dX7_init_42 : decode cX7_init 42 = .ok (.aload_n 0, 1) := by decide +kernel
theorem dX7_init_43 : decode cX7_init 43 = .ok (.aload_n 3, 1) := by decide +kernel
theorem dX7_init_44 : decode cX7_init 44 = .ok (.putfield 32, 3) := by decide +kernel
theorem dX7_init_47 : decode cX7_init 47 = .ok (.aload_n 0, 1) := by decide +kernel
theorem dX7_init_48 : decode cX7_init 48 = .ok (.aload 4, 2) := by decide +kernel
theorem dX7_init_50 : decode cX7_init 50 = .ok (.putfield 36, 3) := by decide +kernel
theorem dX7_init_53 : decode cX7_init 53 = .ok (.return_, 1) := by decide +kernel
theorem dX7_gather_0 : decode cX7_gather 0 = .ok (.aload_n 0, 1) := by decide +kernel
theorem dX7_gather_1 : decode cX7_gather 1 = .ok (.invokevirtual 39, 3) := by decide +kernel
theorem dX7_gather_4 : decode cX7_gather 4 = .ok (.iconst 0, 1) := by decide +kernel
theorem dX7_gather_5 : decode cX7_gather 5 = .ok (.istore_n 1, 1) := by decide +kernel
theorem dX7_gather_6 : decode cX7_gather 6 = .ok (.iload_n 1, 1) := by decide +kernel
theorem dX7_gather_7 : decode cX7_gather 7 = .ok (.aload_n 0, 1) := by decide +kernel
theorem dX7_gather_8 : decode cX7_gather 8 = .ok (.getfield 24, 3) := by decide +kernel
theorem dX7_gather_11 : decode cX7_gather 11 = .ok (.getfield 42, 3) := by decide +kernel
theorem dX7_gather_14 : decode cX7_gather 14 = .ok (.if_icmp .ge 24, 3) := by decide +kernel
theorem dX7_gather_17 : decode cX7_gather 17 = .ok (.aload_n 0, 1) := by decide +kernel
theorem dX7_gather_18 : decode cX7_gather 18 = .ok (.iload_n 1, 1) := by decide +kernel
theorem dX7_gather_19 : decode cX7_gather 19 = .ok (.invokevirtual 48, 3) := by decide +kernel
theorem dX7_gather_22 : decode cX7_gather 22 = .ok (.aload_n 0, 1) := by decide +kernel
theorem dX7_gather_23 : decode cX7_gather 23 = .ok (.iload_n 1, 1) := by decide +kernel
theorem dX7_gather_24 : decode cX7_gather 24 = .ok (.invokevirtual 52, 3) := by decide +kernel
theorem dX7_gather_27 : decode cX7_gather 27 = .ok (.aload_n 0, 1) := by decide +kernel
theorem dX7_gather_28 : decode cX7_gather 28 = .ok (.iload_n 1, 1) := by decide +kernel
theorem dX7_gather_29 : decode cX7_gather 29 = .ok (.invokevirtual 55, 3) := by decide +kernel
theorem dX7_gather_32 : decode cX7_gather 32 = .ok (.iinc 1 1, 3) := by decide +kernel
theorem dX7_gather_35 : decode cX7_gather 35 = .ok (.goto (-29), 3) := by decide +kernel
theorem dX7_gather_38 : decode cX7_gather 38 = .ok (.aload_n 0, 1) := by decide +kernel
theorem dX7_gather_39 : decode cX7_gather 39 = .ok (.getfield 36, 3) := by decide +kernel
theorem dX7_gather_42 : decode cX7_gather 42 = .ok (.iconst 4, 1) := by decide +kernel
theorem dX7_gather_43 : decode cX7_gather 43 = .ok (.iaload, 1) := by decide +kernel
theorem dX7_gather_44 : decode cX7_gather 44 = .ok (.ifCond .ne 7, 3) := by decide +kernel
theorem dX7_gather_47 : decode cX7_gather 47 = .ok (.aload_n 0, 1) := by decide +kernel
theorem dX7_gather_48 : decode cX7_gather 48 = .ok (.invokevirtual 58, 3) := by decide +kernel
theorem dX7_gather_51 : decode cX7_gather 51 = .ok (.return_, 1) := by decide +kernel
theorem dX7_reset_0 : decode cX7_reset 0 = .ok (.aload_n 0, 1) := by decide +kernel
theorem dX7_reset_1 : decode cX7_reset 1 = .ok (.aload_n 0, 1) := by decide +kernel
theorem dX7_reset_2 : decode cX7_reset 2 = .ok (.getfield 24, 3) := by decide +kernel
theorem dX7_reset_5 : decode cX7_reset 5 = .ok (.getfield 61, 3) := by decide +kernel
theorem dX7_reset_8 : decode cX7_reset 8 = .ok (.bipush 20, 2) := by decide +kernel
theorem dX7_reset_10 : decode cX7_reset 10 = .ok (.invokestatic 64, 3) := by decide +kernel
theorem dX7_reset_13 : decode cX7_reset 13 = .ok (.putfield 70, 3) := by decide +kernel
theorem dX7_reset_16 : decode cX7_reset 16 = .ok (.aload_n 0, 1) := by decide +kernel
theorem dX7_reset_17 : decode cX7_reset 17 = .ok (.iconst 0, 1) := by decide +kernel
theorem dX7_reset_18 : decode cX7_reset 18 = .ok (.putfield 73, 3) := by decide +kernel
theorem dX7_reset_21 : decode cX7_reset 21 = .ok (.aload_n 0, 1) := by decide +kernel
theorem dX7_reset_22 : decode cX7_reset 22 = .ok (.lconst 0, 1) := by decide +kernel
theorem dX7_reset_23 : decode cX7_reset 23 = .ok (.putfield 76, 3) := by decide +kernel
theorem dX7_reset_26 : decode cX7_reset 26 = .ok (.iconst 0, 1) := by decide +kernel
theorem dX7_reset_27 : decode cX7_reset 27 = .ok (.istore_n 1, 1) := by decide +kernel
theorem dX7_reset_28 : decode cX7_reset 28 = .ok (.iload_n 1, 1) := by decide +kernel
theorem dX7_reset_29 : decode cX7_reset 29 = .ok (.bipush 20, 2) := by decide +kernel
theorem dX7_reset_31 : decode cX7_reset 31 = .ok (.if_icmp .ge 19, 3) := by decide +kernel
theorem dX7_reset_34 : decode cX7_reset 34 = .ok (.aload_n 0, 1) := by decide +kernel
theorem dX7_reset_35 : decode cX7_reset 35 = .ok (.getfield 11, 3) := by decide +kernel
theorem dX7_reset_38 : decode cX7_reset 38 = .ok (.iload_n 1, 1) := by decide +kernel
theorem dX7_reset_39 : decode cX7_reset 39 = .ok (.aaload, 1) := by decide +kernel
theorem dX7_reset_40 : decode cX7_reset 40 = .ok (.lconst 0, 1) := by decide +kernel
theorem dX7_reset_41 : decode cX7_reset 41 = .ok (.invokestatic 80, 3) := by decide +kernel
theorem dX7_reset_44 : decode cX7_reset 44 = .ok (.iinc 1 1, 3) := by decide +kernel
theorem dX7_reset_47 : decode cX7_reset 47 = .ok (.goto (-19), 3) := by decide +kernel
theorem dX7_reset_50 : decode cX7_reset 50 = .ok (.aload_n 0, 1) := by decide +kernel
theorem dX7_reset_51 : decode cX7_reset 51 = .ok (.getfield 16, 3) := by decide +kernel
theorem dX7_reset_54 : decode cX7_reset 54 = .ok (.lconst 0, 1) := by decide +kernel
theorem dX7_reset_55 : decode cX7_reset 55 = .ok (.invokestatic 80, 3) := by decide +kernel
theorem dX7_reset_58 : decode cX7_reset 58 = .ok (.return_, 1) := by decide +kernel
theorem dX7_addChord_0 : decode cX7_addChord 0 = .ok (.aload_n 0, 1) := by decide +kernel
theorem dX7_addChord_1 : decode cX7_addChord 1 = .ok (.getfield 28, 3) := by decide +kernel
theorem dX7_addChord_4 : decode cX7_addChord 4 = .ok (.iload_n 1, 1) := by decide +kernel
theorem dX7_addChord_5 : decode cX7_addChord 5 = .ok (.aload_n 0, 1) := by decide +kernel
theorem dX7_addChord_6 : decode cX7_addChord 6 = .ok (.getfield 32, 3) := by decide +kernel
theorem dX7_addChord_9 : decode cX7_addChord 9 = .ok (.getfield 86, 3) := by decide +kernel
theorem dX7_addChord_12 : decode cX7_addChord 12 = .ok (.iload_n 1, 1) := by decide +kernel
theorem dX7_addChord_13 : decode cX7_addChord 13 = .ok (.iaload, 1) := by decide +kernel
theorem dX7_addChord_14 : decode cX7_addChord 14 = .ok (.invokevirtual 91, 3) := by decide +kernel
theorem dX7_addChord_17 : decode cX7_addChord 17 = .ok (.iload_n 1, 1) := by decide +kernel
theorem dX7_addChord_18 : decode cX7_addChord 18 = .ok (.bipush 6, 2) := by decide +kernel
theorem dX7_addChord_20 : decode cX7_addChord 20 = .ok (.imul, 1) := by decide +kernel
theorem dX7_addChord_21 : decode cX7_addChord 21 = .ok (.istore_n 2, 1) := by decide +kernel
theorem dX7_addChord_22 : decode cX7_addChord 22 = .ok (.iconst 0, 1) := by decide +kernel
theorem dX7_addChord_23 : decode cX7_addChord 23 = .ok (.istore_n 3, 1) := by decide +kernel
theorem dX7_addChord_24 : decode cX7_addChord 24 = .ok (.iload_n 3, 1) := by decide +kernel
theorem dX7_addChord_25 : decode cX7_addChord 25 = .ok (.aload_n 0, 1) := by decide +kernel
theorem dX7_addChord_26 : decode cX7_addChord 26 = .ok (.getfield 24, 3) := by decide +kernel
theorem dX7_addChord_29 : decode cX7_addChord 29 = .ok (.getfield 97, 3) := by decide +kernel
theorem dX7_addChord_32 : decode cX7_addChord 32 = .ok (.iload_n 1, 1) := by decide +kernel
theorem dX7_addChord_33 : decode cX7_addChord 33 = .ok (.iaload, 1) := by decide +kernel
theorem dX7_addChord_34 : decode cX7_addChord 34 = .ok (.if_icmp .ge 118, 3) := by decide +kernel
theorem dX7_addChord_37 : decode cX7_addChord 37 = .ok (.aload_n 0, 1) := by decide +kernel
theorem dX7_addChord_38 : decode cX7_addChord 38 = .ok (.getfield 24, 3) := by decide +kernel
theorem dX7_addChord_41 : decode cX7_addChord 41 = .ok (.getfield 100, 3) := by decide +kernel
theorem dX7_addChord_44 : decode cX7_addChord 44 = .ok (.iload_n 2, 1) := by decide +kernel
theorem dX7_addChord_45 : decode cX7_addChord 45 = .ok (.iload_n 3, 1) := by decide +kernel
theorem dX7_addChord_46 : decode cX7_addChord 46 = .ok (.iadd, 1) := by decide +kernel
theorem dX7_addChord_47 : decode cX7_addChord 47 = .ok (.iaload, 1) := by decide +kernel
theorem dX7_addChord_48 : decode cX7_addChord 48 = .ok (.istore 4, 2) := by decide +kernel
theorem dX7_addChord_50 : decode cX7_addChord 50 = .ok (.iload_n 3, 1) := by decide +kernel
theorem dX7_addChord_51 : decode cX7_addChord 51 = .ok (.iconst 1, 1) := by decide +kernel
theorem dX7_addChord_52 : decode cX7_addChord 52 = .ok (.iadd, 1) := by decide +kernel
theorem dX7_addChord_53 : decode cX7_addChord 53 = .ok (.istore 5, 2) := by decide +kernel
theorem dX7_addChord_55 : decode cX7_addChord 55 = .ok (.iload 5, 2) := by decide +kernel
theorem dX7_addChord_57 : decode cX7_addChord 57 = .ok (.aload_n 0, 1) := by decide +kernel
theorem dX7_addChord_58 : decode cX7_addChord 58 = .ok (.getfield 24, 3) := by decide +kernel
theorem dX7_addChord_61 : decode cX7_addChord 61 = .ok (.getfield 97, 3) := by decide +kernel
theorem dX7_addChord_64 : decode cX7_addChord 64 = .ok (.iload_n 1, 1) := by decide +kernel
theorem dX7_addChord_65 : decode cX7_addChord 65 = .ok (.iaload, 1) := by decide +kernel
theorem dX7_addChord_66 : decode cX7_addChord 66 = .ok (.if_icmp .ge 80, 3) := by decide +kernel
theorem dX7_addChord_69 : decode cX7_addChord 69 = .ok (.aload_n 0, 1) := by decide +kernel
theorem dX7_addChord_70 : decode cX7_addChord 70 = .ok (.getfield 24, 3) := by decide +kernel
theorem dX7_addChord_73 : decode cX7_addChord 73 = .ok (.getfield 100, 3) := by decide +kernel
theorem dX7_addChord_76 : decode cX7_addChord 76 = .ok (.iload_n 2, 1) := by decide +kernel
theorem dX7_addChord_77 : decode cX7_addChord 77 = .ok (.iload 5, 2) := by decide +kernel
theorem dX7_addChord_79 : decode cX7_addChord 79 = .ok (.iadd, 1) := by decide +kernel
theorem dX7_addChord_80 : decode cX7_addChord 80 = .ok (.iaload, 1) := by decide +kernel
theorem dX7_addChord_81 : decode cX7_addChord 81 = .ok (.istore 6, 2) := by decide +kernel
theorem dX7_addChord_83 : decode cX7_addChord 83 = .ok (.aload_n 0, 1) := by decide +kernel
theorem dX7_addChord_84 : decode cX7_addChord 84 = .ok (.getfield 28, 3) := by decide +kernel
theorem dX7_addChord_87 : decode cX7_addChord 87 = .ok (.iload_n 1, 1) := by decide +kernel
theorem dX7_addChord_88 : decode cX7_addChord 88 = .ok (.iload 4, 2) := by decide +kernel
theorem dX7_addChord_90 : decode cX7_addChord 90 = .ok (.invokevirtual 103, 3) := by decide +kernel
theorem dX7_addChord_93 : decode cX7_addChord 93 = .ok (.aload_n 0, 1) := by decide +kernel
theorem dX7_addChord_94 : decode cX7_addChord 94 = .ok (.getfield 28, 3) := by decide +kernel
theorem dX7_addChord_97 : decode cX7_addChord 97 = .ok (.iload_n 1, 1) := by decide +kernel
theorem dX7_addChord_98 : decode cX7_addChord 98 = .ok (.iload 6, 2) := by decide +kernel
theorem dX7_addChord_100 : decode cX7_addChord 100 = .ok (.invokevirtual 103, 3) := by decide +kernel
theorem dX7_addChord_103 : decode cX7_addChord 103 = .ok (.isub, 1) := by decide +kernel
theorem dX7_addChord_104 : decode cX7_addChord 104 = .ok (.i2l, 1) := by decide +kernel
theorem dX7_addChord_105 : decode cX7_addChord 105 = .ok (.lstore 7, 2) := by decide +kernel
theorem dX7_addChord_107 : decode cX7_addChord 107 = .ok (.aload_n 0, 1) := by decide +kernel
theorem dX7_addChord_108 : decode cX7_addChord 108 = .ok (.aload_n 0, 1) := by decide +kernel
theorem dX7_addChord_109 : decode cX7_addChord 109 = .ok (.getfield 24, 3) := by decide +kernel
theorem dX7_addChord_112 : decode cX7_addChord 112 = .ok (.iload_n 1, 1) := by decide +kernel
theorem dX7_addChord_113 : decode cX7_addChord 113 = .ok (.iload 4, 2) := by decide +kernel
theorem dX7_addChord_115 : decode cX7_addChord 115 = .ok (.invokevirtual 106, 3) := by decide +kernel
theorem dX7_addChord_118 : decode cX7_addChord 118 = .ok (.aload_n 0, 1) := by decide +kernel
theorem dX7_addChord_119 : decode cX7_addChord 119 = .ok (.getfield 24, 3) := by decide +kernel
theorem dX7_addChord_122 : decode cX7_addChord 122 = .ok (.iload_n 1, 1) := by decide +kernel
theorem dX7_addChord_123 : decode cX7_addChord 123 = .ok (.iload 6, 2) := by decide +kernel
theorem dX7_addChord_125 : decode cX7_addChord 125 = .ok (.invokevirtual 106, 3) := by decide +kernel
theorem dX7_addChord_128 : decode cX7_addChord 128 = .ok (.aload_n 0, 1) := by decide +kernel
theorem dX7_addChord_129 : decode cX7_addChord 129 = .ok (.getfield 36, 3) := by decide +kernel
theorem dX7_addChord_132 : decode cX7_addChord 132 = .ok (.iconst 2, 1) := by decide +kernel
theorem dX7_addChord_133 : decode cX7_addChord 133 = .ok (.iaload, 1) := by decide +kernel
theorem dX7_addChord_134 : decode cX7_addChord 134 = .ok (.i2l, 1) := by decide +kernel
theorem dX7_addChord_135 : decode cX7_addChord 135 = .ok (.lload 7, 2) := by decide +kernel
theorem dX7_addChord_137 : decode cX7_addChord 137 = .ok (.invokevirtual 109, 3) := by decide +kernel
theorem dX7_addChord_140 : decode cX7_addChord 140 = .ok (.iinc 5 1, 3) := by decide +kernel
theorem dX7_addChord_143 : decode cX7_addChord 143 = .ok (.goto (-88), 3) := by decide +kernel
theorem dX7_addChord_146 : decode cX7_addChord 146 = .ok (.iinc 3 1, 3) := by decide +kernel
theorem dX7_addChord_149 : decode cX7_addChord 149 = .ok (.goto (-125), 3) := by decide +kernel
theorem dX7_addChord_152 : decode cX7_addChord 152 = .ok (.return_, 1) := by decide +kernel
theorem dX7_addMoves_0 : decode cX7_addMoves 0 = .ok (.aload_n 0, 1) := by decide +kernel
theorem dX7_addMoves_1 : decode cX7_addMoves 1 = .ok (.getfield 24, 3) := by decide +kernel
theorem dX7_addMoves_4 : decode cX7_addMoves 4 = .ok (.iload_n 1, 1) := by decide +kernel
theorem dX7_addMoves_5 : decode cX7_addMoves 5 = .ok (.invokevirtual 113, 3) := by decide +kernel
theorem dX7_addMoves_8 : decode cX7_addMoves 8 = .ok (.iconst 0, 1) := by decide +kernel
theorem dX7_addMoves_9 : decode cX7_addMoves 9 = .ok (.istore_n 2, 1) := by decide +kernel
theorem dX7_addMoves_10 : decode cX7_addMoves 10 = .ok (.iload_n 2, 1) := by decide +kernel
theorem dX7_addMoves_11 : decode cX7_addMoves 11 = .ok (.aload_n 0, 1) := by decide +kernel
theorem dX7_addMoves_12 : decode cX7_addMoves 12 = .ok (.getfield 24, 3) := by decide +kernel
theorem dX7_addMoves_15 : decode cX7_addMoves 15 = .ok (.getfield 116, 3) := by decide +kernel
theorem dX7_addMoves_18 : decode cX7_addMoves 18 = .ok (.if_icmp .ge 63, 3) := by decide +kernel
theorem dX7_addMoves_21 : decode cX7_addMoves 21 = .ok (.aload_n 0, 1) := by decide +kernel
theorem dX7_addMoves_22 : decode cX7_addMoves 22 = .ok (.getfield 24, 3) := by decide +kernel
theorem dX7_addMoves_25 : decode cX7_addMoves 25 = .ok (.getfield 119, 3) := by decide +kernel
theorem dX7_addMoves_28 : decode cX7_addMoves 28 = .ok (.iload_n 2, 1) := by decide +kernel
theorem dX7_addMoves_29 : decode cX7_addMoves 29 = .ok (.iaload, 1) := by decide +kernel
theorem dX7_addMoves_30 : decode cX7_addMoves 30 = .ok (.istore_n 3, 1) := by decide +kernel
theorem dX7_addMoves_31 : decode cX7_addMoves 31 = .ok (.aload_n 0, 1) := by decide +kernel
theorem dX7_addMoves_32 : decode cX7_addMoves 32 = .ok (.getfield 24, 3) := by decide +kernel
theorem dX7_addMoves_35 : decode cX7_addMoves 35 = .ok (.getfield 122, 3) := by decide +kernel
theorem dX7_addMoves_38 : decode cX7_addMoves 38 = .ok (.iload_n 3, 1) := by decide +kernel
theorem dX7_addMoves_39 : decode cX7_addMoves 39 = .ok (.baload, 1) := by decide +kernel
theorem dX7_addMoves_40 : decode cX7_addMoves 40 = .ok (.ifCond .ne 35, 3) := by decide +kernel
theorem dX7_addMoves_43 : decode cX7_addMoves 43 = .ok (.aload_n 0, 1) := by decide +kernel
theorem dX7_addMoves_44 : decode cX7_addMoves 44 = .ok (.aload_n 0, 1) := by decide +kernel
theorem dX7_addMoves_45 : decode cX7_addMoves 45 = .ok (.getfield 24, 3) := by decide +kernel
theorem dX7_addMoves_48 : decode cX7_addMoves 48 = .ok (.iload_n 1, 1) := by decide +kernel
theorem dX7_addMoves_49 : decode cX7_addMoves 49 = .ok (.iload_n 3, 1) := by decide +kernel
theorem dX7_addMoves_50 : decode cX7_addMoves 50 = .ok (.invokevirtual 106, 3) := by decide +kernel
theorem dX7_addMoves_53 : decode cX7_addMoves 53 = .ok (.aload_n 0, 1) := by decide +kernel
theorem dX7_addMoves_54 : decode cX7_addMoves 54 = .ok (.getfield 24, 3) := by decide +kernel
theorem dX7_addMoves_57 : decode cX7_addMoves 57 = .ok (.iload_n 1, 1) := by decide +kernel
theorem dX7_addMoves_58 : decode cX7_addMoves 58 = .ok (.iconst 1, 1) := by decide +kernel
theorem dX7_addMoves_59 : decode cX7_addMoves 59 = .ok (.iadd, 1) := by decide +kernel
theorem dX7_addMoves_60 : decode cX7_addMoves 60 = .ok (.iload_n 3, 1) := by decide +kernel
theorem dX7_addMoves_61 : decode cX7_addMoves 61 = .ok (.invokevirtual 106, 3) := by decide +kernel
theorem dX7_addMoves_64 : decode cX7_addMoves 64 = .ok (.aload_n 0, 1) := by decide +kernel
theorem dX7_addMoves_65 : decode cX7_addMoves 65 = .ok (.getfield 36, 3) := by decide +kernel
theorem dX7_addMoves_68 : decode cX7_addMoves 68 = .ok (.iconst 3, 1) := by decide +kernel
theorem dX7_addMoves_69 : decode cX7_addMoves 69 = .ok (.iaload, 1) := by decide +kernel
theorem dX7_addMoves_70 : decode cX7_addMoves 70 = .ok (.i2l, 1) := by decide +kernel
theorem dX7_addMoves_71 : decode cX7_addMoves 71 = .ok (.lconst 0, 1) := by decide +kernel
theorem dX7_addMoves_72 : decode cX7_addMoves 72 = .ok (.invokevirtual 109, 3) := by decide +kernel
theorem dX7_addMoves_75 : decode cX7_addMoves 75 = .ok (.iinc 2 1, 3) := by decide +kernel
theorem dX7_addMoves_78 : decode cX7_addMoves 78 = .ok (.goto (-68), 3) := by decide +kernel
theorem dX7_addMoves_81 : decode cX7_addMoves 81 = .ok (.return_, 1) := by decide +kernel
theorem dX7_addEquals_0 : decode cX7_addEquals 0 = .ok (.iconst 0, 1) := by decide +kernel
theorem dX7_addEquals_1 : decode cX7_addEquals 1 = .ok (.istore_n 2, 1) := by decide +kernel
theorem dX7_addEquals_2 : decode cX7_addEquals 2 = .ok (.iload_n 2, 1) := by decide +kernel
theorem dX7_addEquals_3 : decode cX7_addEquals 3 = .ok (.aload_n 0, 1) := by decide +kernel
theorem dX7_addEquals_4 : decode cX7_addEquals 4 = .ok (.getfield 24, 3) := by decide +kernel
theorem dX7_addEquals_7 : decode cX7_addEquals 7 = .ok (.getfield 97, 3) := by decide +kernel
theorem dX7_addEquals_10 : decode cX7_addEquals 10 = .ok (.iload_n 1, 1) := by decide +kernel
theorem dX7_addEquals_11 : decode cX7_addEquals 11 = .ok (.iaload, 1) := by decide +kernel
theorem dX7_addEquals_12 : decode cX7_addEquals 12 = .ok (.if_icmp .ge 58, 3) := by decide +kernel
theorem dX7_addEquals_15 : decode cX7_addEquals 15 = .ok (.aload_n 0, 1) := by decide +kernel
theorem dX7_addEquals_16 : decode cX7_addEquals 16 = .ok (.getfield 24, 3) := by decide +kernel
theorem dX7_addEquals_19 : decode cX7_addEquals 19 = .ok (.iload_n 1, 1) := by decide +kernel
theorem dX7_addEquals_20 : decode cX7_addEquals 20 = .ok (.aload_n 0, 1) := by decide +kernel
theorem dX7_addEquals_21 : decode cX7_addEquals 21 = .ok (.getfield 24, 3) := by decide +kernel
theorem dX7_addEquals_24 : decode cX7_addEquals 24 = .ok (.getfield 100, 3) := by decide +kernel
theorem dX7_addEquals_27 : decode cX7_addEquals 27 = .ok (.iload_n 1, 1) := by decide +kernel
theorem dX7_addEquals_28 : decode cX7_addEquals 28 = .ok (.bipush 6, 2) := by decide +kernel
theorem dX7_addEquals_30 : decode cX7_addEquals 30 = .ok (.imul, 1) := by decide +kernel
theorem dX7_addEquals_31 : decode cX7_addEquals 31 = .ok (.iload_n 2, 1) := by decide +kernel
theorem dX7_addEquals_32 : decode cX7_addEquals 32 = .ok (.iadd, 1) := by decide +kernel
theorem dX7_addEquals_33 : decode cX7_addEquals 33 = .ok (.iaload, 1) := by decide +kernel
theorem dX7_addEquals_34 : decode cX7_addEquals 34 = .ok (.invokevirtual 106, 3) := by decide +kernel
theorem dX7_addEquals_37 : decode cX7_addEquals 37 = .ok (.istore_n 3, 1) := by decide +kernel
theorem dX7_addEquals_38 : decode cX7_addEquals 38 = .ok (.iload_n 3, 1) := by decide +kernel
theorem dX7_addEquals_39 : decode cX7_addEquals 39 = .ok (.aload_n 0, 1) := by decide +kernel
theorem dX7_addEquals_40 : decode cX7_addEquals 40 = .ok (.getfield 70, 3) := by decide +kernel
theorem dX7_addEquals_43 : decode cX7_addEquals 43 = .ok (.if_icmp .ge 21, 3) := by decide +kernel
theorem dX7_addEquals_46 : decode cX7_addEquals 46 = .ok (.aload_n 0, 1) := by decide +kernel
theorem dX7_addEquals_47 : decode cX7_addEquals 47 = .ok (.getfield 11, 3) := by decide +kernel
theorem dX7_addEquals_50 : decode cX7_addEquals 50 = .ok (.iload_n 3, 1) := by decide +kernel
theorem dX7_addEquals_51 : decode cX7_addEquals 51 = .ok (.aaload, 1) := by decide +kernel
theorem dX7_addEquals_52 : decode cX7_addEquals 52 = .ok (.iload_n 3, 1) := by decide +kernel
theorem dX7_addEquals_53 : decode cX7_addEquals 53 = .ok (.dup2, 1) := by decide +kernel
theorem dX7_addEquals_54 : decode cX7_addEquals 54 = .ok (.laload, 1) := by decide +kernel
theorem dX7_addEquals_55 : decode cX7_addEquals 55 = .ok (.aload_n 0, 1) := by decide +kernel
theorem dX7_addEquals_56 : decode cX7_addEquals 56 = .ok (.getfield 36, 3) := by decide +kernel
theorem dX7_addEquals_59 : decode cX7_addEquals 59 = .ok (.iconst 4, 1) := by decide +kernel
theorem dX7_addEquals_60 : decode cX7_addEquals 60 = .ok (.iaload, 1) := by decide +kernel
theorem dX7_addEquals_61 : decode cX7_addEquals 61 = .ok (.i2l, 1) := by decide +kernel
theorem dX7_addEquals_62 : decode cX7_addEquals 62 = .ok (.ladd, 1) := by decide +kernel
theorem dX7_addEquals_63 : decode cX7_addEquals 63 = .ok (.lastore, 1) := by decide +kernel
theorem dX7_addEquals_64 : decode cX7_addEquals 64 = .ok (.iinc 2 1, 3) := by decide +kernel
theorem dX7_addEquals_67 : decode cX7_addEquals 67 = .ok (.goto (-65), 3) := by decide +kernel
theorem dX7_addEquals_70 : decode cX7_addEquals 70 = .ok (.return_, 1) := by decide +kernel
theorem dX7_addPair_0 : decode cX7_addPair 0 = .ok (.iload_n 1, 1) := by decide +kernel
theorem dX7_addPair_1 : decode cX7_addPair 1 = .ok (.aload_n 0, 1) := by decide +kernel
theorem dX7_addPair_2 : decode cX7_addPair 2 = .ok (.getfield 70, 3) := by decide +kernel
theorem dX7_addPair_5 : decode cX7_addPair 5 = .ok (.if_icmp .ge 11, 3) := by decide +kernel
theorem dX7_addPair_8 : decode cX7_addPair 8 = .ok (.iload_n 2, 1) := by decide +kernel
theorem dX7_addPair_9 : decode cX7_addPair 9 = .ok (.aload_n 0, 1) := by decide +kernel
theorem dX7_addPair_10 : decode cX7_addPair 10 = .ok (.getfield 70, 3) := by decide +kernel
theorem dX7_addPair_13 : decode cX7_addPair 13 = .ok (.if_icmp .lt 4, 3) := by decide +kernel
theorem dX7_addPair_16 : decode cX7_addPair 16 = .ok (.return_, 1) := by decide +kernel
theorem dX7_addPair_17 : decode cX7_addPair 17 = .ok (.aload_n 0, 1) := by decide +kernel
theorem dX7_addPair_18 : decode cX7_addPair 18 = .ok (.getfield 11, 3) := by decide +kernel
theorem dX7_addPair_21 : decode cX7_addPair 21 = .ok (.iload_n 1, 1) := by decide +kernel
theorem dX7_addPair_22 : decode cX7_addPair 22 = .ok (.aaload, 1) := by decide +kernel
theorem dX7_addPair_23 : decode cX7_addPair 23 = .ok (.iload_n 1, 1) := by decide +kernel
theorem dX7_addPair_24 : decode cX7_addPair 24 = .ok (.dup2, 1) := by decide +kernel
theorem dX7_addPair_25 : decode cX7_addPair 25 = .ok (.laload, 1) := by decide +kernel
theorem dX7_addPair_26 : decode cX7_addPair 26 = .ok (.lload_n 3, 1) := by decide +kernel
theorem dX7_addPair_27 : decode cX7_addPair 27 = .ok (.ladd, 1) := by decide +kernel
theorem dX7_addPair_28 : decode cX7_addPair 28 = .ok (.lastore, 1) := by decide +kernel
theorem dX7_addPair_29 : decode cX7_addPair 29 = .ok (.aload_n 0, 1) := by decide +kernel
theorem dX7_addPair_30 : decode cX7_addPair 30 = .ok (.getfield 11, 3) := by decide +kernel
theorem dX7_addPair_33 : decode cX7_addPair 33 = .ok (.iload_n 2, 1) := by decide +kernel
theorem dX7_addPair_34 : decode cX7_addPair 34 = .ok (.aaload, 1) := by decide +kernel
theorem dX7_addPair_35 : decode cX7_addPair 35 = .ok (.iload_n 2, 1) := by decide +kernel
theorem dX7_addPair_36 : decode cX7_addPair 36 = .ok (.dup2, 1) := by decide +kernel
theorem dX7_addPair_37 : decode cX7_addPair 37 = .ok (.laload, 1) := by decide +kernel
theorem dX7_addPair_38 : decode cX7_addPair 38 = .ok (.lload_n 3, 1) := by decide +kernel
theorem dX7_addPair_39 : decode cX7_addPair 39 = .ok (.ladd, 1) := by decide +kernel
theorem dX7_addPair_40 : decode cX7_addPair 40 = .ok (.lastore, 1) := by decide +kernel
theorem dX7_addPair_41 : decode cX7_addPair 41 = .ok (.aload_n 0, 1) := by decide +kernel
theorem dX7_addPair_42 : decode cX7_addPair 42 = .ok (.getfield 11, 3) := by decide +kernel
theorem dX7_addPair_45 : decode cX7_addPair 45 = .ok (.iload_n 1, 1) := by decide +kernel
theorem dX7_addPair_46 : decode cX7_addPair 46 = .ok (.aaload, 1) := by decide +kernel
theorem dX7_addPair_47 : decode cX7_addPair 47 = .ok (.iload_n 2, 1) := by decide +kernel
theorem dX7_addPair_48 : decode cX7_addPair 48 = .ok (.dup2, 1) := by decide +kernel
theorem dX7_addPair_49 : decode cX7_addPair 49 = .ok (.laload, 1) := by decide +kernel
theorem dX7_addPair_50 : decode cX7_addPair 50 = .ok (.lload_n 3, 1) := by decide +kernel
theorem dX7_addPair_51 : decode cX7_addPair 51 = .ok (.lsub, 1) := by decide +kernel
theorem dX7_addPair_52 : decode cX7_addPair 52 = .ok (.lastore, 1) := by decide +kernel
theorem dX7_addPair_53 : decode cX7_addPair 53 = .ok (.aload_n 0, 1) := by decide +kernel
theorem dX7_addPair_54 : decode cX7_addPair 54 = .ok (.getfield 11, 3) := by decide +kernel
theorem dX7_addPair_57 : decode cX7_addPair 57 = .ok (.iload_n 2, 1) := by decide +kernel
theorem dX7_addPair_58 : decode cX7_addPair 58 = .ok (.aaload, 1) := by decide +kernel
theorem dX7_addPair_59 : decode cX7_addPair 59 = .ok (.iload_n 1, 1) := by decide +kernel
theorem dX7_addPair_60 : decode cX7_addPair 60 = .ok (.dup2, 1) := by decide +kernel
theorem dX7_addPair_61 : decode cX7_addPair 61 = .ok (.laload, 1) := by decide +kernel
theorem dX7_addPair_62 : decode cX7_addPair 62 = .ok (.lload_n 3, 1) := by decide +kernel
theorem dX7_addPair_63 : decode cX7_addPair 63 = .ok (.lsub, 1) := by decide +kernel
theorem dX7_addPair_64 : decode cX7_addPair 64 = .ok (.lastore, 1) := by decide +kernel
theorem dX7_addPair_65 : decode cX7_addPair 65 = .ok (.aload_n 0, 1) := by decide +kernel
theorem dX7_addPair_66 : decode cX7_addPair 66 = .ok (.getfield 16, 3) := by decide +kernel
theorem dX7_addPair_69 : decode cX7_addPair 69 = .ok (.iload_n 1, 1) := by decide +kernel
theorem dX7_addPair_70 : decode cX7_addPair 70 = .ok (.dup2, 1) := by decide +kernel
theorem dX7_addPair_71 : decode cX7_addPair 71 = .ok (.laload, 1) := by decide +kernel
theorem dX7_addPair_72 : decode cX7_addPair 72 = .ok (.lload_n 3, 1) := by decide +kernel
theorem dX7_addPair_73 : decode cX7_addPair 73 = .ok (.lload 5, 2) := by decide +kernel
theorem dX7_addPair_75 : decode cX7_addPair 75 = .ok (.lmul, 1) := by decide +kernel
theorem dX7_addPair_76 : decode cX7_addPair 76 = .ok (.ladd, 1) := by decide +kernel
theorem dX7_addPair_77 : decode cX7_addPair 77 = .ok (.lastore, 1) := by decide +kernel
theorem dX7_addPair_78 : decode cX7_addPair 78 = .ok (.aload_n 0, 1) := by decide +kernel
theorem dX7_addPair_79 : decode cX7_addPair 79 = .ok (.getfield 16, 3) := by decide +kernel
theorem dX7_addPair_82 : decode cX7_addPair 82 = .ok (.iload_n 2, 1) := by decide +kernel
theorem dX7_addPair_83 : decode cX7_addPair 83 = .ok (.dup2, 1) := by decide +kernel
theorem dX7_addPair_84 : decode cX7_addPair 84 = .ok (.laload, 1) := by decide +kernel
theorem dX7_addPair_85 : decode cX7_addPair 85 = .ok (.lload_n 3, 1) := by decide +kernel
theorem dX7_addPair_86 : decode cX7_addPair 86 = .ok (.lload 5, 2) := by decide +kernel
theorem dX7_addPair_88 : decode cX7_addPair 88 = .ok (.lmul, 1) := by decide +kernel
theorem dX7_addPair_89 : decode cX7_addPair 89 = .ok (.lsub, 1) := by decide +kernel
theorem dX7_addPair_90 : decode cX7_addPair 90 = .ok (.lastore, 1) := by decide +kernel
theorem dX7_addPair_91 : decode cX7_addPair 91 = .ok (.aload_n 0, 1) := by decide +kernel
theorem dX7_addPair_92 : decode cX7_addPair 92 = .ok (.dup, 1) := by decide +kernel
theorem dX7_addPair_93 : decode cX7_addPair 93 = .ok (.getfield 76, 3) := by decide +kernel
theorem dX7_addPair_96 : decode cX7_addPair 96 = .ok (.lload_n 3, 1) := by decide +kernel
theorem dX7_addPair_97 : decode cX7_addPair 97 = .ok (.lload 5, 2) := by decide +kernel
theorem dX7_addPair_99 : decode cX7_addPair 99 = .ok (.lmul, 1) := by decide +kernel
theorem dX7_addPair_100 : decode cX7_addPair 100 = .ok (.lload 5, 2) := by decide +kernel
theorem dX7_addPair_102 : decode cX7_addPair 102 = .ok (.lmul, 1) := by decide +kernel
theorem dX7_addPair_103 : decode cX7_addPair 103 = .ok (.ladd, 1) := by decide +kernel
theorem dX7_addPair_104 : decode cX7_addPair 104 = .ok (.putfield 76, 3) := by decide +kernel
theorem dX7_addPair_107 : decode cX7_addPair 107 = .ok (.return_, 1) := by decide +kernel
theorem dX7_fixLoose_0 : decode cX7_fixLoose 0 = .ok (.aload_n 0, 1) := by decide +kernel
theorem dX7_fixLoose_1 : decode cX7_fixLoose 1 = .ok (.invokevirtual 126, 3) := by decide +kernel
theorem dX7_fixLoose_4 : decode cX7_fixLoose 4 = .ok (.iconst 0, 1) := by decide +kernel
theorem dX7_fixLoose_5 : decode cX7_fixLoose 5 = .ok (.istore_n 1, 1) := by decide +kernel
theorem dX7_fixLoose_6 : decode cX7_fixLoose 6 = .ok (.iload_n 1, 1) := by decide +kernel
theorem dX7_fixLoose_7 : decode cX7_fixLoose 7 = .ok (.aload_n 0, 1) := by decide +kernel
theorem dX7_fixLoose_8 : decode cX7_fixLoose 8 = .ok (.getfield 70, 3) := by decide +kernel
theorem dX7_fixLoose_11 : decode cX7_fixLoose 11 = .ok (.if_icmp .ge 24, 3) := by decide +kernel
theorem dX7_fixLoose_14 : decode cX7_fixLoose 14 = .ok (.aload_n 0, 1) := by decide +kernel
theorem dX7_fixLoose_15 : decode cX7_fixLoose 15 = .ok (.getfield 20, 3) := by decide +kernel
theorem dX7_fixLoose_18 : decode cX7_fixLoose 18 = .ok (.iload_n 1, 1) := by decide +kernel
theorem dX7_fixLoose_19 : decode cX7_fixLoose 19 = .ok (.iaload, 1) := by decide +kernel
theorem dX7_fixLoose_20 : decode cX7_fixLoose 20 = .ok (.iload_n 1, 1) := by decide +kernel
theorem dX7_fixLoose_21 : decode cX7_fixLoose 21 = .ok (.if_icmp .ne 8, 3) := by decide +kernel
theorem dX7_fixLoose_24 : decode cX7_fixLoose 24 = .ok (.aload_n 0, 1) := by decide +kernel
theorem dX7_fixLoose_25 : decode cX7_fixLoose 25 = .ok (.iload_n 1, 1) := by decide +kernel
theorem dX7_fixLoose_26 : decode cX7_fixLoose 26 = .ok (.invokevirtual 129, 3) := by decide +kernel
theorem dX7_fixLoose_29 : decode cX7_fixLoose 29 = .ok (.iinc 1 1, 3) := by decide +kernel
theorem dX7_fixLoose_32 : decode cX7_fixLoose 32 = .ok (.goto (-26), 3) := by decide +kernel
theorem dX7_fixLoose_35 : decode cX7_fixLoose 35 = .ok (.return_, 1) := by decide +kernel
theorem dX7_findLasts_0 : decode cX7_findLasts 0 = .ok (.iconst 0, 1) := by decide +kernel
theorem dX7_findLasts_1 : decode cX7_findLasts 1 = .ok (.istore_n 1, 1) := by decide +kernel
theorem dX7_findLasts_2 : decode cX7_findLasts 2 = .ok (.iload_n 1, 1) := by decide +kernel
theorem dX7_findLasts_3 : decode cX7_findLasts 3 = .ok (.aload_n 0, 1) := by decide +kernel
theorem dX7_findLasts_4 : decode cX7_findLasts 4 = .ok (.getfield 70, 3) := by decide +kernel
theorem dX7_findLasts_7 : decode cX7_findLasts 7 = .ok (.if_icmp .ge 16, 3) := by decide +kernel
theorem dX7_findLasts_10 : decode cX7_findLasts 10 = .ok (.aload_n 0, 1) := by decide +kernel
theorem dX7_findLasts_11 : decode cX7_findLasts 11 = .ok (.getfield 20, 3) := by decide +kernel
theorem dX7_findLasts_14 : decode cX7_findLasts 14 = .ok (.iload_n 1, 1) := by decide +kernel
theorem dX7_findLasts_15 : decode cX7_findLasts 15 = .ok (.iload_n 1, 1) := by decide +kernel
theorem dX7_findLasts_16 : decode cX7_findLasts 16 = .ok (.iastore, 1) := by decide +kernel
theorem dX7_findLasts_17 : decode cX7_findLasts 17 = .ok (.iinc 1 1, 3) := by decide +kernel
theorem dX7_findLasts_20 : decode cX7_findLasts 20 = .ok (.goto (-18), 3) := by decide +kernel
theorem dX7_findLasts_23 : decode cX7_findLasts 23 = .ok (.iconst 1, 1) := by decide +kernel
theorem dX7_findLasts_24 : decode cX7_findLasts 24 = .ok (.istore_n 1, 1) := by decide +kernel
theorem dX7_findLasts_25 : decode cX7_findLasts 25 = .ok (.iconst 0, 1) := by decide +kernel
theorem dX7_findLasts_26 : decode cX7_findLasts 26 = .ok (.istore_n 2, 1) := by decide +kernel
theorem dX7_findLasts_27 : decode cX7_findLasts 27 = .ok (.iload_n 2, 1) := by decide +kernel
theorem dX7_findLasts_28 : decode cX7_findLasts 28 = .ok (.aload_n 0, 1) := by decide +kernel
theorem dX7_findLasts_29 : decode cX7_findLasts 29 = .ok (.getfield 70, 3) := by decide +kernel
theorem dX7_findLasts_32 : decode cX7_findLasts 32 = .ok (.if_icmp .ge 39, 3) := by decide +kernel
theorem dX7_findLasts_35 : decode cX7_findLasts 35 = .ok (.iload_n 1, 1) := by decide +kernel
theorem dX7_findLasts_36 : decode cX7_findLasts 36 = .ok (.ifCond .eq 35, 3) := by decide +kernel
theorem dX7_findLasts_39 : decode cX7_findLasts 39 = .ok (.iconst 0, 1) := by decide +kernel
theorem dX7_findLasts_40 : decode cX7_findLasts 40 = .ok (.istore_n 1, 1) := by decide +kernel
theorem dX7_findLasts_41 : decode cX7_findLasts 41 = .ok (.iconst 0, 1) := by decide +kernel
theorem dX7_findLasts_42 : decode cX7_findLasts 42 = .ok (.istore_n 3, 1) := by decide +kernel
theorem dX7_findLasts_43 : decode cX7_findLasts 43 = .ok (.iload_n 3, 1) := by decide +kernel
theorem dX7_findLasts_44 : decode cX7_findLasts 44 = .ok (.aload_n 0, 1) := by decide +kernel
theorem dX7_findLasts_45 : decode cX7_findLasts 45 = .ok (.getfield 70, 3) := by decide +kernel
theorem dX7_findLasts_48 : decode cX7_findLasts 48 = .ok (.if_icmp .ge 17, 3) := by decide +kernel
theorem dX7_findLasts_51 : decode cX7_findLasts 51 = .ok (.iload_n 1, 1) := by decide +kernel
theorem dX7_findLasts_52 : decode cX7_findLasts 52 = .ok (.aload_n 0, 1) := by decide +kernel
theorem dX7_findLasts_53 : decode cX7_findLasts 53 = .ok (.iload_n 3, 1) := by decide +kernel
theorem dX7_findLasts_54 : decode cX7_findLasts 54 = .ok (.invokevirtual 132, 3) := by decide +kernel
theorem dX7_findLasts_57 : decode cX7_findLasts 57 = .ok (.ior, 1) := by decide +kernel
theorem dX7_findLasts_58 : decode cX7_findLasts 58 = .ok (.istore_n 1, 1) := by decide +kernel
theorem dX7_findLasts_59 : decode cX7_findLasts 59 = .ok (.iinc 3 1, 3) := by decide +kernel
theorem dX7_findLasts_62 : decode cX7_findLasts 62 = .ok (.goto (-19), 3) := by decide +kernel
theorem dX7_findLasts_65 : decode cX7_findLasts 65 = .ok (.iinc 2 1, 3) := by decide +kernel
theorem dX7_findLasts_68 : decode cX7_findLasts 68 = .ok (.goto (-41), 3) := by decide +kernel
theorem dX7_findLasts_71 : decode cX7_findLasts 71 = .ok (.return_, 1) := by decide +kernel
theorem dX7_pullLast_0 : decode cX7_pullLast 0 = .ok (.aload_n 0, 1) := by decide +kernel
theorem dX7_pullLast_1 : decode cX7_pullLast 1 = .ok (.getfield 20, 3) := by decide +kernel
theorem dX7_pullLast_4 : decode cX7_pullLast 4 = .ok (.iload_n 1, 1) := by decide +kernel
theorem dX7_pullLast_5 : decode cX7_pullLast 5 = .ok (.iaload, 1) := by decide +kernel
theorem dX7_pullLast_6 : decode cX7_pullLast 6 = .ok (.istore_n 2, 1) := by decide +kernel
theorem dX7_pullLast_7 : decode cX7_pullLast 7 = .ok (.iconst 0, 1) := by decide +kernel
theorem dX7_pullLast_8 : decode cX7_pullLast 8 = .ok (.istore_n 3, 1) := by decide +kernel
theorem dX7_pullLast_9 : decode cX7_pullLast 9 = .ok (.iload_n 3, 1) := by decide +kernel
theorem dX7_pullLast_10 : decode cX7_pullLast 10 = .ok (.aload_n 0, 1) := by decide +kernel
theorem dX7_pullLast_11 : decode cX7_pullLast 11 = .ok (.getfield 70, 3) := by decide +kernel
theorem dX7_pullLast_14 : decode cX7_pullLast 14 = .ok (.if_icmp .ge 33, 3) := by decide +kernel
theorem dX7_pullLast_17 : decode cX7_pullLast 17 = .ok (.aload_n 0, 1) := by decide +kernel
theorem dX7_pullLast_18 : decode cX7_pullLast 18 = .ok (.getfield 11, 3) := by decide +kernel
theorem dX7_pullLast_21 : decode cX7_pullLast 21 = .ok (.iload_n 1, 1) := by decide +kernel
theorem dX7_pullLast_22 : decode cX7_pullLast 22 = .ok (.aaload, 1) := by decide +kernel
theorem dX7_pullLast_23 : decode cX7_pullLast 23 = .ok (.iload_n 3, 1) := by decide +kernel
theorem dX7_pullLast_24 : decode cX7_pullLast 24 = .ok (.laload, 1) := by decide +kernel
theorem dX7_pullLast_25 : decode cX7_pullLast 25 = .ok (.lconst 0, 1) := by decide +kernel
theorem dX7_pullLast_26 : decode cX7_pullLast 26 = .ok (.lcmp, 1) := by decide +kernel
theorem dX7_pullLast_27 : decode cX7_pullLast 27 = .ok (.ifCond .eq 14, 3) := by decide +kernel
theorem dX7_pullLast_30 : decode cX7_pullLast 30 = .ok (.iload_n 2, 1) := by decide +kernel
theorem dX7_pullLast_31 : decode cX7_pullLast 31 = .ok (.aload_n 0, 1) := by decide +kernel
theorem dX7_pullLast_32 : decode cX7_pullLast 32 = .ok (.getfield 20, 3) := by decide +kernel
theorem dX7_pullLast_35 : decode cX7_pullLast 35 = .ok (.iload_n 3, 1) := by decide +kernel
theorem dX7_pullLast_36 : decode cX7_pullLast 36 = .ok (.iaload, 1) := by decide +kernel
theorem dX7_pullLast_37 : decode cX7_pullLast 37 = .ok (.invokestatic 136, 3) := by decide +kernel
theorem dX7_pullLast_40 : decode cX7_pullLast 40 = .ok (.istore_n 2, 1) := by decide +kernel
theorem dX7_pullLast_41 : decode cX7_pullLast 41 = .ok (.iinc 3 1, 3) := by decide +kernel
theorem dX7_pullLast_44 : decode cX7_pullLast 44 = .ok (.goto (-35), 3) := by decide +kernel
theorem dX7_pullLast_47 : decode cX7_pullLast 47 = .ok (.iload_n 2, 1) := by decide +kernel
theorem dX7_pullLast_48 : decode cX7_pullLast 48 = .ok (.aload_n 0, 1) := by decide +kernel
theorem dX7_pullLast_49 : decode cX7_pullLast 49 = .ok (.getfield 20, 3) := by decide +kernel
theorem dX7_pullLast_52 : decode cX7_pullLast 52 = .ok (.iload_n 1, 1) := by decide +kernel
theorem dX7_pullLast_53 : decode cX7_pullLast 53 = .ok (.iaload, 1) := by decide +kernel
theorem dX7_pullLast_54 : decode cX7_pullLast 54 = .ok (.if_icmp .eq 7, 3) := by decide +kernel
theorem dX7_pullLast_57 : decode cX7_pullLast 57 = .ok (.iconst 1, 1) := by decide +kernel
theorem dX7_pullLast_58 : decode cX7_pullLast 58 = .ok (.goto 4, 3) := by decide +kernel
theorem dX7_pullLast_61 : decode cX7_pullLast 61 = .ok (.iconst 0, 1) := by decide +kernel
theorem dX7_pullLast_62 : decode cX7_pullLast 62 = .ok (.istore_n 3, 1) := by decide +kernel
theorem dX7_pullLast_63 : decode cX7_pullLast 63 = .ok (.aload_n 0, 1) := by decide +kernel
theorem dX7_pullLast_64 : decode cX7_pullLast 64 = .ok (.getfield 20, 3) := by decide +kernel
theorem dX7_pullLast_67 : decode cX7_pullLast 67 = .ok (.iload_n 1, 1) := by decide +kernel
theorem dX7_pullLast_68 : decode cX7_pullLast 68 = .ok (.iload_n 2, 1) := by decide +kernel
theorem dX7_pullLast_69 : decode cX7_pullLast 69 = .ok (.iastore, 1) := by decide +kernel
theorem dX7_pullLast_70 : decode cX7_pullLast 70 = .ok (.iload_n 3, 1) := by decide +kernel
theorem dX7_pullLast_71 : decode cX7_pullLast 71 = .ok (.ireturn, 1) := by decide +kernel
theorem dX7_fix_0 : decode cX7_fix 0 = .ok (.iconst 0, 1) := by decide +kernel
theorem dX7_fix_1 : decode cX7_fix 1 = .ok (.istore_n 2, 1) := by decide +kernel
theorem dX7_fix_2 : decode cX7_fix 2 = .ok (.iload_n 2, 1) := by decide +kernel
theorem dX7_fix_3 : decode cX7_fix 3 = .ok (.aload_n 0, 1) := by decide +kernel
theorem dX7_fix_4 : decode cX7_fix 4 = .ok (.getfield 70, 3) := by decide +kernel
theorem dX7_fix_7 : decode cX7_fix 7 = .ok (.if_icmp .ge 27, 3) := by decide +kernel
theorem dX7_fix_10 : decode cX7_fix 10 = .ok (.aload_n 0, 1) := by decide +kernel
theorem dX7_fix_11 : decode cX7_fix 11 = .ok (.getfield 11, 3) := by decide +kernel
theorem dX7_fix_14 : decode cX7_fix 14 = .ok (.iload_n 1, 1) := by decide +kernel
theorem dX7_fix_15 : decode cX7_fix 15 = .ok (.aaload, 1) := by decide +kernel
theorem dX7_fix_16 : decode cX7_fix 16 = .ok (.iload_n 2, 1) := by decide +kernel
theorem dX7_fix_17 : decode cX7_fix 17 = .ok (.lconst 0, 1) := by decide +kernel
theorem dX7_fix_18 : decode cX7_fix 18 = .ok (.lastore, 1) := by decide +kernel
theorem dX7_fix_19 : decode cX7_fix 19 = .ok (.aload_n 0, 1) := by decide +kernel
theorem dX7_fix_20 : decode cX7_fix 20 = .ok (.getfield 11, 3) := by decide +kernel
theorem dX7_fix_23 : decode cX7_fix 23 = .ok (.iload_n 2, 1) := by decide +kernel
theorem dX7_fix_24 : decode cX7_fix 24 = .ok (.aaload, 1) := by decide +kernel
theorem dX7_fix_25 : decode cX7_fix 25 = .ok (.iload_n 1, 1) := by decide +kernel
theorem dX7_fix_26 : decode cX7_fix 26 = .ok (.lconst 0, 1) := by decide +kernel
theorem dX7_fix_27 : decode cX7_fix 27 = .ok (.lastore, 1) := by decide +kernel
theorem dX7_fix_28 : decode cX7_fix 28 = .ok (.iinc 2 1, 3) := by decide +kernel
theorem dX7_fix_31 : decode cX7_fix 31 = .ok (.goto (-29), 3) := by decide +kernel
theorem dX7_fix_34 : decode cX7_fix 34 = .ok (.aload_n 0, 1) := by decide +kernel
theorem dX7_fix_35 : decode cX7_fix 35 = .ok (.getfield 11, 3) := by decide +kernel
theorem dX7_fix_38 : decode cX7_fix 38 = .ok (.iload_n 1, 1) := by decide +kernel
theorem dX7_fix_39 : decode cX7_fix 39 = .ok (.aaload, 1) := by decide +kernel
theorem dX7_fix_40 : decode cX7_fix 40 = .ok (.iload_n 1, 1) := by decide +kernel
theorem dX7_fix_41 : decode cX7_fix 41 = .ok (.lconst 1, 1) := by decide +kernel
theorem dX7_fix_42 : decode cX7_fix 42 = .ok (.lastore, 1) := by decide +kernel
theorem dX7_fix_43 : decode cX7_fix 43 = .ok (.aload_n 0, 1) := by decide +kernel
theorem dX7_fix_44 : decode cX7_fix 44 = .ok (.getfield 16, 3) := by decide +kernel
theorem dX7_fix_47 : decode cX7_fix 47 = .ok (.iload_n 1, 1) := by decide +kernel
theorem dX7_fix_48 : decode cX7_fix 48 = .ok (.lconst 0, 1) := by decide +kernel
theorem dX7_fix_49 : decode cX7_fix 49 = .ok (.lastore, 1) := by decide +kernel
theorem dX7_fix_50 : decode cX7_fix 50 = .ok (.aload_n 0, 1) := by decide +kernel
theorem dX7_fix_51 : decode cX7_fix 51 = .ok (.dup, 1) := by decide +kernel
theorem dX7_fix_52 : decode cX7_fix 52 = .ok (.getfield 73, 3) := by decide +kernel
theorem dX7_fix_55 : decode cX7_fix 55 = .ok (.iconst 1, 1) := by decide +kernel
theorem dX7_fix_56 : decode cX7_fix 56 = .ok (.iadd, 1) := by decide +kernel
theorem dX7_fix_57 : decode cX7_fix 57 = .ok (.putfield 73, 3) := by decide +kernel
theorem dX7_fix_60 : decode cX7_fix 60 = .ok (.return_, 1) := by decide +kernel
theorem dX8_init_0 : decode cX8_init 0 = .ok (.aload_n 0, 1) := by decide +kernel
theorem dX8_init_1 : decode cX8_init 1 = .ok (.invokespecial 3, 3) := by decide +kernel
theorem dX8_init_4 : decode cX8_init 4 = .ok (.aload_n 0, 1) := by decide +kernel
theorem dX8_init_5 : decode cX8_init 5 = .ok (.sipush 256, 3) := by decide +kernel
theorem dX8_init_8 : decode cX8_init 8 = .ok (.newarray .byte, 2) := by decide +kernel
theorem dX8_init_10 : decode cX8_init 10 = .ok (.putfield 9, 3) := by decide +kernel
theorem dX8_init_13 : decode cX8_init 13 = .ok (.return_, 1) := by decide +kernel
theorem dX8_write_0 : decode cX8_write 0 = .ok (.aload_n 1, 1) := by decide +kernel
theorem dX8_write_1 : decode cX8_write 1 = .ok (.invokevirtual 15, 3) := by decide +kernel
theorem dX8_write_4 : decode cX8_write 4 = .ok (.aload_n 0, 1) := by decide +kernel
theorem dX8_write_5 : decode cX8_write 5 = .ok (.iconst 0, 1) := by decide +kernel
theorem dX8_write_6 : decode cX8_write 6 = .ok (.putfield 20, 3) := by decide +kernel
theorem dX8_write_9 : decode cX8_write 9 = .ok (.aload_n 1, 1) := by decide +kernel
theorem dX8_write_10 : decode cX8_write 10 = .ok (.getfield 24, 3) := by decide +kernel
theorem dX8_write_13 : decode cX8_write 13 = .ok (.getfield 28, 3) := by decide +kernel
theorem dX8_write_16 : decode cX8_write 16 = .ok (.ifCond .eq 9, 3) := by decide +kernel
theorem dX8_write_19 : decode cX8_write 19 = .ok (.aload_n 0, 1) := by decide +kernel
theorem dX8_write_20 : decode cX8_write 20 = .ok (.bipush 45, 2) := by decide +kernel
theorem dX8_write_22 : decode cX8_write 22 = .ok (.invokevirtual 34, 3) := by decide +kernel
theorem dX8_write_25 : decode cX8_write 25 = .ok (.aload_n 0, 1) := by decide +kernel
theorem dX8_write_26 : decode cX8_write 26 = .ok (.aload_n 1, 1) := by decide +kernel
theorem dX8_write_27 : decode cX8_write 27 = .ok (.getfield 24, 3) := by decide +kernel
theorem dX8_write_30 : decode cX8_write 30 = .ok (.invokevirtual 38, 3) := by decide +kernel
theorem dX8_write_33 : decode cX8_write 33 = .ok (.aload_n 1, 1) := by decide +kernel
theorem dX8_write_34 : decode cX8_write 34 = .ok (.getfield 42, 3) := by decide +kernel
theorem dX8_write_37 : decode cX8_write 37 = .ok (.iconst 1, 1) := by decide +kernel
theorem dX8_write_38 : decode cX8_write 38 = .ok (.invokevirtual 45, 3) := by decide +kernel
theorem dX8_write_41 : decode cX8_write 41 = .ok (.ifCond .ne 17, 3) := by decide +kernel
theorem dX8_write_44 : decode cX8_write 44 = .ok (.aload_n 0, 1) := by decide +kernel
theorem dX8_write_45 : decode cX8_write 45 = .ok (.bipush 47, 2) := by decide +kernel
theorem dX8_write_47 : decode cX8_write 47 = .ok (.invokevirtual 34, 3) := by decide +kernel
theorem dX8_write_50 : decode cX8_write 50 = .ok (.aload_n 0, 1) := by decide +kernel
theorem dX8_write_51 : decode cX8_write 51 = .ok (.aload_n 1, 1) := by decide +kernel
theorem dX8_write_52 : decode cX8_write 52 = .ok (.getfield 42, 3) := by decide +kernel
theorem dX8_write_55 : decode cX8_write 55 = .ok (.invokevirtual 38, 3) := by decide +kernel
theorem dX8_write_58 : decode cX8_write 58 = .ok (.aload_n 0, 1) := by decide +kernel
theorem dX8_write_59 : decode cX8_write 59 = .ok (.getfield 20, 3) := by decide +kernel
theorem dX8_write_62 : decode cX8_write 62 = .ok (.ireturn, 1) := by decide +kernel
theorem dX8_append_0 : decode cX8_append 0 = .ok (.aload_n 0, 1) := by decide +kernel
theorem dX8_append_1 : decode cX8_append 1 = .ok (.getfield 20, 3) := by decide +kernel
theorem dX8_append_4 : decode cX8_append 4 = .ok (.sipush 256, 3) := by decide +kernel
theorem dX8_append_7 : decode cX8_append 7 = .ok (.if_icmp .ge 24, 3) := by decide +kernel
theorem dX8_append_10 : decode cX8_append 10 = .ok (.aload_n 0, 1) := by decide +kernel
theorem dX8_append_11 : decode cX8_append 11 = .ok (.getfield 9, 3) := by decide +kernel
theorem dX8_append_14 : decode cX8_append 14 = .ok (.aload_n 0, 1) := by decide +kernel
theorem dX8_append_15 : decode cX8_append 15 = .ok (.getfield 20, 3) := by decide +kernel
theorem dX8_append_18 : decode cX8_append 18 = .ok (.iload_n 1, 1) := by decide +kernel
theorem dX8_append_19 : decode cX8_append 19 = .ok (.i2b, 1) := by decide +kernel
theorem dX8_append_20 : decode cX8_append 20 = .ok (.bastore, 1) := by decide +kernel
theorem dX8_append_21 : decode cX8_append 21 = .ok (.aload_n 0, 1) := by decide +kernel
theorem dX8_append_22 : decode cX8_append 22 = .ok (.dup, 1) := by decide +kernel
theorem dX8_append_23 : decode cX8_append 23 = .ok (.getfield 20, 3) := by decide +kernel
theorem dX8_append_26 : decode cX8_append 26 = .ok (.iconst 1, 1) := by decide +kernel
theorem dX8_append_27 : decode cX8_append 27 = .ok (.iadd, 1) := by decide +kernel
theorem dX8_append_28 : decode cX8_append 28 = .ok (.putfield 20, 3) := by decide +kernel
theorem dX8_append_31 : decode cX8_append 31 = .ok (.return_, 1) := by decide +kernel
theorem dX8_appendSize_0 : decode cX8_appendSize 0 = .ok (.aload_n 0, 1) := by decide +kernel
theorem dX8_appendSize_1 : decode cX8_appendSize 1 = .ok (.getfield 20, 3) := by decide +kernel
theorem dX8_appendSize_4 : decode cX8_appendSize 4 = .ok (.istore_n 2, 1) := by decide +kernel
theorem dX8_appendSize_5 : decode cX8_appendSize 5 = .ok (.aload_n 0, 1) := by decide +kernel
theorem dX8_appendSize_6 : decode cX8_appendSize 6 = .ok (.bipush 48, 2) := by decide +kernel
theorem dX8_appendSize_8 : decode cX8_appendSize 8 = .ok (.aload_n 1, 1) := by decide +kernel
theorem dX8_appendSize_9 : decode cX8_appendSize 9 = .ok (.invokevirtual 49, 3) := by decide +kernel
theorem dX8_appendSize_12 : decode cX8_appendSize 12 = .ok (.iadd, 1) := by decide +kernel
theorem dX8_appendSize_13 : decode cX8_appendSize 13 = .ok (.invokevirtual 34, 3) := by decide +kernel
theorem dX8_appendSize_16 : decode cX8_appendSize 16 = .ok (.iconst 1, 1) := by decide +kernel
theorem dX8_appendSize_17 : decode cX8_appendSize 17 = .ok (.istore_n 3, 1) := by decide +kernel
theorem dX8_appendSize_18 : decode cX8_appendSize 18 = .ok (.iload_n 3, 1) := by decide +kernel
theorem dX8_appendSize_19 : decode cX8_appendSize 19 = .ok (.sipush 256, 3) := by decide +kernel
theorem dX8_appendSize_22 : decode cX8_appendSize 22 = .ok (.if_icmp .ge 28, 3) := by decide +kernel
theorem dX8_appendSize_25 : decode cX8_appendSize 25 = .ok (.aload_n 1, 1) := by decide +kernel
theorem dX8_appendSize_26 : decode cX8_appendSize 26 = .ok (.iconst 0, 1) := by decide +kernel
theorem dX8_appendSize_27 : decode cX8_appendSize 27 = .ok (.invokevirtual 45, 3) := by decide +kernel
theorem dX8_appendSize_30 : decode cX8_appendSize 30 = .ok (.ifCond .ne 20, 3) := by decide +kernel
theorem dX8_appendSize_33 : decode cX8_appendSize 33 = .ok (.aload_n 0, 1) := by decide +kernel
theorem dX8_appendSize_34 : decode cX8_appendSize 34 = .ok (.bipush 48, 2) := by decide +kernel
theorem dX8_appendSize_36 : decode cX8_appendSize 36 = .ok (.aload_n 1, 1) := by decide +kernel
theorem dX8_appendSize_37 : decode cX8_appendSize 37 = .ok (.invokevirtual 49, 3) := by decide +kernel
theorem dX8_appendSize_40 : decode cX8_appendSize 40 = .ok (.iadd, 1) := by decide +kernel
theorem dX8_appendSize_41 : decode cX8_appendSize 41 = .ok (.invokevirtual 34, 3) := by decide +kernel
theorem dX8_appendSize_44 : decode cX8_appendSize 44 = .ok (.iinc 3 1, 3) := by decide +kernel
theorem dX8_appendSize_47 : decode cX8_appendSize 47 = .ok (.goto (-29), 3) := by decide +kernel
theorem dX8_appendSize_50 : decode cX8_appendSize 50 = .ok (.iload_n 2, 1) := by decide +kernel
theorem dX8_appendSize_51 : decode cX8_appendSize 51 = .ok (.istore_n 3, 1) := by decide +kernel
theorem dX8_appendSize_52 : decode cX8_appendSize 52 = .ok (.aload_n 0, 1) := by decide +kernel
theorem dX8_appendSize_53 : decode cX8_appendSize 53 = .ok (.getfield 20, 3) := by decide +kernel
theorem dX8_appendSize_56 : decode cX8_appendSize 56 = .ok (.iconst 1, 1) := by decide +kernel
theorem dX8_appendSize_57 : decode cX8_appendSize 57 = .ok (.isub, 1) := by decide +kernel
theorem dX8_appendSize_58 : decode cX8_appendSize 58 = .ok (.istore 4, 2) := by decide +kernel
theorem dX8_appendSize_60 : decode cX8_appendSize 60 = .ok (.iload_n 3, 1) := by decide +kernel
theorem dX8_appendSize_61 : decode cX8_appendSize 61 = .ok (.iload 4, 2) := by decide +kernel
theorem dX8_appendSize_63 : decode cX8_appendSize 63 = .ok (.if_icmp .ge 42, 3) := by decide +kernel
theorem dX8_appendSize_66 : decode cX8_appendSize 66 = .ok (.aload_n 0, 1) := by decide +kernel
theorem dX8_appendSize_67 : decode cX8_appendSize 67 = .ok (.getfield 9, 3) := by decide +kernel
theorem dX8_appendSize_70 : decode cX8_appendSize 70 = .ok (.iload_n 3, 1) := by decide +kernel
theorem dX8_appendSize_71 : decode cX8_appendSize 71 = .ok (.baload, 1) := by decide +kernel
theorem dX8_appendSize_72 : decode cX8_appendSize 72 = .ok (.istore 5, 2) := by decide +kernel
theorem dX8_appendSize_74 : decode cX8_appendSize 74 = .ok (.aload_n 0, 1) := by decide +kernel
theorem dX8_appendSize_75 : decode cX8_appendSize 75 = .ok (.getfield 9, 3) := by decide +kernel
theorem dX8_appendSize_78 : decode cX8_appendSize 78 = .ok (.iload_n 3, 1) := by decide +kernel
theorem dX8_appendSize_79 : decode cX8_appendSize 79 = .ok (.aload_n 0, 1) := by decide +kernel
theorem dX8_appendSize_80 : decode cX8_appendSize 80 = .ok (.getfield 9, 3) := by decide +kernel
theorem dX8_appendSize_83 : decode cX8_appendSize 83 = .ok (.iload 4, 2) := by decide +kernel
theorem dX8_appendSize_85 : decode cX8_appendSize 85 = .ok (.baload, 1) := by decide +kernel
theorem dX8_appendSize_86 : decode cX8_appendSize 86 = .ok (.bastore, 1) := by decide +kernel
theorem dX8_appendSize_87 : decode cX8_appendSize 87 = .ok (.aload_n 0, 1) := by decide +kernel
theorem dX8_appendSize_88 : decode cX8_appendSize 88 = .ok (.getfield 9, 3) := by decide +kernel
theorem dX8_appendSize_91 : decode cX8_appendSize 91 = .ok (.iload 4, 2) := by decide +kernel
theorem dX8_appendSize_93 : decode cX8_appendSize 93 = .ok (.iload 5, 2) := by decide +kernel
theorem dX8_appendSize_95 : decode cX8_appendSize 95 = .ok (.bastore, 1) := by decide +kernel
theorem dX8_appendSize_96 : decode cX8_appendSize 96 = .ok (.iinc 3 1, 3) := by decide +kernel
theorem dX8_appendSize_99 : decode cX8_appendSize 99 = .ok (.iinc 4 (-1), 3) := by decide +kernel
theorem dX8_appendSize_102 : decode cX8_appendSize 102 = .ok (.goto (-42), 3) := by decide +kernel
theorem dX8_appendSize_105 : decode cX8_appendSize 105 = .ok (.return_, 1) := by decide +kernel
theorem dX9_init_0 : decode cX9_init 0 = .ok (.aload_n 0, 1) := by decide +kernel
theorem dX9_init_1 : decode cX9_init 1 = .ok (.invokespecial 3, 3) := by decide +kernel
theorem dX9_init_4 : decode cX9_init 4 = .ok (.aload_n 0, 1) := by decide +kernel
theorem dX9_init_5 : decode cX9_init 5 = .ok (.bipush 12, 2) := by decide +kernel
theorem dX9_init_7 : decode cX9_init 7 = .ok (.newarray .int, 2) := by decide +kernel
theorem dX9_init_9 : decode cX9_init 9 = .ok (.putfield 9, 3) := by decide +kernel
theorem dX9_init_12 : decode cX9_init 12 = .ok (.return_, 1) := by decide +kernel
theorem dX9_become_0 : decode cX9_become 0 = .ok (.aload_n 0, 1) := by decide +kernel
theorem dX9_become_1 : decode cX9_become 1 = .ok (.getfield 9, 3) := by decide +kernel
theorem dX9_become_4 : decode cX9_become 4 = .ok (.iconst 0, 1) := by decide +kernel
theorem dX9_become_5 : decode cX9_become 5 = .ok (.invokestatic 15, 3) := by decide +kernel
theorem dX9_become_8 : decode cX9_become 8 = .ok (.aload_n 0, 1) := by decide +kernel
theorem dX9_become_9 : decode cX9_become 9 = .ok (.getfield 9, 3) := by decide +kernel
theorem dX9_become_12 : decode cX9_become 12 = .ok (.iconst 0, 1) := by decide +kernel
theorem dX9_become_13 : decode cX9_become 13 = .ok (.iload_n 1, 1) := by decide +kernel
theorem dX9_become_14 : decode cX9_become 14 = .ok (.iastore, 1) := by decide +kernel
theorem dX9_become_15 : decode cX9_become 15 = .ok (.aload_n 0, 1) := by decide +kernel
theorem dX9_become_16 : decode cX9_become 16 = .ok (.iconst 0, 1) := by decide +kernel
theorem dX9_become_17 : decode cX9_become 17 = .ok (.putfield 21, 3) := by decide +kernel
theorem dX9_become_20 : decode cX9_become 20 = .ok (.return_, 1) := by decide +kernel
theorem dX9_copy_0 : decode cX9_copy 0 = .ok (.aload_n 1, 1) := by decide +kernel
theorem dX9_copy_1 : decode cX9_copy 1 = .ok (.getfield 9, 3) := by decide +kernel
theorem dX9_copy_4 : decode cX9_copy 4 = .ok (.iconst 0, 1) := by decide +kernel
theorem dX9_copy_5 : decode cX9_copy 5 = .ok (.aload_n 0, 1) := by decide +kernel
theorem dX9_copy_6 : decode cX9_copy 6 = .ok (.getfield 9, 3) := by decide +kernel
theorem dX9_copy_9 : decode cX9_copy 9 = .ok (.iconst 0, 1) := by decide +kernel
theorem dX9_copy_10 : decode cX9_copy 10 = .ok (.bipush 12, 2) := by decide +kernel
theorem dX9_copy_12 : decode cX9_copy 12 = .ok (.invokestatic 25, 3) := by decide +kernel
theorem dX9_copy_15 : decode cX9_copy 15 = .ok (.aload_n 0, 1) := by decide +kernel
theorem dX9_copy_16 : decode cX9_copy 16 = .ok (.aload_n 1, 1) := by decide +kernel
theorem dX9_copy_17 : decode cX9_copy 17 = .ok (.getfield 21, 3) := by decide +kernel
theorem dX9_copy_20 : decode cX9_copy 20 = .ok (.putfield 21, 3) := by decide +kernel
theorem dX9_copy_23 : decode cX9_copy 23 = .ok (.return_, 1) := by decide +kernel
theorem dX9_hasSize_0 : decode cX9_hasSize 0 = .ok (.iconst 1, 1) := by decide +kernel
theorem dX9_hasSize_1 : decode cX9_hasSize 1 = .ok (.istore_n 2, 1) := by decide +kernel
theorem dX9_hasSize_2 : decode cX9_hasSize 2 = .ok (.iload_n 2, 1) := by decide +kernel
theorem dX9_hasSize_3 : decode cX9_hasSize 3 = .ok (.bipush 12, 2) := by decide +kernel
theorem dX9_hasSize_5 : decode cX9_hasSize 5 = .ok (.if_icmp .ge 20, 3) := by decide +kernel
theorem dX9_hasSize_8 : decode cX9_hasSize 8 = .ok (.aload_n 0, 1) := by decide +kernel
theorem dX9_hasSize_9 : decode cX9_hasSize 9 = .ok (.getfield 9, 3) := by decide +kernel
theorem dX9_hasSize_12 : decode cX9_hasSize 12 = .ok (.iload_n 2, 1) := by decide +kernel
theorem dX9_hasSize_13 : decode cX9_hasSize 13 = .ok (.iaload, 1) := by decide +kernel
theorem dX9_hasSize_14 : decode cX9_hasSize 14 = .ok (.ifCond .eq 5, 3) := by decide +kernel
theorem dX9_hasSize_17 : decode cX9_hasSize 17 = .ok (.iconst 0, 1) := by decide +kernel
theorem dX9_hasSize_18 : decode cX9_hasSize 18 = .ok (.ireturn, 1) := by decide +kernel
theorem dX9_hasSize_19 : decode cX9_hasSize 19 = .ok (.iinc 2 1, 3) := by decide +kernel
theorem dX9_hasSize_22 : decode cX9_hasSize 22 = .ok (.goto (-20), 3) := by decide +kernel
theorem dX9_hasSize_25 : decode cX9_hasSize 25 = .ok (.aload_n 0, 1) := by decide +kernel
theorem dX9_hasSize_26 : decode cX9_hasSize 26 = .ok (.getfield 9, 3) := by decide +kernel
theorem dX9_hasSize_29 : decode cX9_hasSize 29 = .ok (.iconst 0, 1) := by decide +kernel
theorem dX9_hasSize_30 : decode cX9_hasSize 30 = .ok (.iaload, 1) := by decide +kernel
theorem dX9_hasSize_31 : decode cX9_hasSize 31 = .ok (.iload_n 1, 1) := by decide +kernel
theorem dX9_hasSize_32 : decode cX9_hasSize 32 = .ok (.if_icmp .ne 7, 3) := by decide +kernel
theorem dX9_hasSize_35 : decode cX9_hasSize 35 = .ok (.iconst 1, 1) := by decide +kernel
theorem dX9_hasSize_36 : decode cX9_hasSize 36 = .ok (.goto 4, 3) := by decide +kernel
theorem dX9_hasSize_39 : decode cX9_hasSize 39 = .ok (.iconst 0, 1) := by decide +kernel
theorem dX9_hasSize_40 : decode cX9_hasSize 40 = .ok (.ireturn, 1) := by decide +kernel
theorem dX9_timesPlus_0 : decode cX9_timesPlus 0 = .ok (.iload_n 2, 1) := by decide +kernel
theorem dX9_timesPlus_1 : decode cX9_timesPlus 1 = .ok (.i2l, 1) := by decide +kernel
theorem dX9_timesPlus_2 : decode cX9_timesPlus 2 = .ok (.lstore_n 3, 1) := by decide +kernel
theorem dX9_timesPlus_3 : decode cX9_timesPlus 3 = .ok (.iconst 0, 1) := by decide +kernel
theorem dX9_timesPlus_4 : decode cX9_timesPlus 4 = .ok (.istore 5, 2) := by decide +kernel
theorem dX9_timesPlus_6 : decode cX9_timesPlus 6 = .ok (.iload 5, 2) := by decide +kernel
theorem dX9_timesPlus_8 : decode cX9_timesPlus 8 = .ok (.bipush 12, 2) := by decide +kernel
theorem dX9_timesPlus_10 : decode cX9_timesPlus 10 = .ok (.if_icmp .ge 41, 3) := by decide +kernel
theorem dX9_timesPlus_13 : decode cX9_timesPlus 13 = .ok (.lload_n 3, 1) := by decide +kernel
theorem dX9_timesPlus_14 : decode cX9_timesPlus 14 = .ok (.aload_n 0, 1) := by decide +kernel
theorem dX9_timesPlus_15 : decode cX9_timesPlus 15 = .ok (.getfield 9, 3) := by decide +kernel
theorem dX9_timesPlus_18 : decode cX9_timesPlus 18 = .ok (.iload 5, 2) := by decide +kernel
theorem dX9_timesPlus_20 : decode cX9_timesPlus 20 = .ok (.iaload, 1) := by decide +kernel
theorem dX9_timesPlus_21 : decode cX9_timesPlus 21 = .ok (.i2l, 1) := by decide +kernel
theorem dX9_timesPlus_22 : decode cX9_timesPlus 22 = .ok (.iload_n 1, 1) := by decide +kernel
theorem dX9_timesPlus_23 : decode cX9_timesPlus 23 = .ok (.i2l, 1) := by decide +kernel
theorem dX9_timesPlus_24 : decode cX9_timesPlus 24 = .ok (.lmul, 1) := by decide +kernel
theorem dX9_timesPlus_25 : decode cX9_timesPlus 25 = .ok (.ladd, 1) := by decide +kernel
theorem dX9_timesPlus_26 : decode cX9_timesPlus 26 = .ok (.lstore_n 3, 1) := by decide +kernel
theorem dX9_timesPlus_27 : decode cX9_timesPlus 27 = .ok (.aload_n 0, 1) := by decide +kernel
theorem dX9_timesPlus_28 : decode cX9_timesPlus 28 = .ok (.getfield 9, 3) := by decide +kernel
theorem dX9_timesPlus_31 : decode cX9_timesPlus 31 = .ok (.iload 5, 2) := by decide +kernel
theorem dX9_timesPlus_33 : decode cX9_timesPlus 33 = .ok (.lload_n 3, 1) := by decide +kernel
theorem dX9_timesPlus_34 : decode cX9_timesPlus 34 = .ok (.ldc2_w 31, 3) := by decide +kernel
theorem dX9_timesPlus_37 : decode cX9_timesPlus 37 = .ok (.land, 1) := by decide +kernel
theorem dX9_timesPlus_38 : decode cX9_timesPlus 38 = .ok (.l2i, 1) := by decide +kernel
theorem dX9_timesPlus_39 : decode cX9_timesPlus 39 = .ok (.iastore, 1) := by decide +kernel
theorem dX9_timesPlus_40 : decode cX9_timesPlus 40 = .ok (.lload_n 3, 1) := by decide +kernel
theorem dX9_timesPlus_41 : decode cX9_timesPlus 41 = .ok (.bipush 30, 2) := by decide +kernel
theorem dX9_timesPlus_43 : decode cX9_timesPlus 43 = .ok (.lshr, 1) := by decide +kernel
theorem dX9_timesPlus_44 : decode cX9_timesPlus 44 = .ok (.lstore_n 3, 1) := by decide +kernel
theorem dX9_timesPlus_45 : decode cX9_timesPlus 45 = .ok (.iinc 5 1, 3) := by decide +kernel
theorem dX9_timesPlus_48 : decode cX9_timesPlus 48 = .ok (.goto (-42), 3) := by decide +kernel
theorem dX9_timesPlus_51 : decode cX9_timesPlus 51 = .ok (.return_, 1) := by decide +kernel
theorem dX9_compareSize_0 : decode cX9_compareSize 0 = .ok (.bipush 11, 2) := by decide +kernel
theorem dX9_compareSize_2 : decode cX9_compareSize 2 = .ok (.istore_n 2, 1) := by decide +kernel
theorem dX9_compareSize_3 : decode cX9_compareSize 3 = .ok (.iload_n 2, 1) := by decide +kernel
theorem dX9_compareSize_4 : decode cX9_compareSize 4 = .ok (.ifCond .lt 45, 3) := by decide +kernel
theorem dX9_compareSize_7 : decode cX9_compareSize 7 = .ok (.aload_n 0, 1) := by decide +kernel
theorem dX9_compareSize_8 : decode cX9_compareSize 8 = .ok (.getfield 9, 3) := by decide +kernel
theorem dX9_compareSize_11 : decode cX9_compareSize 11 = .ok (.iload_n 2, 1) := by decide +kernel
theorem dX9_compareSize_12 : decode cX9_compareSize 12 = .ok (.iaload, 1) := by decide +kernel
theorem dX9_compareSize_13 : decode cX9_compareSize 13 = .ok (.aload_n 1, 1) := by decide +kernel
theorem dX9_compareSize_14 : decode cX9_compareSize 14 = .ok (.getfield 9, 3) := by decide +kernel
theorem dX9_compareSize_17 : decode cX9_compareSize 17 = .ok (.iload_n 2, 1) := by decide +kernel
theorem dX9_compareSize_18 : decode cX9_compareSize 18 = .ok (.iaload, 1) := by decide +kernel
theorem dX9_compareSize_19 : decode cX9_compareSize 19 = .ok (.if_icmp .eq 24, 3) := by decide +kernel
theorem dX9_compareSize_22 : decode cX9_compareSize 22 = .ok (.aload_n 0, 1) := by decide +kernel
theorem dX9_compareSize_23 : decode cX9_compareSize 23 = .ok (.getfield 9, 3) := by decide +kernel
theorem dX9_compareSize_26 : decode cX9_compareSize 26 = .ok (.iload_n 2, 1) := by decide +kernel
theorem dX9_compareSize_27 : decode cX9_compareSize 27 = .ok (.iaload, 1) := by decide +kernel
theorem dX9_compareSize_28 : decode cX9_compareSize 28 = .ok (.aload_n 1, 1) := by decide +kernel
theorem dX9_compareSize_29 : decode cX9_compareSize 29 = .ok (.getfield 9, 3) := by decide +kernel
theorem dX9_compareSize_32 : decode cX9_compareSize 32 = .ok (.iload_n 2, 1) := by decide +kernel
theorem dX9_compareSize_33 : decode cX9_compareSize 33 = .ok (.iaload, 1) := by decide +kernel
theorem dX9_compareSize_34 : decode cX9_compareSize 34 = .ok (.if_icmp .ge 7, 3) := by decide +kernel
theorem dX9_compareSize_37 : decode cX9_compareSize 37 = .ok (.iconst (-1), 1) := by decide +kernel
theorem dX9_compareSize_38 : decode cX9_compareSize 38 = .ok (.goto 4, 3) := by decide +kernel
theorem dX9_compareSize_41 : decode cX9_compareSize 41 = .ok (.iconst 1, 1) := by decide +kernel
theorem dX9_compareSize_42 : decode cX9_compareSize 42 = .ok (.ireturn, 1) := by decide +kernel
theorem dX9_compareSize_43 : decode cX9_compareSize 43 = .ok (.iinc 2 (-1), 3) := by decide +kernel
theorem dX9_compareSize_46 : decode cX9_compareSize 46 = .ok (.goto (-43), 3) := by decide +kernel
theorem dX9_compareSize_49 : decode cX9_compareSize 49 = .ok (.iconst 0, 1) := by decide +kernel
theorem dX9_compareSize_50 : decode cX9_compareSize 50 = .ok (.ireturn, 1) := by decide +kernel
theorem dX9_add_0 : decode cX9_add 0 = .ok (.aload_n 0, 1) := by decide +kernel
theorem dX9_add_1 : decode cX9_add 1 = .ok (.getfield 21, 3) := by decide +kernel
theorem dX9_add_4 : decode cX9_add 4 = .ok (.aload_n 1, 1) := by decide +kernel
theorem dX9_add_5 : decode cX9_add 5 = .ok (.getfield 21, 3) := by decide +kernel
theorem dX9_add_8 : decode cX9_add 8 = .ok (.if_icmp .ne 13, 3) := by decide +kernel
theorem dX9_add_11 : decode cX9_add 11 = .ok (.aload_n 0, 1) := by decide +kernel
theorem dX9_add_12 : decode cX9_add 12 = .ok (.aload_n 0, 1) := by decide +kernel
theorem dX9_add_13 : decode cX9_add 13 = .ok (.aload_n 1, 1) := by decide +kernel
theorem dX9_add_14 : decode cX9_add 14 = .ok (.iconst 1, 1) := by decide +kernel
theorem dX9_add_15 : decode cX9_add 15 = .ok (.invokevirtual 33, 3) := by decide +kernel
theorem dX9_add_18 : decode cX9_add 18 = .ok (.goto 60, 3) := by decide +kernel
theorem dX9_add_21 : decode cX9_add 21 = .ok (.aload_n 0, 1) := by decide +kernel
theorem dX9_add_22 : decode cX9_add 22 = .ok (.aload_n 1, 1) := by decide +kernel
theorem dX9_add_23 : decode cX9_add 23 = .ok (.invokevirtual 37, 3) := by decide +kernel
theorem dX9_add_26 : decode cX9_add 26 = .ok (.ifCond .lt 37, 3) := by decide +kernel
theorem dX9_add_29 : decode cX9_add 29 = .ok (.aload_n 0, 1) := by decide +kernel
theorem dX9_add_30 : decode cX9_add 30 = .ok (.aload_n 0, 1) := by decide +kernel
theorem dX9_add_31 : decode cX9_add 31 = .ok (.aload_n 1, 1) := by decide +kernel
theorem dX9_add_32 : decode cX9_add 32 = .ok (.iconst (-1), 1) := by decide +kernel
theorem dX9_add_33 : decode cX9_add 33 = .ok (.invokevirtual 33, 3) := by decide +kernel
theorem dX9_add_36 : decode cX9_add 36 = .ok (.aload_n 0, 1) := by decide +kernel
theorem dX9_add_37 : decode cX9_add 37 = .ok (.aload_n 0, 1) := by decide +kernel
theorem dX9_add_38 : decode cX9_add 38 = .ok (.getfield 21, 3) := by decide +kernel
theorem dX9_add_41 : decode cX9_add 41 = .ok (.ifCond .eq 15, 3) := by decide +kernel
theorem dX9_add_44 : decode cX9_add 44 = .ok (.aload_n 0, 1) := by decide +kernel
theorem dX9_add_45 : decode cX9_add 45 = .ok (.iconst 0, 1) := by decide +kernel
theorem dX9_add_46 : decode cX9_add 46 = .ok (.invokevirtual 41, 3) := by decide +kernel
theorem dX9_add_49 : decode cX9_add 49 = .ok (.ifCond .ne 7, 3) := by decide +kernel
theorem dX9_add_52 : decode cX9_add 52 = .ok (.iconst 1, 1) := by decide +kernel
theorem dX9_add_53 : decode cX9_add 53 = .ok (.goto 4, 3) := by decide +kernel
theorem dX9_add_56 : decode cX9_add 56 = .ok (.iconst 0, 1) := by decide +kernel
theorem dX9_add_57 : decode cX9_add 57 = .ok (.putfield 21, 3) := by decide +kernel
theorem dX9_add_60 : decode cX9_add 60 = .ok (.goto 18, 3) := by decide +kernel
theorem dX9_add_63 : decode cX9_add 63 = .ok (.aload_n 0, 1) := by decide +kernel
theorem dX9_add_64 : decode cX9_add 64 = .ok (.aload_n 1, 1) := by decide +kernel
theorem dX9_add_65 : decode cX9_add 65 = .ok (.aload_n 0, 1) := by decide +kernel
theorem dX9_add_66 : decode cX9_add 66 = .ok (.iconst (-1), 1) := by decide +kernel
theorem dX9_add_67 : decode cX9_add 67 = .ok (.invokevirtual 33, 3) := by decide +kernel
theorem dX9_add_70 : decode cX9_add 70 = .ok (.aload_n 0, 1) := by decide +kernel
theorem dX9_add_71 : decode cX9_add 71 = .ok (.aload_n 1, 1) := by decide +kernel
theorem dX9_add_72 : decode cX9_add 72 = .ok (.getfield 21, 3) := by decide +kernel
theorem dX9_add_75 : decode cX9_add 75 = .ok (.putfield 21, 3) := by decide +kernel
theorem dX9_add_78 : decode cX9_add 78 = .ok (.return_, 1) := by decide +kernel
theorem dX9_subtractSize_0 : decode cX9_subtractSize 0 = .ok (.aload_n 0, 1) := by decide +kernel
theorem dX9_subtractSize_1 : decode cX9_subtractSize 1 = .ok (.aload_n 0, 1) := by decide +kernel
theorem dX9_subtractSize_2 : decode cX9_subtractSize 2 = .ok (.aload_n 1, 1) := by decide +kernel
theorem dX9_subtractSize_3 : decode cX9_subtractSize 3 = .ok (.iconst (-1), 1) := by decide +kernel
theorem dX9_subtractSize_4 : decode cX9_subtractSize 4 = .ok (.invokevirtual 33, 3) := by decide +kernel
theorem dX9_subtractSize_7 : decode cX9_subtractSize 7 = .ok (.return_, 1) := by decide +kernel
theorem dX9_combine_0 : decode cX9_combine 0 = .ok (.iconst 0, 1) := by decide +kernel
theorem dX9_combine_1 : decode cX9_combine 1 = .ok (.istore 4, 2) := by decide +kernel
theorem dX9_combine_3 : decode cX9_combine 3 = .ok (.iconst 0, 1) := by decide +kernel
theorem dX9_combine_4 : decode cX9_combine 4 = .ok (.istore 5, 2) := by decide +kernel
theorem dX9_combine_6 : decode cX9_combine 6 = .ok (.iload 5, 2) := by decide +kernel
theorem dX9_combine_8 : decode cX9_combine 8 = .ok (.bipush 12, 2) := by decide +kernel
theorem dX9_combine_10 : decode cX9_combine 10 = .ok (.if_icmp .ge 50, 3) := by decide +kernel
theorem dX9_combine_13 : decode cX9_combine 13 = .ok (.iload 4, 2) := by decide +kernel
theorem dX9_combine_15 : decode cX9_combine 15 = .ok (.aload_n 1, 1) := by decide +kernel
theorem dX9_combine_16 : decode cX9_combine 16 = .ok (.getfield 9, 3) := by decide +kernel
theorem dX9_combine_19 : decode cX9_combine 19 = .ok (.iload 5, 2) := by decide +kernel
theorem dX9_combine_21 : decode cX9_combine 21 = .ok (.iaload, 1) := by decide +kernel
theorem dX9_combine_22 : decode cX9_combine 22 = .ok (.iload_n 3, 1) := by decide +kernel
theorem dX9_combine_23 : decode cX9_combine 23 = .ok (.aload_n 2, 1) := by decide +kernel
theorem dX9_combine_24 : decode cX9_combine 24 = .ok (.getfield 9, 3) := by decide +kernel
theorem dX9_combine_27 : decode cX9_combine 27 = .ok (.iload 5, 2) := by decide +kernel
theorem dX9_combine_29 : decode cX9_combine 29 = .ok (.iaload, 1) := by decide +kernel
theorem dX9_combine_30 : decode cX9_combine 30 = .ok (.imul, 1) := by decide +kernel
theorem dX9_combine_31 : decode cX9_combine 31 = .ok (.iadd, 1) := by decide +kernel
theorem dX9_combine_32 : decode cX9_combine 32 = .ok (.iadd, 1) := by decide +kernel
theorem dX9_combine_33 : decode cX9_combine 33 = .ok (.istore 4, 2) := by decide +kernel
theorem dX9_combine_35 : decode cX9_combine 35 = .ok (.aload_n 0, 1) := by decide +kernel
theorem dX9_combine_36 : decode cX9_combine 36 = .ok (.getfield 9, 3) := by decide +kernel
theorem dX9_combine_39 : decode cX9_combine 39 = .ok (.iload 5, 2) := by decide +kernel
theorem dX9_combine_41 : decode cX9_combine 41 = .ok (.iload 4, 2) := by decide +kernel
theorem dX9_combine_43 : decode cX9_combine 43 = .ok (.ldc 45, 2) := by decide +kernel
theorem dX9_combine_45 : decode cX9_combine 45 = .ok (.iand, 1) := by decide +kernel
theorem dX9_combine_46 : decode cX9_combine 46 = .ok (.iastore, 1) := by decide +kernel
theorem dX9_combine_47 : decode cX9_combine 47 = .ok (.iload 4, 2) := by decide +kernel
theorem dX9_combine_49 : decode cX9_combine 49 = .ok (.bipush 30, 2) := by decide +kernel
theorem dX9_combine_51 : decode cX9_combine 51 = .ok (.ishr, 1) := by decide +kernel
theorem dX9_combine_52 : decode cX9_combine 52 = .ok (.istore 4, 2) := by decide +kernel
theorem dX9_combine_54 : decode cX9_combine 54 = .ok (.iinc 5 1, 3) := by decide +kernel
theorem dX9_combine_57 : decode cX9_combine 57 = .ok (.goto (-51), 3) := by decide +kernel
theorem dX9_combine_60 : decode cX9_combine 60 = .ok (.return_, 1) := by decide +kernel
theorem dX9_twos_0 : decode cX9_twos 0 = .ok (.iconst 0, 1) := by decide +kernel
theorem dX9_twos_1 : decode cX9_twos 1 = .ok (.istore_n 1, 1) := by decide +kernel
theorem dX9_twos_2 : decode cX9_twos 2 = .ok (.iload_n 1, 1) := by decide +kernel
theorem dX9_twos_3 : decode cX9_twos 3 = .ok (.bipush 12, 2) := by decide +kernel
theorem dX9_twos_5 : decode cX9_twos 5 = .ok (.if_icmp .ge 43, 3) := by decide +kernel
theorem dX9_twos_8 : decode cX9_twos 8 = .ok (.aload_n 0, 1) := by decide +kernel
theorem dX9_twos_9 : decode cX9_twos 9 = .ok (.getfield 9, 3) := by decide +kernel
theorem dX9_twos_12 : decode cX9_twos 12 = .ok (.iload_n 1, 1) := by decide +kernel
theorem dX9_twos_13 : decode cX9_twos 13 = .ok (.iaload, 1) := by decide +kernel
theorem dX9_twos_14 : decode cX9_twos 14 = .ok (.ifCond .eq 28, 3) := by decide +kernel
theorem dX9_twos_17 : decode cX9_twos 17 = .ok (.iload_n 1, 1) := by decide +kernel
theorem dX9_twos_18 : decode cX9_twos 18 = .ok (.bipush 30, 2) := by decide +kernel
theorem dX9_twos_20 : decode cX9_twos 20 = .ok (.imul, 1) := by decide +kernel
theorem dX9_twos_21 : decode cX9_twos 21 = .ok (.aload_n 0, 1) := by decide +kernel
theorem dX9_twos_22 : decode cX9_twos 22 = .ok (.getfield 9, 3) := by decide +kernel
theorem dX9_twos_25 : decode cX9_twos 25 = .ok (.iload_n 1, 1) := by decide +kernel
theorem dX9_twos_26 : decode cX9_twos 26 = .ok (.iaload, 1) := by decide +kernel
theorem dX9_twos_27 : decode cX9_twos 27 = .ok (.aload_n 0, 1) := by decide +kernel
theorem dX9_twos_28 : decode cX9_twos 28 = .ok (.getfield 9, 3) := by decide +kernel
theorem dX9_twos_31 : decode cX9_twos 31 = .ok (.iload_n 1, 1) := by decide +kernel
theorem dX9_twos_32 : decode cX9_twos 32 = .ok (.iaload, 1) := by decide +kernel
theorem dX9_twos_33 : decode cX9_twos 33 = .ok (.ineg, 1) := by decide +kernel
theorem dX9_twos_34 : decode cX9_twos 34 = .ok (.iand, 1) := by decide +kernel
theorem dX9_twos_35 : decode cX9_twos 35 = .ok (.iconst 1, 1) := by decide +kernel
theorem dX9_twos_36 : decode cX9_twos 36 = .ok (.isub, 1) := by decide +kernel
theorem dX9_twos_37 : decode cX9_twos 37 = .ok (.invokestatic 46, 3) := by decide +kernel
theorem dX9_twos_40 : decode cX9_twos 40 = .ok (.iadd, 1) := by decide +kernel
theorem dX9_twos_41 : decode cX9_twos 41 = .ok (.ireturn, 1) := by decide +kernel
theorem dX9_twos_42 : decode cX9_twos 42 = .ok (.iinc 1 1, 3) := by decide +kernel
theorem dX9_twos_45 : decode cX9_twos 45 = .ok (.goto (-43), 3) := by decide +kernel
theorem dX9_twos_48 : decode cX9_twos 48 = .ok (.iconst 0, 1) := by decide +kernel
theorem dX9_twos_49 : decode cX9_twos 49 = .ok (.ireturn, 1) := by decide +kernel
theorem dX9_dropBits_0 : decode cX9_dropBits 0 = .ok (.iload_n 1, 1) := by decide +kernel
theorem dX9_dropBits_1 : decode cX9_dropBits 1 = .ok (.bipush 30, 2) := by decide +kernel
theorem dX9_dropBits_3 : decode cX9_dropBits 3 = .ok (.idiv, 1) := by decide +kernel
theorem dX9_dropBits_4 : decode cX9_dropBits 4 = .ok (.istore_n 2, 1) := by decide +kernel
theorem dX9_dropBits_5 : decode cX9_dropBits 5 = .ok (.iload_n 1, 1) := by decide +kernel
theorem dX9_dropBits_6 : decode cX9_dropBits 6 = .ok (.bipush 30, 2) := by decide +kernel
theorem dX9_dropBits_8 : decode cX9_dropBits 8 = .ok (.irem, 1) := by decide +kernel
theorem dX9_dropBits_9 : decode cX9_dropBits 9 = .ok (.istore_n 3, 1) := by decide +kernel
theorem dX9_dropBits_10 : decode cX9_dropBits 10 = .ok (.iconst 0, 1) := by decide +kernel
theorem dX9_dropBits_11 : decode cX9_dropBits 11 = .ok (.istore 4, 2) := by decide +kernel
theorem dX9_dropBits_13 : decode cX9_dropBits 13 = .ok (.iload 4, 2) := by decide +kernel
theorem dX9_dropBits_15 : decode cX9_dropBits 15 = .ok (.bipush 12, 2) := by decide +kernel
theorem dX9_dropBits_17 : decode cX9_dropBits 17 = .ok (.if_icmp .ge 53, 3) := by decide +kernel
theorem dX9_dropBits_20 : decode cX9_dropBits 20 = .ok (.aload_n 0, 1) := by decide +kernel
theorem dX9_dropBits_21 : decode cX9_dropBits 21 = .ok (.iload 4, 2) := by decide +kernel
theorem dX9_dropBits_23 : decode cX9_dropBits 23 = .ok (.iload_n 2, 1) := by decide +kernel
theorem dX9_dropBits_24 : decode cX9_dropBits 24 = .ok (.iadd, 1) := by decide +kernel
theorem dX9_dropBits_25 : decode cX9_dropBits 25 = .ok (.invokevirtual 52, 3) := by decide +kernel
theorem dX9_dropBits_28 : decode cX9_dropBits 28 = .ok (.iload_n 3, 1) := by decide +kernel
theorem dX9_dropBits_29 : decode cX9_dropBits 29 = .ok (.ishr, 1) := by decide +kernel
theorem dX9_dropBits_30 : decode cX9_dropBits 30 = .ok (.istore 5, 2) := by decide +kernel
theorem dX9_dropBits_32 : decode cX9_dropBits 32 = .ok (.aload_n 0, 1) := by decide +kernel
theorem dX9_dropBits_33 : decode cX9_dropBits 33 = .ok (.iload 4, 2) := by decide +kernel
theorem dX9_dropBits_35 : decode cX9_dropBits 35 = .ok (.iload_n 2, 1) := by decide +kernel
theorem dX9_dropBits_36 : decode cX9_dropBits 36 = .ok (.iadd, 1) := by decide +kernel
theorem dX9_dropBits_37 : decode cX9_dropBits 37 = .ok (.iconst 1, 1) := by decide +kernel
theorem dX9_dropBits_38 : decode cX9_dropBits 38 = .ok (.iadd, 1) := by decide +kernel
theorem dX9_dropBits_39 : decode cX9_dropBits 39 = .ok (.invokevirtual 52, 3) := by decide +kernel
theorem dX9_dropBits_42 : decode cX9_dropBits 42 = .ok (.bipush 30, 2) := by decide +kernel
theorem dX9_dropBits_44 : decode cX9_dropBits 44 = .ok (.iload_n 3, 1) := by decide +kernel
theorem dX9_dropBits_45 : decode cX9_dropBits 45 = .ok (.isub, 1) := by decide +kernel
theorem dX9_dropBits_46 : decode cX9_dropBits 46 = .ok (.ishl, 1) := by decide +kernel
theorem dX9_dropBits_47 : decode cX9_dropBits 47 = .ok (.istore 6, 2) := by decide +kernel
theorem dX9_dropBits_49 : decode cX9_dropBits 49 = .ok (.aload_n 0, 1) := by decide +kernel
theorem dX9_dropBits_50 : decode cX9_dropBits 50 = .ok (.getfield 9, 3) := by decide +kernel
theorem dX9_dropBits_53 : decode cX9_dropBits 53 = .ok (.iload 4, 2) := by decide +kernel
theorem dX9_dropBits_55 : decode cX9_dropBits 55 = .ok (.iload 5, 2) := by decide +kernel
theorem dX9_dropBits_57 : decode cX9_dropBits 57 = .ok (.iload 6, 2) := by decide +kernel
theorem dX9_dropBits_59 : decode cX9_dropBits 59 = .ok (.ior, 1) := by decide +kernel
theorem dX9_dropBits_60 : decode cX9_dropBits 60 = .ok (.ldc 45, 2) := by decide +kernel
theorem dX9_dropBits_62 : decode cX9_dropBits 62 = .ok (.iand, 1) := by decide +kernel
theorem dX9_dropBits_63 : decode cX9_dropBits 63 = .ok (.iastore, 1) := by decide +kernel
theorem dX9_dropBits_64 : decode cX9_dropBits 64 = .ok (.iinc 4 1, 3) := by decide +kernel
theorem dX9_dropBits_67 : decode cX9_dropBits 67 = .ok (.goto (-54), 3) := by decide +kernel
theorem dX9_dropBits_70 : decode cX9_dropBits 70 = .ok (.return_, 1) := by decide +kernel
theorem dX9_limbAt_0 : decode cX9_limbAt 0 = .ok (.iload_n 1, 1) := by decide +kernel
theorem dX9_limbAt_1 : decode cX9_limbAt 1 = .ok (.ifCond .lt 18, 3) := by decide +kernel
theorem dX9_limbAt_4 : decode cX9_limbAt 4 = .ok (.iload_n 1, 1) := by decide +kernel
theorem dX9_limbAt_5 : decode cX9_limbAt 5 = .ok (.bipush 12, 2) := by decide +kernel
theorem dX9_limbAt_7 : decode cX9_limbAt 7 = .ok (.if_icmp .ge 12, 3) := by decide +kernel
theorem dX9_limbAt_10 : decode cX9_limbAt 10 = .ok (.aload_n 0, 1) := by decide +kernel
theorem dX9_limbAt_11 : decode cX9_limbAt 11 = .ok (.getfield 9, 3) := by decide +kernel
theorem dX9_limbAt_14 : decode cX9_limbAt 14 = .ok (.iload_n 1, 1) := by decide +kernel
theorem dX9_limbAt_15 : decode cX9_limbAt 15 = .ok (.iaload, 1) := by decide +kernel
theorem dX9_limbAt_16 : decode cX9_limbAt 16 = .ok (.goto 4, 3) := by decide +kernel
theorem dX9_limbAt_19 : decode cX9_limbAt 19 = .ok (.iconst 0, 1) := by decide +kernel
theorem dX9_limbAt_20 : decode cX9_limbAt 20 = .ok (.ireturn, 1) := by decide +kernel
theorem dX9_dropDigit_0 : decode cX9_dropDigit 0 = .ok (.lconst 0, 1) := by decide +kernel
theorem dX9_dropDigit_1 : decode cX9_dropDigit 1 = .ok (.lstore_n 1, 1) := by decide +kernel
theorem dX9_dropDigit_2 : decode cX9_dropDigit 2 = .ok (.bipush 11, 2) := by decide +kernel
theorem dX9_dropDigit_4 : decode cX9_dropDigit 4 = .ok (.istore_n 3, 1) := by decide +kernel
theorem dX9_dropDigit_5 : decode cX9_dropDigit 5 = .ok (.iload_n 3, 1) := by decide +kernel
theorem dX9_dropDigit_6 : decode cX9_dropDigit 6 = .ok (.ifCond .lt 40, 3) := by decide +kernel
theorem dX9_dropDigit_9 : decode cX9_dropDigit 9 = .ok (.lload_n 1, 1) := by decide +kernel
theorem dX9_dropDigit_10 : decode cX9_dropDigit 10 = .ok (.bipush 30, 2) := by decide +kernel
theorem dX9_dropDigit_12 : decode cX9_dropDigit 12 = .ok (.lshl, 1) := by decide +kernel
theorem dX9_dropDigit_13 : decode cX9_dropDigit 13 = .ok (.aload_n 0, 1) := by decide +kernel
theorem dX9_dropDigit_14 : decode cX9_dropDigit 14 = .ok (.getfield 9, 3) := by decide +kernel
theorem dX9_dropDigit_17 : decode cX9_dropDigit 17 = .ok (.iload_n 3, 1) := by decide +kernel
theorem dX9_dropDigit_18 : decode cX9_dropDigit 18 = .ok (.iaload, 1) := by decide +kernel
theorem dX9_dropDigit_19 : decode cX9_dropDigit 19 = .ok (.i2l, 1) := by decide +kernel
theorem dX9_dropDigit_20 : decode cX9_dropDigit 20 = .ok (.lor, 1) := by decide +kernel
theorem dX9_dropDigit_21 : decode cX9_dropDigit 21 = .ok (.lstore_n 1, 1) := by decide +kernel
theorem dX9_dropDigit_22 : decode cX9_dropDigit 22 = .ok (.aload_n 0, 1) := by decide +kernel
theorem dX9_dropDigit_23 : decode cX9_dropDigit 23 = .ok (.getfield 9, 3) := by decide +kernel
theorem dX9_dropDigit_26 : decode cX9_dropDigit 26 = .ok (.iload_n 3, 1) := by decide +kernel
theorem dX9_dropDigit_27 : decode cX9_dropDigit 27 = .ok (.lload_n 1, 1) := by decide +kernel
theorem dX9_dropDigit_28 : decode cX9_dropDigit 28 = .ok (.ldc2_w 55, 3) := by decide +kernel
theorem dX9_dropDigit_31 : decode cX9_dropDigit 31 = .ok (.ldiv, 1) := by decide +kernel
theorem dX9_dropDigit_32 : decode cX9_dropDigit 32 = .ok (.l2i, 1) := by decide +kernel
theorem dX9_dropDigit_33 : decode cX9_dropDigit 33 = .ok (.iastore, 1) := by decide +kernel
theorem dX9_dropDigit_34 : decode cX9_dropDigit 34 = .ok (.lload_n 1, 1) := by decide +kernel
theorem dX9_dropDigit_35 : decode cX9_dropDigit 35 = .ok (.ldc2_w 55, 3) := by decide +kernel
theorem dX9_dropDigit_38 : decode cX9_dropDigit 38 = .ok (.lrem, 1) := by decide +kernel
theorem dX9_dropDigit_39 : decode cX9_dropDigit 39 = .ok (.lstore_n 1, 1) := by decide +kernel
theorem dX9_dropDigit_40 : decode cX9_dropDigit 40 = .ok (.iinc 3 (-1), 3) := by decide +kernel
theorem dX9_dropDigit_43 : decode cX9_dropDigit 43 = .ok (.goto (-38), 3) := by decide +kernel
theorem dX9_dropDigit_46 : decode cX9_dropDigit 46 = .ok (.lload_n 1, 1) := by decide +kernel
theorem dX9_dropDigit_47 : decode cX9_dropDigit 47 = .ok (.l2i, 1) := by decide +kernel
theorem dX9_dropDigit_48 : decode cX9_dropDigit 48 = .ok (.ireturn, 1) := by decide +kernel
theorem dX9_divideByOdd_0 : decode cX9_divideByOdd 0 = .ok (.aload_n 1, 1) := by decide +kernel
theorem dX9_divideByOdd_1 : decode cX9_divideByOdd 1 = .ok (.invokevirtual 57, 3) := by decide +kernel
theorem dX9_divideByOdd_4 : decode cX9_divideByOdd 4 = .ok (.istore_n 2, 1) := by decide +kernel
theorem dX9_divideByOdd_5 : decode cX9_divideByOdd 5 = .ok (.iconst 0, 1) := by decide +kernel
theorem dX9_divideByOdd_6 : decode cX9_divideByOdd 6 = .ok (.istore_n 3, 1) := by decide +kernel
theorem dX9_divideByOdd_7 : decode cX9_divideByOdd 7 = .ok (.iload_n 3, 1) := by decide +kernel
theorem dX9_divideByOdd_8 : decode cX9_divideByOdd 8 = .ok (.bipush 12, 2) := by decide +kernel
theorem dX9_divideByOdd_10 : decode cX9_divideByOdd 10 = .ok (.if_icmp .ge 98, 3) := by decide +kernel
theorem dX9_divideByOdd_13 : decode cX9_divideByOdd 13 = .ok (.aload_n 0, 1) := by decide +kernel
theorem dX9_divideByOdd_14 : decode cX9_divideByOdd 14 = .ok (.getfield 9, 3) := by decide +kernel
theorem dX9_divideByOdd_17 : decode cX9_divideByOdd 17 = .ok (.iload_n 3, 1) := by decide +kernel
theorem dX9_divideByOdd_18 : decode cX9_divideByOdd 18 = .ok (.iaload, 1) := by decide +kernel
theorem dX9_divideByOdd_19 : decode cX9_divideByOdd 19 = .ok (.iload_n 2, 1) := by decide +kernel
theorem dX9_divideByOdd_20 : decode cX9_divideByOdd 20 = .ok (.imul, 1) := by decide +kernel
theorem dX9_divideByOdd_21 : decode cX9_divideByOdd 21 = .ok (.ldc 45, 2) := by decide +kernel
theorem dX9_divideByOdd_23 : decode cX9_divideByOdd 23 = .ok (.iand, 1) := by decide +kernel
theorem dX9_divideByOdd_24 : decode cX9_divideByOdd 24 = .ok (.istore 4, 2) := by decide +kernel
theorem dX9_divideByOdd_26 : decode cX9_divideByOdd 26 = .ok (.lconst 0, 1) := by decide +kernel
theorem dX9_divideByOdd_27 : decode cX9_divideByOdd 27 = .ok (.lstore 5, 2) := by decide +kernel
theorem dX9_divideByOdd_29 : decode cX9_divideByOdd 29 = .ok (.iload_n 3, 1) := by decide +kernel
theorem dX9_divideByOdd_30 : decode cX9_divideByOdd 30 = .ok (.istore 7, 2) := by decide +kernel
theorem dX9_divideByOdd_32 : decode cX9_divideByOdd 32 = .ok (.iload 7, 2) := by decide +kernel
theorem dX9_divideByOdd_34 : decode cX9_divideByOdd 34 = .ok (.bipush 12, 2) := by decide +kernel
theorem dX9_divideByOdd_36 : decode cX9_divideByOdd 36 = .ok (.if_icmp .ge 58, 3) := by decide +kernel
theorem dX9_divideByOdd_39 : decode cX9_divideByOdd 39 = .ok (.lload 5, 2) := by decide +kernel
theorem dX9_divideByOdd_41 : decode cX9_divideByOdd 41 = .ok (.aload_n 0, 1) := by decide +kernel
theorem dX9_divideByOdd_42 : decode cX9_divideByOdd 42 = .ok (.getfield 9, 3) := by decide +kernel
theorem dX9_divideByOdd_45 : decode cX9_divideByOdd 45 = .ok (.iload 7, 2) := by decide +kernel
theorem dX9_divideByOdd_47 : decode cX9_divideByOdd 47 = .ok (.iaload, 1) := by decide +kernel
theorem dX9_divideByOdd_48 : decode cX9_divideByOdd 48 = .ok (.i2l, 1) := by decide +kernel
theorem dX9_divideByOdd_49 : decode cX9_divideByOdd 49 = .ok (.iload 4, 2) := by decide +kernel
theorem dX9_divideByOdd_51 : decode cX9_divideByOdd 51 = .ok (.i2l, 1) := by decide +kernel
theorem dX9_divideByOdd_52 : decode cX9_divideByOdd 52 = .ok (.aload_n 1, 1) := by decide +kernel
theorem dX9_divideByOdd_53 : decode cX9_divideByOdd 53 = .ok (.getfield 9, 3) := by decide +kernel
theorem dX9_divideByOdd_56 : decode cX9_divideByOdd 56 = .ok (.iload 7, 2) := by decide +kernel
theorem dX9_divideByOdd_58 : decode cX9_divideByOdd 58 = .ok (.iload_n 3, 1) := by decide +kernel
theorem dX9_divideByOdd_59 : decode cX9_divideByOdd 59 = .ok (.isub, 1) := by decide +kernel
theorem dX9_divideByOdd_60 : decode cX9_divideByOdd 60 = .ok (.iaload, 1) := by decide +kernel
theorem dX9_divideByOdd_61 : decode cX9_divideByOdd 61 = .ok (.i2l, 1) := by decide +kernel
theorem dX9_divideByOdd_62 : decode cX9_divideByOdd 62 = .ok (.lmul, 1) := by decide +kernel
theorem dX9_divideByOdd_63 : decode cX9_divideByOdd 63 = .ok (.lsub, 1) := by decide +kernel
theorem dX9_divideByOdd_64 : decode cX9_divideByOdd 64 = .ok (.ladd, 1) := by decide +kernel
theorem dX9_divideByOdd_65 : decode cX9_divideByOdd 65 = .ok (.lstore 5, 2) := by decide +kernel
theorem dX9_divideByOdd_67 : decode cX9_divideByOdd 67 = .ok (.aload_n 0, 1) := by decide +kernel
theorem dX9_divideByOdd_68 : decode cX9_divideByOdd 68 = .ok (.getfield 9, 3) := by decide +kernel
theorem dX9_divideByOdd_71 : decode cX9_divideByOdd 71 = .ok (.iload 7, 2) := by decide +kernel
theorem dX9_divideByOdd_73 : decode cX9_divideByOdd 73 = .ok (.lload 5, 2) := by decide +kernel
theorem dX9_divideByOdd_75 : decode cX9_divideByOdd 75 = .ok (.ldc2_w 31, 3) := by decide +kernel
theorem dX9_divideByOdd_78 : decode cX9_divideByOdd 78 = .ok (.land, 1) := by decide +kernel
theorem dX9_divideByOdd_79 : decode cX9_divideByOdd 79 = .ok (.l2i, 1) := by decide +kernel
theorem dX9_divideByOdd_80 : decode cX9_divideByOdd 80 = .ok (.iastore, 1) := by decide +kernel
theorem dX9_divideByOdd_81 : decode cX9_divideByOdd 81 = .ok (.lload 5, 2) := by decide +kernel
theorem dX9_divideByOdd_83 : decode cX9_divideByOdd 83 = .ok (.bipush 30, 2) := by decide +kernel
theorem dX9_divideByOdd_85 : decode cX9_divideByOdd 85 = .ok (.lshr, 1) := by decide +kernel
theorem dX9_divideByOdd_86 : decode cX9_divideByOdd 86 = .ok (.lstore 5, 2) := by decide +kernel
theorem dX9_divideByOdd_88 : decode cX9_divideByOdd 88 = .ok (.iinc 7 1, 3) := by decide +kernel
theorem dX9_divideByOdd_91 : decode cX9_divideByOdd 91 = .ok (.goto (-59), 3) := by decide +kernel
theorem dX9_divideByOdd_94 : decode cX9_divideByOdd 94 = .ok (.aload_n 0, 1) := by decide +kernel
theorem dX9_divideByOdd_95 : decode cX9_divideByOdd 95 = .ok (.getfield 9, 3) := by decide +kernel
theorem dX9_divideByOdd_98 : decode cX9_divideByOdd 98 = .ok (.iload_n 3, 1) := by decide +kernel
theorem dX9_divideByOdd_99 : decode cX9_divideByOdd 99 = .ok (.iload 4, 2) := by decide +kernel
theorem dX9_divideByOdd_101 : decode cX9_divideByOdd 101 = .ok (.iastore, 1) := by decide +kernel
theorem dX9_divideByOdd_102 : decode cX9_divideByOdd 102 = .ok (.iinc 3 1, 3) := by decide +kernel
theorem dX9_divideByOdd_105 : decode cX9_divideByOdd 105 = .ok (.goto (-98), 3) := by decide +kernel
theorem dX9_divideByOdd_108 : decode cX9_divideByOdd 108 = .ok (.return_, 1) := by decide +kernel
theorem dX9_inverseOfLowest_0 : decode cX9_inverseOfLowest 0 = .ok (.aload_n 0, 1) := by decide +kernel
theorem dX9_inverseOfLowest_1 : decode cX9_inverseOfLowest 1 = .ok (.getfield 9, 3) := by decide +kernel
theorem dX9_inverseOfLowest_4 : decode cX9_inverseOfLowest 4 = .ok (.iconst 0, 1) := by decide +kernel
theorem dX9_inverseOfLowest_5 : decode cX9_inverseOfLowest 5 = .ok (.iaload, 1) := by decide +kernel
theorem dX9_inverseOfLowest_6 : decode cX9_inverseOfLowest 6 = .ok (.istore_n 1, 1) := by decide +kernel
theorem dX9_inverseOfLowest_7 : decode cX9_inverseOfLowest 7 = .ok (.iconst 0, 1) := by decide +kernel
theorem dX9_inverseOfLowest_8 : decode cX9_inverseOfLowest 8 = .ok (.istore_n 2, 1) := by decide +kernel
theorem dX9_inverseOfLowest_9 : decode cX9_inverseOfLowest 9 = .ok (.iload_n 2, 1) := by decide +kernel
theorem dX9_inverseOfLowest_10 : decode cX9_inverseOfLowest 10 = .ok (.iconst 4, 1) := by decide +kernel
theorem dX9_inverseOfLowest_11 : decode cX9_inverseOfLowest 11 = .ok (.if_icmp .ge 22, 3) := by decide +kernel
theorem dX9_inverseOfLowest_14 : decode cX9_inverseOfLowest 14 = .ok (.iload_n 1, 1) := by decide +kernel
theorem dX9_inverseOfLowest_15 : decode cX9_inverseOfLowest 15 = .ok (.iconst 2, 1) := by decide +kernel
theorem dX9_inverseOfLowest_16 : decode cX9_inverseOfLowest 16 = .ok (.aload_n 0, 1) := by decide +kernel
theorem dX9_inverseOfLowest_17 : decode cX9_inverseOfLowest 17 = .ok (.getfield 9, 3) := by decide +kernel
theorem dX9_inverseOfLowest_20 : decode cX9_inverseOfLowest 20 = .ok (.iconst 0, 1) := by decide +kernel
theorem dX9_inverseOfLowest_21 : decode cX9_inverseOfLowest 21 = .ok (.iaload, 1) := by decide +kernel
theorem dX9_inverseOfLowest_22 : decode cX9_inverseOfLowest 22 = .ok (.iload_n 1, 1) := by decide +kernel
theorem dX9_inverseOfLowest_23 : decode cX9_inverseOfLowest 23 = .ok (.imul, 1) := by decide +kernel
theorem dX9_inverseOfLowest_24 : decode cX9_inverseOfLowest 24 = .ok (.isub, 1) := by decide +kernel
theorem dX9_inverseOfLowest_25 : decode cX9_inverseOfLowest 25 = .ok (.imul, 1) := by decide +kernel
theorem dX9_inverseOfLowest_26 : decode cX9_inverseOfLowest 26 = .ok (.istore_n 1, 1) := by decide +kernel
theorem dX9_inverseOfLowest_27 : decode cX9_inverseOfLowest 27 = .ok (.iinc 2 1, 3) := by decide +kernel
theorem dX9_inverseOfLowest_30 : decode cX9_inverseOfLowest 30 = .ok (.goto (-21), 3) := by decide +kernel
theorem dX9_inverseOfLowest_33 : decode cX9_inverseOfLowest 33 = .ok (.iload_n 1, 1) := by decide +kernel
theorem dX9_inverseOfLowest_34 : decode cX9_inverseOfLowest 34 = .ok (.ireturn, 1) := by decide +kernel
theorem dX10_init_0 : decode cX10_init 0 = .ok (.aload_n 0, 1) := by decide +kernel
theorem dX10_init_1 : decode cX10_init 1 = .ok (.invokespecial 3, 3) := by decide +kernel
theorem dX10_init_4 : decode cX10_init 4 = .ok (.aload_n 0, 1) := by decide +kernel
theorem dX10_init_5 : decode cX10_init 5 = .ok (.iconst 5, 1) := by decide +kernel
theorem dX10_init_6 : decode cX10_init 6 = .ok (.newarray .int, 2) := by decide +kernel
theorem dX10_init_8 : decode cX10_init 8 = .ok (.putfield 9, 3) := by decide +kernel
theorem dX10_init_11 : decode cX10_init 11 = .ok (.aload_n 0, 1) := by decide +kernel
theorem dX10_init_12 : decode cX10_init 12 = .ok (.new 13, 3) := by decide +kernel
theorem dX10_init_15 : decode cX10_init 15 = .ok (.dup, 1) := by decide +kernel
theorem dX10_init_16 : decode cX10_init 16 = .ok (.invokespecial 15, 3) := by decide +kernel
theorem dX10_init_19 : decode cX10_init 19 = .ok (.putfield 16, 3) := by decide +kernel
theorem dX10_init_22 : decode cX10_init 22 = .ok (.aload_n 0, 1) := by decide +kernel
theorem dX10_init_23 : decode cX10_init 23 = .ok (.new 20, 3) := by decide +kernel
theorem dX10_init_26 : decode cX10_init 26 = .ok (.dup, 1) := by decide +kernel
theorem dX10_init_27 : decode cX10_init 27 = .ok (.invokespecial 22, 3) := by decide +kernel
theorem dX10_init_30 : decode cX10_init 30 = .ok (.putfield 23, 3) := by decide +kernel
theorem dX10_init_33 : decode cX10_init 33 = .ok (.aload_n 0, 1) := by decide +kernel
theorem dX10_init_34 : decode cX10_init 34 = .ok (.new 27, 3) := by decide +kernel
theorem dX10_init_37 : decode cX10_init 37 = .ok (.dup, 1) := by decide +kernel
theorem dX10_init_38 : decode cX10_init 38 = .ok (.invokespecial 29, 3) := by decide +kernel
theorem dX10_init_41 : decode cX10_init 41 = .ok (.putfield 30, 3) := by decide +kernel
theorem dX10_init_44 : decode cX10_init 44 = .ok (.aload_n 0, 1) := by decide +kernel
theorem dX10_init_45 : decode cX10_init 45 = .ok (.new 34, 3) := by decide +kernel
theorem dX10_init_48 : decode cX10_init 48 = .ok (.dup, 1) := by decide +kernel
theorem dX10_init_49 : decode cX10_init 49 = .ok (.invokespecial 36, 3) := by decide +kernel
theorem dX10_init_52 : decode cX10_init 52 = .ok (.putfield 37, 3) := by decide +kernel
theorem dX10_init_55 : decode cX10_init 55 = .ok (.getstatic 41, 3) := by decide +kernel
theorem dX10_init_58 : decode cX10_init 58 = .ok (.iconst 0, 1) := by decide +kernel
theorem dX10_init_59 : decode cX10_init 59 = .ok (.aload_n 0, 1) := by decide +kernel
theorem dX10_init_60 : decode cX10_init 60 = .ok (.getfield 9, 3) := by decide +kernel
theorem dX10_init_63 : decode cX10_init 63 = .ok (.iconst 0, 1) := by decide +kernel
theorem dX10_init_64 : decode cX10_init 64 = .ok (.iconst 5, 1) := by decide +kernel
theorem dX10_init_65 : decode cX10_init 65 = .ok (.invokestatic 44, 3) := by decide +kernel
theorem dX10_init_68 : decode cX10_init 68 = .ok (.aload_n 0, 1) := by decide +kernel
theorem dX10_init_69 : decode cX10_init 69 = .ok (.new 50, 3) := by decide +kernel
theorem dX10_init_72 : decode cX10_init 72 = .ok (.dup, 1) := by decide +kernel
theorem dX10_init_73 : decode cX10_init 73 = .ok (.aload_n 0, 1) := by decide +kernel
theorem dX10_init_74 : decode cX10_init 74 = .ok (.getfield 23, 3) := by decide +kernel
theorem dX10_init_77 : decode cX10_init 77 = .ok (.aload_n 0, 1) := by decide +kernel
theorem dX10_init_78 : decode cX10_init 78 = .ok (.getfield 16, 3) := by decide +kernel
theorem dX10_init_81 : decode cX10_init 81 = .ok (.invokespecial 52, 3) := by decide +kernel
theorem dX10_init_84 : decode cX10_init 84 = .ok (.putfield 55, 3) := by decide +kernel
theorem dX10_init_87 : decode cX10_init 87 = .ok (.aload_n 0, 1) := by decide +kernel
theorem dX10_init_88 : decode cX10_init 88 = .ok (.new 59, 3) := by decide +kernel
theorem dX10_init_91 : decode cX10_init 91 = .ok (.dup, 1) := by decide +kernel
theorem dX10_init_92 : decode cX10_init 92 = .ok (.aload_n 0, 1) := by decide +kernel
theorem dX10_init_93 : decode cX10_init 93 = .ok (.getfield 23, 3) := by decide +kernel
theorem dX10_init_96 : decode cX10_init 96 = .ok (.aload_n 0, 1) := by decide +kernel
theorem dX10_init_97 : decode cX10_init 97 = .ok (.getfield 55, 3) := by decide +kernel
theorem dX10_init_100 : decode cX10_init 100 = .ok (.aload_n 0, 1) := by decide +kernel
theorem dX10_init_101 : decode cX10_init 101 = .ok (.getfield 9, 3) := by decide +kernel
theorem dX10_init_104 : decode cX10_init 104 = .ok (.invokespecial 61, 3) := by decide +kernel
theorem dX10_init_107 : decode cX10_init 107 = .ok (.putfield 64, 3) := by decide +kernel
theorem dX10_init_110 : decode cX10_init 110 = .ok (.aload_n 0, 1) := by decide +kernel
theorem dX10_init_111 : decode cX10_init 111 = .ok (.new 68, 3) := by decide +kernel
theorem dX10_init_114 : decode cX10_init 114 = .ok (.dup, 1) := by decide +kernel
theorem dX10_init_115 : decode cX10_init 115 = .ok (.aload_n 0, 1) := by decide +kernel
theorem dX10_init_116 : decode cX10_init 116 = .ok (.getfield 23, 3) := by decide +kernel
theorem dX10_init_119 : decode cX10_init 119 = .ok (.aload_n 0, 1) := by decide +kernel
theorem dX10_init_120 : decode cX10_init 120 = .ok (.getfield 16, 3) := by decide +kernel
theorem dX10_init_123 : decode cX10_init 123 = .ok (.aload_n 0, 1) := by decide +kernel
theorem dX10_init_124 : decode cX10_init 124 = .ok (.getfield 55, 3) := by decide +kernel
theorem dX10_init_127 : decode cX10_init 127 = .ok (.aload_n 0, 1) := by decide +kernel
theorem dX10_init_128 : decode cX10_init 128 = .ok (.getfield 64, 3) := by decide +kernel
theorem dX10_init_131 : decode cX10_init 131 = .ok (.invokespecial 70, 3) := by decide +kernel
theorem dX10_init_134 : decode cX10_init 134 = .ok (.putfield 73, 3) := by decide +kernel
theorem dX10_init_137 : decode cX10_init 137 = .ok (.aload_n 0, 1) := by decide +kernel
theorem dX10_init_138 : decode cX10_init 138 = .ok (.new 77, 3) := by decide +kernel
theorem dX10_init_141 : decode cX10_init 141 = .ok (.dup, 1) := by decide +kernel
theorem dX10_init_142 : decode cX10_init 142 = .ok (.aload_n 0, 1) := by decide +kernel
theorem dX10_init_143 : decode cX10_init 143 = .ok (.getfield 23, 3) := by decide +kernel
theorem dX10_init_146 : decode cX10_init 146 = .ok (.aload_n 0, 1) := by decide +kernel
theorem dX10_init_147 : decode cX10_init 147 = .ok (.getfield 55, 3) := by decide +kernel
theorem dX10_init_150 : decode cX10_init 150 = .ok (.aload_n 0, 1) := by decide +kernel
theorem dX10_init_151 : decode cX10_init 151 = .ok (.getfield 64, 3) := by decide +kernel
theorem dX10_init_154 : decode cX10_init 154 = .ok (.aload_n 0, 1) := by decide +kernel
theorem dX10_init_155 : decode cX10_init 155 = .ok (.getfield 9, 3) := by decide +kernel
theorem dX10_init_158 : decode cX10_init 158 = .ok (.invokespecial 79, 3) := by decide +kernel
theorem dX10_init_161 : decode cX10_init 161 = .ok (.putfield 82, 3) := by decide +kernel
theorem dX10_init_164 : decode cX10_init 164 = .ok (.aload_n 0, 1) := by decide +kernel
theorem dX10_init_165 : decode cX10_init 165 = .ok (.new 86, 3) := by decide +kernel
theorem dX10_init_168 : decode cX10_init 168 = .ok (.dup, 1) := by decide +kernel
theorem dX10_init_169 : decode cX10_init 169 = .ok (.aload_n 0, 1) := by decide +kernel
theorem dX10_init_170 : decode cX10_init 170 = .ok (.getfield 82, 3) := by decide +kernel
theorem dX10_init_173 : decode cX10_init 173 = .ok (.invokespecial 88, 3) := by decide +kernel
theorem dX10_init_176 : decode cX10_init 176 = .ok (.putfield 91, 3) := by decide +kernel
theorem dX10_init_179 : decode cX10_init 179 = .ok (.return_, 1) := by decide +kernel
theorem dX10_note_0 : decode cX10_note 0 = .ok (.iload_n 1, 1) := by decide +kernel
theorem dX10_note_1 : decode cX10_note 1 = .ok (.ifCond .lt 25, 3) := by decide +kernel
theorem dX10_note_4 : decode cX10_note 4 = .ok (.iload_n 1, 1) := by decide +kernel
theorem dX10_note_5 : decode cX10_note 5 = .ok (.bipush 127, 2) := by decide +kernel
theorem dX10_note_7 : decode cX10_note 7 = .ok (.if_icmp .gt 19, 3) := by decide +kernel
theorem dX10_note_10 : decode cX10_note 10 = .ok (.iload_n 2, 1) := by decide +kernel
theorem dX10_note_11 : decode cX10_note 11 = .ok (.ifCond .lt 15, 3) := by decide +kernel
theorem dX10_note_14 : decode cX10_note 14 = .ok (.iload_n 3, 1) := by decide +kernel
theorem dX10_note_15 : decode cX10_note 15 = .ok (.iload_n 2, 1) := by decide +kernel
theorem dX10_note_16 : decode cX10_note 16 = .ok (.if_icmp .le 10, 3) := by decide +kernel
theorem dX10_note_19 : decode cX10_note 19 = .ok (.iload_n 3, 1) := by decide +kernel
theorem dX10_note_20 : decode cX10_note 20 = .ok (.sipush 9999, 3) := by decide +kernel
theorem dX10_note_23 : decode cX10_note 23 = .ok (.if_icmp .le 5, 3) := by decide +kernel
theorem dX10_note_26 : decode cX10_note 26 = .ok (.iconst (-1), 1) := by decide +kernel
theorem dX10_note_27 : decode cX10_note 27 = .ok (.ireturn, 1) := by decide +kernel
theorem dX10_note_28 : decode cX10_note 28 = .ok (.aload_n 0, 1) := by decide +kernel
theorem dX10_note_29 : decode cX10_note 29 = .ok (.getfield 23, 3) := by decide +kernel
theorem dX10_note_32 : decode cX10_note 32 = .ok (.iload_n 2, 1) := by decide +kernel
theorem dX10_note_33 : decode cX10_note 33 = .ok (.iload_n 3, 1) := by decide +kernel
theorem dX10_note_34 : decode cX10_note 34 = .ok (.invokevirtual 95, 3) := by decide +kernel
theorem dX10_note_37 : decode cX10_note 37 = .ok (.ifCond .eq 6, 3) := by decide +kernel
theorem dX10_note_40 : decode cX10_note 40 = .ok (.bipush (-3), 2) := by decide +kernel
theorem dX10_note_42 : decode cX10_note 42 = .ok (.ireturn, 1) := by decide +kernel
theorem dX10_note_43 : decode cX10_note 43 = .ok (.aload_n 0, 1) := by decide +kernel
theorem dX10_note_44 : decode cX10_note 44 = .ok (.invokevirtual 99, 3) := by decide +kernel
theorem dX10_note_47 : decode cX10_note 47 = .ok (.aload_n 0, 1) := by decide +kernel
theorem dX10_note_48 : decode cX10_note 48 = .ok (.getfield 23, 3) := by decide +kernel
theorem dX10_note_51 : decode cX10_note 51 = .ok (.iload_n 1, 1) := by decide +kernel
theorem dX10_note_52 : decode cX10_note 52 = .ok (.iload_n 2, 1) := by decide +kernel
theorem dX10_note_53 : decode cX10_note 53 = .ok (.iload_n 3, 1) := by decide +kernel
theorem dX10_note_54 : decode cX10_note 54 = .ok (.invokevirtual 102, 3) := by decide +kernel
theorem dX10_note_57 : decode cX10_note 57 = .ok (.ireturn, 1) := by decide +kernel
theorem dX10_clear_0 : decode cX10_clear 0 = .ok (.aload_n 0, 1) := by decide +kernel
theorem dX10_clear_1 : decode cX10_clear 1 = .ok (.invokevirtual 99, 3) := by decide +kernel
theorem dX10_clear_4 : decode cX10_clear 4 = .ok (.aload_n 0, 1) := by decide +kernel
theorem dX10_clear_5 : decode cX10_clear 5 = .ok (.getfield 23, 3) := by decide +kernel
theorem dX10_clear_8 : decode cX10_clear 8 = .ok (.invokevirtual 106, 3) := by decide +kernel
theorem dX10_clear_11 : decode cX10_clear 11 = .ok (.ireturn, 1) := by decide +kernel
theorem dX10_bind_0 : decode cX10_bind 0 = .ok (.aload_n 0, 1) := by decide +kernel
theorem dX10_bind_1 : decode cX10_bind 1 = .ok (.getfield 23, 3) := by decide +kernel
theorem dX10_bind_4 : decode cX10_bind 4 = .ok (.iload_n 1, 1) := by decide +kernel
theorem dX10_bind_5 : decode cX10_bind 5 = .ok (.invokevirtual 110, 3) := by decide +kernel
theorem dX10_bind_8 : decode cX10_bind 8 = .ok (.ifCond .ne 5, 3) := by decide +kernel
theorem dX10_bind_11 : decode cX10_bind 11 = .ok (.iconst (-1), 1) := by decide +kernel
theorem dX10_bind_12 : decode cX10_bind 12 = .ok (.ireturn, 1) := by decide +kernel
theorem dX10_bind_13 : decode cX10_bind 13 = .ok (.aload_n 0, 1) := by decide +kernel
theorem dX10_bind_14 : decode cX10_bind 14 = .ok (.invokevirtual 99, 3) := by decide +kernel
theorem dX10_bind_17 : decode cX10_bind 17 = .ok (.aload_n 0, 1) := by decide +kernel
theorem dX10_bind_18 : decode cX10_bind 18 = .ok (.getfield 23, 3) := by decide +kernel
theorem dX10_bind_21 : decode cX10_bind 21 = .ok (.iload_n 1, 1) := by decide +kernel
theorem dX10_bind_22 : decode cX10_bind 22 = .ok (.iload_n 2, 1) := by decide +kernel
theorem dX10_bind_23 : decode cX10_bind 23 = .ok (.invokevirtual 114, 3) := by decide +kernel
theorem dX10_bind_26 : decode cX10_bind 26 = .ok (.ifCond .eq 7, 3) := by decide +kernel
theorem dX10_bind_29 : decode cX10_bind 29 = .ok (.iconst 1, 1) := by decide +kernel
theorem dX10_bind_30 : decode cX10_bind 30 = .ok (.goto 4, 3) := by decide +kernel
theorem dX10_bind_33 : decode cX10_bind 33 = .ok (.iconst 0, 1) := by decide +kernel
theorem dX10_bind_34 : decode cX10_bind 34 = .ok (.ireturn, 1) := by decide +kernel
theorem dX10_ratio_0 : decode cX10_ratio 0 = .ok (.iload_n 1, 1) := by decide +kernel
theorem dX10_ratio_1 : decode cX10_ratio 1 = .ok (.ifCond .lt 30, 3) := by decide +kernel
theorem dX10_ratio_4 : decode cX10_ratio 4 = .ok (.iload_n 1, 1) := by decide +kernel
theorem dX10_ratio_5 : decode cX10_ratio 5 = .ok (.bipush 12, 2) := by decide +kernel
theorem dX10_ratio_7 : decode cX10_ratio 7 = .ok (.if_icmp .ge 24, 3) := by decide +kernel
theorem dX10_ratio_10 : decode cX10_ratio 10 = .ok (.iload_n 2, 1) := by decide +kernel
theorem dX10_ratio_11 : decode cX10_ratio 11 = .ok (.iload_n 3, 1) := by decide +kernel
theorem dX10_ratio_12 : decode cX10_ratio 12 = .ok (.invokestatic 118, 3) := by decide +kernel
theorem dX10_ratio_15 : decode cX10_ratio 15 = .ok (.ifCond .eq 16, 3) := by decide +kernel
theorem dX10_ratio_18 : decode cX10_ratio 18 = .ok (.aload_n 0, 1) := by decide +kernel
theorem dX10_ratio_19 : decode cX10_ratio 19 = .ok (.getfield 16, 3) := by decide +kernel
theorem dX10_ratio_22 : decode cX10_ratio 22 = .ok (.iload_n 1, 1) := by decide +kernel
theorem dX10_ratio_23 : decode cX10_ratio 23 = .ok (.iload_n 2, 1) := by decide +kernel
theorem dX10_ratio_24 : decode cX10_ratio 24 = .ok (.iload_n 3, 1) := by decide +kernel
theorem dX10_ratio_25 : decode cX10_ratio 25 = .ok (.invokevirtual 121, 3) := by decide +kernel
theorem dX10_ratio_28 : decode cX10_ratio 28 = .ok (.ifCond .eq 5, 3) := by decide +kernel
theorem dX10_ratio_31 : decode cX10_ratio 31 = .ok (.iconst (-1), 1) := by decide +kernel
theorem dX10_ratio_32 : decode cX10_ratio 32 = .ok (.ireturn, 1) := by decide +kernel
theorem dX10_ratio_33 : decode cX10_ratio 33 = .ok (.aload_n 0, 1) := by decide +kernel
theorem dX10_ratio_34 : decode cX10_ratio 34 = .ok (.getfield 16, 3) := by decide +kernel
theorem dX10_ratio_37 : decode cX10_ratio 37 = .ok (.getfield 125, 3) := by decide +kernel
theorem dX10_ratio_40 : decode cX10_ratio 40 = .ok (.iload_n 1, 1) := by decide +kernel
theorem dX10_ratio_41 : decode cX10_ratio 41 = .ok (.iaload, 1) := by decide +kernel
theorem dX10_ratio_42 : decode cX10_ratio 42 = .ok (.iconst 3, 1) := by decide +kernel
theorem dX10_ratio_43 : decode cX10_ratio 43 = .ok (.if_icmp .lt 6, 3) := by decide +kernel
theorem dX10_ratio_46 : decode cX10_ratio 46 = .ok (.bipush (-3), 2) := by decide +kernel
theorem dX10_ratio_48 : decode cX10_ratio 48 = .ok (.ireturn, 1) := by decide +kernel
theorem dX10_ratio_49 : decode cX10_ratio 49 = .ok (.aload_n 0, 1) := by decide +kernel
theorem dX10_ratio_50 : decode cX10_ratio 50 = .ok (.invokevirtual 99, 3) := by decide +kernel
theorem dX10_ratio_53 : decode cX10_ratio 53 = .ok (.aload_n 0, 1) := by decide +kernel
theorem dX10_ratio_54 : decode cX10_ratio 54 = .ok (.getfield 16, 3) := by decide +kernel
theorem dX10_ratio_57 : decode cX10_ratio 57 = .ok (.iload_n 1, 1) := by decide +kernel
theorem dX10_ratio_58 : decode cX10_ratio 58 = .ok (.iload_n 2, 1) := by decide +kernel
theorem dX10_ratio_59 : decode cX10_ratio 59 = .ok (.iload_n 3, 1) := by decide +kernel
theorem dX10_ratio_60 : decode cX10_ratio 60 = .ok (.invokevirtual 128, 3) := by decide +kernel
theorem dX10_ratio_63 : decode cX10_ratio 63 = .ok (.ireturn, 1) := by decide +kernel
theorem dX10_empty_0 : decode cX10_empty 0 = .ok (.iload_n 1, 1) := by decide +kernel
theorem dX10_empty_1 : decode cX10_empty 1 = .ok (.ifCond .lt 9, 3) := by decide +kernel
theorem dX10_empty_4 : decode cX10_empty 4 = .ok (.iload_n 1, 1) := by decide +kernel
theorem dX10_empty_5 : decode cX10_empty 5 = .ok (.bipush 12, 2) := by decide +kernel
theorem dX10_empty_7 : decode cX10_empty 7 = .ok (.if_icmp .lt 5, 3) := by decide +kernel
theorem dX10_empty_10 : decode cX10_empty 10 = .ok (.iconst (-1), 1) := by decide +kernel
theorem dX10_empty_11 : decode cX10_empty 11 = .ok (.ireturn, 1) := by decide +kernel
theorem dX10_empty_12 : decode cX10_empty 12 = .ok (.aload_n 0, 1) := by decide +kernel
theorem dX10_empty_13 : decode cX10_empty 13 = .ok (.invokevirtual 99, 3) := by decide +kernel
theorem dX10_empty_16 : decode cX10_empty 16 = .ok (.aload_n 0, 1) := by decide +kernel
theorem dX10_empty_17 : decode cX10_empty 17 = .ok (.getfield 16, 3) := by decide +kernel
theorem dX10_empty_20 : decode cX10_empty 20 = .ok (.iload_n 1, 1) := by decide +kernel
theorem dX10_empty_21 : decode cX10_empty 21 = .ok (.invokevirtual 129, 3) := by decide +kernel
theorem dX10_empty_24 : decode cX10_empty 24 = .ok (.ireturn, 1) := by decide +kernel
theorem dX10_weight_0 : decode cX10_weight 0 = .ok (.iload_n 1, 1) := by decide +kernel
theorem dX10_weight_1 : decode cX10_weight 1 = .ok (.ifCond .lt 21, 3) := by decide +kernel
theorem dX10_weight_4 : decode cX10_weight 4 = .ok (.iload_n 1, 1) := by decide +kernel
theorem dX10_weight_5 : decode cX10_weight 5 = .ok (.iconst 5, 1) := by decide +kernel
theorem dX10_weight_6 : decode cX10_weight 6 = .ok (.if_icmp .ge 16, 3) := by decide +kernel
theorem dX10_weight_9 : decode cX10_weight 9 = .ok (.iload_n 2, 1) := by decide +kernel
theorem dX10_weight_10 : decode cX10_weight 10 = .ok (.ifCond .lt 12, 3) := by decide +kernel
theorem dX10_weight_13 : decode cX10_weight 13 = .ok (.iload_n 2, 1) := by decide +kernel
theorem dX10_weight_14 : decode cX10_weight 14 = .ok (.getstatic 132, 3) := by decide +kernel
theorem dX10_weight_17 : decode cX10_weight 17 = .ok (.iload_n 1, 1) := by decide +kernel
theorem dX10_weight_18 : decode cX10_weight 18 = .ok (.iaload, 1) := by decide +kernel
theorem dX10_weight_19 : decode cX10_weight 19 = .ok (.if_icmp .le 5, 3) := by decide +kernel
theorem dX10_weight_22 : decode cX10_weight 22 = .ok (.iconst (-1), 1) := by decide +kernel
theorem dX10_weight_23 : decode cX10_weight 23 = .ok (.ireturn, 1) := by decide +kernel
theorem dX10_weight_24 : decode cX10_weight 24 = .ok (.aload_n 0, 1) := by decide +kernel
theorem dX10_weight_25 : decode cX10_weight 25 = .ok (.invokevirtual 99, 3) := by decide +kernel
theorem dX10_weight_28 : decode cX10_weight 28 = .ok (.aload_n 0, 1) := by decide +kernel
theorem dX10_weight_29 : decode cX10_weight 29 = .ok (.getfield 9, 3) := by decide +kernel
theorem dX10_weight_32 : decode cX10_weight 32 = .ok (.iload_n 1, 1) := by decide +kernel
theorem dX10_weight_33 : decode cX10_weight 33 = .ok (.iaload, 1) := by decide +kernel
theorem dX10_weight_34 : decode cX10_weight 34 = .ok (.istore_n 3, 1) := by decide +kernel
theorem dX10_weight_35 : decode cX10_weight 35 = .ok (.aload_n 0, 1) := by decide +kernel
theorem dX10_weight_36 : decode cX10_weight 36 = .ok (.getfield 9, 3) := by decide +kernel
theorem dX10_weight_39 : decode cX10_weight 39 = .ok (.iload_n 1, 1) := by decide +kernel
theorem dX10_weight_40 : decode cX10_weight 40 = .ok (.iload_n 2, 1) := by decide +kernel
theorem dX10_weight_41 : decode cX10_weight 41 = .ok (.iastore, 1) := by decide +kernel
theorem dX10_weight_42 : decode cX10_weight 42 = .ok (.iload_n 3, 1) := by decide +kernel
theorem dX10_weight_43 : decode cX10_weight 43 = .ok (.ireturn, 1) := by decide +kernel
theorem dX10_sets_0 : decode cX10_sets 0 = .ok (.aload_n 0, 1) := by decide +kernel
theorem dX10_sets_1 : decode cX10_sets 1 = .ok (.getfield 23, 3) := by decide +kernel
theorem dX10_sets_4 : decode cX10_sets 4 = .ok (.getfield 135, 3) := by decide +kernel
theorem dX10_sets_7 : decode cX10_sets 7 = .ok (.ireturn, 1) := by decide +kernel
theorem dX10_set_0 : decode cX10_set 0 = .ok (.aload_n 0, 1) := by decide +kernel
theorem dX10_set_1 : decode cX10_set 1 = .ok (.getfield 23, 3) := by decide +kernel
theorem dX10_set_4 : decode cX10_set 4 = .ok (.iload_n 1, 1) := by decide +kernel
theorem dX10_set_5 : decode cX10_set 5 = .ok (.invokevirtual 139, 3) := by decide +kernel
theorem dX10_set_8 : decode cX10_set 8 = .ok (.ifCond .ne 5, 3) := by decide +kernel
theorem dX10_set_11 : decode cX10_set 11 = .ok (.iconst (-1), 1) := by decide +kernel
theorem dX10_set_12 : decode cX10_set 12 = .ok (.ireturn, 1) := by decide +kernel
theorem dX10_set_13 : decode cX10_set 13 = .ok (.iload_n 2, 1) := by decide +kernel
theorem dX10_set_14 : decode cX10_set 14 = .ok (.tableswitch 83 0 4 #[34, 44, 54, 64, 74], 34) := by decide +kernel
theorem dX10_set_48 : decode cX10_set 48 = .ok (.aload_n 0, 1) := by decide +kernel
theorem dX10_set_49 : decode cX10_set 49 = .ok (.getfield 23, 3) := by decide +kernel
theorem dX10_set_52 : decode cX10_set 52 = .ok (.getfield 142, 3) := by decide +kernel
theorem dX10_set_55 : decode cX10_set 55 = .ok (.iload_n 1, 1) := by decide +kernel
theorem dX10_set_56 : decode cX10_set 56 = .ok (.iaload, 1) := by decide +kernel
theorem dX10_set_57 : decode cX10_set 57 = .ok (.ireturn, 1) := by decide +kernel
theorem dX10_set_58 : decode cX10_set 58 = .ok (.aload_n 0, 1) := by decide +kernel
theorem dX10_set_59 : decode cX10_set 59 = .ok (.getfield 23, 3) := by decide +kernel
theorem dX10_set_62 : decode cX10_set 62 = .ok (.getfield 145, 3) := by decide +kernel
theorem dX10_set_65 : decode cX10_set 65 = .ok (.iload_n 1, 1) := by decide +kernel
theorem dX10_set_66 : decode cX10_set 66 = .ok (.iaload, 1) := by decide +kernel
theorem dX10_set_67 : decode cX10_set 67 = .ok (.ireturn, 1) := by decide +kernel
theorem dX10_set_68 : decode cX10_set 68 = .ok (.aload_n 0, 1) := by decide +kernel
theorem dX10_set_69 : decode cX10_set 69 = .ok (.getfield 23, 3) := by decide +kernel
theorem dX10_set_72 : decode cX10_set 72 = .ok (.getfield 148, 3) := by decide +kernel
theorem dX10_set_75 : decode cX10_set 75 = .ok (.iload_n 1, 1) := by decide +kernel
theorem dX10_set_76 : decode cX10_set 76 = .ok (.iaload, 1) := by decide +kernel
theorem dX10_set_77 : decode cX10_set 77 = .ok (.ireturn, 1) := by decide +kernel
theorem dX10_set_78 : decode cX10_set 78 = .ok (.aload_n 0, 1) := by decide +kernel
theorem dX10_set_79 : decode cX10_set 79 = .ok (.getfield 23, 3) := by decide +kernel
theorem dX10_set_82 : decode cX10_set 82 = .ok (.getfield 151, 3) := by decide +kernel
theorem dX10_set_85 : decode cX10_set 85 = .ok (.iload_n 1, 1) := by decide +kernel
theorem dX10_set_86 : decode cX10_set 86 = .ok (.iaload, 1) := by decide +kernel
theorem dX10_set_87 : decode cX10_set 87 = .ok (.ireturn, 1) := by decide +kernel
theorem dX10_set_88 : decode cX10_set 88 = .ok (.aload_n 0, 1) := by decide +kernel
theorem dX10_set_89 : decode cX10_set 89 = .ok (.getfield 55, 3) := by decide +kernel
theorem dX10_set_92 : decode cX10_set 92 = .ok (.iload_n 1, 1) := by decide +kernel
theorem dX10_set_93 : decode cX10_set 93 = .ok (.invokevirtual 154, 3) := by decide +kernel
theorem dX10_set_96 : decode cX10_set 96 = .ok (.ireturn, 1) := by decide +kernel
theorem dX10_set_97 : decode cX10_set 97 = .ok (.iconst (-1), 1) := by decide +kernel
theorem dX10_set_98 : decode cX10_set 98 = .ok (.ireturn, 1) := by decide +kernel
theorem dX10_sounds_0 : decode cX10_sounds 0 = .ok (.aload_n 0, 1) := by decide +kernel
theorem dX10_sounds_1 : decode cX10_sounds 1 = .ok (.getfield 23, 3) := by decide +kernel
theorem dX10_sounds_4 : decode cX10_sounds 4 = .ok (.iload_n 1, 1) := by decide +kernel
theorem dX10_sounds_5 : decode cX10_sounds 5 = .ok (.invokevirtual 139, 3) := by decide +kernel
theorem dX10_sounds_8 : decode cX10_sounds 8 = .ok (.ifCond .eq 14, 3) := by decide +kernel
theorem dX10_sounds_11 : decode cX10_sounds 11 = .ok (.aload_n 0, 1) := by decide +kernel
theorem dX10_sounds_12 : decode cX10_sounds 12 = .ok (.getfield 23, 3) := by decide +kernel
theorem dX10_sounds_15 : decode cX10_sounds 15 = .ok (.iload_n 2, 1) := by decide +kernel
theorem dX10_sounds_16 : decode cX10_sounds 16 = .ok (.invokevirtual 110, 3) := by decide +kernel
theorem dX10_sounds_19 : decode cX10_sounds 19 = .ok (.ifCond .ne 5, 3) := by decide +kernel
theorem dX10_sounds_22 : decode cX10_sounds 22 = .ok (.iconst (-1), 1) := by decide +kernel
theorem dX10_sounds_23 : decode cX10_sounds 23 = .ok (.ireturn, 1) := by decide +kernel
theorem dX10_sounds_24 : decode cX10_sounds 24 = .ok (.aload_n 0, 1) := by decide +kernel
theorem dX10_sounds_25 : decode cX10_sounds 25 = .ok (.getfield 23, 3) := by decide +kernel
theorem dX10_sounds_28 : decode cX10_sounds 28 = .ok (.iload_n 1, 1) := by decide +kernel
theorem dX10_sounds_29 : decode cX10_sounds 29 = .ok (.iload_n 2, 1) := by decide +kernel
theorem dX10_sounds_30 : decode cX10_sounds 30 = .ok (.invokevirtual 157, 3) := by decide +kernel
theorem dX10_sounds_33 : decode cX10_sounds 33 = .ok (.ifCond .eq 7, 3) := by decide +kernel
theorem dX10_sounds_36 : decode cX10_sounds 36 = .ok (.iconst 1, 1) := by decide +kernel
theorem dX10_sounds_37 : decode cX10_sounds 37 = .ok (.goto 4, 3) := by decide +kernel
theorem dX10_sounds_40 : decode cX10_sounds 40 = .ok (.iconst 0, 1) := by decide +kernel
theorem dX10_sounds_41 : decode cX10_sounds 41 = .ok (.ireturn, 1) := by decide +kernel
theorem dX10_reading_0 : decode cX10_reading 0 = .ok (.aload_n 0, 1) := by decide +kernel
theorem dX10_reading_1 : decode cX10_reading 1 = .ok (.getfield 55, 3) := by decide +kernel
theorem dX10_reading_4 : decode cX10_reading 4 = .ok (.iload_n 1, 1) := by decide +kernel
theorem dX10_reading_5 : decode cX10_reading 5 = .ok (.iload_n 2, 1) := by decide +kernel
theorem dX10_reading_6 : decode cX10_reading 6 = .ok (.invokevirtual 160, 3) := by decide +kernel
theorem dX10_reading_9 : decode cX10_reading 9 = .ok (.ifCond .eq 15, 3) := by decide +kernel
theorem dX10_reading_12 : decode cX10_reading 12 = .ok (.aload_n 0, 1) := by decide +kernel
theorem dX10_reading_13 : decode cX10_reading 13 = .ok (.getfield 23, 3) := by decide +kernel
theorem dX10_reading_16 : decode cX10_reading 16 = .ok (.iload_n 1, 1) := by decide +kernel
theorem dX10_reading_17 : decode cX10_reading 17 = .ok (.iload_n 3, 1) := by decide +kernel
theorem dX10_reading_18 : decode cX10_reading 18 = .ok (.invokevirtual 163, 3) := by decide +kernel
theorem dX10_reading_21 : decode cX10_reading 21 = .ok (.ifCond .ne 5, 3) := by decide +kernel
theorem dX10_reading_24 : decode cX10_reading 24 = .ok (.iconst (-1), 1) := by decide +kernel
theorem dX10_reading_25 : decode cX10_reading 25 = .ok (.ireturn, 1) := by decide +kernel
theorem dX10_reading_26 : decode cX10_reading 26 = .ok (.aload_n 0, 1) := by decide +kernel
theorem dX10_reading_27 : decode cX10_reading 27 = .ok (.getfield 55, 3) := by decide +kernel
theorem dX10_reading_30 : decode cX10_reading 30 = .ok (.iload_n 1, 1) := by decide +kernel
theorem dX10_reading_31 : decode cX10_reading 31 = .ok (.iload_n 2, 1) := by decide +kernel
theorem dX10_reading_32 : decode cX10_reading 32 = .ok (.invokevirtual 166, 3) := by decide +kernel
theorem dX10_reading_35 : decode cX10_reading 35 = .ok (.iload 4, 2) := by decide +kernel
theorem dX10_reading_37 : decode cX10_reading 37 = .ok (.tableswitch 73 0 2 #[27, 45, 63], 27) := by decide +kernel
theorem dX10_reading_64 : decode cX10_reading 64 = .ok (.aload_n 0, 1) := by decide +kernel
theorem dX10_reading_65 : decode cX10_reading 65 = .ok (.getfield 16, 3) := by decide +kernel
theorem dX10_reading_68 : decode cX10_reading 68 = .ok (.getfield 170, 3) := by decide +kernel
theorem dX10_reading_71 : decode cX10_reading 71 = .ok (.aload_n 0, 1) := by decide +kernel
theorem dX10_reading_72 : decode cX10_reading 72 = .ok (.getfield 55, 3) := by decide +kernel
theorem dX10_reading_75 : decode cX10_reading 75 = .ok (.getfield 173, 3) := by decide +kernel
theorem dX10_reading_78 : decode cX10_reading 78 = .ok (.iload_n 3, 1) := by decide +kernel
theorem dX10_reading_79 : decode cX10_reading 79 = .ok (.iaload, 1) := by decide +kernel
theorem dX10_reading_80 : decode cX10_reading 80 = .ok (.iaload, 1) := by decide +kernel
theorem dX10_reading_81 : decode cX10_reading 81 = .ok (.ireturn, 1) := by decide +kernel
theorem dX10_reading_82 : decode cX10_reading 82 = .ok (.aload_n 0, 1) := by decide +kernel
theorem dX10_reading_83 : decode cX10_reading 83 = .ok (.getfield 16, 3) := by decide +kernel
theorem dX10_reading_86 : decode cX10_reading 86 = .ok (.getfield 176, 3) := by decide +kernel
theorem dX10_reading_89 : decode cX10_reading 89 = .ok (.aload_n 0, 1) := by decide +kernel
theorem dX10_reading_90 : decode cX10_reading 90 = .ok (.getfield 55, 3) := by decide +kernel
theorem dX10_reading_93 : decode cX10_reading 93 = .ok (.getfield 173, 3) := by decide +kernel
theorem dX10_reading_96 : decode cX10_reading 96 = .ok (.iload_n 3, 1) := by decide +kernel
theorem dX10_reading_97 : decode cX10_reading 97 = .ok (.iaload, 1) := by decide +kernel
theorem dX10_reading_98 : decode cX10_reading 98 = .ok (.iaload, 1) := by decide +kernel
theorem dX10_reading_99 : decode cX10_reading 99 = .ok (.ireturn, 1) := by decide +kernel
theorem dX10_reading_100 : decode cX10_reading 100 = .ok (.aload_n 0, 1) := by decide +kernel
theorem dX10_reading_101 : decode cX10_reading 101 = .ok (.getfield 55, 3) := by decide +kernel
theorem dX10_reading_104 : decode cX10_reading 104 = .ok (.iload_n 1, 1) := by decide +kernel
theorem dX10_reading_105 : decode cX10_reading 105 = .ok (.iload_n 3, 1) := by decide +kernel
theorem dX10_reading_106 : decode cX10_reading 106 = .ok (.invokevirtual 179, 3) := by decide +kernel
theorem dX10_reading_109 : decode cX10_reading 109 = .ok (.ireturn, 1) := by decide +kernel
theorem dX10_reading_110 : decode cX10_reading 110 = .ok (.iconst (-1), 1) := by decide +kernel
theorem dX10_reading_111 : decode cX10_reading 111 = .ok (.ireturn, 1) := by decide +kernel
theorem dX10_harsh_0 : decode cX10_harsh 0 = .ok (.aload_n 0, 1) := by decide +kernel
theorem dX10_harsh_1 : decode cX10_harsh 1 = .ok (.getfield 55, 3) := by decide +kernel
theorem dX10_harsh_4 : decode cX10_harsh 4 = .ok (.iload_n 1, 1) := by decide +kernel
theorem dX10_harsh_5 : decode cX10_harsh 5 = .ok (.iload_n 2, 1) := by decide +kernel
theorem dX10_harsh_6 : decode cX10_harsh 6 = .ok (.invokevirtual 160, 3) := by decide +kernel
theorem dX10_harsh_9 : decode cX10_harsh 9 = .ok (.ifCond .ne 5, 3) := by decide +kernel
theorem dX10_harsh_12 : decode cX10_harsh 12 = .ok (.iconst (-1), 1) := by decide +kernel
theorem dX10_harsh_13 : decode cX10_harsh 13 = .ok (.ireturn, 1) := by decide +kernel
theorem dX10_harsh_14 : decode cX10_harsh 14 = .ok (.aload_n 0, 1) := by decide +kernel
theorem dX10_harsh_15 : decode cX10_harsh 15 = .ok (.getfield 55, 3) := by decide +kernel
theorem dX10_harsh_18 : decode cX10_harsh 18 = .ok (.iload_n 1, 1) := by decide +kernel
theorem dX10_harsh_19 : decode cX10_harsh 19 = .ok (.iload_n 2, 1) := by decide +kernel
theorem dX10_harsh_20 : decode cX10_harsh 20 = .ok (.invokevirtual 166, 3) := by decide +kernel
theorem dX10_harsh_23 : decode cX10_harsh 23 = .ok (.aload_n 0, 1) := by decide +kernel
theorem dX10_harsh_24 : decode cX10_harsh 24 = .ok (.getfield 55, 3) := by decide +kernel
theorem dX10_harsh_27 : decode cX10_harsh 27 = .ok (.iload_n 1, 1) := by decide +kernel
theorem dX10_harsh_28 : decode cX10_harsh 28 = .ok (.invokevirtual 183, 3) := by decide +kernel
theorem dX10_harsh_31 : decode cX10_harsh 31 = .ok (.ireturn, 1) := by decide +kernel
theorem dX10_choose_0 : decode cX10_choose 0 = .ok (.aload_n 0, 1) := by decide +kernel
theorem dX10_choose_1 : decode cX10_choose 1 = .ok (.getfield 23, 3) := by decide +kernel
theorem dX10_choose_4 : decode cX10_choose 4 = .ok (.getfield 135, 3) := by decide +kernel
theorem dX10_choose_7 : decode cX10_choose 7 = .ok (.ifCond .eq 13, 3) := by decide +kernel
theorem dX10_choose_10 : decode cX10_choose 10 = .ok (.aload_n 0, 1) := by decide +kernel
theorem dX10_choose_11 : decode cX10_choose 11 = .ok (.getfield 55, 3) := by decide +kernel
theorem dX10_choose_14 : decode cX10_choose 14 = .ok (.invokevirtual 186, 3) := by decide +kernel
theorem dX10_choose_17 : decode cX10_choose 17 = .ok (.ifCond .ne 7, 3) := by decide +kernel
theorem dX10_choose_20 : decode cX10_choose 20 = .ok (.ldc2_w 189, 3) := by decide +kernel
theorem dX10_choose_23 : decode cX10_choose 23 = .ok (.lreturn, 1) := by decide +kernel
theorem dX10_choose_24 : decode cX10_choose 24 = .ok (.aload_n 0, 1) := by decide +kernel
theorem dX10_choose_25 : decode cX10_choose 25 = .ok (.getfield 55, 3) := by decide +kernel
theorem dX10_choose_28 : decode cX10_choose 28 = .ok (.invokevirtual 191, 3) := by decide +kernel
theorem dX10_choose_31 : decode cX10_choose 31 = .ok (.bipush 64, 2) := by decide +kernel
theorem dX10_choose_33 : decode cX10_choose 33 = .ok (.if_icmp .le 7, 3) := by decide +kernel
theorem dX10_choose_36 : decode cX10_choose 36 = .ok (.ldc2_w 194, 3) := by decide +kernel
theorem dX10_choose_39 : decode cX10_choose 39 = .ok (.lreturn, 1) := by decide +kernel
theorem dX10_choose_40 : decode cX10_choose 40 = .ok (.aload_n 0, 1) := by decide +kernel
theorem dX10_choose_41 : decode cX10_choose 41 = .ok (.iconst 0, 1) := by decide +kernel
theorem dX10_choose_42 : decode cX10_choose 42 = .ok (.putfield 196, 3) := by decide +kernel
theorem dX10_choose_45 : decode cX10_choose 45 = .ok (.aload_n 0, 1) := by decide +kernel
theorem dX10_choose_46 : decode cX10_choose 46 = .ok (.iconst 1, 1) := by decide +kernel
theorem dX10_choose_47 : decode cX10_choose 47 = .ok (.putfield 200, 3) := by decide +kernel
theorem dX10_choose_50 : decode cX10_choose 50 = .ok (.aload_n 0, 1) := by decide +kernel
theorem dX10_choose_51 : decode cX10_choose 51 = .ok (.getfield 64, 3) := by decide +kernel
theorem dX10_choose_54 : decode cX10_choose 54 = .ok (.invokevirtual 203, 3) := by decide +kernel
theorem dX10_choose_57 : decode cX10_choose 57 = .ok (.lstore_n 1, 1) := by decide +kernel
theorem dX10_choose_58 : decode cX10_choose 58 = .ok (.aload_n 0, 1) := by decide +kernel
theorem dX10_choose_59 : decode cX10_choose 59 = .ok (.getfield 73, 3) := by decide +kernel
theorem dX10_choose_62 : decode cX10_choose 62 = .ok (.invokevirtual 207, 3) := by decide +kernel
theorem dX10_choose_65 : decode cX10_choose 65 = .ok (.lload_n 1, 1) := by decide +kernel
theorem dX10_choose_66 : decode cX10_choose 66 = .ok (.lreturn, 1) := by decide +kernel
theorem dX10_chosen_0 : decode cX10_chosen 0 = .ok (.aload_n 0, 1) := by decide +kernel
theorem dX10_chosen_1 : decode cX10_chosen 1 = .ok (.getfield 23, 3) := by decide +kernel
theorem dX10_chosen_4 : decode cX10_chosen 4 = .ok (.iload_n 1, 1) := by decide +kernel
theorem dX10_chosen_5 : decode cX10_chosen 5 = .ok (.invokevirtual 139, 3) := by decide +kernel
theorem dX10_chosen_8 : decode cX10_chosen 8 = .ok (.ifCond .ne 5, 3) := by decide +kernel
theorem dX10_chosen_11 : decode cX10_chosen 11 = .ok (.iconst (-1), 1) := by decide +kernel
theorem dX10_chosen_12 : decode cX10_chosen 12 = .ok (.ireturn, 1) := by decide +kernel
theorem dX10_chosen_13 : decode cX10_chosen 13 = .ok (.aload_n 0, 1) := by decide +kernel
theorem dX10_chosen_14 : decode cX10_chosen 14 = .ok (.getfield 200, 3) := by decide +kernel
theorem dX10_chosen_17 : decode cX10_chosen 17 = .ok (.ifCond .eq 15, 3) := by decide +kernel
theorem dX10_chosen_20 : decode cX10_chosen 20 = .ok (.aload_n 0, 1) := by decide +kernel
theorem dX10_chosen_21 : decode cX10_chosen 21 = .ok (.getfield 64, 3) := by decide +kernel
theorem dX10_chosen_24 : decode cX10_chosen 24 = .ok (.getfield 209, 3) := by decide +kernel
theorem dX10_chosen_27 : decode cX10_chosen 27 = .ok (.iload_n 1, 1) := by decide +kernel
theorem dX10_chosen_28 : decode cX10_chosen 28 = .ok (.iaload, 1) := by decide +kernel
theorem dX10_chosen_29 : decode cX10_chosen 29 = .ok (.goto 5, 3) := by decide +kernel
theorem dX10_chosen_32 : decode cX10_chosen 32 = .ok (.bipush (-9), 2) := by decide +kernel
theorem dX10_chosen_34 : decode cX10_chosen 34 = .ok (.ireturn, 1) := by decide +kernel
theorem dX10_solve_0 : decode cX10_solve 0 = .ok (.aload_n 0, 1) := by decide +kernel
theorem dX10_solve_1 : decode cX10_solve 1 = .ok (.getfield 200, 3) := by decide +kernel
theorem dX10_solve_4 : decode cX10_solve 4 = .ok (.ifCond .ne 6, 3) := by decide +kernel
theorem dX10_solve_7 : decode cX10_solve 7 = .ok (.bipush (-2), 2) := by decide +kernel
theorem dX10_solve_9 : decode cX10_solve 9 = .ok (.ireturn, 1) := by decide +kernel
theorem dX10_solve_10 : decode cX10_solve 10 = .ok (.aload_n 0, 1) := by decide +kernel
theorem dX10_solve_11 : decode cX10_solve 11 = .ok (.getfield 23, 3) := by decide +kernel
theorem dX10_solve_14 : decode cX10_solve 14 = .ok (.getfield 212, 3) := by decide +kernel
theorem dX10_solve_17 : decode cX10_solve 17 = .ok (.bipush 20, 2) := by decide +kernel
theorem dX10_solve_19 : decode cX10_solve 19 = .ok (.if_icmp .le 6, 3) := by decide +kernel
theorem dX10_solve_22 : decode cX10_solve 22 = .ok (.bipush (-3), 2) := by decide +kernel
theorem dX10_solve_24 : decode cX10_solve 24 = .ok (.ireturn, 1) := by decide +kernel
theorem dX10_solve_25 : decode cX10_solve 25 = .ok (.aload_n 0, 1) := by decide +kernel
theorem dX10_solve_26 : decode cX10_solve 26 = .ok (.getfield 82, 3) := by decide +kernel
theorem dX10_solve_29 : decode cX10_solve 29 = .ok (.invokevirtual 215, 3) := by decide +kernel
theorem dX10_solve_32 : decode cX10_solve 32 = .ok (.aload_n 0, 1) := by decide +kernel
theorem dX10_solve_33 : decode cX10_solve 33 = .ok (.getfield 91, 3) := by decide +kernel
theorem dX10_solve_36 : decode cX10_solve 36 = .ok (.invokevirtual 218, 3) := by decide +kernel
theorem dX10_solve_39 : decode cX10_solve 39 = .ok (.aload_n 0, 1) := by decide +kernel
theorem dX10_solve_40 : decode cX10_solve 40 = .ok (.iconst 1, 1) := by decide +kernel
theorem dX10_solve_41 : decode cX10_solve 41 = .ok (.putfield 196, 3) := by decide +kernel
theorem dX10_solve_44 : decode cX10_solve 44 = .ok (.aload_n 0, 1) := by decide +kernel
theorem dX10_solve_45 : decode cX10_solve 45 = .ok (.getfield 23, 3) := by decide +kernel
theorem dX10_solve_48 : decode cX10_solve 48 = .ok (.getfield 212, 3) := by decide +kernel
theorem dX10_solve_51 : decode cX10_solve 51 = .ok (.ireturn, 1) := by decide +kernel
theorem dX10_variable_0 : decode cX10_variable 0 = .ok (.aload_n 0, 1) := by decide +kernel
theorem dX10_variable_1 : decode cX10_variable 1 = .ok (.getfield 23, 3) := by decide +kernel
theorem dX10_variable_4 : decode cX10_variable 4 = .ok (.iload_n 1, 1) := by decide +kernel
theorem dX10_variable_5 : decode cX10_variable 5 = .ok (.iload_n 2, 1) := by decide +kernel
theorem dX10_variable_6 : decode cX10_variable 6 = .ok (.invokevirtual 163, 3) := by decide +kernel
theorem dX10_variable_9 : decode cX10_variable 9 = .ok (.ifCond .eq 15, 3) := by decide +kernel
theorem dX10_variable_12 : decode cX10_variable 12 = .ok (.aload_n 0, 1) := by decide +kernel
theorem dX10_variable_13 : decode cX10_variable 13 = .ok (.getfield 23, 3) := by decide +kernel
theorem dX10_variable_16 : decode cX10_variable 16 = .ok (.iload_n 1, 1) := by decide +kernel
theorem dX10_variable_17 : decode cX10_variable 17 = .ok (.iload_n 2, 1) := by decide +kernel
theorem dX10_variable_18 : decode cX10_variable 18 = .ok (.invokevirtual 221, 3) := by decide +kernel
theorem dX10_variable_21 : decode cX10_variable 21 = .ok (.goto 4, 3) := by decide +kernel
theorem dX10_variable_24 : decode cX10_variable 24 = .ok (.iconst (-1), 1) := by decide +kernel
theorem dX10_variable_25 : decode cX10_variable 25 = .ok (.ireturn, 1) := by decide +kernel
theorem dX10_loose_0 : decode cX10_loose 0 = .ok (.aload_n 0, 1) := by decide +kernel
theorem dX10_loose_1 : decode cX10_loose 1 = .ok (.getfield 196, 3) := by decide +kernel
theorem dX10_loose_4 : decode cX10_loose 4 = .ok (.ifCond .eq 13, 3) := by decide +kernel
theorem dX10_loose_7 : decode cX10_loose 7 = .ok (.aload_n 0, 1) := by decide +kernel
theorem dX10_loose_8 : decode cX10_loose 8 = .ok (.getfield 82, 3) := by decide +kernel
theorem dX10_loose_11 : decode cX10_loose 11 = .ok (.getfield 224, 3) := by decide +kernel
theorem dX10_loose_14 : decode cX10_loose 14 = .ok (.goto 5, 3) := by decide +kernel
theorem dX10_loose_17 : decode cX10_loose 17 = .ok (.bipush (-2), 2) := by decide +kernel
theorem dX10_loose_19 : decode cX10_loose 19 = .ok (.ireturn, 1) := by decide +kernel
theorem dX10_place_0 : decode cX10_place 0 = .ok (.aload_n 0, 1) := by decide +kernel
theorem dX10_place_1 : decode cX10_place 1 = .ok (.iload_n 1, 1) := by decide +kernel
theorem dX10_place_2 : decode cX10_place 2 = .ok (.iload_n 2, 1) := by decide +kernel
theorem dX10_place_3 : decode cX10_place 3 = .ok (.invokevirtual 227, 3) := by decide +kernel
theorem dX10_place_6 : decode cX10_place 6 = .ok (.istore_n 3, 1) := by decide +kernel
theorem dX10_place_7 : decode cX10_place 7 = .ok (.iload_n 3, 1) := by decide +kernel
theorem dX10_place_8 : decode cX10_place 8 = .ok (.ifCond .eq 5, 3) := by decide +kernel
theorem dX10_place_11 : decode cX10_place 11 = .ok (.iload_n 3, 1) := by decide +kernel
theorem dX10_place_12 : decode cX10_place 12 = .ok (.ireturn, 1) := by decide +kernel
theorem dX10_place_13 : decode cX10_place 13 = .ok (.aload_n 0, 1) := by decide +kernel
theorem dX10_place_14 : decode cX10_place 14 = .ok (.getfield 30, 3) := by decide +kernel
theorem dX10_place_17 : decode cX10_place 17 = .ok (.aload_n 0, 1) := by decide +kernel
theorem dX10_place_18 : decode cX10_place 18 = .ok (.getfield 23, 3) := by decide +kernel
theorem dX10_place_21 : decode cX10_place 21 = .ok (.iload_n 2, 1) := by decide +kernel
theorem dX10_place_22 : decode cX10_place 22 = .ok (.invokevirtual 230, 3) := by decide +kernel
theorem dX10_place_25 : decode cX10_place 25 = .ok (.invokevirtual 233, 3) := by decide +kernel
theorem dX10_place_28 : decode cX10_place 28 = .ok (.aload_n 0, 1) := by decide +kernel
theorem dX10_place_29 : decode cX10_place 29 = .ok (.getfield 37, 3) := by decide +kernel
theorem dX10_place_32 : decode cX10_place 32 = .ok (.aload_n 0, 1) := by decide +kernel
theorem dX10_place_33 : decode cX10_place 33 = .ok (.getfield 30, 3) := by decide +kernel
theorem dX10_place_36 : decode cX10_place 36 = .ok (.invokevirtual 237, 3) := by decide +kernel
theorem dX10_place_39 : decode cX10_place 39 = .ok (.ireturn, 1) := by decide +kernel
theorem dX10_move_0 : decode cX10_move 0 = .ok (.aload_n 0, 1) := by decide +kernel
theorem dX10_move_1 : decode cX10_move 1 = .ok (.iload_n 1, 1) := by decide +kernel
theorem dX10_move_2 : decode cX10_move 2 = .ok (.iload_n 2, 1) := by decide +kernel
theorem dX10_move_3 : decode cX10_move 3 = .ok (.invokevirtual 227, 3) := by decide +kernel
theorem dX10_move_6 : decode cX10_move 6 = .ok (.istore_n 3, 1) := by decide +kernel
theorem dX10_move_7 : decode cX10_move 7 = .ok (.iload_n 3, 1) := by decide +kernel
theorem dX10_move_8 : decode cX10_move 8 = .ok (.ifCond .eq 7, 3) := by decide +kernel
theorem dX10_move_11 : decode cX10_move 11 = .ok (.iload_n 3, 1) := by decide +kernel
theorem dX10_move_12 : decode cX10_move 12 = .ok (.goto 14, 3) := by decide +kernel
theorem dX10_move_15 : decode cX10_move 15 = .ok (.aload_n 0, 1) := by decide +kernel
theorem dX10_move_16 : decode cX10_move 16 = .ok (.getfield 37, 3) := by decide +kernel
theorem dX10_move_19 : decode cX10_move 19 = .ok (.aload_n 0, 1) := by decide +kernel
theorem dX10_move_20 : decode cX10_move 20 = .ok (.getfield 30, 3) := by decide +kernel
theorem dX10_move_23 : decode cX10_move 23 = .ok (.invokevirtual 237, 3) := by decide +kernel
theorem dX10_move_26 : decode cX10_move 26 = .ok (.ireturn, 1) := by decide +kernel
theorem dX10_energy_0 : decode cX10_energy 0 = .ok (.aload_n 0, 1) := by decide +kernel
theorem dX10_energy_1 : decode cX10_energy 1 = .ok (.getfield 196, 3) := by decide +kernel
theorem dX10_energy_4 : decode cX10_energy 4 = .ok (.ifCond .ne 6, 3) := by decide +kernel
theorem dX10_energy_7 : decode cX10_energy 7 = .ok (.bipush (-2), 2) := by decide +kernel
theorem dX10_energy_9 : decode cX10_energy 9 = .ok (.ireturn, 1) := by decide +kernel
theorem dX10_energy_10 : decode cX10_energy 10 = .ok (.aload_n 0, 1) := by decide +kernel
theorem dX10_energy_11 : decode cX10_energy 11 = .ok (.getfield 30, 3) := by decide +kernel
theorem dX10_energy_14 : decode cX10_energy 14 = .ok (.aload_n 0, 1) := by decide +kernel
theorem dX10_energy_15 : decode cX10_energy 15 = .ok (.getfield 91, 3) := by decide +kernel
theorem dX10_energy_18 : decode cX10_energy 18 = .ok (.getfield 241, 3) := by decide +kernel
theorem dX10_energy_21 : decode cX10_energy 21 = .ok (.bipush 21, 2) := by decide +kernel
theorem dX10_energy_23 : decode cX10_energy 23 = .ok (.aaload, 1) := by decide +kernel
theorem dX10_energy_24 : decode cX10_energy 24 = .ok (.aload_n 0, 1) := by decide +kernel
theorem dX10_energy_25 : decode cX10_energy 25 = .ok (.getfield 91, 3) := by decide +kernel
theorem dX10_energy_28 : decode cX10_energy 28 = .ok (.getfield 241, 3) := by decide +kernel
theorem dX10_energy_31 : decode cX10_energy 31 = .ok (.bipush 20, 2) := by decide +kernel
theorem dX10_energy_33 : decode cX10_energy 33 = .ok (.aaload, 1) := by decide +kernel
theorem dX10_energy_34 : decode cX10_energy 34 = .ok (.invokevirtual 245, 3) := by decide +kernel
theorem dX10_energy_37 : decode cX10_energy 37 = .ok (.aload_n 0, 1) := by decide +kernel
theorem dX10_energy_38 : decode cX10_energy 38 = .ok (.getfield 37, 3) := by decide +kernel
theorem dX10_energy_41 : decode cX10_energy 41 = .ok (.aload_n 0, 1) := by decide +kernel
theorem dX10_energy_42 : decode cX10_energy 42 = .ok (.getfield 30, 3) := by decide +kernel
theorem dX10_energy_45 : decode cX10_energy 45 = .ok (.invokevirtual 237, 3) := by decide +kernel
theorem dX10_energy_48 : decode cX10_energy 48 = .ok (.ireturn, 1) := by decide +kernel
theorem dX10_near_0 : decode cX10_near 0 = .ok (.aload_n 0, 1) := by decide +kernel
theorem dX10_near_1 : decode cX10_near 1 = .ok (.iload_n 1, 1) := by decide +kernel
theorem dX10_near_2 : decode cX10_near 2 = .ok (.iload_n 2, 1) := by decide +kernel
theorem dX10_near_3 : decode cX10_near 3 = .ok (.invokevirtual 227, 3) := by decide +kernel
theorem dX10_near_6 : decode cX10_near 6 = .ok (.istore_n 3, 1) := by decide +kernel
theorem dX10_near_7 : decode cX10_near 7 = .ok (.iload_n 3, 1) := by decide +kernel
theorem dX10_near_8 : decode cX10_near 8 = .ok (.ifCond .eq 7, 3) := by decide +kernel
theorem dX10_near_11 : decode cX10_near 11 = .ok (.iload_n 3, 1) := by decide +kernel
theorem dX10_near_12 : decode cX10_near 12 = .ok (.goto 19, 3) := by decide +kernel
theorem dX10_near_15 : decode cX10_near 15 = .ok (.aload_n 0, 1) := by decide +kernel
theorem dX10_near_16 : decode cX10_near 16 = .ok (.getfield 23, 3) := by decide +kernel
theorem dX10_near_19 : decode cX10_near 19 = .ok (.iload_n 2, 1) := by decide +kernel
theorem dX10_near_20 : decode cX10_near 20 = .ok (.invokevirtual 230, 3) := by decide +kernel
theorem dX10_near_23 : decode cX10_near 23 = .ok (.aload_n 0, 1) := by decide +kernel
theorem dX10_near_24 : decode cX10_near 24 = .ok (.getfield 30, 3) := by decide +kernel
theorem dX10_near_27 : decode cX10_near 27 = .ok (.invokevirtual 249, 3) := by decide +kernel
theorem dX10_near_30 : decode cX10_near 30 = .ok (.iadd, 1) := by decide +kernel
theorem dX10_near_31 : decode cX10_near 31 = .ok (.ireturn, 1) := by decide +kernel
theorem dX10_text_0 : decode cX10_text 0 = .ok (.iload_n 1, 1) := by decide +kernel
theorem dX10_text_1 : decode cX10_text 1 = .ok (.ifCond .lt 14, 3) := by decide +kernel
theorem dX10_text_4 : decode cX10_text 4 = .ok (.iload_n 1, 1) := by decide +kernel
theorem dX10_text_5 : decode cX10_text 5 = .ok (.aload_n 0, 1) := by decide +kernel
theorem dX10_text_6 : decode cX10_text 6 = .ok (.getfield 37, 3) := by decide +kernel
theorem dX10_text_9 : decode cX10_text 9 = .ok (.getfield 252, 3) := by decide +kernel
theorem dX10_text_12 : decode cX10_text 12 = .ok (.if_icmp .lt 8, 3) := by decide +kernel
theorem dX10_text_15 : decode cX10_text 15 = .ok (.bipush (-9), 2) := by decide +kernel
theorem dX10_text_17 : decode cX10_text 17 = .ok (.goto 12, 3) := by decide +kernel
theorem dX10_text_20 : decode cX10_text 20 = .ok (.aload_n 0, 1) := by decide +kernel
theorem dX10_text_21 : decode cX10_text 21 = .ok (.getfield 37, 3) := by decide +kernel
theorem dX10_text_24 : decode cX10_text 24 = .ok (.getfield 255, 3) := by decide +kernel
theorem dX10_text_27 : decode cX10_text 27 = .ok (.iload_n 1, 1) := by decide +kernel
theorem dX10_text_28 : decode cX10_text 28 = .ok (.baload, 1) := by decide +kernel
theorem dX10_text_29 : decode cX10_text 29 = .ok (.ireturn, 1) := by decide +kernel
theorem dX10_pure_0 : decode cX10_pure 0 = .ok (.aload_n 0, 1) := by decide +kernel
theorem dX10_pure_1 : decode cX10_pure 1 = .ok (.getfield 23, 3) := by decide +kernel
theorem dX10_pure_4 : decode cX10_pure 4 = .ok (.iload_n 1, 1) := by decide +kernel
theorem dX10_pure_5 : decode cX10_pure 5 = .ok (.invokevirtual 139, 3) := by decide +kernel
theorem dX10_pure_8 : decode cX10_pure 8 = .ok (.ifCond .eq 13, 3) := by decide +kernel
theorem dX10_pure_11 : decode cX10_pure 11 = .ok (.iload_n 2, 1) := by decide +kernel
theorem dX10_pure_12 : decode cX10_pure 12 = .ok (.ifCond .lt 9, 3) := by decide +kernel
theorem dX10_pure_15 : decode cX10_pure 15 = .ok (.iload_n 2, 1) := by decide +kernel
theorem dX10_pure_16 : decode cX10_pure 16 = .ok (.bipush 7, 2) := by decide +kernel
theorem dX10_pure_18 : decode cX10_pure 18 = .ok (.if_icmp .le 5, 3) := by decide +kernel
theorem dX10_pure_21 : decode cX10_pure 21 = .ok (.iconst (-1), 1) := by decide +kernel
theorem dX10_pure_22 : decode cX10_pure 22 = .ok (.ireturn, 1) := by decide +kernel
theorem dX10_pure_23 : decode cX10_pure 23 = .ok (.aload_n 0, 1) := by decide +kernel
theorem dX10_pure_24 : decode cX10_pure 24 = .ok (.getfield 200, 3) := by decide +kernel
theorem dX10_pure_27 : decode cX10_pure 27 = .ok (.ifCond .ne 6, 3) := by decide +kernel
theorem dX10_pure_30 : decode cX10_pure 30 = .ok (.bipush (-2), 2) := by decide +kernel
theorem dX10_pure_32 : decode cX10_pure 32 = .ok (.ireturn, 1) := by decide +kernel
theorem dX10_pure_33 : decode cX10_pure 33 = .ok (.iload_n 2, 1) := by decide +kernel
theorem dX10_pure_34 : decode cX10_pure 34 = .ok (.bipush 6, 2) := by decide +kernel
theorem dX10_pure_36 : decode cX10_pure 36 = .ok (.if_icmp .ge 18, 3) := by decide +kernel
theorem dX10_pure_39 : decode cX10_pure 39 = .ok (.aload_n 0, 1) := by decide +kernel
theorem dX10_pure_40 : decode cX10_pure 40 = .ok (.getfield 73, 3) := by decide +kernel
theorem dX10_pure_43 : decode cX10_pure 43 = .ok (.getfield 259, 3) := by decide +kernel
theorem dX10_pure_46 : decode cX10_pure 46 = .ok (.iload_n 1, 1) := by decide +kernel
theorem dX10_pure_47 : decode cX10_pure 47 = .ok (.bipush 6, 2) := by decide +kernel
theorem dX10_pure_49 : decode cX10_pure 49 = .ok (.imul, 1) := by decide +kernel
theorem dX10_pure_50 : decode cX10_pure 50 = .ok (.iload_n 2, 1) := by decide +kernel
theorem dX10_pure_51 : decode cX10_pure 51 = .ok (.iadd, 1) := by decide +kernel
theorem dX10_pure_52 : decode cX10_pure 52 = .ok (.iaload, 1) := by decide +kernel
theorem dX10_pure_53 : decode cX10_pure 53 = .ok (.ireturn, 1) := by decide +kernel
theorem dX10_pure_54 : decode cX10_pure 54 = .ok (.iload_n 2, 1) := by decide +kernel
theorem dX10_pure_55 : decode cX10_pure 55 = .ok (.bipush 6, 2) := by decide +kernel
theorem dX10_pure_57 : decode cX10_pure 57 = .ok (.if_icmp .ne 15, 3) := by decide +kernel
theorem dX10_pure_60 : decode cX10_pure 60 = .ok (.aload_n 0, 1) := by decide +kernel
theorem dX10_pure_61 : decode cX10_pure 61 = .ok (.getfield 73, 3) := by decide +kernel
theorem dX10_pure_64 : decode cX10_pure 64 = .ok (.getfield 262, 3) := by decide +kernel
theorem dX10_pure_67 : decode cX10_pure 67 = .ok (.iload_n 1, 1) := by decide +kernel
theorem dX10_pure_68 : decode cX10_pure 68 = .ok (.iaload, 1) := by decide +kernel
theorem dX10_pure_69 : decode cX10_pure 69 = .ok (.goto 12, 3) := by decide +kernel
theorem dX10_pure_72 : decode cX10_pure 72 = .ok (.aload_n 0, 1) := by decide +kernel
theorem dX10_pure_73 : decode cX10_pure 73 = .ok (.getfield 73, 3) := by decide +kernel
theorem dX10_pure_76 : decode cX10_pure 76 = .ok (.getfield 265, 3) := by decide +kernel
theorem dX10_pure_79 : decode cX10_pure 79 = .ok (.iload_n 1, 1) := by decide +kernel
theorem dX10_pure_80 : decode cX10_pure 80 = .ok (.iaload, 1) := by decide +kernel
theorem dX10_pure_81 : decode cX10_pure 81 = .ok (.ireturn, 1) := by decide +kernel
theorem dX10_pump_0 : decode cX10_pump 0 = .ok (.iload_n 1, 1) := by decide +kernel
theorem dX10_pump_1 : decode cX10_pump 1 = .ok (.ifCond .lt 12, 3) := by decide +kernel
theorem dX10_pump_4 : decode cX10_pump 4 = .ok (.iload_n 2, 1) := by decide +kernel
theorem dX10_pump_5 : decode cX10_pump 5 = .ok (.ifCond .lt 8, 3) := by decide +kernel
theorem dX10_pump_8 : decode cX10_pump 8 = .ok (.iload_n 2, 1) := by decide +kernel
theorem dX10_pump_9 : decode cX10_pump 9 = .ok (.iconst 2, 1) := by decide +kernel
theorem dX10_pump_10 : decode cX10_pump 10 = .ok (.if_icmp .le 5, 3) := by decide +kernel
theorem dX10_pump_13 : decode cX10_pump 13 = .ok (.iconst (-1), 1) := by decide +kernel
theorem dX10_pump_14 : decode cX10_pump 14 = .ok (.ireturn, 1) := by decide +kernel
theorem dX10_pump_15 : decode cX10_pump 15 = .ok (.aload_n 0, 1) := by decide +kernel
theorem dX10_pump_16 : decode cX10_pump 16 = .ok (.getfield 200, 3) := by decide +kernel
theorem dX10_pump_19 : decode cX10_pump 19 = .ok (.ifCond .ne 6, 3) := by decide +kernel
theorem dX10_pump_22 : decode cX10_pump 22 = .ok (.bipush (-2), 2) := by decide +kernel
theorem dX10_pump_24 : decode cX10_pump 24 = .ok (.ireturn, 1) := by decide +kernel
theorem dX10_pump_25 : decode cX10_pump 25 = .ok (.aload_n 0, 1) := by decide +kernel
theorem dX10_pump_26 : decode cX10_pump 26 = .ok (.getfield 73, 3) := by decide +kernel
theorem dX10_pump_29 : decode cX10_pump 29 = .ok (.iload_n 1, 1) := by decide +kernel
theorem dX10_pump_30 : decode cX10_pump 30 = .ok (.invokevirtual 268, 3) := by decide +kernel
theorem dX10_pump_33 : decode cX10_pump 33 = .ok (.ifCond .eq 14, 3) := by decide +kernel
theorem dX10_pump_36 : decode cX10_pump 36 = .ok (.aload_n 0, 1) := by decide +kernel
theorem dX10_pump_37 : decode cX10_pump 37 = .ok (.getfield 73, 3) := by decide +kernel
theorem dX10_pump_40 : decode cX10_pump 40 = .ok (.iload_n 2, 1) := by decide +kernel
theorem dX10_pump_41 : decode cX10_pump 41 = .ok (.invokevirtual 271, 3) := by decide +kernel
theorem dX10_pump_44 : decode cX10_pump 44 = .ok (.goto 5, 3) := by decide +kernel
theorem dX10_pump_47 : decode cX10_pump 47 = .ok (.bipush (-9), 2) := by decide +kernel
theorem dX10_pump_49 : decode cX10_pump 49 = .ok (.ireturn, 1) := by decide +kernel
theorem dX10_forget_0 : decode cX10_forget 0 = .ok (.aload_n 0, 1) := by decide +kernel
theorem dX10_forget_1 : decode cX10_forget 1 = .ok (.iconst 0, 1) := by decide +kernel
theorem dX10_forget_2 : decode cX10_forget 2 = .ok (.putfield 200, 3) := by decide +kernel
theorem dX10_forget_5 : decode cX10_forget 5 = .ok (.aload_n 0, 1) := by decide +kernel
theorem dX10_forget_6 : decode cX10_forget 6 = .ok (.iconst 0, 1) := by decide +kernel
theorem dX10_forget_7 : decode cX10_forget 7 = .ok (.putfield 196, 3) := by decide +kernel
theorem dX10_forget_10 : decode cX10_forget 10 = .ok (.return_, 1) := by decide +kernel
theorem dX10_takeMove_0 : decode cX10_takeMove 0 = .ok (.aload_n 0, 1) := by decide +kernel
theorem dX10_takeMove_1 : decode cX10_takeMove 1 = .ok (.getfield 23, 3) := by decide +kernel
theorem dX10_takeMove_4 : decode cX10_takeMove 4 = .ok (.iload_n 1, 1) := by decide +kernel
theorem dX10_takeMove_5 : decode cX10_takeMove 5 = .ok (.iload_n 2, 1) := by decide +kernel
theorem dX10_takeMove_6 : decode cX10_takeMove 6 = .ok (.invokevirtual 163, 3) := by decide +kernel
theorem dX10_takeMove_9 : decode cX10_takeMove 9 = .ok (.ifCond .ne 5, 3) := by decide +kernel
theorem dX10_takeMove_12 : decode cX10_takeMove 12 = .ok (.iconst (-1), 1) := by decide +kernel
theorem dX10_takeMove_13 : decode cX10_takeMove 13 = .ok (.ireturn, 1) := by decide +kernel
theorem dX10_takeMove_14 : decode cX10_takeMove 14 = .ok (.aload_n 0, 1) := by decide +kernel
theorem dX10_takeMove_15 : decode cX10_takeMove 15 = .ok (.getfield 196, 3) := by decide +kernel
theorem dX10_takeMove_18 : decode cX10_takeMove 18 = .ok (.ifCond .ne 6, 3) := by decide +kernel
theorem dX10_takeMove_21 : decode cX10_takeMove 21 = .ok (.bipush (-2), 2) := by decide +kernel
theorem dX10_takeMove_23 : decode cX10_takeMove 23 = .ok (.ireturn, 1) := by decide +kernel
theorem dX10_takeMove_24 : decode cX10_takeMove 24 = .ok (.aload_n 0, 1) := by decide +kernel
theorem dX10_takeMove_25 : decode cX10_takeMove 25 = .ok (.getfield 30, 3) := by decide +kernel
theorem dX10_takeMove_28 : decode cX10_takeMove 28 = .ok (.aload_n 0, 1) := by decide +kernel
theorem dX10_takeMove_29 : decode cX10_takeMove 29 = .ok (.getfield 91, 3) := by decide +kernel
theorem dX10_takeMove_32 : decode cX10_takeMove 32 = .ok (.getfield 241, 3) := by decide +kernel
theorem dX10_takeMove_35 : decode cX10_takeMove 35 = .ok (.aload_n 0, 1) := by decide +kernel
theorem dX10_takeMove_36 : decode cX10_takeMove 36 = .ok (.getfield 23, 3) := by decide +kernel
theorem dX10_takeMove_39 : decode cX10_takeMove 39 = .ok (.iload_n 1, 1) := by decide +kernel
theorem dX10_takeMove_40 : decode cX10_takeMove 40 = .ok (.iload_n 2, 1) := by decide +kernel
theorem dX10_takeMove_41 : decode cX10_takeMove 41 = .ok (.invokevirtual 221, 3) := by decide +kernel
theorem dX10_takeMove_44 : decode cX10_takeMove 44 = .ok (.aaload, 1) := by decide +kernel
theorem dX10_takeMove_45 : decode cX10_takeMove 45 = .ok (.aload_n 0, 1) := by decide +kernel
theorem dX10_takeMove_46 : decode cX10_takeMove 46 = .ok (.getfield 91, 3) := by decide +kernel
theorem dX10_takeMove_49 : decode cX10_takeMove 49 = .ok (.getfield 241, 3) := by decide +kernel
theorem dX10_takeMove_52 : decode cX10_takeMove 52 = .ok (.bipush 20, 2) := by decide +kernel
theorem dX10_takeMove_54 : decode cX10_takeMove 54 = .ok (.aaload, 1) := by decide +kernel
theorem dX10_takeMove_55 : decode cX10_takeMove 55 = .ok (.invokevirtual 245, 3) := by decide +kernel
theorem dX10_takeMove_58 : decode cX10_takeMove 58 = .ok (.iconst 0, 1) := by decide +kernel
theorem dX10_takeMove_59 : decode cX10_takeMove 59 = .ok (.ireturn, 1) := by decide +kernel
