theorem dX5_init_0 : decode cX5_init 0 = .ok (.aload_n 0, 1) := by decide +kernel
theorem dX5_init_1 : decode cX5_init 1 = .ok (.invokespecial 3, 3) := by decide +kernel
theorem dX5_init_4 : decode cX5_init 4 = .ok (.aload_n 0, 1) := by decide +kernel
theorem dX5_init_5 : decode cX5_init 5 = .ok (.bipush 16, 2) := by decide +kernel
theorem dX5_init_7 : decode cX5_init 7 = .ok (.newarray .int, 2) := by decide +kernel
theorem dX5_init_9 : decode cX5_init 9 = .ok (.putfield 9, 3) := by decide +kernel
theorem dX5_init_12 : decode cX5_init 12 = .ok (.aload_n 0, 1) := by decide +kernel
theorem dX5_init_13 : decode cX5_init 13 = .ok (.bipush 16, 2) := by decide +kernel
theorem dX5_init_15 : decode cX5_init 15 = .ok (.newarray .int, 2) := by decide +kernel
theorem dX5_init_17 : decode cX5_init 17 = .ok (.putfield 15, 3) := by decide +kernel
theorem dX5_init_20 : decode cX5_init 20 = .ok (.aload_n 0, 1) := by decide +kernel
theorem dX5_init_21 : decode cX5_init 21 = .ok (.bipush 16, 2) := by decide +kernel
theorem dX5_init_23 : decode cX5_init 23 = .ok (.newarray .int, 2) := by decide +kernel
theorem dX5_init_25 : decode cX5_init 25 = .ok (.putfield 18, 3) := by decide +kernel
theorem dX5_init_28 : decode cX5_init 28 = .ok (.aload_n 0, 1) := by decide +kernel
theorem dX5_init_29 : decode cX5_init 29 = .ok (.bipush 16, 2) := by decide +kernel
theorem dX5_init_31 : decode cX5_init 31 = .ok (.newarray .boolean, 2) := by decide +kernel
theorem dX5_init_33 : decode cX5_init 33 = .ok (.putfield 21, 3) := by decide +kernel
theorem dX5_init_36 : decode cX5_init 36 = .ok (.aload_n 0, 1) := by decide +kernel
theorem dX5_init_37 : decode cX5_init 37 = .ok (.bipush 31, 2) := by decide +kernel
theorem dX5_init_39 : decode cX5_init 39 = .ok (.newarray .int, 2) := by decide +kernel
theorem dX5_init_41 : decode cX5_init 41 = .ok (.putfield 25, 3) := by decide +kernel
theorem dX5_init_44 : decode cX5_init 44 = .ok (.aload_n 0, 1) := by decide +kernel
theorem dX5_init_45 : decode cX5_init 45 = .ok (.bipush 31, 2) := by decide +kernel
theorem dX5_init_47 : decode cX5_init 47 = .ok (.newarray .int, 2) := by decide +kernel
theorem dX5_init_49 : decode cX5_init 49 = .ok (.putfield 28, 3) := by decide +kernel
theorem dX5_init_52 : decode cX5_init 52 = .ok (.aload_n 0, 1) := by decide +kernel
theorem dX5_init_53 : decode cX5_init 53 = .ok (.bipush 31, 2) := by decide +kernel
theorem dX5_init_55 : decode cX5_init 55 = .ok (.newarray .int, 2) := by decide +kernel
theorem dX5_init_57 : decode cX5_init 57 = .ok (.putfield 31, 3) := by decide +kernel
theorem dX5_init_60 : decode cX5_init 60 = .ok (.aload_n 0, 1) := by decide +kernel
theorem dX5_init_61 : decode cX5_init 61 = .ok (.bipush 31, 2) := by decide +kernel
theorem dX5_init_63 : decode cX5_init 63 = .ok (.newarray .int, 2) := by decide +kernel
theorem dX5_init_65 : decode cX5_init 65 = .ok (.putfield 34, 3) := by decide +kernel
theorem dX5_init_68 : decode cX5_init 68 = .ok (.aload_n 0, 1) := by decide +kernel
theorem dX5_init_69 : decode cX5_init 69 = .ok (.sipush 186, 3) := by decide +kernel
theorem dX5_init_72 : decode cX5_init 72 = .ok (.newarray .int, 2) := by decide +kernel
theorem dX5_init_74 : decode cX5_init 74 = .ok (.putfield 37, 3) := by decide +kernel
theorem dX5_init_77 : decode cX5_init 77 = .ok (.aload_n 0, 1) := by decide +kernel
theorem dX5_init_78 : decode cX5_init 78 = .ok (.sipush 496, 3) := by decide +kernel
theorem dX5_init_81 : decode cX5_init 81 = .ok (.newarray .int, 2) := by decide +kernel
theorem dX5_init_83 : decode cX5_init 83 = .ok (.putfield 40, 3) := by decide +kernel
theorem dX5_init_86 : decode cX5_init 86 = .ok (.aload_n 0, 1) := by decide +kernel
theorem dX5_init_87 : decode cX5_init 87 = .ok (.bipush 6, 2) := by decide +kernel
theorem dX5_init_89 : decode cX5_init 89 = .ok (.newarray .int, 2) := by decide +kernel
theorem dX5_init_91 : decode cX5_init 91 = .ok (.putfield 43, 3) := by decide +kernel
theorem dX5_init_94 : decode cX5_init 94 = .ok (.return_, 1) := by decide +kernel
theorem dX5_hasNote_0 : decode cX5_hasNote 0 = .ok (.iload_n 1, 1) := by decide +kernel
theorem dX5_hasNote_1 : decode cX5_hasNote 1 = .ok (.ifCond .lt 15, 3) := by decide +kernel
theorem dX5_hasNote_4 : decode cX5_hasNote 4 = .ok (.iload_n 1, 1) := by decide +kernel
theorem dX5_hasNote_5 : decode cX5_hasNote 5 = .ok (.aload_n 0, 1) := by decide +kernel
theorem dX5_hasNote_6 : decode cX5_hasNote 6 = .ok (.getfield 46, 3) := by decide +kernel
theorem dX5_hasNote_9 : decode cX5_hasNote 9 = .ok (.if_icmp .ge 7, 3) := by decide +kernel
theorem dX5_hasNote_12 : decode cX5_hasNote 12 = .ok (.iconst 1, 1) := by decide +kernel
theorem dX5_hasNote_13 : decode cX5_hasNote 13 = .ok (.goto 4, 3) := by decide +kernel
theorem dX5_hasNote_16 : decode cX5_hasNote 16 = .ok (.iconst 0, 1) := by decide +kernel
theorem dX5_hasNote_17 : decode cX5_hasNote 17 = .ok (.ireturn, 1) := by decide +kernel
theorem dX5_hasSet_0 : decode cX5_hasSet 0 = .ok (.iload_n 1, 1) := by decide +kernel
theorem dX5_hasSet_1 : decode cX5_hasSet 1 = .ok (.ifCond .lt 15, 3) := by decide +kernel
theorem dX5_hasSet_4 : decode cX5_hasSet 4 = .ok (.iload_n 1, 1) := by decide +kernel
theorem dX5_hasSet_5 : decode cX5_hasSet 5 = .ok (.aload_n 0, 1) := by decide +kernel
theorem dX5_hasSet_6 : decode cX5_hasSet 6 = .ok (.getfield 50, 3) := by decide +kernel
theorem dX5_hasSet_9 : decode cX5_hasSet 9 = .ok (.if_icmp .ge 7, 3) := by decide +kernel
theorem dX5_hasSet_12 : decode cX5_hasSet 12 = .ok (.iconst 1, 1) := by decide +kernel
theorem dX5_hasSet_13 : decode cX5_hasSet 13 = .ok (.goto 4, 3) := by decide +kernel
theorem dX5_hasSet_16 : decode cX5_hasSet 16 = .ok (.iconst 0, 1) := by decide +kernel
theorem dX5_hasSet_17 : decode cX5_hasSet 17 = .ok (.ireturn, 1) := by decide +kernel
theorem dX5_isPart_0 : decode cX5_isPart 0 = .ok (.aload_n 0, 1) := by decide +kernel
theorem dX5_isPart_1 : decode cX5_isPart 1 = .ok (.iload_n 1, 1) := by decide +kernel
theorem dX5_isPart_2 : decode cX5_isPart 2 = .ok (.invokevirtual 53, 3) := by decide +kernel
theorem dX5_isPart_5 : decode cX5_isPart 5 = .ok (.ifCond .eq 24, 3) := by decide +kernel
theorem dX5_isPart_8 : decode cX5_isPart 8 = .ok (.aload_n 0, 1) := by decide +kernel
theorem dX5_isPart_9 : decode cX5_isPart 9 = .ok (.iload_n 2, 1) := by decide +kernel
theorem dX5_isPart_10 : decode cX5_isPart 10 = .ok (.invokevirtual 57, 3) := by decide +kernel
theorem dX5_isPart_13 : decode cX5_isPart 13 = .ok (.ifCond .eq 16, 3) := by decide +kernel
theorem dX5_isPart_16 : decode cX5_isPart 16 = .ok (.aload_n 0, 1) := by decide +kernel
theorem dX5_isPart_17 : decode cX5_isPart 17 = .ok (.iload_n 1, 1) := by decide +kernel
theorem dX5_isPart_18 : decode cX5_isPart 18 = .ok (.iload_n 2, 1) := by decide +kernel
theorem dX5_isPart_19 : decode cX5_isPart 19 = .ok (.invokevirtual 60, 3) := by decide +kernel
theorem dX5_isPart_22 : decode cX5_isPart 22 = .ok (.ifCond .eq 7, 3) := by decide +kernel
theorem dX5_isPart_25 : decode cX5_isPart 25 = .ok (.iconst 1, 1) := by decide +kernel
theorem dX5_isPart_26 : decode cX5_isPart 26 = .ok (.goto 4, 3) := by decide +kernel
theorem dX5_isPart_29 : decode cX5_isPart 29 = .ok (.iconst 0, 1) := by decide +kernel
theorem dX5_isPart_30 : decode cX5_isPart 30 = .ok (.ireturn, 1) := by decide +kernel
theorem dX5_isIn_0 : decode cX5_isIn 0 = .ok (.aload_n 0, 1) := by decide +kernel
theorem dX5_isIn_1 : decode cX5_isIn 1 = .ok (.aload_n 0, 1) := by decide +kernel
theorem dX5_isIn_2 : decode cX5_isIn 2 = .ok (.getfield 25, 3) := by decide +kernel
theorem dX5_isIn_5 : decode cX5_isIn 5 = .ok (.iload_n 1, 1) := by decide +kernel
theorem dX5_isIn_6 : decode cX5_isIn 6 = .ok (.iaload, 1) := by decide +kernel
theorem dX5_isIn_7 : decode cX5_isIn 7 = .ok (.iload_n 2, 1) := by decide +kernel
theorem dX5_isIn_8 : decode cX5_isIn 8 = .ok (.invokevirtual 64, 3) := by decide +kernel
theorem dX5_isIn_11 : decode cX5_isIn 11 = .ok (.ireturn, 1) := by decide +kernel
theorem dX5_isAt_0 : decode cX5_isAt 0 = .ok (.aload_n 0, 1) := by decide +kernel
theorem dX5_isAt_1 : decode cX5_isAt 1 = .ok (.getfield 15, 3) := by decide +kernel
theorem dX5_isAt_4 : decode cX5_isAt 4 = .ok (.iload_n 2, 1) := by decide +kernel
theorem dX5_isAt_5 : decode cX5_isAt 5 = .ok (.iaload, 1) := by decide +kernel
theorem dX5_isAt_6 : decode cX5_isAt 6 = .ok (.iload_n 1, 1) := by decide +kernel
theorem dX5_isAt_7 : decode cX5_isAt 7 = .ok (.if_icmp .gt 17, 3) := by decide +kernel
theorem dX5_isAt_10 : decode cX5_isAt 10 = .ok (.iload_n 1, 1) := by decide +kernel
theorem dX5_isAt_11 : decode cX5_isAt 11 = .ok (.aload_n 0, 1) := by decide +kernel
theorem dX5_isAt_12 : decode cX5_isAt 12 = .ok (.getfield 18, 3) := by decide +kernel
theorem dX5_isAt_15 : decode cX5_isAt 15 = .ok (.iload_n 2, 1) := by decide +kernel
theorem dX5_isAt_16 : decode cX5_isAt 16 = .ok (.iaload, 1) := by decide +kernel
theorem dX5_isAt_17 : decode cX5_isAt 17 = .ok (.if_icmp .ge 7, 3) := by decide +kernel
theorem dX5_isAt_20 : decode cX5_isAt 20 = .ok (.iconst 1, 1) := by decide +kernel
theorem dX5_isAt_21 : decode cX5_isAt 21 = .ok (.goto 4, 3) := by decide +kernel
theorem dX5_isAt_24 : decode cX5_isAt 24 = .ok (.iconst 0, 1) := by decide +kernel
theorem dX5_isAt_25 : decode cX5_isAt 25 = .ok (.ireturn, 1) := by decide +kernel
theorem dX5_equalOf_0 : decode cX5_equalOf 0 = .ok (.sipush 10000, 3) := by decide +kernel
theorem dX5_equalOf_3 : decode cX5_equalOf 3 = .ok (.aload_n 0, 1) := by decide +kernel
theorem dX5_equalOf_4 : decode cX5_equalOf 4 = .ok (.getfield 9, 3) := by decide +kernel
theorem dX5_equalOf_7 : decode cX5_equalOf 7 = .ok (.iload_n 1, 1) := by decide +kernel
theorem dX5_equalOf_8 : decode cX5_equalOf 8 = .ok (.iaload, 1) := by decide +kernel
theorem dX5_equalOf_9 : decode cX5_equalOf 9 = .ok (.imul, 1) := by decide +kernel
theorem dX5_equalOf_10 : decode cX5_equalOf 10 = .ok (.ireturn, 1) := by decide +kernel
theorem dX5_baseKey_0 : decode cX5_baseKey 0 = .ok (.aload_n 0, 1) := by decide +kernel
theorem dX5_baseKey_1 : decode cX5_baseKey 1 = .ok (.getfield 9, 3) := by decide +kernel
theorem dX5_baseKey_4 : decode cX5_baseKey 4 = .ok (.aload_n 0, 1) := by decide +kernel
theorem dX5_baseKey_5 : decode cX5_baseKey 5 = .ok (.getfield 31, 3) := by decide +kernel
theorem dX5_baseKey_8 : decode cX5_baseKey 8 = .ok (.iload_n 1, 1) := by decide +kernel
theorem dX5_baseKey_9 : decode cX5_baseKey 9 = .ok (.iaload, 1) := by decide +kernel
theorem dX5_baseKey_10 : decode cX5_baseKey 10 = .ok (.iaload, 1) := by decide +kernel
theorem dX5_baseKey_11 : decode cX5_baseKey 11 = .ok (.ireturn, 1) := by decide +kernel
theorem dX5_variableOf_0 : decode cX5_variableOf 0 = .ok (.aload_n 0, 1) := by decide +kernel
theorem dX5_variableOf_1 : decode cX5_variableOf 1 = .ok (.getfield 40, 3) := by decide +kernel
theorem dX5_variableOf_4 : decode cX5_variableOf 4 = .ok (.iload_n 1, 1) := by decide +kernel
theorem dX5_variableOf_5 : decode cX5_variableOf 5 = .ok (.bipush 16, 2) := by decide +kernel
theorem dX5_variableOf_7 : decode cX5_variableOf 7 = .ok (.imul, 1) := by decide +kernel
theorem dX5_variableOf_8 : decode cX5_variableOf 8 = .ok (.iload_n 2, 1) := by decide +kernel
theorem dX5_variableOf_9 : decode cX5_variableOf 9 = .ok (.iadd, 1) := by decide +kernel
theorem dX5_variableOf_10 : decode cX5_variableOf 10 = .ok (.iaload, 1) := by decide +kernel
theorem dX5_variableOf_11 : decode cX5_variableOf 11 = .ok (.ireturn, 1) := by decide +kernel
theorem dX5_isFullFor_0 : decode cX5_isFullFor 0 = .ok (.aload_n 0, 1) := by decide +kernel
theorem dX5_isFullFor_1 : decode cX5_isFullFor 1 = .ok (.getfield 46, 3) := by decide +kernel
theorem dX5_isFullFor_4 : decode cX5_isFullFor 4 = .ok (.bipush 16, 2) := by decide +kernel
theorem dX5_isFullFor_6 : decode cX5_isFullFor 6 = .ok (.if_icmp .ge 13, 3) := by decide +kernel
theorem dX5_isFullFor_9 : decode cX5_isFullFor 9 = .ok (.aload_n 0, 1) := by decide +kernel
theorem dX5_isFullFor_10 : decode cX5_isFullFor 10 = .ok (.iload_n 1, 1) := by decide +kernel
theorem dX5_isFullFor_11 : decode cX5_isFullFor 11 = .ok (.invokevirtual 67, 3) := by decide +kernel
theorem dX5_isFullFor_14 : decode cX5_isFullFor 14 = .ok (.bipush 6, 2) := by decide +kernel
theorem dX5_isFullFor_16 : decode cX5_isFullFor 16 = .ok (.if_icmp .lt 5, 3) := by decide +kernel
theorem dX5_isFullFor_19 : decode cX5_isFullFor 19 = .ok (.iconst 1, 1) := by decide +kernel
theorem dX5_isFullFor_20 : decode cX5_isFullFor 20 = .ok (.ireturn, 1) := by decide +kernel
theorem dX5_isFullFor_21 : decode cX5_isFullFor 21 = .ok (.iconst 0, 1) := by decide +kernel
theorem dX5_isFullFor_22 : decode cX5_isFullFor 22 = .ok (.istore_n 3, 1) := by decide +kernel
theorem dX5_isFullFor_23 : decode cX5_isFullFor 23 = .ok (.iload_n 3, 1) := by decide +kernel
theorem dX5_isFullFor_24 : decode cX5_isFullFor 24 = .ok (.aload_n 0, 1) := by decide +kernel
theorem dX5_isFullFor_25 : decode cX5_isFullFor 25 = .ok (.getfield 46, 3) := by decide +kernel
theorem dX5_isFullFor_28 : decode cX5_isFullFor 28 = .ok (.if_icmp .ge 42, 3) := by decide +kernel
theorem dX5_isFullFor_31 : decode cX5_isFullFor 31 = .ok (.aload_n 0, 1) := by decide +kernel
theorem dX5_isFullFor_32 : decode cX5_isFullFor 32 = .ok (.getfield 15, 3) := by decide +kernel
theorem dX5_isFullFor_35 : decode cX5_isFullFor 35 = .ok (.iload_n 3, 1) := by decide +kernel
theorem dX5_isFullFor_36 : decode cX5_isFullFor 36 = .ok (.iaload, 1) := by decide +kernel
theorem dX5_isFullFor_37 : decode cX5_isFullFor 37 = .ok (.istore 4, 2) := by decide +kernel
theorem dX5_isFullFor_39 : decode cX5_isFullFor 39 = .ok (.iload 4, 2) := by decide +kernel
theorem dX5_isFullFor_41 : decode cX5_isFullFor 41 = .ok (.iload_n 1, 1) := by decide +kernel
theorem dX5_isFullFor_42 : decode cX5_isFullFor 42 = .ok (.if_icmp .le 22, 3) := by decide +kernel
theorem dX5_isFullFor_45 : decode cX5_isFullFor 45 = .ok (.iload 4, 2) := by decide +kernel
theorem dX5_isFullFor_47 : decode cX5_isFullFor 47 = .ok (.iload_n 2, 1) := by decide +kernel
theorem dX5_isFullFor_48 : decode cX5_isFullFor 48 = .ok (.if_icmp .ge 16, 3) := by decide +kernel
theorem dX5_isFullFor_51 : decode cX5_isFullFor 51 = .ok (.aload_n 0, 1) := by decide +kernel
theorem dX5_isFullFor_52 : decode cX5_isFullFor 52 = .ok (.iload 4, 2) := by decide +kernel
theorem dX5_isFullFor_54 : decode cX5_isFullFor 54 = .ok (.invokevirtual 67, 3) := by decide +kernel
theorem dX5_isFullFor_57 : decode cX5_isFullFor 57 = .ok (.bipush 6, 2) := by decide +kernel
theorem dX5_isFullFor_59 : decode cX5_isFullFor 59 = .ok (.if_icmp .lt 5, 3) := by decide +kernel
theorem dX5_isFullFor_62 : decode cX5_isFullFor 62 = .ok (.iconst 1, 1) := by decide +kernel
theorem dX5_isFullFor_63 : decode cX5_isFullFor 63 = .ok (.ireturn, 1) := by decide +kernel
theorem dX5_isFullFor_64 : decode cX5_isFullFor 64 = .ok (.iinc 3 1, 3) := by decide +kernel
theorem dX5_isFullFor_67 : decode cX5_isFullFor 67 = .ok (.goto (-44), 3) := by decide +kernel
theorem dX5_isFullFor_70 : decode cX5_isFullFor 70 = .ok (.iconst 0, 1) := by decide +kernel
theorem dX5_isFullFor_71 : decode cX5_isFullFor 71 = .ok (.ireturn, 1) := by decide +kernel
theorem dX5_soundingAt_0 : decode cX5_soundingAt 0 = .ok (.iconst 0, 1) := by decide +kernel
theorem dX5_soundingAt_1 : decode cX5_soundingAt 1 = .ok (.istore_n 2, 1) := by decide +kernel
theorem dX5_soundingAt_2 : decode cX5_soundingAt 2 = .ok (.iconst 0, 1) := by decide +kernel
theorem dX5_soundingAt_3 : decode cX5_soundingAt 3 = .ok (.istore_n 3, 1) := by decide +kernel
theorem dX5_soundingAt_4 : decode cX5_soundingAt 4 = .ok (.iload_n 3, 1) := by decide +kernel
theorem dX5_soundingAt_5 : decode cX5_soundingAt 5 = .ok (.aload_n 0, 1) := by decide +kernel
theorem dX5_soundingAt_6 : decode cX5_soundingAt 6 = .ok (.getfield 46, 3) := by decide +kernel
theorem dX5_soundingAt_9 : decode cX5_soundingAt 9 = .ok (.if_icmp .ge 21, 3) := by decide +kernel
theorem dX5_soundingAt_12 : decode cX5_soundingAt 12 = .ok (.aload_n 0, 1) := by decide +kernel
theorem dX5_soundingAt_13 : decode cX5_soundingAt 13 = .ok (.iload_n 1, 1) := by decide +kernel
theorem dX5_soundingAt_14 : decode cX5_soundingAt 14 = .ok (.iload_n 3, 1) := by decide +kernel
theorem dX5_soundingAt_15 : decode cX5_soundingAt 15 = .ok (.invokevirtual 64, 3) := by decide +kernel
theorem dX5_soundingAt_18 : decode cX5_soundingAt 18 = .ok (.ifCond .eq 6, 3) := by decide +kernel
theorem dX5_soundingAt_21 : decode cX5_soundingAt 21 = .ok (.iinc 2 1, 3) := by decide +kernel
theorem dX5_soundingAt_24 : decode cX5_soundingAt 24 = .ok (.iinc 3 1, 3) := by decide +kernel
theorem dX5_soundingAt_27 : decode cX5_soundingAt 27 = .ok (.goto (-23), 3) := by decide +kernel
theorem dX5_soundingAt_30 : decode cX5_soundingAt 30 = .ok (.iload_n 2, 1) := by decide +kernel
theorem dX5_soundingAt_31 : decode cX5_soundingAt 31 = .ok (.ireturn, 1) := by decide +kernel
theorem dX5_append_0 : decode cX5_append 0 = .ok (.aload_n 0, 1) := by decide +kernel
theorem dX5_append_1 : decode cX5_append 1 = .ok (.getfield 46, 3) := by decide +kernel
theorem dX5_append_4 : decode cX5_append 4 = .ok (.istore 4, 2) := by decide +kernel
theorem dX5_append_6 : decode cX5_append 6 = .ok (.aload_n 0, 1) := by decide +kernel
theorem dX5_append_7 : decode cX5_append 7 = .ok (.getfield 9, 3) := by decide +kernel
theorem dX5_append_10 : decode cX5_append 10 = .ok (.iload 4, 2) := by decide +kernel
theorem dX5_append_12 : decode cX5_append 12 = .ok (.iload_n 1, 1) := by decide +kernel
theorem dX5_append_13 : decode cX5_append 13 = .ok (.iastore, 1) := by decide +kernel
theorem dX5_append_14 : decode cX5_append 14 = .ok (.aload_n 0, 1) := by decide +kernel
theorem dX5_append_15 : decode cX5_append 15 = .ok (.getfield 15, 3) := by decide +kernel
theorem dX5_append_18 : decode cX5_append 18 = .ok (.iload 4, 2) := by decide +kernel
theorem dX5_append_20 : decode cX5_append 20 = .ok (.iload_n 2, 1) := by decide +kernel
theorem dX5_append_21 : decode cX5_append 21 = .ok (.iastore, 1) := by decide +kernel
theorem dX5_append_22 : decode cX5_append 22 = .ok (.aload_n 0, 1) := by decide +kernel
theorem dX5_append_23 : decode cX5_append 23 = .ok (.getfield 18, 3) := by decide +kernel
theorem dX5_append_26 : decode cX5_append 26 = .ok (.iload 4, 2) := by decide +kernel
theorem dX5_append_28 : decode cX5_append 28 = .ok (.iload_n 3, 1) := by decide +kernel
theorem dX5_append_29 : decode cX5_append 29 = .ok (.iastore, 1) := by decide +kernel
theorem dX5_append_30 : decode cX5_append 30 = .ok (.aload_n 0, 1) := by decide +kernel
theorem dX5_append_31 : decode cX5_append 31 = .ok (.getfield 21, 3) := by decide +kernel
theorem dX5_append_34 : decode cX5_append 34 = .ok (.iload 4, 2) := by decide +kernel
theorem dX5_append_36 : decode cX5_append 36 = .ok (.iconst 0, 1) := by decide +kernel
theorem dX5_append_37 : decode cX5_append 37 = .ok (.bastore, 1) := by decide +kernel
theorem dX5_append_38 : decode cX5_append 38 = .ok (.aload_n 0, 1) := by decide +kernel
theorem dX5_append_39 : decode cX5_append 39 = .ok (.iload 4, 2) := by decide +kernel
theorem dX5_append_41 : decode cX5_append 41 = .ok (.iconst 1, 1) := by decide +kernel
theorem dX5_append_42 : decode cX5_append 42 = .ok (.iadd, 1) := by decide +kernel
theorem dX5_append_43 : decode cX5_append 43 = .ok (.putfield 46, 3) := by decide +kernel
theorem dX5_append_46 : decode cX5_append 46 = .ok (.aload_n 0, 1) := by decide +kernel
theorem dX5_append_47 : decode cX5_append 47 = .ok (.invokevirtual 71, 3) := by decide +kernel
theorem dX5_append_50 : decode cX5_append 50 = .ok (.aload_n 0, 1) := by decide +kernel
theorem dX5_append_51 : decode cX5_append 51 = .ok (.invokevirtual 74, 3) := by decide +kernel
theorem dX5_append_54 : decode cX5_append 54 = .ok (.iload 4, 2) := by decide +kernel
theorem dX5_append_56 : decode cX5_append 56 = .ok (.ireturn, 1) := by decide +kernel
theorem dX5_removeAll_0 : decode cX5_removeAll 0 = .ok (.aload_n 0, 1) := by decide +kernel
theorem dX5_removeAll_1 : decode cX5_removeAll 1 = .ok (.getfield 46, 3) := by decide +kernel
theorem dX5_removeAll_4 : decode cX5_removeAll 4 = .ok (.istore_n 1, 1) := by decide +kernel
theorem dX5_removeAll_5 : decode cX5_removeAll 5 = .ok (.aload_n 0, 1) := by decide +kernel
theorem dX5_removeAll_6 : decode cX5_removeAll 6 = .ok (.iconst 0, 1) := by decide +kernel
theorem dX5_removeAll_7 : decode cX5_removeAll 7 = .ok (.putfield 46, 3) := by decide +kernel
theorem dX5_removeAll_10 : decode cX5_removeAll 10 = .ok (.aload_n 0, 1) := by decide +kernel
theorem dX5_removeAll_11 : decode cX5_removeAll 11 = .ok (.iconst 0, 1) := by decide +kernel
theorem dX5_removeAll_12 : decode cX5_removeAll 12 = .ok (.putfield 50, 3) := by decide +kernel
theorem dX5_removeAll_15 : decode cX5_removeAll 15 = .ok (.aload_n 0, 1) := by decide +kernel
theorem dX5_removeAll_16 : decode cX5_removeAll 16 = .ok (.iconst 0, 1) := by decide +kernel
theorem dX5_removeAll_17 : decode cX5_removeAll 17 = .ok (.putfield 77, 3) := by decide +kernel
theorem dX5_removeAll_20 : decode cX5_removeAll 20 = .ok (.iload_n 1, 1) := by decide +kernel
theorem dX5_removeAll_21 : decode cX5_removeAll 21 = .ok (.ireturn, 1) := by decide +kernel
theorem dX5_tie_0 : decode cX5_tie 0 = .ok (.aload_n 0, 1) := by decide +kernel
theorem dX5_tie_1 : decode cX5_tie 1 = .ok (.getfield 21, 3) := by decide +kernel
theorem dX5_tie_4 : decode cX5_tie 4 = .ok (.iload_n 1, 1) := by decide +kernel
theorem dX5_tie_5 : decode cX5_tie 5 = .ok (.baload, 1) := by decide +kernel
theorem dX5_tie_6 : decode cX5_tie 6 = .ok (.istore_n 3, 1) := by decide +kernel
theorem dX5_tie_7 : decode cX5_tie 7 = .ok (.aload_n 0, 1) := by decide +kernel
theorem dX5_tie_8 : decode cX5_tie 8 = .ok (.getfield 21, 3) := by decide +kernel
theorem dX5_tie_11 : decode cX5_tie 11 = .ok (.iload_n 1, 1) := by decide +kernel
theorem dX5_tie_12 : decode cX5_tie 12 = .ok (.iload_n 2, 1) := by decide +kernel
theorem dX5_tie_13 : decode cX5_tie 13 = .ok (.bastore, 1) := by decide +kernel
theorem dX5_tie_14 : decode cX5_tie 14 = .ok (.aload_n 0, 1) := by decide +kernel
theorem dX5_tie_15 : decode cX5_tie 15 = .ok (.invokevirtual 74, 3) := by decide +kernel
theorem dX5_tie_18 : decode cX5_tie 18 = .ok (.iload_n 3, 1) := by decide +kernel
theorem dX5_tie_19 : decode cX5_tie 19 = .ok (.ireturn, 1) := by decide +kernel
theorem dX5_findSets_0 : decode cX5_findSets 0 = .ok (.aload_n 0, 1) := by decide +kernel
theorem dX5_findSets_1 : decode cX5_findSets 1 = .ok (.iconst 0, 1) := by decide +kernel
theorem dX5_findSets_2 : decode cX5_findSets 2 = .ok (.putfield 50, 3) := by decide +kernel
theorem dX5_findSets_5 : decode cX5_findSets 5 = .ok (.aload_n 0, 1) := by decide +kernel
theorem dX5_findSets_6 : decode cX5_findSets 6 = .ok (.iconst (-1), 1) := by decide +kernel
theorem dX5_findSets_7 : decode cX5_findSets 7 = .ok (.invokevirtual 80, 3) := by decide +kernel
theorem dX5_findSets_10 : decode cX5_findSets 10 = .ok (.istore_n 1, 1) := by decide +kernel
theorem dX5_findSets_11 : decode cX5_findSets 11 = .ok (.iconst 0, 1) := by decide +kernel
theorem dX5_findSets_12 : decode cX5_findSets 12 = .ok (.istore_n 2, 1) := by decide +kernel
theorem dX5_findSets_13 : decode cX5_findSets 13 = .ok (.iload_n 2, 1) := by decide +kernel
theorem dX5_findSets_14 : decode cX5_findSets 14 = .ok (.bipush 31, 2) := by decide +kernel
theorem dX5_findSets_16 : decode cX5_findSets 16 = .ok (.if_icmp .ge 38, 3) := by decide +kernel
theorem dX5_findSets_19 : decode cX5_findSets 19 = .ok (.iload_n 1, 1) := by decide +kernel
theorem dX5_findSets_20 : decode cX5_findSets 20 = .ok (.sipush 9999, 3) := by decide +kernel
theorem dX5_findSets_23 : decode cX5_findSets 23 = .ok (.if_icmp .ge 31, 3) := by decide +kernel
theorem dX5_findSets_26 : decode cX5_findSets 26 = .ok (.aload_n 0, 1) := by decide +kernel
theorem dX5_findSets_27 : decode cX5_findSets 27 = .ok (.iload_n 1, 1) := by decide +kernel
theorem dX5_findSets_28 : decode cX5_findSets 28 = .ok (.invokevirtual 80, 3) := by decide +kernel
theorem dX5_findSets_31 : decode cX5_findSets 31 = .ok (.istore_n 3, 1) := by decide +kernel
theorem dX5_findSets_32 : decode cX5_findSets 32 = .ok (.aload_n 0, 1) := by decide +kernel
theorem dX5_findSets_33 : decode cX5_findSets 33 = .ok (.iload_n 1, 1) := by decide +kernel
theorem dX5_findSets_34 : decode cX5_findSets 34 = .ok (.invokevirtual 67, 3) := by decide +kernel
theorem dX5_findSets_37 : decode cX5_findSets 37 = .ok (.ifCond .le 9, 3) := by decide +kernel
theorem dX5_findSets_40 : decode cX5_findSets 40 = .ok (.aload_n 0, 1) := by decide +kernel
theorem dX5_findSets_41 : decode cX5_findSets 41 = .ok (.iload_n 1, 1) := by decide +kernel
theorem dX5_findSets_42 : decode cX5_findSets 42 = .ok (.iload_n 3, 1) := by decide +kernel
theorem dX5_findSets_43 : decode cX5_findSets 43 = .ok (.invokevirtual 83, 3) := by decide +kernel
theorem dX5_findSets_46 : decode cX5_findSets 46 = .ok (.iload_n 3, 1) := by decide +kernel
theorem dX5_findSets_47 : decode cX5_findSets 47 = .ok (.istore_n 1, 1) := by decide +kernel
theorem dX5_findSets_48 : decode cX5_findSets 48 = .ok (.iinc 2 1, 3) := by decide +kernel
theorem dX5_findSets_51 : decode cX5_findSets 51 = .ok (.goto (-38), 3) := by decide +kernel
theorem dX5_findSets_54 : decode cX5_findSets 54 = .ok (.return_, 1) := by decide +kernel
theorem dX5_tickAfter_0 : decode cX5_tickAfter 0 = .ok (.sipush 9999, 3) := by decide +kernel
theorem dX5_tickAfter_3 : decode cX5_tickAfter 3 = .ok (.istore_n 2, 1) := by decide +kernel
theorem dX5_tickAfter_4 : decode cX5_tickAfter 4 = .ok (.iconst 0, 1) := by decide +kernel
theorem dX5_tickAfter_5 : decode cX5_tickAfter 5 = .ok (.istore_n 3, 1) := by decide +kernel
theorem dX5_tickAfter_6 : decode cX5_tickAfter 6 = .ok (.iload_n 3, 1) := by decide +kernel
theorem dX5_tickAfter_7 : decode cX5_tickAfter 7 = .ok (.aload_n 0, 1) := by decide +kernel
theorem dX5_tickAfter_8 : decode cX5_tickAfter 8 = .ok (.getfield 46, 3) := by decide +kernel
theorem dX5_tickAfter_11 : decode cX5_tickAfter 11 = .ok (.if_icmp .ge 51, 3) := by decide +kernel
theorem dX5_tickAfter_14 : decode cX5_tickAfter 14 = .ok (.aload_n 0, 1) := by decide +kernel
theorem dX5_tickAfter_15 : decode cX5_tickAfter 15 = .ok (.getfield 15, 3) := by decide +kernel
theorem dX5_tickAfter_18 : decode cX5_tickAfter 18 = .ok (.iload_n 3, 1) := by decide +kernel
theorem dX5_tickAfter_19 : decode cX5_tickAfter 19 = .ok (.iaload, 1) := by decide +kernel
theorem dX5_tickAfter_20 : decode cX5_tickAfter 20 = .ok (.iload_n 1, 1) := by decide +kernel
theorem dX5_tickAfter_21 : decode cX5_tickAfter 21 = .ok (.if_icmp .le 14, 3) := by decide +kernel
theorem dX5_tickAfter_24 : decode cX5_tickAfter 24 = .ok (.iload_n 2, 1) := by decide +kernel
theorem dX5_tickAfter_25 : decode cX5_tickAfter 25 = .ok (.aload_n 0, 1) := by decide +kernel
theorem dX5_tickAfter_26 : decode cX5_tickAfter 26 = .ok (.getfield 15, 3) := by decide +kernel
theorem dX5_tickAfter_29 : decode cX5_tickAfter 29 = .ok (.iload_n 3, 1) := by decide +kernel
theorem dX5_tickAfter_30 : decode cX5_tickAfter 30 = .ok (.iaload, 1) := by decide +kernel
theorem dX5_tickAfter_31 : decode cX5_tickAfter 31 = .ok (.invokestatic 87, 3) := by decide +kernel
theorem dX5_tickAfter_34 : decode cX5_tickAfter 34 = .ok (.istore_n 2, 1) := by decide +kernel
theorem dX5_tickAfter_35 : decode cX5_tickAfter 35 = .ok (.aload_n 0, 1) := by decide +kernel
theorem dX5_tickAfter_36 : decode cX5_tickAfter 36 = .ok (.getfield 18, 3) := by decide +kernel
theorem dX5_tickAfter_39 : decode cX5_tickAfter 39 = .ok (.iload_n 3, 1) := by decide +kernel
theorem dX5_tickAfter_40 : decode cX5_tickAfter 40 = .ok (.iaload, 1) := by decide +kernel
theorem dX5_tickAfter_41 : decode cX5_tickAfter 41 = .ok (.iload_n 1, 1) := by decide +kernel
theorem dX5_tickAfter_42 : decode cX5_tickAfter 42 = .ok (.if_icmp .le 14, 3) := by decide +kernel
theorem dX5_tickAfter_45 : decode cX5_tickAfter 45 = .ok (.iload_n 2, 1) := by decide +kernel
theorem dX5_tickAfter_46 : decode cX5_tickAfter 46 = .ok (.aload_n 0, 1) := by decide +kernel
theorem dX5_tickAfter_47 : decode cX5_tickAfter 47 = .ok (.getfield 18, 3) := by decide +kernel
theorem dX5_tickAfter_50 : decode cX5_tickAfter 50 = .ok (.iload_n 3, 1) := by decide +kernel
theorem dX5_tickAfter_51 : decode cX5_tickAfter 51 = .ok (.iaload, 1) := by decide +kernel
theorem dX5_tickAfter_52 : decode cX5_tickAfter 52 = .ok (.invokestatic 87, 3) := by decide +kernel
theorem dX5_tickAfter_55 : decode cX5_tickAfter 55 = .ok (.istore_n 2, 1) := by decide +kernel
theorem dX5_tickAfter_56 : decode cX5_tickAfter 56 = .ok (.iinc 3 1, 3) := by decide +kernel
theorem dX5_tickAfter_59 : decode cX5_tickAfter 59 = .ok (.goto (-53), 3) := by decide +kernel
theorem dX5_tickAfter_62 : decode cX5_tickAfter 62 = .ok (.iload_n 2, 1) := by decide +kernel
theorem dX5_tickAfter_63 : decode cX5_tickAfter 63 = .ok (.ireturn, 1) := by decide +kernel
theorem dX5_appendSet_0 : decode cX5_appendSet 0 = .ok (.aload_n 0, 1) := by decide +kernel
theorem dX5_appendSet_1 : decode cX5_appendSet 1 = .ok (.getfield 50, 3) := by decide +kernel
theorem dX5_appendSet_4 : decode cX5_appendSet 4 = .ok (.istore_n 3, 1) := by decide +kernel
theorem dX5_appendSet_5 : decode cX5_appendSet 5 = .ok (.iconst 0, 1) := by decide +kernel
theorem dX5_appendSet_6 : decode cX5_appendSet 6 = .ok (.istore 4, 2) := by decide +kernel
theorem dX5_appendSet_8 : decode cX5_appendSet 8 = .ok (.iconst (-1), 1) := by decide +kernel
theorem dX5_appendSet_9 : decode cX5_appendSet 9 = .ok (.istore 5, 2) := by decide +kernel
theorem dX5_appendSet_11 : decode cX5_appendSet 11 = .ok (.iconst 0, 1) := by decide +kernel
theorem dX5_appendSet_12 : decode cX5_appendSet 12 = .ok (.istore 6, 2) := by decide +kernel
theorem dX5_appendSet_14 : decode cX5_appendSet 14 = .ok (.iload 6, 2) := by decide +kernel
theorem dX5_appendSet_16 : decode cX5_appendSet 16 = .ok (.aload_n 0, 1) := by decide +kernel
theorem dX5_appendSet_17 : decode cX5_appendSet 17 = .ok (.getfield 46, 3) := by decide +kernel
theorem dX5_appendSet_20 : decode cX5_appendSet 20 = .ok (.if_icmp .ge 74, 3) := by decide +kernel
theorem dX5_appendSet_23 : decode cX5_appendSet 23 = .ok (.iload 4, 2) := by decide +kernel
theorem dX5_appendSet_25 : decode cX5_appendSet 25 = .ok (.bipush 6, 2) := by decide +kernel
theorem dX5_appendSet_27 : decode cX5_appendSet 27 = .ok (.if_icmp .ge 67, 3) := by decide +kernel
theorem dX5_appendSet_30 : decode cX5_appendSet 30 = .ok (.aload_n 0, 1) := by decide +kernel
theorem dX5_appendSet_31 : decode cX5_appendSet 31 = .ok (.iload_n 1, 1) := by decide +kernel
theorem dX5_appendSet_32 : decode cX5_appendSet 32 = .ok (.iload 6, 2) := by decide +kernel
theorem dX5_appendSet_34 : decode cX5_appendSet 34 = .ok (.invokevirtual 64, 3) := by decide +kernel
theorem dX5_appendSet_37 : decode cX5_appendSet 37 = .ok (.ifCond .eq 51, 3) := by decide +kernel
theorem dX5_appendSet_40 : decode cX5_appendSet 40 = .ok (.aload_n 0, 1) := by decide +kernel
theorem dX5_appendSet_41 : decode cX5_appendSet 41 = .ok (.getfield 37, 3) := by decide +kernel
theorem dX5_appendSet_44 : decode cX5_appendSet 44 = .ok (.iload_n 3, 1) := by decide +kernel
theorem dX5_appendSet_45 : decode cX5_appendSet 45 = .ok (.bipush 6, 2) := by decide +kernel
theorem dX5_appendSet_47 : decode cX5_appendSet 47 = .ok (.imul, 1) := by decide +kernel
theorem dX5_appendSet_48 : decode cX5_appendSet 48 = .ok (.iload 4, 2) := by decide +kernel
theorem dX5_appendSet_50 : decode cX5_appendSet 50 = .ok (.iadd, 1) := by decide +kernel
theorem dX5_appendSet_51 : decode cX5_appendSet 51 = .ok (.iload 6, 2) := by decide +kernel
theorem dX5_appendSet_53 : decode cX5_appendSet 53 = .ok (.iastore, 1) := by decide +kernel
theorem dX5_appendSet_54 : decode cX5_appendSet 54 = .ok (.iinc 4 1, 3) := by decide +kernel
theorem dX5_appendSet_57 : decode cX5_appendSet 57 = .ok (.iload 5, 2) := by decide +kernel
theorem dX5_appendSet_59 : decode cX5_appendSet 59 = .ok (.ifCond .lt 20, 3) := by decide +kernel
theorem dX5_appendSet_62 : decode cX5_appendSet 62 = .ok (.aload_n 0, 1) := by decide +kernel
theorem dX5_appendSet_63 : decode cX5_appendSet 63 = .ok (.getfield 9, 3) := by decide +kernel
theorem dX5_appendSet_66 : decode cX5_appendSet 66 = .ok (.iload 6, 2) := by decide +kernel
theorem dX5_appendSet_68 : decode cX5_appendSet 68 = .ok (.iaload, 1) := by decide +kernel
theorem dX5_appendSet_69 : decode cX5_appendSet 69 = .ok (.aload_n 0, 1) := by decide +kernel
theorem dX5_appendSet_70 : decode cX5_appendSet 70 = .ok (.getfield 9, 3) := by decide +kernel
theorem dX5_appendSet_73 : decode cX5_appendSet 73 = .ok (.iload 5, 2) := by decide +kernel
theorem dX5_appendSet_75 : decode cX5_appendSet 75 = .ok (.iaload, 1) := by decide +kernel
theorem dX5_appendSet_76 : decode cX5_appendSet 76 = .ok (.if_icmp .ge 8, 3) := by decide +kernel
theorem dX5_appendSet_79 : decode cX5_appendSet 79 = .ok (.iload 6, 2) := by decide +kernel
theorem dX5_appendSet_81 : decode cX5_appendSet 81 = .ok (.goto 5, 3) := by decide +kernel
theorem dX5_appendSet_84 : decode cX5_appendSet 84 = .ok (.iload 5, 2) := by decide +kernel
theorem dX5_appendSet_86 : decode cX5_appendSet 86 = .ok (.istore 5, 2) := by decide +kernel
theorem dX5_appendSet_88 : decode cX5_appendSet 88 = .ok (.iinc 6 1, 3) := by decide +kernel
theorem dX5_appendSet_91 : decode cX5_appendSet 91 = .ok (.goto (-77), 3) := by decide +kernel
theorem dX5_appendSet_94 : decode cX5_appendSet 94 = .ok (.aload_n 0, 1) := by decide +kernel
theorem dX5_appendSet_95 : decode cX5_appendSet 95 = .ok (.getfield 25, 3) := by decide +kernel
theorem dX5_appendSet_98 : decode cX5_appendSet 98 = .ok (.iload_n 3, 1) := by decide +kernel
theorem dX5_appendSet_99 : decode cX5_appendSet 99 = .ok (.iload_n 1, 1) := by decide +kernel
theorem dX5_appendSet_100 : decode cX5_appendSet 100 = .ok (.iastore, 1) := by decide +kernel
theorem dX5_appendSet_101 : decode cX5_appendSet 101 = .ok (.aload_n 0, 1) := by decide +kernel
theorem dX5_appendSet_102 : decode cX5_appendSet 102 = .ok (.getfield 28, 3) := by decide +kernel
theorem dX5_appendSet_105 : decode cX5_appendSet 105 = .ok (.iload_n 3, 1) := by decide +kernel
theorem dX5_appendSet_106 : decode cX5_appendSet 106 = .ok (.iload_n 2, 1) := by decide +kernel
theorem dX5_appendSet_107 : decode cX5_appendSet 107 = .ok (.iastore, 1) := by decide +kernel
theorem dX5_appendSet_108 : decode cX5_appendSet 108 = .ok (.aload_n 0, 1) := by decide +kernel
theorem dX5_appendSet_109 : decode cX5_appendSet 109 = .ok (.getfield 34, 3) := by decide +kernel
theorem dX5_appendSet_112 : decode cX5_appendSet 112 = .ok (.iload_n 3, 1) := by decide +kernel
theorem dX5_appendSet_113 : decode cX5_appendSet 113 = .ok (.iload 4, 2) := by decide +kernel
theorem dX5_appendSet_115 : decode cX5_appendSet 115 = .ok (.iastore, 1) := by decide +kernel
theorem dX5_appendSet_116 : decode cX5_appendSet 116 = .ok (.aload_n 0, 1) := by decide +kernel
theorem dX5_appendSet_117 : decode cX5_appendSet 117 = .ok (.getfield 31, 3) := by decide +kernel
theorem dX5_appendSet_120 : decode cX5_appendSet 120 = .ok (.iload_n 3, 1) := by decide +kernel
theorem dX5_appendSet_121 : decode cX5_appendSet 121 = .ok (.iload 5, 2) := by decide +kernel
theorem dX5_appendSet_123 : decode cX5_appendSet 123 = .ok (.iconst 0, 1) := by decide +kernel
theorem dX5_appendSet_124 : decode cX5_appendSet 124 = .ok (.invokestatic 93, 3) := by decide +kernel
theorem dX5_appendSet_127 : decode cX5_appendSet 127 = .ok (.iastore, 1) := by decide +kernel
theorem dX5_appendSet_128 : decode cX5_appendSet 128 = .ok (.aload_n 0, 1) := by decide +kernel
theorem dX5_appendSet_129 : decode cX5_appendSet 129 = .ok (.iload_n 3, 1) := by decide +kernel
theorem dX5_appendSet_130 : decode cX5_appendSet 130 = .ok (.iconst 1, 1) := by decide +kernel
theorem dX5_appendSet_131 : decode cX5_appendSet 131 = .ok (.iadd, 1) := by decide +kernel
theorem dX5_appendSet_132 : decode cX5_appendSet 132 = .ok (.putfield 50, 3) := by decide +kernel
theorem dX5_appendSet_135 : decode cX5_appendSet 135 = .ok (.return_, 1) := by decide +kernel
theorem dX5_numberVariables_0 : decode cX5_numberVariables 0 = .ok (.aload_n 0, 1) := by decide +kernel
theorem dX5_numberVariables_1 : decode cX5_numberVariables 1 = .ok (.iconst 0, 1) := by decide +kernel
theorem dX5_numberVariables_2 : decode cX5_numberVariables 2 = .ok (.putfield 77, 3) := by decide +kernel
theorem dX5_numberVariables_5 : decode cX5_numberVariables 5 = .ok (.iconst 0, 1) := by decide +kernel
theorem dX5_numberVariables_6 : decode cX5_numberVariables 6 = .ok (.istore_n 1, 1) := by decide +kernel
theorem dX5_numberVariables_7 : decode cX5_numberVariables 7 = .ok (.iload_n 1, 1) := by decide +kernel
theorem dX5_numberVariables_8 : decode cX5_numberVariables 8 = .ok (.aload_n 0, 1) := by decide +kernel
theorem dX5_numberVariables_9 : decode cX5_numberVariables 9 = .ok (.getfield 50, 3) := by decide +kernel
theorem dX5_numberVariables_12 : decode cX5_numberVariables 12 = .ok (.if_icmp .ge 110, 3) := by decide +kernel
theorem dX5_numberVariables_15 : decode cX5_numberVariables 15 = .ok (.iconst 0, 1) := by decide +kernel
theorem dX5_numberVariables_16 : decode cX5_numberVariables 16 = .ok (.istore_n 2, 1) := by decide +kernel
theorem dX5_numberVariables_17 : decode cX5_numberVariables 17 = .ok (.iload_n 2, 1) := by decide +kernel
theorem dX5_numberVariables_18 : decode cX5_numberVariables 18 = .ok (.aload_n 0, 1) := by decide +kernel
theorem dX5_numberVariables_19 : decode cX5_numberVariables 19 = .ok (.getfield 34, 3) := by decide +kernel
theorem dX5_numberVariables_22 : decode cX5_numberVariables 22 = .ok (.iload_n 1, 1) := by decide +kernel
theorem dX5_numberVariables_23 : decode cX5_numberVariables 23 = .ok (.iaload, 1) := by decide +kernel
theorem dX5_numberVariables_24 : decode cX5_numberVariables 24 = .ok (.if_icmp .ge 92, 3) := by decide +kernel
theorem dX5_numberVariables_27 : decode cX5_numberVariables 27 = .ok (.aload_n 0, 1) := by decide +kernel
theorem dX5_numberVariables_28 : decode cX5_numberVariables 28 = .ok (.getfield 37, 3) := by decide +kernel
theorem dX5_numberVariables_31 : decode cX5_numberVariables 31 = .ok (.iload_n 1, 1) := by decide +kernel
theorem dX5_numberVariables_32 : decode cX5_numberVariables 32 = .ok (.bipush 6, 2) := by decide +kernel
theorem dX5_numberVariables_34 : decode cX5_numberVariables 34 = .ok (.imul, 1) := by decide +kernel
theorem dX5_numberVariables_35 : decode cX5_numberVariables 35 = .ok (.iload_n 2, 1) := by decide +kernel
theorem dX5_numberVariables_36 : decode cX5_numberVariables 36 = .ok (.iadd, 1) := by decide +kernel
theorem dX5_numberVariables_37 : decode cX5_numberVariables 37 = .ok (.iaload, 1) := by decide +kernel
theorem dX5_numberVariables_38 : decode cX5_numberVariables 38 = .ok (.istore_n 3, 1) := by decide +kernel
theorem dX5_numberVariables_39 : decode cX5_numberVariables 39 = .ok (.aload_n 0, 1) := by decide +kernel
theorem dX5_numberVariables_40 : decode cX5_numberVariables 40 = .ok (.getfield 21, 3) := by decide +kernel
theorem dX5_numberVariables_43 : decode cX5_numberVariables 43 = .ok (.iload_n 3, 1) := by decide +kernel
theorem dX5_numberVariables_44 : decode cX5_numberVariables 44 = .ok (.baload, 1) := by decide +kernel
theorem dX5_numberVariables_45 : decode cX5_numberVariables 45 = .ok (.ifCond .eq 40, 3) := by decide +kernel
theorem dX5_numberVariables_48 : decode cX5_numberVariables 48 = .ok (.iload_n 1, 1) := by decide +kernel
theorem dX5_numberVariables_49 : decode cX5_numberVariables 49 = .ok (.ifCond .le 36, 3) := by decide +kernel
theorem dX5_numberVariables_52 : decode cX5_numberVariables 52 = .ok (.aload_n 0, 1) := by decide +kernel
theorem dX5_numberVariables_53 : decode cX5_numberVariables 53 = .ok (.iload_n 1, 1) := by decide +kernel
theorem dX5_numberVariables_54 : decode cX5_numberVariables 54 = .ok (.iconst 1, 1) := by decide +kernel
theorem dX5_numberVariables_55 : decode cX5_numberVariables 55 = .ok (.isub, 1) := by decide +kernel
theorem dX5_numberVariables_56 : decode cX5_numberVariables 56 = .ok (.iload_n 3, 1) := by decide +kernel
theorem dX5_numberVariables_57 : decode cX5_numberVariables 57 = .ok (.invokevirtual 60, 3) := by decide +kernel
theorem dX5_numberVariables_60 : decode cX5_numberVariables 60 = .ok (.ifCond .eq 25, 3) := by decide +kernel
theorem dX5_numberVariables_63 : decode cX5_numberVariables 63 = .ok (.aload_n 0, 1) := by decide +kernel
theorem dX5_numberVariables_64 : decode cX5_numberVariables 64 = .ok (.getfield 40, 3) := by decide +kernel
theorem dX5_numberVariables_67 : decode cX5_numberVariables 67 = .ok (.iload_n 1, 1) := by decide +kernel
theorem dX5_numberVariables_68 : decode cX5_numberVariables 68 = .ok (.bipush 16, 2) := by decide +kernel
theorem dX5_numberVariables_70 : decode cX5_numberVariables 70 = .ok (.imul, 1) := by decide +kernel
theorem dX5_numberVariables_71 : decode cX5_numberVariables 71 = .ok (.iload_n 3, 1) := by decide +kernel
theorem dX5_numberVariables_72 : decode cX5_numberVariables 72 = .ok (.iadd, 1) := by decide +kernel
theorem dX5_numberVariables_73 : decode cX5_numberVariables 73 = .ok (.aload_n 0, 1) := by decide +kernel
theorem dX5_numberVariables_74 : decode cX5_numberVariables 74 = .ok (.iload_n 1, 1) := by decide +kernel
theorem dX5_numberVariables_75 : decode cX5_numberVariables 75 = .ok (.iconst 1, 1) := by decide +kernel
theorem dX5_numberVariables_76 : decode cX5_numberVariables 76 = .ok (.isub, 1) := by decide +kernel
theorem dX5_numberVariables_77 : decode cX5_numberVariables 77 = .ok (.iload_n 3, 1) := by decide +kernel
theorem dX5_numberVariables_78 : decode cX5_numberVariables 78 = .ok (.invokevirtual 96, 3) := by decide +kernel
theorem dX5_numberVariables_81 : decode cX5_numberVariables 81 = .ok (.iastore, 1) := by decide +kernel
theorem dX5_numberVariables_82 : decode cX5_numberVariables 82 = .ok (.goto 28, 3) := by decide +kernel
theorem dX5_numberVariables_85 : decode cX5_numberVariables 85 = .ok (.aload_n 0, 1) := by decide +kernel
theorem dX5_numberVariables_86 : decode cX5_numberVariables 86 = .ok (.getfield 40, 3) := by decide +kernel
theorem dX5_numberVariables_89 : decode cX5_numberVariables 89 = .ok (.iload_n 1, 1) := by decide +kernel
theorem dX5_numberVariables_90 : decode cX5_numberVariables 90 = .ok (.bipush 16, 2) := by decide +kernel
theorem dX5_numberVariables_92 : decode cX5_numberVariables 92 = .ok (.imul, 1) := by decide +kernel
theorem dX5_numberVariables_93 : decode cX5_numberVariables 93 = .ok (.iload_n 3, 1) := by decide +kernel
theorem dX5_numberVariables_94 : decode cX5_numberVariables 94 = .ok (.iadd, 1) := by decide +kernel
theorem dX5_numberVariables_95 : decode cX5_numberVariables 95 = .ok (.aload_n 0, 1) := by decide +kernel
theorem dX5_numberVariables_96 : decode cX5_numberVariables 96 = .ok (.getfield 77, 3) := by decide +kernel
theorem dX5_numberVariables_99 : decode cX5_numberVariables 99 = .ok (.iastore, 1) := by decide +kernel
theorem dX5_numberVariables_100 : decode cX5_numberVariables 100 = .ok (.aload_n 0, 1) := by decide +kernel
theorem dX5_numberVariables_101 : decode cX5_numberVariables 101 = .ok (.dup, 1) := by decide +kernel
theorem dX5_numberVariables_102 : decode cX5_numberVariables 102 = .ok (.getfield 77, 3) := by decide +kernel
theorem dX5_numberVariables_105 : decode cX5_numberVariables 105 = .ok (.iconst 1, 1) := by decide +kernel
theorem dX5_numberVariables_106 : decode cX5_numberVariables 106 = .ok (.iadd, 1) := by decide +kernel
theorem dX5_numberVariables_107 : decode cX5_numberVariables 107 = .ok (.putfield 77, 3) := by decide +kernel
theorem dX5_numberVariables_110 : decode cX5_numberVariables 110 = .ok (.iinc 2 1, 3) := by decide +kernel
theorem dX5_numberVariables_113 : decode cX5_numberVariables 113 = .ok (.goto (-96), 3) := by decide +kernel
theorem dX5_numberVariables_116 : decode cX5_numberVariables 116 = .ok (.iinc 1 1, 3) := by decide +kernel
theorem dX5_numberVariables_119 : decode cX5_numberVariables 119 = .ok (.goto (-112), 3) := by decide +kernel
theorem dX5_numberVariables_122 : decode cX5_numberVariables 122 = .ok (.return_, 1) := by decide +kernel
theorem dX5_findCommon_0 : decode cX5_findCommon 0 = .ok (.aload_n 0, 1) := by decide +kernel
theorem dX5_findCommon_1 : decode cX5_findCommon 1 = .ok (.iconst 0, 1) := by decide +kernel
theorem dX5_findCommon_2 : decode cX5_findCommon 2 = .ok (.putfield 99, 3) := by decide +kernel
theorem dX5_findCommon_5 : decode cX5_findCommon 5 = .ok (.aload_n 0, 1) := by decide +kernel
theorem dX5_findCommon_6 : decode cX5_findCommon 6 = .ok (.iload_n 1, 1) := by decide +kernel
theorem dX5_findCommon_7 : decode cX5_findCommon 7 = .ok (.invokevirtual 53, 3) := by decide +kernel
theorem dX5_findCommon_10 : decode cX5_findCommon 10 = .ok (.ifCond .eq 13, 3) := by decide +kernel
theorem dX5_findCommon_13 : decode cX5_findCommon 13 = .ok (.aload_n 0, 1) := by decide +kernel
theorem dX5_findCommon_14 : decode cX5_findCommon 14 = .ok (.iload_n 1, 1) := by decide +kernel
theorem dX5_findCommon_15 : decode cX5_findCommon 15 = .ok (.iconst 1, 1) := by decide +kernel
theorem dX5_findCommon_16 : decode cX5_findCommon 16 = .ok (.iadd, 1) := by decide +kernel
theorem dX5_findCommon_17 : decode cX5_findCommon 17 = .ok (.invokevirtual 53, 3) := by decide +kernel
theorem dX5_findCommon_20 : decode cX5_findCommon 20 = .ok (.ifCond .ne 4, 3) := by decide +kernel
theorem dX5_findCommon_23 : decode cX5_findCommon 23 = .ok (.return_, 1) := by decide +kernel
theorem dX5_findCommon_24 : decode cX5_findCommon 24 = .ok (.iconst 0, 1) := by decide +kernel
theorem dX5_findCommon_25 : decode cX5_findCommon 25 = .ok (.istore_n 2, 1) := by decide +kernel
theorem dX5_findCommon_26 : decode cX5_findCommon 26 = .ok (.iload_n 2, 1) := by decide +kernel
theorem dX5_findCommon_27 : decode cX5_findCommon 27 = .ok (.aload_n 0, 1) := by decide +kernel
theorem dX5_findCommon_28 : decode cX5_findCommon 28 = .ok (.getfield 34, 3) := by decide +kernel
theorem dX5_findCommon_31 : decode cX5_findCommon 31 = .ok (.iload_n 1, 1) := by decide +kernel
theorem dX5_findCommon_32 : decode cX5_findCommon 32 = .ok (.iaload, 1) := by decide +kernel
theorem dX5_findCommon_33 : decode cX5_findCommon 33 = .ok (.if_icmp .ge 52, 3) := by decide +kernel
theorem dX5_findCommon_36 : decode cX5_findCommon 36 = .ok (.aload_n 0, 1) := by decide +kernel
theorem dX5_findCommon_37 : decode cX5_findCommon 37 = .ok (.getfield 37, 3) := by decide +kernel
theorem dX5_findCommon_40 : decode cX5_findCommon 40 = .ok (.iload_n 1, 1) := by decide +kernel
theorem dX5_findCommon_41 : decode cX5_findCommon 41 = .ok (.bipush 6, 2) := by decide +kernel
theorem dX5_findCommon_43 : decode cX5_findCommon 43 = .ok (.imul, 1) := by decide +kernel
theorem dX5_findCommon_44 : decode cX5_findCommon 44 = .ok (.iload_n 2, 1) := by decide +kernel
theorem dX5_findCommon_45 : decode cX5_findCommon 45 = .ok (.iadd, 1) := by decide +kernel
theorem dX5_findCommon_46 : decode cX5_findCommon 46 = .ok (.iaload, 1) := by decide +kernel
theorem dX5_findCommon_47 : decode cX5_findCommon 47 = .ok (.istore_n 3, 1) := by decide +kernel
theorem dX5_findCommon_48 : decode cX5_findCommon 48 = .ok (.aload_n 0, 1) := by decide +kernel
theorem dX5_findCommon_49 : decode cX5_findCommon 49 = .ok (.iload_n 1, 1) := by decide +kernel
theorem dX5_findCommon_50 : decode cX5_findCommon 50 = .ok (.iconst 1, 1) := by decide +kernel
theorem dX5_findCommon_51 : decode cX5_findCommon 51 = .ok (.iadd, 1) := by decide +kernel
theorem dX5_findCommon_52 : decode cX5_findCommon 52 = .ok (.iload_n 3, 1) := by decide +kernel
theorem dX5_findCommon_53 : decode cX5_findCommon 53 = .ok (.invokevirtual 60, 3) := by decide +kernel
theorem dX5_findCommon_56 : decode cX5_findCommon 56 = .ok (.ifCond .eq 23, 3) := by decide +kernel
theorem dX5_findCommon_59 : decode cX5_findCommon 59 = .ok (.aload_n 0, 1) := by decide +kernel
theorem dX5_findCommon_60 : decode cX5_findCommon 60 = .ok (.getfield 43, 3) := by decide +kernel
theorem dX5_findCommon_63 : decode cX5_findCommon 63 = .ok (.aload_n 0, 1) := by decide +kernel
theorem dX5_findCommon_64 : decode cX5_findCommon 64 = .ok (.getfield 99, 3) := by decide +kernel
theorem dX5_findCommon_67 : decode cX5_findCommon 67 = .ok (.iload_n 3, 1) := by decide +kernel
theorem dX5_findCommon_68 : decode cX5_findCommon 68 = .ok (.iastore, 1) := by decide +kernel
theorem dX5_findCommon_69 : decode cX5_findCommon 69 = .ok (.aload_n 0, 1) := by decide +kernel
theorem dX5_findCommon_70 : decode cX5_findCommon 70 = .ok (.dup, 1) := by decide +kernel
theorem dX5_findCommon_71 : decode cX5_findCommon 71 = .ok (.getfield 99, 3) := by decide +kernel
theorem dX5_findCommon_74 : decode cX5_findCommon 74 = .ok (.iconst 1, 1) := by decide +kernel
theorem dX5_findCommon_75 : decode cX5_findCommon 75 = .ok (.iadd, 1) := by decide +kernel
theorem dX5_findCommon_76 : decode cX5_findCommon 76 = .ok (.putfield 99, 3) := by decide +kernel
theorem dX5_findCommon_79 : decode cX5_findCommon 79 = .ok (.iinc 2 1, 3) := by decide +kernel
theorem dX5_findCommon_82 : decode cX5_findCommon 82 = .ok (.goto (-56), 3) := by decide +kernel
theorem dX5_findCommon_85 : decode cX5_findCommon 85 = .ok (.return_, 1) := by decide +kernel
theorem dX6_init_0 : decode cX6_init 0 = .ok (.aload_n 0, 1) := by decide +kernel
theorem dX6_init_1 : decode cX6_init 1 = .ok (.invokespecial 3, 3) := by decide +kernel
theorem dX6_init_4 : decode cX6_init 4 = .ok (.aload_n 0, 1) := by decide +kernel
theorem dX6_init_5 : decode cX6_init 5 = .ok (.bipush 22, 2) := by decide +kernel
theorem dX6_init_7 : decode cX6_init 7 = .ok (.anewarray 9, 3) := by decide +kernel
theorem dX6_init_10 : decode cX6_init 10 = .ok (.putfield 11, 3) := by decide +kernel
theorem dX6_init_13 : decode cX6_init 13 = .ok (.aload_n 0, 1) := by decide +kernel
theorem dX6_init_14 : decode cX6_init 14 = .ok (.bipush 20, 2) := by decide +kernel
theorem dX6_init_16 : decode cX6_init 16 = .ok (.bipush 21, 2) := by decide +kernel
theorem dX6_init_18 : decode cX6_init 18 = .ok (.multianewarray 17 2, 4) := by decide +kernel
theorem dX6_init_22 : decode cX6_init 22 = .ok (.putfield 19, 3) := by decide +kernel
theorem dX6_init_25 : decode cX6_init 25 = .ok (.aload_n 0, 1) := by decide +kernel
theorem dX6_init_26 : decode cX6_init 26 = .ok (.bipush 11, 2) := by decide +kernel
theorem dX6_init_28 : decode cX6_init 28 = .ok (.bipush 22, 2) := by decide +kernel
theorem dX6_init_30 : decode cX6_init 30 = .ok (.multianewarray 17 2, 4) := by decide +kernel
theorem dX6_init_34 : decode cX6_init 34 = .ok (.putfield 22, 3) := by decide +kernel
theorem dX6_init_37 : decode cX6_init 37 = .ok (.aload_n 0, 1) := by decide +kernel
theorem dX6_init_38 : decode cX6_init 38 = .ok (.bipush 11, 2) := by decide +kernel
theorem dX6_init_40 : decode cX6_init 40 = .ok (.newarray .long, 2) := by decide +kernel
theorem dX6_init_42 : decode cX6_init 42 = .ok (.putfield 25, 3) := by decide +kernel
theorem dX6_init_45 : decode cX6_init 45 = .ok (.aload_n 0, 1) := by decide +kernel
theorem dX6_init_46 : decode cX6_init 46 = .ok (.bipush 11, 2) := by decide +kernel
theorem dX6_init_48 : decode cX6_init 48 = .ok (.newarray .long, 2) := by decide +kernel
theorem dX6_init_50 : decode cX6_init 50 = .ok (.putfield 29, 3) := by decide +kernel
theorem dX6_init_53 : decode cX6_init 53 = .ok (.aload_n 0, 1) := by decide +kernel
theorem dX6_init_54 : decode cX6_init 54 = .ok (.bipush 11, 2) := by decide +kernel
theorem dX6_init_56 : decode cX6_init 56 = .ok (.newarray .long, 2) := by decide +kernel
theorem dX6_init_58 : decode cX6_init 58 = .ok (.putfield 32, 3) := by decide +kernel
theorem dX6_init_61 : decode cX6_init 61 = .ok (.aload_n 0, 1) := by decide +kernel
theorem dX6_init_62 : decode cX6_init 62 = .ok (.aload_n 1, 1) := by decide +kernel
theorem dX6_init_63 : decode cX6_init 63 = .ok (.putfield 35, 3) := by decide +kernel
theorem dX6_init_66 : decode cX6_init 66 = .ok (.iconst 0, 1) := by decide +kernel
theorem dX6_init_67 : decode cX6_init 67 = .ok (.istore_n 2, 1) := by decide +kernel
theorem dX6_init_68 : decode cX6_init 68 = .ok (.iload_n 2, 1) := by decide +kernel
theorem dX6_init_69 : decode cX6_init 69 = .ok (.bipush 22, 2) := by decide +kernel
theorem dX6_init_71 : decode cX6_init 71 = .ok (.if_icmp .ge 22, 3) := by decide +kernel
theorem dX6_init_74 : decode cX6_init 74 = .ok (.aload_n 0, 1) := by decide +kernel
theorem dX6_init_75 : decode cX6_init 75 = .ok (.getfield 11, 3) := by decide +kernel
theorem dX6_init_78 : decode cX6_init 78 = .ok (.iload_n 2, 1) := by decide +kernel
theorem dX6_init_79 : decode cX6_init 79 = .ok (.new 9, 3) := by decide +kernel
theorem dX6_init_82 : decode cX6_init 82 = .ok (.dup, 1) := by decide +kernel
theorem dX6_init_83 : decode cX6_init 83 = .ok (.invokespecial 39, 3) := by decide +kernel
theorem dX6_init_86 : decode cX6_init 86 = .ok (.aastore, 1) := by decide +kernel
theorem dX6_init_87 : decode cX6_init 87 = .ok (.iinc 2 1, 3) := by decide +kernel
theorem dX6_init_90 : decode cX6_init 90 = .ok (.goto (-22), 3) := by decide +kernel
theorem dX6_init_93 : decode cX6_init 93 = .ok (.return_, 1) := by decide +kernel
theorem dX6_run_0 : decode cX6_run 0 = .ok (.aload_n 0, 1) := by decide +kernel
theorem dX6_run_1 : decode cX6_run 1 = .ok (.iconst 0, 1) := by decide +kernel
theorem dX6_run_2 : decode cX6_run 2 = .ok (.putfield 40, 3) := by decide +kernel
theorem dX6_run_5 : decode cX6_run 5 = .ok (.iconst 0, 1) := by decide +kernel
theorem dX6_run_6 : decode cX6_run 6 = .ok (.istore_n 1, 1) := by decide +kernel
theorem dX6_run_7 : decode cX6_run 7 = .ok (.iload_n 1, 1) := by decide +kernel
theorem dX6_run_8 : decode cX6_run 8 = .ok (.bipush 20, 2) := by decide +kernel
theorem dX6_run_10 : decode cX6_run 10 = .ok (.if_icmp .ge 50, 3) := by decide +kernel
theorem dX6_run_13 : decode cX6_run 13 = .ok (.aload_n 0, 1) := by decide +kernel
theorem dX6_run_14 : decode cX6_run 14 = .ok (.getfield 40, 3) := by decide +kernel
theorem dX6_run_17 : decode cX6_run 17 = .ok (.bipush 11, 2) := by decide +kernel
theorem dX6_run_19 : decode cX6_run 19 = .ok (.if_icmp .ge 41, 3) := by decide +kernel
theorem dX6_run_22 : decode cX6_run 22 = .ok (.aload_n 0, 1) := by decide +kernel
theorem dX6_run_23 : decode cX6_run 23 = .ok (.getstatic 44, 3) := by decide +kernel
theorem dX6_run_26 : decode cX6_run 26 = .ok (.iload_n 1, 1) := by decide +kernel
theorem dX6_run_27 : decode cX6_run 27 = .ok (.iaload, 1) := by decide +kernel
theorem dX6_run_28 : decode cX6_run 28 = .ok (.i2l, 1) := by decide +kernel
theorem dX6_run_29 : decode cX6_run 29 = .ok (.aload_n 0, 1) := by decide +kernel
theorem dX6_run_30 : decode cX6_run 30 = .ok (.getfield 22, 3) := by decide +kernel
theorem dX6_run_33 : decode cX6_run 33 = .ok (.aload_n 0, 1) := by decide +kernel
theorem dX6_run_34 : decode cX6_run 34 = .ok (.getfield 40, 3) := by decide +kernel
theorem dX6_run_37 : decode cX6_run 37 = .ok (.aaload, 1) := by decide +kernel
theorem dX6_run_38 : decode cX6_run 38 = .ok (.invokevirtual 48, 3) := by decide +kernel
theorem dX6_run_41 : decode cX6_run 41 = .ok (.ifCond .eq 13, 3) := by decide +kernel
theorem dX6_run_44 : decode cX6_run 44 = .ok (.aload_n 0, 1) := by decide +kernel
theorem dX6_run_45 : decode cX6_run 45 = .ok (.getstatic 44, 3) := by decide +kernel
theorem dX6_run_48 : decode cX6_run 48 = .ok (.iload_n 1, 1) := by decide +kernel
theorem dX6_run_49 : decode cX6_run 49 = .ok (.iaload, 1) := by decide +kernel
theorem dX6_run_50 : decode cX6_run 50 = .ok (.i2l, 1) := by decide +kernel
theorem dX6_run_51 : decode cX6_run 51 = .ok (.invokevirtual 52, 3) := by decide +kernel
theorem dX6_run_54 : decode cX6_run 54 = .ok (.iinc 1 1, 3) := by decide +kernel
theorem dX6_run_57 : decode cX6_run 57 = .ok (.goto (-50), 3) := by decide +kernel
theorem dX6_run_60 : decode cX6_run 60 = .ok (.iconst 0, 1) := by decide +kernel
theorem dX6_run_61 : decode cX6_run 61 = .ok (.istore_n 1, 1) := by decide +kernel
theorem dX6_run_62 : decode cX6_run 62 = .ok (.iload_n 1, 1) := by decide +kernel
theorem dX6_run_63 : decode cX6_run 63 = .ok (.aload_n 0, 1) := by decide +kernel
theorem dX6_run_64 : decode cX6_run 64 = .ok (.getfield 35, 3) := by decide +kernel
theorem dX6_run_67 : decode cX6_run 67 = .ok (.getfield 56, 3) := by decide +kernel
theorem dX6_run_70 : decode cX6_run 70 = .ok (.if_icmp .ge 14, 3) := by decide +kernel
theorem dX6_run_73 : decode cX6_run 73 = .ok (.aload_n 0, 1) := by decide +kernel
theorem dX6_run_74 : decode cX6_run 74 = .ok (.iload_n 1, 1) := by decide +kernel
theorem dX6_run_75 : decode cX6_run 75 = .ok (.invokevirtual 61, 3) := by decide +kernel
theorem dX6_run_78 : decode cX6_run 78 = .ok (.iinc 1 1, 3) := by decide +kernel
theorem dX6_run_81 : decode cX6_run 81 = .ok (.goto (-19), 3) := by decide +kernel
theorem dX6_run_84 : decode cX6_run 84 = .ok (.aload_n 0, 1) := by decide +kernel
theorem dX6_run_85 : decode cX6_run 85 = .ok (.bipush 20, 2) := by decide +kernel
theorem dX6_run_87 : decode cX6_run 87 = .ok (.invokevirtual 61, 3) := by decide +kernel
theorem dX6_run_90 : decode cX6_run 90 = .ok (.aload_n 0, 1) := by decide +kernel
theorem dX6_run_91 : decode cX6_run 91 = .ok (.bipush 21, 2) := by decide +kernel
theorem dX6_run_93 : decode cX6_run 93 = .ok (.invokevirtual 61, 3) := by decide +kernel
theorem dX6_run_96 : decode cX6_run 96 = .ok (.return_, 1) := by decide +kernel
theorem dX6_useModulus_0 : decode cX6_useModulus 0 = .ok (.lconst 1, 1) := by decide +kernel
theorem dX6_useModulus_1 : decode cX6_useModulus 1 = .ok (.lstore_n 3, 1) := by decide +kernel
theorem dX6_useModulus_2 : decode cX6_useModulus 2 = .ok (.iconst 0, 1) := by decide +kernel
theorem dX6_useModulus_3 : decode cX6_useModulus 3 = .ok (.istore 5, 2) := by decide +kernel
theorem dX6_useModulus_5 : decode cX6_useModulus 5 = .ok (.iload 5, 2) := by decide +kernel
theorem dX6_useModulus_7 : decode cX6_useModulus 7 = .ok (.aload_n 0, 1) := by decide +kernel
theorem dX6_useModulus_8 : decode cX6_useModulus 8 = .ok (.getfield 40, 3) := by decide +kernel
theorem dX6_useModulus_11 : decode cX6_useModulus 11 = .ok (.if_icmp .ge 21, 3) := by decide +kernel
theorem dX6_useModulus_14 : decode cX6_useModulus 14 = .ok (.lload_n 3, 1) := by decide +kernel
theorem dX6_useModulus_15 : decode cX6_useModulus 15 = .ok (.aload_n 0, 1) := by decide +kernel
theorem dX6_useModulus_16 : decode cX6_useModulus 16 = .ok (.getfield 25, 3) := by decide +kernel
theorem dX6_useModulus_19 : decode cX6_useModulus 19 = .ok (.iload 5, 2) := by decide +kernel
theorem dX6_useModulus_21 : decode cX6_useModulus 21 = .ok (.laload, 1) := by decide +kernel
theorem dX6_useModulus_22 : decode cX6_useModulus 22 = .ok (.lmul, 1) := by decide +kernel
theorem dX6_useModulus_23 : decode cX6_useModulus 23 = .ok (.lload_n 1, 1) := by decide +kernel
theorem dX6_useModulus_24 : decode cX6_useModulus 24 = .ok (.lrem, 1) := by decide +kernel
theorem dX6_useModulus_25 : decode cX6_useModulus 25 = .ok (.lstore_n 3, 1) := by decide +kernel
theorem dX6_useModulus_26 : decode cX6_useModulus 26 = .ok (.iinc 5 1, 3) := by decide +kernel
theorem dX6_useModulus_29 : decode cX6_useModulus 29 = .ok (.goto (-24), 3) := by decide +kernel
theorem dX6_useModulus_32 : decode cX6_useModulus 32 = .ok (.aload_n 0, 1) := by decide +kernel
theorem dX6_useModulus_33 : decode cX6_useModulus 33 = .ok (.getfield 25, 3) := by decide +kernel
theorem dX6_useModulus_36 : decode cX6_useModulus 36 = .ok (.aload_n 0, 1) := by decide +kernel
theorem dX6_useModulus_37 : decode cX6_useModulus 37 = .ok (.getfield 40, 3) := by decide +kernel
theorem dX6_useModulus_40 : decode cX6_useModulus 40 = .ok (.lload_n 1, 1) := by decide +kernel
theorem dX6_useModulus_41 : decode cX6_useModulus 41 = .ok (.lastore, 1) := by decide +kernel
theorem dX6_useModulus_42 : decode cX6_useModulus 42 = .ok (.aload_n 0, 1) := by decide +kernel
theorem dX6_useModulus_43 : decode cX6_useModulus 43 = .ok (.getfield 29, 3) := by decide +kernel
theorem dX6_useModulus_46 : decode cX6_useModulus 46 = .ok (.aload_n 0, 1) := by decide +kernel
theorem dX6_useModulus_47 : decode cX6_useModulus 47 = .ok (.getfield 40, 3) := by decide +kernel
theorem dX6_useModulus_50 : decode cX6_useModulus 50 = .ok (.lload_n 3, 1) := by decide +kernel
theorem dX6_useModulus_51 : decode cX6_useModulus 51 = .ok (.lload_n 1, 1) := by decide +kernel
theorem dX6_useModulus_52 : decode cX6_useModulus 52 = .ok (.invokestatic 65, 3) := by decide +kernel
theorem dX6_useModulus_55 : decode cX6_useModulus 55 = .ok (.lastore, 1) := by decide +kernel
theorem dX6_useModulus_56 : decode cX6_useModulus 56 = .ok (.aload_n 0, 1) := by decide +kernel
theorem dX6_useModulus_57 : decode cX6_useModulus 57 = .ok (.dup, 1) := by decide +kernel
theorem dX6_useModulus_58 : decode cX6_useModulus 58 = .ok (.getfield 40, 3) := by decide +kernel
theorem dX6_useModulus_61 : decode cX6_useModulus 61 = .ok (.iconst 1, 1) := by decide +kernel
theorem dX6_useModulus_62 : decode cX6_useModulus 62 = .ok (.iadd, 1) := by decide +kernel
theorem dX6_useModulus_63 : decode cX6_useModulus 63 = .ok (.putfield 40, 3) := by decide +kernel
theorem dX6_useModulus_66 : decode cX6_useModulus 66 = .ok (.return_, 1) := by decide +kernel
theorem dX6_solveBy_0 : decode cX6_solveBy 0 = .ok (.aload_n 0, 1) := by decide +kernel
theorem dX6_solveBy_1 : decode cX6_solveBy 1 = .ok (.lload_n 1, 1) := by decide +kernel
theorem dX6_solveBy_2 : decode cX6_solveBy 2 = .ok (.invokevirtual 69, 3) := by decide +kernel
theorem dX6_solveBy_5 : decode cX6_solveBy 5 = .ok (.aload_n 0, 1) := by decide +kernel
theorem dX6_solveBy_6 : decode cX6_solveBy 6 = .ok (.lload_n 1, 1) := by decide +kernel
theorem dX6_solveBy_7 : decode cX6_solveBy 7 = .ok (.invokevirtual 72, 3) := by decide +kernel
theorem dX6_solveBy_10 : decode cX6_solveBy 10 = .ok (.lstore 4, 2) := by decide +kernel
theorem dX6_solveBy_12 : decode cX6_solveBy 12 = .ok (.lload 4, 2) := by decide +kernel
theorem dX6_solveBy_14 : decode cX6_solveBy 14 = .ok (.lconst 0, 1) := by decide +kernel
theorem dX6_solveBy_15 : decode cX6_solveBy 15 = .ok (.lcmp, 1) := by decide +kernel
theorem dX6_solveBy_16 : decode cX6_solveBy 16 = .ok (.ifCond .ne 5, 3) := by decide +kernel
theorem dX6_solveBy_19 : decode cX6_solveBy 19 = .ok (.iconst 0, 1) := by decide +kernel
theorem dX6_solveBy_20 : decode cX6_solveBy 20 = .ok (.ireturn, 1) := by decide +kernel
theorem dX6_solveBy_21 : decode cX6_solveBy 21 = .ok (.aload_n 0, 1) := by decide +kernel
theorem dX6_solveBy_22 : decode cX6_solveBy 22 = .ok (.getfield 35, 3) := by decide +kernel
theorem dX6_solveBy_25 : decode cX6_solveBy 25 = .ok (.getfield 56, 3) := by decide +kernel
theorem dX6_solveBy_28 : decode cX6_solveBy 28 = .ok (.istore 6, 2) := by decide +kernel
theorem dX6_solveBy_30 : decode cX6_solveBy 30 = .ok (.iload 6, 2) := by decide +kernel
theorem dX6_solveBy_32 : decode cX6_solveBy 32 = .ok (.iconst 1, 1) := by decide +kernel
theorem dX6_solveBy_33 : decode cX6_solveBy 33 = .ok (.isub, 1) := by decide +kernel
theorem dX6_solveBy_34 : decode cX6_solveBy 34 = .ok (.istore 7, 2) := by decide +kernel
theorem dX6_solveBy_36 : decode cX6_solveBy 36 = .ok (.iload 7, 2) := by decide +kernel
theorem dX6_solveBy_38 : decode cX6_solveBy 38 = .ok (.ifCond .lt 72, 3) := by decide +kernel
theorem dX6_solveBy_41 : decode cX6_solveBy 41 = .ok (.aload_n 0, 1) := by decide +kernel
theorem dX6_solveBy_42 : decode cX6_solveBy 42 = .ok (.getfield 19, 3) := by decide +kernel
theorem dX6_solveBy_45 : decode cX6_solveBy 45 = .ok (.iload 7, 2) := by decide +kernel
theorem dX6_solveBy_47 : decode cX6_solveBy 47 = .ok (.aaload, 1) := by decide +kernel
theorem dX6_solveBy_48 : decode cX6_solveBy 48 = .ok (.iload 6, 2) := by decide +kernel
theorem dX6_solveBy_50 : decode cX6_solveBy 50 = .ok (.laload, 1) := by decide +kernel
theorem dX6_solveBy_51 : decode cX6_solveBy 51 = .ok (.lstore 8, 2) := by decide +kernel
theorem dX6_solveBy_53 : decode cX6_solveBy 53 = .ok (.iload 7, 2) := by decide +kernel
theorem dX6_solveBy_55 : decode cX6_solveBy 55 = .ok (.iconst 1, 1) := by decide +kernel
theorem dX6_solveBy_56 : decode cX6_solveBy 56 = .ok (.iadd, 1) := by decide +kernel
theorem dX6_solveBy_57 : decode cX6_solveBy 57 = .ok (.istore 10, 2) := by decide +kernel
theorem dX6_solveBy_59 : decode cX6_solveBy 59 = .ok (.iload 10, 2) := by decide +kernel
theorem dX6_solveBy_61 : decode cX6_solveBy 61 = .ok (.iload 6, 2) := by decide +kernel
theorem dX6_solveBy_63 : decode cX6_solveBy 63 = .ok (.if_icmp .ge 31, 3) := by decide +kernel
theorem dX6_solveBy_66 : decode cX6_solveBy 66 = .ok (.lload 8, 2) := by decide +kernel
theorem dX6_solveBy_68 : decode cX6_solveBy 68 = .ok (.aload_n 0, 1) := by decide +kernel
theorem dX6_solveBy_69 : decode cX6_solveBy 69 = .ok (.getfield 19, 3) := by decide +kernel
theorem dX6_solveBy_72 : decode cX6_solveBy 72 = .ok (.iload 7, 2) := by decide +kernel
theorem dX6_solveBy_74 : decode cX6_solveBy 74 = .ok (.aaload, 1) := by decide +kernel
theorem dX6_solveBy_75 : decode cX6_solveBy 75 = .ok (.iload 10, 2) := by decide +kernel
theorem dX6_solveBy_77 : decode cX6_solveBy 77 = .ok (.laload, 1) := by decide +kernel
theorem dX6_solveBy_78 : decode cX6_solveBy 78 = .ok (.aload_n 3, 1) := by decide +kernel
theorem dX6_solveBy_79 : decode cX6_solveBy 79 = .ok (.iload 10, 2) := by decide +kernel
theorem dX6_solveBy_81 : decode cX6_solveBy 81 = .ok (.laload, 1) := by decide +kernel
theorem dX6_solveBy_82 : decode cX6_solveBy 82 = .ok (.lmul, 1) := by decide +kernel
theorem dX6_solveBy_83 : decode cX6_solveBy 83 = .ok (.lload_n 1, 1) := by decide +kernel
theorem dX6_solveBy_84 : decode cX6_solveBy 84 = .ok (.lrem, 1) := by decide +kernel
theorem dX6_solveBy_85 : decode cX6_solveBy 85 = .ok (.lsub, 1) := by decide +kernel
theorem dX6_solveBy_86 : decode cX6_solveBy 86 = .ok (.lstore 8, 2) := by decide +kernel
theorem dX6_solveBy_88 : decode cX6_solveBy 88 = .ok (.iinc 10 1, 3) := by decide +kernel
theorem dX6_solveBy_91 : decode cX6_solveBy 91 = .ok (.goto (-32), 3) := by decide +kernel
theorem dX6_solveBy_94 : decode cX6_solveBy 94 = .ok (.aload_n 3, 1) := by decide +kernel
theorem dX6_solveBy_95 : decode cX6_solveBy 95 = .ok (.iload 7, 2) := by decide +kernel
theorem dX6_solveBy_97 : decode cX6_solveBy 97 = .ok (.lload 8, 2) := by decide +kernel
theorem dX6_solveBy_99 : decode cX6_solveBy 99 = .ok (.lload_n 1, 1) := by decide +kernel
theorem dX6_solveBy_100 : decode cX6_solveBy 100 = .ok (.invokestatic 76, 3) := by decide +kernel
theorem dX6_solveBy_103 : decode cX6_solveBy 103 = .ok (.lastore, 1) := by decide +kernel
theorem dX6_solveBy_104 : decode cX6_solveBy 104 = .ok (.iinc 7 (-1), 3) := by decide +kernel
theorem dX6_solveBy_107 : decode cX6_solveBy 107 = .ok (.goto (-71), 3) := by decide +kernel
theorem dX6_solveBy_110 : decode cX6_solveBy 110 = .ok (.aload_n 0, 1) := by decide +kernel
theorem dX6_solveBy_111 : decode cX6_solveBy 111 = .ok (.getfield 35, 3) := by decide +kernel
theorem dX6_solveBy_114 : decode cX6_solveBy 114 = .ok (.getfield 81, 3) := by decide +kernel
theorem dX6_solveBy_117 : decode cX6_solveBy 117 = .ok (.lload_n 1, 1) := by decide +kernel
theorem dX6_solveBy_118 : decode cX6_solveBy 118 = .ok (.invokestatic 76, 3) := by decide +kernel
theorem dX6_solveBy_121 : decode cX6_solveBy 121 = .ok (.lload 4, 2) := by decide +kernel
theorem dX6_solveBy_123 : decode cX6_solveBy 123 = .ok (.lmul, 1) := by decide +kernel
theorem dX6_solveBy_124 : decode cX6_solveBy 124 = .ok (.lload_n 1, 1) := by decide +kernel
theorem dX6_solveBy_125 : decode cX6_solveBy 125 = .ok (.lrem, 1) := by decide +kernel
theorem dX6_solveBy_126 : decode cX6_solveBy 126 = .ok (.lstore 7, 2) := by decide +kernel
theorem dX6_solveBy_128 : decode cX6_solveBy 128 = .ok (.iconst 0, 1) := by decide +kernel
theorem dX6_solveBy_129 : decode cX6_solveBy 129 = .ok (.istore 9, 2) := by decide +kernel
theorem dX6_solveBy_131 : decode cX6_solveBy 131 = .ok (.iload 9, 2) := by decide +kernel
theorem dX6_solveBy_133 : decode cX6_solveBy 133 = .ok (.iload 6, 2) := by decide +kernel
theorem dX6_solveBy_135 : decode cX6_solveBy 135 = .ok (.if_icmp .ge 48, 3) := by decide +kernel
theorem dX6_solveBy_138 : decode cX6_solveBy 138 = .ok (.aload_n 3, 1) := by decide +kernel
theorem dX6_solveBy_139 : decode cX6_solveBy 139 = .ok (.iload 9, 2) := by decide +kernel
theorem dX6_solveBy_141 : decode cX6_solveBy 141 = .ok (.aload_n 3, 1) := by decide +kernel
theorem dX6_solveBy_142 : decode cX6_solveBy 142 = .ok (.iload 9, 2) := by decide +kernel
theorem dX6_solveBy_144 : decode cX6_solveBy 144 = .ok (.laload, 1) := by decide +kernel
theorem dX6_solveBy_145 : decode cX6_solveBy 145 = .ok (.lload 4, 2) := by decide +kernel
theorem dX6_solveBy_147 : decode cX6_solveBy 147 = .ok (.lmul, 1) := by decide +kernel
theorem dX6_solveBy_148 : decode cX6_solveBy 148 = .ok (.lload_n 1, 1) := by decide +kernel
theorem dX6_solveBy_149 : decode cX6_solveBy 149 = .ok (.lrem, 1) := by decide +kernel
theorem dX6_solveBy_150 : decode cX6_solveBy 150 = .ok (.lastore, 1) := by decide +kernel
theorem dX6_solveBy_151 : decode cX6_solveBy 151 = .ok (.lload 7, 2) := by decide +kernel
theorem dX6_solveBy_153 : decode cX6_solveBy 153 = .ok (.aload_n 0, 1) := by decide +kernel
theorem dX6_solveBy_154 : decode cX6_solveBy 154 = .ok (.getfield 35, 3) := by decide +kernel
theorem dX6_solveBy_157 : decode cX6_solveBy 157 = .ok (.getfield 85, 3) := by decide +kernel
theorem dX6_solveBy_160 : decode cX6_solveBy 160 = .ok (.iload 9, 2) := by decide +kernel
theorem dX6_solveBy_162 : decode cX6_solveBy 162 = .ok (.laload, 1) := by decide +kernel
theorem dX6_solveBy_163 : decode cX6_solveBy 163 = .ok (.lload_n 1, 1) := by decide +kernel
theorem dX6_solveBy_164 : decode cX6_solveBy 164 = .ok (.invokestatic 76, 3) := by decide +kernel
theorem dX6_solveBy_167 : decode cX6_solveBy 167 = .ok (.aload_n 3, 1) := by decide +kernel
theorem dX6_solveBy_168 : decode cX6_solveBy 168 = .ok (.iload 9, 2) := by decide +kernel
theorem dX6_solveBy_170 : decode cX6_solveBy 170 = .ok (.laload, 1) := by decide +kernel
theorem dX6_solveBy_171 : decode cX6_solveBy 171 = .ok (.lmul, 1) := by decide +kernel
theorem dX6_solveBy_172 : decode cX6_solveBy 172 = .ok (.lload_n 1, 1) := by decide +kernel
theorem dX6_solveBy_173 : decode cX6_solveBy 173 = .ok (.lrem, 1) := by decide +kernel
theorem dX6_solveBy_174 : decode cX6_solveBy 174 = .ok (.lsub, 1) := by decide +kernel
theorem dX6_solveBy_175 : decode cX6_solveBy 175 = .ok (.lstore 7, 2) := by decide +kernel
theorem dX6_solveBy_177 : decode cX6_solveBy 177 = .ok (.iinc 9 1, 3) := by decide +kernel
theorem dX6_solveBy_180 : decode cX6_solveBy 180 = .ok (.goto (-49), 3) := by decide +kernel
theorem dX6_solveBy_183 : decode cX6_solveBy 183 = .ok (.aload_n 3, 1) := by decide +kernel
theorem dX6_solveBy_184 : decode cX6_solveBy 184 = .ok (.bipush 20, 2) := by decide +kernel
theorem dX6_solveBy_186 : decode cX6_solveBy 186 = .ok (.lload 4, 2) := by decide +kernel
theorem dX6_solveBy_188 : decode cX6_solveBy 188 = .ok (.lastore, 1) := by decide +kernel
theorem dX6_solveBy_189 : decode cX6_solveBy 189 = .ok (.aload_n 3, 1) := by decide +kernel
theorem dX6_solveBy_190 : decode cX6_solveBy 190 = .ok (.bipush 21, 2) := by decide +kernel
theorem dX6_solveBy_192 : decode cX6_solveBy 192 = .ok (.lload 7, 2) := by decide +kernel
theorem dX6_solveBy_194 : decode cX6_solveBy 194 = .ok (.lload_n 1, 1) := by decide +kernel
theorem dX6_solveBy_195 : decode cX6_solveBy 195 = .ok (.invokestatic 76, 3) := by decide +kernel
theorem dX6_solveBy_198 : decode cX6_solveBy 198 = .ok (.lastore, 1) := by decide +kernel
theorem dX6_solveBy_199 : decode cX6_solveBy 199 = .ok (.iconst 1, 1) := by decide +kernel
theorem dX6_solveBy_200 : decode cX6_solveBy 200 = .ok (.ireturn, 1) := by decide +kernel
theorem dX6_load_0 : decode cX6_load 0 = .ok (.aload_n 0, 1) := by decide +kernel
theorem dX6_load_1 : decode cX6_load 1 = .ok (.getfield 35, 3) := by decide +kernel
theorem dX6_load_4 : decode cX6_load 4 = .ok (.getfield 56, 3) := by decide +kernel
theorem dX6_load_7 : decode cX6_load 7 = .ok (.istore_n 3, 1) := by decide +kernel
theorem dX6_load_8 : decode cX6_load 8 = .ok (.iconst 0, 1) := by decide +kernel
theorem dX6_load_9 : decode cX6_load 9 = .ok (.istore 4, 2) := by decide +kernel
theorem dX6_load_11 : decode cX6_load 11 = .ok (.iload 4, 2) := by decide +kernel
theorem dX6_load_13 : decode cX6_load 13 = .ok (.iload_n 3, 1) := by decide +kernel
theorem dX6_load_14 : decode cX6_load 14 = .ok (.if_icmp .ge 74, 3) := by decide +kernel
theorem dX6_load_17 : decode cX6_load 17 = .ok (.iconst 0, 1) := by decide +kernel
theorem dX6_load_18 : decode cX6_load 18 = .ok (.istore 5, 2) := by decide +kernel
theorem dX6_load_20 : decode cX6_load 20 = .ok (.iload 5, 2) := by decide +kernel
theorem dX6_load_22 : decode cX6_load 22 = .ok (.iload_n 3, 1) := by decide +kernel
theorem dX6_load_23 : decode cX6_load 23 = .ok (.if_icmp .ge 36, 3) := by decide +kernel
theorem dX6_load_26 : decode cX6_load 26 = .ok (.aload_n 0, 1) := by decide +kernel
theorem dX6_load_27 : decode cX6_load 27 = .ok (.getfield 19, 3) := by decide +kernel
theorem dX6_load_30 : decode cX6_load 30 = .ok (.iload 4, 2) := by decide +kernel
theorem dX6_load_32 : decode cX6_load 32 = .ok (.aaload, 1) := by decide +kernel
theorem dX6_load_33 : decode cX6_load 33 = .ok (.iload 5, 2) := by decide +kernel
theorem dX6_load_35 : decode cX6_load 35 = .ok (.aload_n 0, 1) := by decide +kernel
theorem dX6_load_36 : decode cX6_load 36 = .ok (.getfield 35, 3) := by decide +kernel
theorem dX6_load_39 : decode cX6_load 39 = .ok (.getfield 88, 3) := by decide +kernel
theorem dX6_load_42 : decode cX6_load 42 = .ok (.iload 4, 2) := by decide +kernel
theorem dX6_load_44 : decode cX6_load 44 = .ok (.aaload, 1) := by decide +kernel
theorem dX6_load_45 : decode cX6_load 45 = .ok (.iload 5, 2) := by decide +kernel
theorem dX6_load_47 : decode cX6_load 47 = .ok (.laload, 1) := by decide +kernel
theorem dX6_load_48 : decode cX6_load 48 = .ok (.lload_n 1, 1) := by decide +kernel
theorem dX6_load_49 : decode cX6_load 49 = .ok (.invokestatic 76, 3) := by decide +kernel
theorem dX6_load_52 : decode cX6_load 52 = .ok (.lastore, 1) := by decide +kernel
theorem dX6_load_53 : decode cX6_load 53 = .ok (.iinc 5 1, 3) := by decide +kernel
theorem dX6_load_56 : decode cX6_load 56 = .ok (.goto (-36), 3) := by decide +kernel
theorem dX6_load_59 : decode cX6_load 59 = .ok (.aload_n 0, 1) := by decide +kernel
theorem dX6_load_60 : decode cX6_load 60 = .ok (.getfield 19, 3) := by decide +kernel
theorem dX6_load_63 : decode cX6_load 63 = .ok (.iload 4, 2) := by decide +kernel
theorem dX6_load_65 : decode cX6_load 65 = .ok (.aaload, 1) := by decide +kernel
theorem dX6_load_66 : decode cX6_load 66 = .ok (.iload_n 3, 1) := by decide +kernel
theorem dX6_load_67 : decode cX6_load 67 = .ok (.aload_n 0, 1) := by decide +kernel
theorem dX6_load_68 : decode cX6_load 68 = .ok (.getfield 35, 3) := by decide +kernel
theorem dX6_load_71 : decode cX6_load 71 = .ok (.getfield 85, 3) := by decide +kernel
theorem dX6_load_74 : decode cX6_load 74 = .ok (.iload 4, 2) := by decide +kernel
theorem dX6_load_76 : decode cX6_load 76 = .ok (.laload, 1) := by decide +kernel
theorem dX6_load_77 : decode cX6_load 77 = .ok (.lload_n 1, 1) := by decide +kernel
theorem dX6_load_78 : decode cX6_load 78 = .ok (.invokestatic 76, 3) := by decide +kernel
theorem dX6_load_81 : decode cX6_load 81 = .ok (.lastore, 1) := by decide +kernel
theorem dX6_load_82 : decode cX6_load 82 = .ok (.iinc 4 1, 3) := by decide +kernel
theorem dX6_load_85 : decode cX6_load 85 = .ok (.goto (-74), 3) := by decide +kernel
theorem dX6_load_88 : decode cX6_load 88 = .ok (.return_, 1) := by decide +kernel
theorem dX6_eliminate_0 : decode cX6_eliminate 0 = .ok (.aload_n 0, 1) := by decide +kernel
theorem dX6_eliminate_1 : decode cX6_eliminate 1 = .ok (.getfield 35, 3) := by decide +kernel
theorem dX6_eliminate_4 : decode cX6_eliminate 4 = .ok (.getfield 56, 3) := by decide +kernel
theorem dX6_eliminate_7 : decode cX6_eliminate 7 = .ok (.istore_n 3, 1) := by decide +kernel
theorem dX6_eliminate_8 : decode cX6_eliminate 8 = .ok (.lconst 1, 1) := by decide +kernel
theorem dX6_eliminate_9 : decode cX6_eliminate 9 = .ok (.lstore 4, 2) := by decide +kernel
theorem dX6_eliminate_11 : decode cX6_eliminate 11 = .ok (.iconst 0, 1) := by decide +kernel
theorem dX6_eliminate_12 : decode cX6_eliminate 12 = .ok (.istore 6, 2) := by decide +kernel
theorem dX6_eliminate_14 : decode cX6_eliminate 14 = .ok (.iload 6, 2) := by decide +kernel
theorem dX6_eliminate_16 : decode cX6_eliminate 16 = .ok (.iload_n 3, 1) := by decide +kernel
theorem dX6_eliminate_17 : decode cX6_eliminate 17 = .ok (.if_icmp .ge 146, 3) := by decide +kernel
theorem dX6_eliminate_20 : decode cX6_eliminate 20 = .ok (.aload_n 0, 1) := by decide +kernel
theorem dX6_eliminate_21 : decode cX6_eliminate 21 = .ok (.iload 6, 2) := by decide +kernel
theorem dX6_eliminate_23 : decode cX6_eliminate 23 = .ok (.invokevirtual 91, 3) := by decide +kernel
theorem dX6_eliminate_26 : decode cX6_eliminate 26 = .ok (.istore 7, 2) := by decide +kernel
theorem dX6_eliminate_28 : decode cX6_eliminate 28 = .ok (.iload 7, 2) := by decide +kernel
theorem dX6_eliminate_30 : decode cX6_eliminate 30 = .ok (.ifCond .ge 5, 3) := by decide +kernel
theorem dX6_eliminate_33 : decode cX6_eliminate 33 = .ok (.lconst 0, 1) := by decide +kernel
theorem dX6_eliminate_34 : decode cX6_eliminate 34 = .ok (.lreturn, 1) := by decide +kernel
theorem dX6_eliminate_35 : decode cX6_eliminate 35 = .ok (.iload 7, 2) := by decide +kernel
theorem dX6_eliminate_37 : decode cX6_eliminate 37 = .ok (.iload 6, 2) := by decide +kernel
theorem dX6_eliminate_39 : decode cX6_eliminate 39 = .ok (.if_icmp .eq 17, 3) := by decide +kernel
theorem dX6_eliminate_42 : decode cX6_eliminate 42 = .ok (.aload_n 0, 1) := by decide +kernel
theorem dX6_eliminate_43 : decode cX6_eliminate 43 = .ok (.iload 6, 2) := by decide +kernel
theorem dX6_eliminate_45 : decode cX6_eliminate 45 = .ok (.iload 7, 2) := by decide +kernel
theorem dX6_eliminate_47 : decode cX6_eliminate 47 = .ok (.invokevirtual 95, 3) := by decide +kernel
theorem dX6_eliminate_50 : decode cX6_eliminate 50 = .ok (.lload_n 1, 1) := by decide +kernel
theorem dX6_eliminate_51 : decode cX6_eliminate 51 = .ok (.lload 4, 2) := by decide +kernel
theorem dX6_eliminate_53 : decode cX6_eliminate 53 = .ok (.lsub, 1) := by decide +kernel
theorem dX6_eliminate_54 : decode cX6_eliminate 54 = .ok (.lstore 4, 2) := by decide +kernel
theorem dX6_eliminate_56 : decode cX6_eliminate 56 = .ok (.lload 4, 2) := by decide +kernel
theorem dX6_eliminate_58 : decode cX6_eliminate 58 = .ok (.aload_n 0, 1) := by decide +kernel
theorem dX6_eliminate_59 : decode cX6_eliminate 59 = .ok (.getfield 19, 3) := by decide +kernel
theorem dX6_eliminate_62 : decode cX6_eliminate 62 = .ok (.iload 6, 2) := by decide +kernel
theorem dX6_eliminate_64 : decode cX6_eliminate 64 = .ok (.aaload, 1) := by decide +kernel
theorem dX6_eliminate_65 : decode cX6_eliminate 65 = .ok (.iload 6, 2) := by decide +kernel
theorem dX6_eliminate_67 : decode cX6_eliminate 67 = .ok (.laload, 1) := by decide +kernel
theorem dX6_eliminate_68 : decode cX6_eliminate 68 = .ok (.lmul, 1) := by decide +kernel
theorem dX6_eliminate_69 : decode cX6_eliminate 69 = .ok (.lload_n 1, 1) := by decide +kernel
theorem dX6_eliminate_70 : decode cX6_eliminate 70 = .ok (.lrem, 1) := by decide +kernel
theorem dX6_eliminate_71 : decode cX6_eliminate 71 = .ok (.lstore 4, 2) := by decide +kernel
theorem dX6_eliminate_73 : decode cX6_eliminate 73 = .ok (.aload_n 0, 1) := by decide +kernel
theorem dX6_eliminate_74 : decode cX6_eliminate 74 = .ok (.getfield 19, 3) := by decide +kernel
theorem dX6_eliminate_77 : decode cX6_eliminate 77 = .ok (.iload 6, 2) := by decide +kernel
theorem dX6_eliminate_79 : decode cX6_eliminate 79 = .ok (.aaload, 1) := by decide +kernel
theorem dX6_eliminate_80 : decode cX6_eliminate 80 = .ok (.iload 6, 2) := by decide +kernel
theorem dX6_eliminate_82 : decode cX6_eliminate 82 = .ok (.laload, 1) := by decide +kernel
theorem dX6_eliminate_83 : decode cX6_eliminate 83 = .ok (.lload_n 1, 1) := by decide +kernel
theorem dX6_eliminate_84 : decode cX6_eliminate 84 = .ok (.invokestatic 65, 3) := by decide +kernel
theorem dX6_eliminate_87 : decode cX6_eliminate 87 = .ok (.lstore 8, 2) := by decide +kernel
theorem dX6_eliminate_89 : decode cX6_eliminate 89 = .ok (.iload 6, 2) := by decide +kernel
theorem dX6_eliminate_91 : decode cX6_eliminate 91 = .ok (.istore 10, 2) := by decide +kernel
theorem dX6_eliminate_93 : decode cX6_eliminate 93 = .ok (.iload 10, 2) := by decide +kernel
theorem dX6_eliminate_95 : decode cX6_eliminate 95 = .ok (.iload_n 3, 1) := by decide +kernel
theorem dX6_eliminate_96 : decode cX6_eliminate 96 = .ok (.if_icmp .gt 34, 3) := by decide +kernel
theorem dX6_eliminate_99 : decode cX6_eliminate 99 = .ok (.aload_n 0, 1) := by decide +kernel
theorem dX6_eliminate_100 : decode cX6_eliminate 100 = .ok (.getfield 19, 3) := by decide +kernel
theorem dX6_eliminate_103 : decode cX6_eliminate 103 = .ok (.iload 6, 2) := by decide +kernel
theorem dX6_eliminate_105 : decode cX6_eliminate 105 = .ok (.aaload, 1) := by decide +kernel
theorem dX6_eliminate_106 : decode cX6_eliminate 106 = .ok (.iload 10, 2) := by decide +kernel
theorem dX6_eliminate_108 : decode cX6_eliminate 108 = .ok (.aload_n 0, 1) := by decide +kernel
theorem dX6_eliminate_109 : decode cX6_eliminate 109 = .ok (.getfield 19, 3) := by decide +kernel
theorem dX6_eliminate_112 : decode cX6_eliminate 112 = .ok (.iload 6, 2) := by decide +kernel
theorem dX6_eliminate_114 : decode cX6_eliminate 114 = .ok (.aaload, 1) := by decide +kernel
theorem dX6_eliminate_115 : decode cX6_eliminate 115 = .ok (.iload 10, 2) := by decide +kernel
theorem dX6_eliminate_117 : decode cX6_eliminate 117 = .ok (.laload, 1) := by decide +kernel
theorem dX6_eliminate_118 : decode cX6_eliminate 118 = .ok (.lload 8, 2) := by decide +kernel
theorem dX6_eliminate_120 : decode cX6_eliminate 120 = .ok (.lmul, 1) := by decide +kernel
theorem dX6_eliminate_121 : decode cX6_eliminate 121 = .ok (.lload_n 1, 1) := by decide +kernel
theorem dX6_eliminate_122 : decode cX6_eliminate 122 = .ok (.lrem, 1) := by decide +kernel
theorem dX6_eliminate_123 : decode cX6_eliminate 123 = .ok (.lastore, 1) := by decide +kernel
theorem dX6_eliminate_124 : decode cX6_eliminate 124 = .ok (.iinc 10 1, 3) := by decide +kernel
theorem dX6_eliminate_127 : decode cX6_eliminate 127 = .ok (.goto (-34), 3) := by decide +kernel
theorem dX6_eliminate_130 : decode cX6_eliminate 130 = .ok (.iload 6, 2) := by decide +kernel
theorem dX6_eliminate_132 : decode cX6_eliminate 132 = .ok (.iconst 1, 1) := by decide +kernel
theorem dX6_eliminate_133 : decode cX6_eliminate 133 = .ok (.iadd, 1) := by decide +kernel
theorem dX6_eliminate_134 : decode cX6_eliminate 134 = .ok (.istore 10, 2) := by decide +kernel
theorem dX6_eliminate_136 : decode cX6_eliminate 136 = .ok (.iload 10, 2) := by decide +kernel
theorem dX6_eliminate_138 : decode cX6_eliminate 138 = .ok (.iload_n 3, 1) := by decide +kernel
theorem dX6_eliminate_139 : decode cX6_eliminate 139 = .ok (.if_icmp .ge 18, 3) := by decide +kernel
theorem dX6_eliminate_142 : decode cX6_eliminate 142 = .ok (.aload_n 0, 1) := by decide +kernel
theorem dX6_eliminate_143 : decode cX6_eliminate 143 = .ok (.iload 6, 2) := by decide +kernel
theorem dX6_eliminate_145 : decode cX6_eliminate 145 = .ok (.iload 10, 2) := by decide +kernel
theorem dX6_eliminate_147 : decode cX6_eliminate 147 = .ok (.lload_n 1, 1) := by decide +kernel
theorem dX6_eliminate_148 : decode cX6_eliminate 148 = .ok (.invokevirtual 99, 3) := by decide +kernel
theorem dX6_eliminate_151 : decode cX6_eliminate 151 = .ok (.iinc 10 1, 3) := by decide +kernel
theorem dX6_eliminate_154 : decode cX6_eliminate 154 = .ok (.goto (-18), 3) := by decide +kernel
theorem dX6_eliminate_157 : decode cX6_eliminate 157 = .ok (.iinc 6 1, 3) := by decide +kernel
theorem dX6_eliminate_160 : decode cX6_eliminate 160 = .ok (.goto (-146), 3) := by decide +kernel
theorem dX6_eliminate_163 : decode cX6_eliminate 163 = .ok (.lload 4, 2) := by decide +kernel
theorem dX6_eliminate_165 : decode cX6_eliminate 165 = .ok (.lreturn, 1) := by decide +kernel
theorem dX6_findRow_0 : decode cX6_findRow 0 = .ok (.iload_n 1, 1) := by decide +kernel
theorem dX6_findRow_1 : decode cX6_findRow 1 = .ok (.istore_n 2, 1) := by decide +kernel
theorem dX6_findRow_2 : decode cX6_findRow 2 = .ok (.iload_n 2, 1) := by decide +kernel
theorem dX6_findRow_3 : decode cX6_findRow 3 = .ok (.aload_n 0, 1) := by decide +kernel
theorem dX6_findRow_4 : decode cX6_findRow 4 = .ok (.getfield 35, 3) := by decide +kernel
theorem dX6_findRow_7 : decode cX6_findRow 7 = .ok (.getfield 56, 3) := by decide +kernel
theorem dX6_findRow_10 : decode cX6_findRow 10 = .ok (.if_icmp .ge 24, 3) := by decide +kernel
theorem dX6_findRow_13 : decode cX6_findRow 13 = .ok (.aload_n 0, 1) := by decide +kernel
theorem dX6_findRow_14 : decode cX6_findRow 14 = .ok (.getfield 19, 3) := by decide +kernel
theorem dX6_findRow_17 : decode cX6_findRow 17 = .ok (.iload_n 2, 1) := by decide +kernel
theorem dX6_findRow_18 : decode cX6_findRow 18 = .ok (.aaload, 1) := by decide +kernel
theorem dX6_findRow_19 : decode cX6_findRow 19 = .ok (.iload_n 1, 1) := by decide +kernel
theorem dX6_findRow_20 : decode cX6_findRow 20 = .ok (.laload, 1) := by decide +kernel
theorem dX6_findRow_21 : decode cX6_findRow 21 = .ok (.lconst 0, 1) := by decide +kernel
theorem dX6_findRow_22 : decode cX6_findRow 22 = .ok (.lcmp, 1) := by decide +kernel
theorem dX6_findRow_23 : decode cX6_findRow 23 = .ok (.ifCond .eq 5, 3) := by decide +kernel
theorem dX6_findRow_26 : decode cX6_findRow 26 = .ok (.iload_n 2, 1) := by decide +kernel
theorem dX6_findRow_27 : decode cX6_findRow 27 = .ok (.ireturn, 1) := by decide +kernel
theorem dX6_findRow_28 : decode cX6_findRow 28 = .ok (.iinc 2 1, 3) := by decide +kernel
theorem dX6_findRow_31 : decode cX6_findRow 31 = .ok (.goto (-29), 3) := by decide +kernel
theorem dX6_findRow_34 : decode cX6_findRow 34 = .ok (.iconst (-1), 1) := by decide +kernel
theorem dX6_findRow_35 : decode cX6_findRow 35 = .ok (.ireturn, 1) := by decide +kernel
theorem dX6_swapRows_0 : decode cX6_swapRows 0 = .ok (.iconst 0, 1) := by decide +kernel
theorem dX6_swapRows_1 : decode cX6_swapRows 1 = .ok (.istore_n 3, 1) := by decide +kernel
theorem dX6_swapRows_2 : decode cX6_swapRows 2 = .ok (.iload_n 3, 1) := by decide +kernel
theorem dX6_swapRows_3 : decode cX6_swapRows 3 = .ok (.aload_n 0, 1) := by decide +kernel
theorem dX6_swapRows_4 : decode cX6_swapRows 4 = .ok (.getfield 35, 3) := by decide +kernel
theorem dX6_swapRows_7 : decode cX6_swapRows 7 = .ok (.getfield 56, 3) := by decide +kernel
theorem dX6_swapRows_10 : decode cX6_swapRows 10 = .ok (.if_icmp .gt 45, 3) := by decide +kernel
theorem dX6_swapRows_13 : decode cX6_swapRows 13 = .ok (.aload_n 0, 1) := by decide +kernel
theorem dX6_swapRows_14 : decode cX6_swapRows 14 = .ok (.getfield 19, 3) := by decide +kernel
theorem dX6_swapRows_17 : decode cX6_swapRows 17 = .ok (.iload_n 1, 1) := by decide +kernel
theorem dX6_swapRows_18 : decode cX6_swapRows 18 = .ok (.aaload, 1) := by decide +kernel
theorem dX6_swapRows_19 : decode cX6_swapRows 19 = .ok (.iload_n 3, 1) := by decide +kernel
theorem dX6_swapRows_20 : decode cX6_swapRows 20 = .ok (.laload, 1) := by decide +kernel
theorem dX6_swapRows_21 : decode cX6_swapRows 21 = .ok (.lstore 4, 2) := by decide +kernel
theorem dX6_swapRows_23 : decode cX6_swapRows 23 = .ok (.aload_n 0, 1) := by decide +kernel
theorem dX6_swapRows_24 : decode cX6_swapRows 24 = .ok (.getfield 19, 3) := by decide +kernel
theorem dX6_swapRows_27 : decode cX6_swapRows 27 = .ok (.iload_n 1, 1) := by decide +kernel
theorem dX6_swapRows_28 : decode cX6_swapRows 28 = .ok (.aaload, 1) := by decide +kernel
theorem dX6_swapRows_29 : decode cX6_swapRows 29 = .ok (.iload_n 3, 1) := by decide +kernel
theorem dX6_swapRows_30 : decode cX6_swapRows 30 = .ok (.aload_n 0, 1) := by decide +kernel
theorem dX6_swapRows_31 : decode cX6_swapRows 31 = .ok (.getfield 19, 3) := by decide +kernel
theorem dX6_swapRows_34 : decode cX6_swapRows 34 = .ok (.iload_n 2, 1) := by decide +kernel
theorem dX6_swapRows_35 : decode cX6_swapRows 35 = .ok (.aaload, 1) := by decide +kernel
theorem dX6_swapRows_36 : decode cX6_swapRows 36 = .ok (.iload_n 3, 1) := by decide +kernel
theorem dX6_swapRows_37 : decode cX6_swapRows 37 = .ok (.laload, 1) := by decide +kernel
theorem dX6_swapRows_38 : decode cX6_swapRows 38 = .ok (.lastore, 1) := by decide +kernel
theorem dX6_swapRows_39 : decode cX6_swapRows 39 = .ok (.aload_n 0, 1) := by decide +kernel
theorem dX6_swapRows_40 : decode cX6_swapRows 40 = .ok (.getfield 19, 3) := by decide +kernel
theorem dX6_swapRows_43 : decode cX6_swapRows 43 = .ok (.iload_n 2, 1) := by decide +kernel
theorem dX6_swapRows_44 : decode cX6_swapRows 44 = .ok (.aaload, 1) := by decide +kernel
theorem dX6_swapRows_45 : decode cX6_swapRows 45 = .ok (.iload_n 3, 1) := by decide +kernel
theorem dX6_swapRows_46 : decode cX6_swapRows 46 = .ok (.lload 4, 2) := by decide +kernel
theorem dX6_swapRows_48 : decode cX6_swapRows 48 = .ok (.lastore, 1) := by decide +kernel
theorem dX6_swapRows_49 : decode cX6_swapRows 49 = .ok (.iinc 3 1, 3) := by decide +kernel
theorem dX6_swapRows_52 : decode cX6_swapRows 52 = .ok (.goto (-50), 3) := by decide +kernel
theorem dX6_swapRows_55 : decode cX6_swapRows 55 = .ok (.return_, 1) := by decide +kernel
theorem dX6_subtractRow_0 : decode cX6_subtractRow 0 = .ok (.aload_n 0, 1) := by decide +kernel
theorem dX6_subtractRow_1 : decode cX6_subtractRow 1 = .ok (.getfield 19, 3) := by decide +kernel
theorem dX6_subtractRow_4 : decode cX6_subtractRow 4 = .ok (.iload_n 2, 1) := by decide +kernel
theorem dX6_subtractRow_5 : decode cX6_subtractRow 5 = .ok (.aaload, 1) := by decide +kernel
theorem dX6_subtractRow_6 : decode cX6_subtractRow 6 = .ok (.iload_n 1, 1) := by decide +kernel
theorem dX6_subtractRow_7 : decode cX6_subtractRow 7 = .ok (.laload, 1) := by decide +kernel
theorem dX6_subtractRow_8 : decode cX6_subtractRow 8 = .ok (.lstore 5, 2) := by decide +kernel
theorem dX6_subtractRow_10 : decode cX6_subtractRow 10 = .ok (.lload 5, 2) := by decide +kernel
theorem dX6_subtractRow_12 : decode cX6_subtractRow 12 = .ok (.lconst 0, 1) := by decide +kernel
theorem dX6_subtractRow_13 : decode cX6_subtractRow 13 = .ok (.lcmp, 1) := by decide +kernel
theorem dX6_subtractRow_14 : decode cX6_subtractRow 14 = .ok (.ifCond .ne 4, 3) := by decide +kernel
theorem dX6_subtractRow_17 : decode cX6_subtractRow 17 = .ok (.return_, 1) := by decide +kernel
theorem dX6_subtractRow_18 : decode cX6_subtractRow 18 = .ok (.lload_n 3, 1) := by decide +kernel
theorem dX6_subtractRow_19 : decode cX6_subtractRow 19 = .ok (.lload 5, 2) := by decide +kernel
theorem dX6_subtractRow_21 : decode cX6_subtractRow 21 = .ok (.lsub, 1) := by decide +kernel
theorem dX6_subtractRow_22 : decode cX6_subtractRow 22 = .ok (.lstore 7, 2) := by decide +kernel
theorem dX6_subtractRow_24 : decode cX6_subtractRow 24 = .ok (.iload_n 1, 1) := by decide +kernel
theorem dX6_subtractRow_25 : decode cX6_subtractRow 25 = .ok (.istore 9, 2) := by decide +kernel
theorem dX6_subtractRow_27 : decode cX6_subtractRow 27 = .ok (.iload 9, 2) := by decide +kernel
theorem dX6_subtractRow_29 : decode cX6_subtractRow 29 = .ok (.aload_n 0, 1) := by decide +kernel
theorem dX6_subtractRow_30 : decode cX6_subtractRow 30 = .ok (.getfield 35, 3) := by decide +kernel
theorem dX6_subtractRow_33 : decode cX6_subtractRow 33 = .ok (.getfield 56, 3) := by decide +kernel
theorem dX6_subtractRow_36 : decode cX6_subtractRow 36 = .ok (.if_icmp .gt 42, 3) := by decide +kernel
theorem dX6_subtractRow_39 : decode cX6_subtractRow 39 = .ok (.aload_n 0, 1) := by decide +kernel
theorem dX6_subtractRow_40 : decode cX6_subtractRow 40 = .ok (.getfield 19, 3) := by decide +kernel
theorem dX6_subtractRow_43 : decode cX6_subtractRow 43 = .ok (.iload_n 2, 1) := by decide +kernel
theorem dX6_subtractRow_44 : decode cX6_subtractRow 44 = .ok (.aaload, 1) := by decide +kernel
theorem dX6_subtractRow_45 : decode cX6_subtractRow 45 = .ok (.iload 9, 2) := by decide +kernel
theorem dX6_subtractRow_47 : decode cX6_subtractRow 47 = .ok (.aload_n 0, 1) := by decide +kernel
theorem dX6_subtractRow_48 : decode cX6_subtractRow 48 = .ok (.getfield 19, 3) := by decide +kernel
theorem dX6_subtractRow_51 : decode cX6_subtractRow 51 = .ok (.iload_n 2, 1) := by decide +kernel
theorem dX6_subtractRow_52 : decode cX6_subtractRow 52 = .ok (.aaload, 1) := by decide +kernel
theorem dX6_subtractRow_53 : decode cX6_subtractRow 53 = .ok (.iload 9, 2) := by decide +kernel
theorem dX6_subtractRow_55 : decode cX6_subtractRow 55 = .ok (.laload, 1) := by decide +kernel
theorem dX6_subtractRow_56 : decode cX6_subtractRow 56 = .ok (.lload 7, 2) := by decide +kernel
theorem dX6_subtractRow_58 : decode cX6_subtractRow 58 = .ok (.aload_n 0, 1) := by decide +kernel
theorem dX6_subtractRow_59 : decode cX6_subtractRow 59 = .ok (.getfield 19, 3) := by decide +kernel
theorem dX6_subtractRow_62 : decode cX6_subtractRow 62 = .ok (.iload_n 1, 1) := by decide +kernel
theorem dX6_subtractRow_63 : decode cX6_subtractRow 63 = .ok (.aaload, 1) := by decide +kernel
theorem dX6_subtractRow_64 : decode cX6_subtractRow 64 = .ok (.iload 9, 2) := by decide +kernel
theorem dX6_subtractRow_66 : decode cX6_subtractRow 66 = .ok (.laload, 1) := by decide +kernel
theorem dX6_subtractRow_67 : decode cX6_subtractRow 67 = .ok (.lmul, 1) := by decide +kernel
theorem dX6_subtractRow_68 : decode cX6_subtractRow 68 = .ok (.ladd, 1) := by decide +kernel
theorem dX6_subtractRow_69 : decode cX6_subtractRow 69 = .ok (.lload_n 3, 1) := by decide +kernel
theorem dX6_subtractRow_70 : decode cX6_subtractRow 70 = .ok (.lrem, 1) := by decide +kernel
theorem dX6_subtractRow_71 : decode cX6_subtractRow 71 = .ok (.lastore, 1) := by decide +kernel
theorem dX6_subtractRow_72 : decode cX6_subtractRow 72 = .ok (.iinc 9 1, 3) := by decide +kernel
theorem dX6_subtractRow_75 : decode cX6_subtractRow 75 = .ok (.goto (-48), 3) := by decide +kernel
theorem dX6_subtractRow_78 : decode cX6_subtractRow 78 = .ok (.return_, 1) := by decide +kernel
theorem dX6_inverse_0 : decode cX6_inverse 0 = .ok (.lconst 1, 1) := by decide +kernel
theorem dX6_inverse_1 : decode cX6_inverse 1 = .ok (.lstore 4, 2) := by decide +kernel
theorem dX6_inverse_3 : decode cX6_inverse 3 = .ok (.lload_n 0, 1) := by decide +kernel
theorem dX6_inverse_4 : decode cX6_inverse 4 = .ok (.lstore 6, 2) := by decide +kernel
theorem dX6_inverse_6 : decode cX6_inverse 6 = .ok (.iconst 0, 1) := by decide +kernel
theorem dX6_inverse_7 : decode cX6_inverse 7 = .ok (.istore 8, 2) := by decide +kernel
theorem dX6_inverse_9 : decode cX6_inverse 9 = .ok (.iload 8, 2) := by decide +kernel
theorem dX6_inverse_11 : decode cX6_inverse 11 = .ok (.bipush 30, 2) := by decide +kernel
theorem dX6_inverse_13 : decode cX6_inverse 13 = .ok (.if_icmp .ge 42, 3) := by decide +kernel
theorem dX6_inverse_16 : decode cX6_inverse 16 = .ok (.lload_n 2, 1) := by decide +kernel
theorem dX6_inverse_17 : decode cX6_inverse 17 = .ok (.ldc2_w 103, 3) := by decide +kernel
theorem dX6_inverse_20 : decode cX6_inverse 20 = .ok (.lsub, 1) := by decide +kernel
theorem dX6_inverse_21 : decode cX6_inverse 21 = .ok (.iload 8, 2) := by decide +kernel
theorem dX6_inverse_23 : decode cX6_inverse 23 = .ok (.lshr, 1) := by decide +kernel
theorem dX6_inverse_24 : decode cX6_inverse 24 = .ok (.lconst 1, 1) := by decide +kernel
theorem dX6_inverse_25 : decode cX6_inverse 25 = .ok (.land, 1) := by decide +kernel
theorem dX6_inverse_26 : decode cX6_inverse 26 = .ok (.lconst 1, 1) := by decide +kernel
theorem dX6_inverse_27 : decode cX6_inverse 27 = .ok (.lcmp, 1) := by decide +kernel
theorem dX6_inverse_28 : decode cX6_inverse 28 = .ok (.ifCond .ne 12, 3) := by decide +kernel
theorem dX6_inverse_31 : decode cX6_inverse 31 = .ok (.lload 4, 2) := by decide +kernel
theorem dX6_inverse_33 : decode cX6_inverse 33 = .ok (.lload 6, 2) := by decide +kernel
theorem dX6_inverse_35 : decode cX6_inverse 35 = .ok (.lmul, 1) := by decide +kernel
theorem dX6_inverse_36 : decode cX6_inverse 36 = .ok (.lload_n 2, 1) := by decide +kernel
theorem dX6_inverse_37 : decode cX6_inverse 37 = .ok (.lrem, 1) := by decide +kernel
theorem dX6_inverse_38 : decode cX6_inverse 38 = .ok (.lstore 4, 2) := by decide +kernel
theorem dX6_inverse_40 : decode cX6_inverse 40 = .ok (.lload 6, 2) := by decide +kernel
theorem dX6_inverse_42 : decode cX6_inverse 42 = .ok (.lload 6, 2) := by decide +kernel
theorem dX6_inverse_44 : decode cX6_inverse 44 = .ok (.lmul, 1) := by decide +kernel
theorem dX6_inverse_45 : decode cX6_inverse 45 = .ok (.lload_n 2, 1) := by decide +kernel
theorem dX6_inverse_46 : decode cX6_inverse 46 = .ok (.lrem, 1) := by decide +kernel
theorem dX6_inverse_47 : decode cX6_inverse 47 = .ok (.lstore 6, 2) := by decide +kernel
theorem dX6_inverse_49 : decode cX6_inverse 49 = .ok (.iinc 8 1, 3) := by decide +kernel
theorem dX6_inverse_52 : decode cX6_inverse 52 = .ok (.goto (-43), 3) := by decide +kernel
theorem dX6_inverse_55 : decode cX6_inverse 55 = .ok (.lload 4, 2) := by decide +kernel
theorem dX6_inverse_57 : decode cX6_inverse 57 = .ok (.lreturn, 1) := by decide +kernel
theorem dX6_putTogether_0 : decode cX6_putTogether 0 = .ok (.aload_n 0, 1) := by decide +kernel
theorem dX6_putTogether_1 : decode cX6_putTogether 1 = .ok (.iload_n 1, 1) := by decide +kernel
theorem dX6_putTogether_2 : decode cX6_putTogether 2 = .ok (.iconst 1, 1) := by decide +kernel
theorem dX6_putTogether_3 : decode cX6_putTogether 3 = .ok (.invokevirtual 105, 3) := by decide +kernel
theorem dX6_putTogether_6 : decode cX6_putTogether 6 = .ok (.aload_n 0, 1) := by decide +kernel
theorem dX6_putTogether_7 : decode cX6_putTogether 7 = .ok (.getfield 40, 3) := by decide +kernel
theorem dX6_putTogether_10 : decode cX6_putTogether 10 = .ok (.ifCond .le 37, 3) := by decide +kernel
theorem dX6_putTogether_13 : decode cX6_putTogether 13 = .ok (.aload_n 0, 1) := by decide +kernel
theorem dX6_putTogether_14 : decode cX6_putTogether 14 = .ok (.getfield 32, 3) := by decide +kernel
theorem dX6_putTogether_17 : decode cX6_putTogether 17 = .ok (.aload_n 0, 1) := by decide +kernel
theorem dX6_putTogether_18 : decode cX6_putTogether 18 = .ok (.getfield 40, 3) := by decide +kernel
theorem dX6_putTogether_21 : decode cX6_putTogether 21 = .ok (.iconst 1, 1) := by decide +kernel
theorem dX6_putTogether_22 : decode cX6_putTogether 22 = .ok (.isub, 1) := by decide +kernel
theorem dX6_putTogether_23 : decode cX6_putTogether 23 = .ok (.laload, 1) := by decide +kernel
theorem dX6_putTogether_24 : decode cX6_putTogether 24 = .ok (.aload_n 0, 1) := by decide +kernel
theorem dX6_putTogether_25 : decode cX6_putTogether 25 = .ok (.getfield 25, 3) := by decide +kernel
theorem dX6_putTogether_28 : decode cX6_putTogether 28 = .ok (.aload_n 0, 1) := by decide +kernel
theorem dX6_putTogether_29 : decode cX6_putTogether 29 = .ok (.getfield 40, 3) := by decide +kernel
theorem dX6_putTogether_32 : decode cX6_putTogether 32 = .ok (.iconst 1, 1) := by decide +kernel
theorem dX6_putTogether_33 : decode cX6_putTogether 33 = .ok (.isub, 1) := by decide +kernel
theorem dX6_putTogether_34 : decode cX6_putTogether 34 = .ok (.laload, 1) := by decide +kernel
theorem dX6_putTogether_35 : decode cX6_putTogether 35 = .ok (.ldc2_w 103, 3) := by decide +kernel
theorem dX6_putTogether_38 : decode cX6_putTogether 38 = .ok (.ldiv, 1) := by decide +kernel
theorem dX6_putTogether_39 : decode cX6_putTogether 39 = .ok (.lcmp, 1) := by decide +kernel
theorem dX6_putTogether_40 : decode cX6_putTogether 40 = .ok (.ifCond .le 7, 3) := by decide +kernel
theorem dX6_putTogether_43 : decode cX6_putTogether 43 = .ok (.iconst 1, 1) := by decide +kernel
theorem dX6_putTogether_44 : decode cX6_putTogether 44 = .ok (.goto 4, 3) := by decide +kernel
theorem dX6_putTogether_47 : decode cX6_putTogether 47 = .ok (.iconst 0, 1) := by decide +kernel
theorem dX6_putTogether_48 : decode cX6_putTogether 48 = .ok (.istore_n 2, 1) := by decide +kernel
theorem dX6_putTogether_49 : decode cX6_putTogether 49 = .ok (.iload_n 2, 1) := by decide +kernel
theorem dX6_putTogether_50 : decode cX6_putTogether 50 = .ok (.ifCond .eq 9, 3) := by decide +kernel
theorem dX6_putTogether_53 : decode cX6_putTogether 53 = .ok (.aload_n 0, 1) := by decide +kernel
theorem dX6_putTogether_54 : decode cX6_putTogether 54 = .ok (.iload_n 1, 1) := by decide +kernel
theorem dX6_putTogether_55 : decode cX6_putTogether 55 = .ok (.iconst (-1), 1) := by decide +kernel
theorem dX6_putTogether_56 : decode cX6_putTogether 56 = .ok (.invokevirtual 105, 3) := by decide +kernel
theorem dX6_putTogether_59 : decode cX6_putTogether 59 = .ok (.aload_n 0, 1) := by decide +kernel
theorem dX6_putTogether_60 : decode cX6_putTogether 60 = .ok (.getfield 11, 3) := by decide +kernel
theorem dX6_putTogether_63 : decode cX6_putTogether 63 = .ok (.iload_n 1, 1) := by decide +kernel
theorem dX6_putTogether_64 : decode cX6_putTogether 64 = .ok (.aaload, 1) := by decide +kernel
theorem dX6_putTogether_65 : decode cX6_putTogether 65 = .ok (.astore_n 3, 1) := by decide +kernel
theorem dX6_putTogether_66 : decode cX6_putTogether 66 = .ok (.aload_n 3, 1) := by decide +kernel
theorem dX6_putTogether_67 : decode cX6_putTogether 67 = .ok (.iconst 0, 1) := by decide +kernel
theorem dX6_putTogether_68 : decode cX6_putTogether 68 = .ok (.invokevirtual 108, 3) := by decide +kernel
theorem dX6_putTogether_71 : decode cX6_putTogether 71 = .ok (.aload_n 0, 1) := by decide +kernel
theorem dX6_putTogether_72 : decode cX6_putTogether 72 = .ok (.getfield 40, 3) := by decide +kernel
theorem dX6_putTogether_75 : decode cX6_putTogether 75 = .ok (.iconst 1, 1) := by decide +kernel
theorem dX6_putTogether_76 : decode cX6_putTogether 76 = .ok (.isub, 1) := by decide +kernel
theorem dX6_putTogether_77 : decode cX6_putTogether 77 = .ok (.istore 4, 2) := by decide +kernel
theorem dX6_putTogether_79 : decode cX6_putTogether 79 = .ok (.iload 4, 2) := by decide +kernel
theorem dX6_putTogether_81 : decode cX6_putTogether 81 = .ok (.ifCond .lt 29, 3) := by decide +kernel
theorem dX6_putTogether_84 : decode cX6_putTogether 84 = .ok (.aload_n 3, 1) := by decide +kernel
theorem dX6_putTogether_85 : decode cX6_putTogether 85 = .ok (.aload_n 0, 1) := by decide +kernel
theorem dX6_putTogether_86 : decode cX6_putTogether 86 = .ok (.getfield 25, 3) := by decide +kernel
theorem dX6_putTogether_89 : decode cX6_putTogether 89 = .ok (.iload 4, 2) := by decide +kernel
theorem dX6_putTogether_91 : decode cX6_putTogether 91 = .ok (.laload, 1) := by decide +kernel
theorem dX6_putTogether_92 : decode cX6_putTogether 92 = .ok (.l2i, 1) := by decide +kernel
theorem dX6_putTogether_93 : decode cX6_putTogether 93 = .ok (.aload_n 0, 1) := by decide +kernel
theorem dX6_putTogether_94 : decode cX6_putTogether 94 = .ok (.getfield 32, 3) := by decide +kernel
theorem dX6_putTogether_97 : decode cX6_putTogether 97 = .ok (.iload 4, 2) := by decide +kernel
theorem dX6_putTogether_99 : decode cX6_putTogether 99 = .ok (.laload, 1) := by decide +kernel
theorem dX6_putTogether_100 : decode cX6_putTogether 100 = .ok (.l2i, 1) := by decide +kernel
theorem dX6_putTogether_101 : decode cX6_putTogether 101 = .ok (.invokevirtual 111, 3) := by decide +kernel
theorem dX6_putTogether_104 : decode cX6_putTogether 104 = .ok (.iinc 4 (-1), 3) := by decide +kernel
theorem dX6_putTogether_107 : decode cX6_putTogether 107 = .ok (.goto (-28), 3) := by decide +kernel
theorem dX6_putTogether_110 : decode cX6_putTogether 110 = .ok (.aload_n 3, 1) := by decide +kernel
theorem dX6_putTogether_111 : decode cX6_putTogether 111 = .ok (.iload_n 2, 1) := by decide +kernel
theorem dX6_putTogether_112 : decode cX6_putTogether 112 = .ok (.putfield 114, 3) := by decide +kernel
theorem dX6_putTogether_115 : decode cX6_putTogether 115 = .ok (.return_, 1) := by decide +kernel
theorem dX6_findDigits_0 : decode cX6_findDigits 0 = .ok (.iconst 0, 1) := by decide +kernel
theorem dX6_findDigits_1 : decode cX6_findDigits 1 = .ok (.istore_n 3, 1) := by decide +kernel
theorem dX6_findDigits_2 : decode cX6_findDigits 2 = .ok (.iload_n 3, 1) := by decide +kernel
theorem dX6_findDigits_3 : decode cX6_findDigits 3 = .ok (.aload_n 0, 1) := by decide +kernel
theorem dX6_findDigits_4 : decode cX6_findDigits 4 = .ok (.getfield 40, 3) := by decide +kernel
theorem dX6_findDigits_7 : decode cX6_findDigits 7 = .ok (.if_icmp .ge 98, 3) := by decide +kernel
theorem dX6_findDigits_10 : decode cX6_findDigits 10 = .ok (.aload_n 0, 1) := by decide +kernel
theorem dX6_findDigits_11 : decode cX6_findDigits 11 = .ok (.getfield 25, 3) := by decide +kernel
theorem dX6_findDigits_14 : decode cX6_findDigits 14 = .ok (.iload_n 3, 1) := by decide +kernel
theorem dX6_findDigits_15 : decode cX6_findDigits 15 = .ok (.laload, 1) := by decide +kernel
theorem dX6_findDigits_16 : decode cX6_findDigits 16 = .ok (.lstore 4, 2) := by decide +kernel
theorem dX6_findDigits_18 : decode cX6_findDigits 18 = .ok (.lconst 0, 1) := by decide +kernel
theorem dX6_findDigits_19 : decode cX6_findDigits 19 = .ok (.lstore 6, 2) := by decide +kernel
theorem dX6_findDigits_21 : decode cX6_findDigits 21 = .ok (.iload_n 3, 1) := by decide +kernel
theorem dX6_findDigits_22 : decode cX6_findDigits 22 = .ok (.iconst 1, 1) := by decide +kernel
theorem dX6_findDigits_23 : decode cX6_findDigits 23 = .ok (.isub, 1) := by decide +kernel
theorem dX6_findDigits_24 : decode cX6_findDigits 24 = .ok (.istore 8, 2) := by decide +kernel
theorem dX6_findDigits_26 : decode cX6_findDigits 26 = .ok (.iload 8, 2) := by decide +kernel
theorem dX6_findDigits_28 : decode cX6_findDigits 28 = .ok (.ifCond .lt 32, 3) := by decide +kernel
theorem dX6_findDigits_31 : decode cX6_findDigits 31 = .ok (.lload 6, 2) := by decide +kernel
theorem dX6_findDigits_33 : decode cX6_findDigits 33 = .ok (.aload_n 0, 1) := by decide +kernel
theorem dX6_findDigits_34 : decode cX6_findDigits 34 = .ok (.getfield 25, 3) := by decide +kernel
theorem dX6_findDigits_37 : decode cX6_findDigits 37 = .ok (.iload 8, 2) := by decide +kernel
theorem dX6_findDigits_39 : decode cX6_findDigits 39 = .ok (.laload, 1) := by decide +kernel
theorem dX6_findDigits_40 : decode cX6_findDigits 40 = .ok (.lmul, 1) := by decide +kernel
theorem dX6_findDigits_41 : decode cX6_findDigits 41 = .ok (.aload_n 0, 1) := by decide +kernel
theorem dX6_findDigits_42 : decode cX6_findDigits 42 = .ok (.getfield 32, 3) := by decide +kernel
theorem dX6_findDigits_45 : decode cX6_findDigits 45 = .ok (.iload 8, 2) := by decide +kernel
theorem dX6_findDigits_47 : decode cX6_findDigits 47 = .ok (.laload, 1) := by decide +kernel
theorem dX6_findDigits_48 : decode cX6_findDigits 48 = .ok (.ladd, 1) := by decide +kernel
theorem dX6_findDigits_49 : decode cX6_findDigits 49 = .ok (.lload 4, 2) := by decide +kernel
theorem dX6_findDigits_51 : decode cX6_findDigits 51 = .ok (.lrem, 1) := by decide +kernel
theorem dX6_findDigits_52 : decode cX6_findDigits 52 = .ok (.lstore 6, 2) := by decide +kernel
theorem dX6_findDigits_54 : decode cX6_findDigits 54 = .ok (.iinc 8 (-1), 3) := by decide +kernel
theorem dX6_findDigits_57 : decode cX6_findDigits 57 = .ok (.goto (-31), 3) := by decide +kernel
theorem dX6_findDigits_60 : decode cX6_findDigits 60 = .ok (.iload_n 2, 1) := by decide +kernel
theorem dX6_findDigits_61 : decode cX6_findDigits 61 = .ok (.i2l, 1) := by decide +kernel
theorem dX6_findDigits_62 : decode cX6_findDigits 62 = .ok (.aload_n 0, 1) := by decide +kernel
theorem dX6_findDigits_63 : decode cX6_findDigits 63 = .ok (.getfield 22, 3) := by decide +kernel
theorem dX6_findDigits_66 : decode cX6_findDigits 66 = .ok (.iload_n 3, 1) := by decide +kernel
theorem dX6_findDigits_67 : decode cX6_findDigits 67 = .ok (.aaload, 1) := by decide +kernel
theorem dX6_findDigits_68 : decode cX6_findDigits 68 = .ok (.iload_n 1, 1) := by decide +kernel
theorem dX6_findDigits_69 : decode cX6_findDigits 69 = .ok (.laload, 1) := by decide +kernel
theorem dX6_findDigits_70 : decode cX6_findDigits 70 = .ok (.lmul, 1) := by decide +kernel
theorem dX6_findDigits_71 : decode cX6_findDigits 71 = .ok (.lload 6, 2) := by decide +kernel
theorem dX6_findDigits_73 : decode cX6_findDigits 73 = .ok (.lsub, 1) := by decide +kernel
theorem dX6_findDigits_74 : decode cX6_findDigits 74 = .ok (.lload 4, 2) := by decide +kernel
theorem dX6_findDigits_76 : decode cX6_findDigits 76 = .ok (.invokestatic 76, 3) := by decide +kernel
theorem dX6_findDigits_79 : decode cX6_findDigits 79 = .ok (.lstore 8, 2) := by decide +kernel
theorem dX6_findDigits_81 : decode cX6_findDigits 81 = .ok (.aload_n 0, 1) := by decide +kernel
theorem dX6_findDigits_82 : decode cX6_findDigits 82 = .ok (.getfield 32, 3) := by decide +kernel
theorem dX6_findDigits_85 : decode cX6_findDigits 85 = .ok (.iload_n 3, 1) := by decide +kernel
theorem dX6_findDigits_86 : decode cX6_findDigits 86 = .ok (.lload 8, 2) := by decide +kernel
theorem dX6_findDigits_88 : decode cX6_findDigits 88 = .ok (.aload_n 0, 1) := by decide +kernel
theorem dX6_findDigits_89 : decode cX6_findDigits 89 = .ok (.getfield 29, 3) := by decide +kernel
theorem dX6_findDigits_92 : decode cX6_findDigits 92 = .ok (.iload_n 3, 1) := by decide +kernel
theorem dX6_findDigits_93 : decode cX6_findDigits 93 = .ok (.laload, 1) := by decide +kernel
theorem dX6_findDigits_94 : decode cX6_findDigits 94 = .ok (.lmul, 1) := by decide +kernel
theorem dX6_findDigits_95 : decode cX6_findDigits 95 = .ok (.lload 4, 2) := by decide +kernel
theorem dX6_findDigits_97 : decode cX6_findDigits 97 = .ok (.lrem, 1) := by decide +kernel
theorem dX6_findDigits_98 : decode cX6_findDigits 98 = .ok (.lastore, 1) := by decide +kernel
theorem dX6_findDigits_99 : decode cX6_findDigits 99 = .ok (.iinc 3 1, 3) := by decide +kernel
theorem dX6_findDigits_102 : decode cX6_findDigits 102 = .ok (.goto (-100), 3) := by decide +kernel
theorem dX6_findDigits_105 : decode cX6_findDigits 105 = .ok (.return_, 1) := by decide +kernel
theorem dJ6_bitCount_0f7a4_0 : decode cJ6_bitCount_0f7a4 0 = .ok (.iload_n 0, 1) := by decide +kernel
theorem dJ6_bitCount_0f7a4_1 : decode cJ6_bitCount_0f7a4 1 = .ok (.iload_n 0, 1) := by decide +kernel
theorem dJ6_bitCount_0f7a4_2 : decode cJ6_bitCount_0f7a4 2 = .ok (.iconst 1, 1) := by decide +kernel
theorem dJ6_bitCount_0f7a4_3 : decode cJ6_bitCount_0f7a4 3 = .ok (.iushr, 1) := by decide +kernel
theorem dJ6_bitCount_0f7a4_4 : decode cJ6_bitCount_0f7a4 4 = .ok (.ldc_w 265, 3) := by decide +kernel
theorem dJ6_bitCount_0f7a4_7 : decode cJ6_bitCount_0f7a4 7 = .ok (.iand, 1) := by decide +kernel
theorem dJ6_bitCount_0f7a4_8 : decode cJ6_bitCount_0f7a4 8 = .ok (.isub, 1) := by decide +kernel
theorem dJ6_bitCount_0f7a4_9 : decode cJ6_bitCount_0f7a4 9 = .ok (.istore_n 0, 1) := by decide +kernel
theorem dJ6_bitCount_0f7a4_10 : decode cJ6_bitCount_0f7a4 10 = .ok (.iload_n 0, 1) := by decide +kernel
theorem dJ6_bitCount_0f7a4_11 : decode cJ6_bitCount_0f7a4 11 = .ok (.ldc_w 266, 3) := by decide +kernel
theorem dJ6_bitCount_0f7a4_14 : decode cJ6_bitCount_0f7a4 14 = .ok (.iand, 1) := by decide +kernel
theorem dJ6_bitCount_0f7a4_15 : decode cJ6_bitCount_0f7a4 15 = .ok (.iload_n 0, 1) := by decide +kernel
theorem dJ6_bitCount_0f7a4_16 : decode cJ6_bitCount_0f7a4 16 = .ok (.iconst 2, 1) := by decide +kernel
theorem dJ6_bitCount_0f7a4_17 : decode cJ6_bitCount_0f7a4 17 = .ok (.iushr, 1) := by decide +kernel
theorem dJ6_bitCount_0f7a4_18 : decode cJ6_bitCount_0f7a4 18 = .ok (.ldc_w 266, 3) := by decide +kernel
theorem dJ6_bitCount_0f7a4_21 : decode cJ6_bitCount_0f7a4 21 = .ok (.iand, 1) := by decide +kernel
theorem dJ6_bitCount_0f7a4_22 : decode cJ6_bitCount_0f7a4 22 = .ok (.iadd, 1) := by decide +kernel
theorem dJ6_bitCount_0f7a4_23 : decode cJ6_bitCount_0f7a4 23 = .ok (.istore_n 0, 1) := by decide +kernel
theorem dJ6_bitCount_0f7a4_24 : decode cJ6_bitCount_0f7a4 24 = .ok (.iload_n 0, 1) := by decide +kernel
theorem dJ6_bitCount_0f7a4_25 : decode cJ6_bitCount_0f7a4 25 = .ok (.iload_n 0, 1) := by decide +kernel
theorem dJ6_bitCount_0f7a4_26 : decode cJ6_bitCount_0f7a4 26 = .ok (.iconst 4, 1) := by decide +kernel
theorem dJ6_bitCount_0f7a4_27 : decode cJ6_bitCount_0f7a4 27 = .ok (.iushr, 1) := by decide +kernel
theorem dJ6_bitCount_0f7a4_28 : decode cJ6_bitCount_0f7a4 28 = .ok (.iadd, 1) := by decide +kernel
theorem dJ6_bitCount_0f7a4_29 : decode cJ6_bitCount_0f7a4 29 = .ok (.ldc_w 267, 3) := by decide +kernel
theorem dJ6_bitCount_0f7a4_32 : decode cJ6_bitCount_0f7a4 32 = .ok (.iand, 1) := by decide +kernel
theorem dJ6_bitCount_0f7a4_33 : decode cJ6_bitCount_0f7a4 33 = .ok (.istore_n 0, 1) := by decide +kernel
theorem dJ6_bitCount_0f7a4_34 : decode cJ6_bitCount_0f7a4 34 = .ok (.iload_n 0, 1) := by decide +kernel
theorem dJ6_bitCount_0f7a4_35 : decode cJ6_bitCount_0f7a4 35 = .ok (.iload_n 0, 1) := by decide +kernel
theorem dJ6_bitCount_0f7a4_36 : decode cJ6_bitCount_0f7a4 36 = .ok (.bipush 8, 2) := by decide +kernel
theorem dJ6_bitCount_0f7a4_38 : decode cJ6_bitCount_0f7a4 38 = .ok (.iushr, 1) := by decide +kernel
theorem dJ6_bitCount_0f7a4_39 : decode cJ6_bitCount_0f7a4 39 = .ok (.iadd, 1) := by decide +kernel
theorem dJ6_bitCount_0f7a4_40 : decode cJ6_bitCount_0f7a4 40 = .ok (.istore_n 0, 1) := by decide +kernel
theorem dJ6_bitCount_0f7a4_41 : decode cJ6_bitCount_0f7a4 41 = .ok (.iload_n 0, 1) := by decide +kernel
theorem dJ6_bitCount_0f7a4_42 : decode cJ6_bitCount_0f7a4 42 = .ok (.iload_n 0, 1) := by decide +kernel
theorem dJ6_bitCount_0f7a4_43 : decode cJ6_bitCount_0f7a4 43 = .ok (.bipush 16, 2) := by decide +kernel
theorem dJ6_bitCount_0f7a4_45 : decode cJ6_bitCount_0f7a4 45 = .ok (.iushr, 1) := by decide +kernel
theorem dJ6_bitCount_0f7a4_46 : decode cJ6_bitCount_0f7a4 46 = .ok (.iadd, 1) := by decide +kernel
theorem dJ6_bitCount_0f7a4_47 : decode cJ6_bitCount_0f7a4 47 = .ok (.istore_n 0, 1) := by decide +kernel
theorem dJ6_bitCount_0f7a4_48 : decode cJ6_bitCount_0f7a4 48 = .ok (.iload_n 0, 1) := by decide +kernel
theorem dJ6_bitCount_0f7a4_49 : decode cJ6_bitCount_0f7a4 49 = .ok (.bipush 63, 2) := by decide +kernel
theorem dJ6_bitCount_0f7a4_51 : decode cJ6_bitCount_0f7a4 51 = .ok (.iand, 1) := by decide +kernel
theorem dJ6_bitCount_0f7a4_52 : decode cJ6_bitCount_0f7a4 52 = .ok (.ireturn, 1) := by decide +kernel
theorem dJ9_floorMod_7cf53_0 : decode cJ9_floorMod_7cf53 0 = .ok (.iload_n 0, 1) := by decide +kernel
theorem dJ9_floorMod_7cf53_1 : decode cJ9_floorMod_7cf53 1 = .ok (.iload_n 1, 1) := by decide +kernel
theorem dJ9_floorMod_7cf53_2 : decode cJ9_floorMod_7cf53 2 = .ok (.irem, 1) := by decide +kernel
theorem dJ9_floorMod_7cf53_3 : decode cJ9_floorMod_7cf53 3 = .ok (.istore_n 2, 1) := by decide +kernel
theorem dJ9_floorMod_7cf53_4 : decode cJ9_floorMod_7cf53 4 = .ok (.iload_n 0, 1) := by decide +kernel
theorem dJ9_floorMod_7cf53_5 : decode cJ9_floorMod_7cf53 5 = .ok (.iload_n 1, 1) := by decide +kernel
theorem dJ9_floorMod_7cf53_6 : decode cJ9_floorMod_7cf53 6 = .ok (.ixor, 1) := by decide +kernel
theorem dJ9_floorMod_7cf53_7 : decode cJ9_floorMod_7cf53 7 = .ok (.ifCond .ge 11, 3) := by decide +kernel
theorem dJ9_floorMod_7cf53_10 : decode cJ9_floorMod_7cf53 10 = .ok (.iload_n 2, 1) := by decide +kernel
theorem dJ9_floorMod_7cf53_11 : decode cJ9_floorMod_7cf53 11 = .ok (.ifCond .eq 7, 3) := by decide +kernel
theorem dJ9_floorMod_7cf53_14 : decode cJ9_floorMod_7cf53 14 = .ok (.iload_n 2, 1) := by decide +kernel
theorem dJ9_floorMod_7cf53_15 : decode cJ9_floorMod_7cf53 15 = .ok (.iload_n 1, 1) := by decide +kernel
theorem dJ9_floorMod_7cf53_16 : decode cJ9_floorMod_7cf53 16 = .ok (.iadd, 1) := by decide +kernel
theorem dJ9_floorMod_7cf53_17 : decode cJ9_floorMod_7cf53 17 = .ok (.ireturn, 1) := by decide +kernel
theorem dJ9_floorMod_7cf53_18 : decode cJ9_floorMod_7cf53 18 = .ok (.iload_n 2, 1) := by decide +kernel
theorem dJ9_floorMod_7cf53_19 : decode cJ9_floorMod_7cf53 19 = .ok (.ireturn, 1) := by decide +kernel
theorem dJ9_floorMod_f86c9_0 : decode cJ9_floorMod_f86c9 0 = .ok (.lload_n 0, 1) := by decide +kernel
theorem dJ9_floorMod_f86c9_1 : decode cJ9_floorMod_f86c9 1 = .ok (.lload_n 2, 1) := by decide +kernel
theorem dJ9_floorMod_f86c9_2 : decode cJ9_floorMod_f86c9 2 = .ok (.lrem, 1) := by decide +kernel
theorem dJ9_floorMod_f86c9_3 : decode cJ9_floorMod_f86c9 3 = .ok (.lstore 4, 2) := by decide +kernel
theorem dJ9_floorMod_f86c9_5 : decode cJ9_floorMod_f86c9 5 = .ok (.lload_n 0, 1) := by decide +kernel
theorem dJ9_floorMod_f86c9_6 : decode cJ9_floorMod_f86c9 6 = .ok (.lload_n 2, 1) := by decide +kernel
theorem dJ9_floorMod_f86c9_7 : decode cJ9_floorMod_f86c9 7 = .ok (.lxor, 1) := by decide +kernel
theorem dJ9_floorMod_f86c9_8 : decode cJ9_floorMod_f86c9 8 = .ok (.lconst 0, 1) := by decide +kernel
theorem dJ9_floorMod_f86c9_9 : decode cJ9_floorMod_f86c9 9 = .ok (.lcmp, 1) := by decide +kernel
theorem dJ9_floorMod_f86c9_10 : decode cJ9_floorMod_f86c9 10 = .ok (.ifCond .ge 15, 3) := by decide +kernel
theorem dJ9_floorMod_f86c9_13 : decode cJ9_floorMod_f86c9 13 = .ok (.lload 4, 2) := by decide +kernel
theorem dJ9_floorMod_f86c9_15 : decode cJ9_floorMod_f86c9 15 = .ok (.lconst 0, 1) := by decide +kernel
theorem dJ9_floorMod_f86c9_16 : decode cJ9_floorMod_f86c9 16 = .ok (.lcmp, 1) := by decide +kernel
theorem dJ9_floorMod_f86c9_17 : decode cJ9_floorMod_f86c9 17 = .ok (.ifCond .eq 8, 3) := by decide +kernel
theorem dJ9_floorMod_f86c9_20 : decode cJ9_floorMod_f86c9 20 = .ok (.lload 4, 2) := by decide +kernel
theorem dJ9_floorMod_f86c9_22 : decode cJ9_floorMod_f86c9 22 = .ok (.lload_n 2, 1) := by decide +kernel
theorem dJ9_floorMod_f86c9_23 : decode cJ9_floorMod_f86c9 23 = .ok (.ladd, 1) := by decide +kernel
theorem dJ9_floorMod_f86c9_24 : decode cJ9_floorMod_f86c9 24 = .ok (.lreturn, 1) := by decide +kernel
theorem dJ9_floorMod_f86c9_25 : decode cJ9_floorMod_f86c9 25 = .ok (.lload 4, 2) := by decide +kernel
theorem dJ9_floorMod_f86c9_27 : decode cJ9_floorMod_f86c9 27 = .ok (.lreturn, 1) := by decide +kernel
theorem dJ9_abs_0f7a4_0 : decode cJ9_abs_0f7a4 0 = .ok (.iload_n 0, 1) := by decide +kernel
theorem dJ9_abs_0f7a4_1 : decode cJ9_abs_0f7a4 1 = .ok (.ifCond .ge 8, 3) := by decide +kernel
theorem dJ9_abs_0f7a4_4 : decode cJ9_abs_0f7a4 4 = .ok (.iload_n 0, 1) := by decide +kernel
theorem dJ9_abs_0f7a4_5 : decode cJ9_abs_0f7a4 5 = .ok (.ineg, 1) := by decide +kernel
theorem dJ9_abs_0f7a4_6 : decode cJ9_abs_0f7a4 6 = .ok (.goto 4, 3) := by decide +kernel
theorem dJ9_abs_0f7a4_9 : decode cJ9_abs_0f7a4 9 = .ok (.iload_n 0, 1) := by decide +kernel
theorem dJ9_abs_0f7a4_10 : decode cJ9_abs_0f7a4 10 = .ok (.ireturn, 1) := by decide +kernel
theorem dJ9_max_7cf53_0 : decode cJ9_max_7cf53 0 = .ok (.iload_n 0, 1) := by decide +kernel
theorem dJ9_max_7cf53_1 : decode cJ9_max_7cf53 1 = .ok (.iload_n 1, 1) := by decide +kernel
theorem dJ9_max_7cf53_2 : decode cJ9_max_7cf53 2 = .ok (.if_icmp .lt 7, 3) := by decide +kernel
theorem dJ9_max_7cf53_5 : decode cJ9_max_7cf53 5 = .ok (.iload_n 0, 1) := by decide +kernel
theorem dJ9_max_7cf53_6 : decode cJ9_max_7cf53 6 = .ok (.goto 4, 3) := by decide +kernel
theorem dJ9_max_7cf53_9 : decode cJ9_max_7cf53 9 = .ok (.iload_n 1, 1) := by decide +kernel
theorem dJ9_max_7cf53_10 : decode cJ9_max_7cf53 10 = .ok (.ireturn, 1) := by decide +kernel
theorem dJ9_min_7cf53_0 : decode cJ9_min_7cf53 0 = .ok (.iload_n 0, 1) := by decide +kernel
theorem dJ9_min_7cf53_1 : decode cJ9_min_7cf53 1 = .ok (.iload_n 1, 1) := by decide +kernel
theorem dJ9_min_7cf53_2 : decode cJ9_min_7cf53 2 = .ok (.if_icmp .gt 7, 3) := by decide +kernel
theorem dJ9_min_7cf53_5 : decode cJ9_min_7cf53 5 = .ok (.iload_n 0, 1) := by decide +kernel
theorem dJ9_min_7cf53_6 : decode cJ9_min_7cf53 6 = .ok (.goto 4, 3) := by decide +kernel
theorem dJ9_min_7cf53_9 : decode cJ9_min_7cf53 9 = .ok (.iload_n 1, 1) := by decide +kernel
theorem dJ9_min_7cf53_10 : decode cJ9_min_7cf53 10 = .ok (.ireturn, 1) := by decide +kernel
theorem dJ7_fill_d0a16_0 : decode cJ7_fill_d0a16 0 = .ok (.iconst 0, 1) := by decide +kernel
theorem dJ7_fill_d0a16_1 : decode cJ7_fill_d0a16 1 = .ok (.istore_n 3, 1) := by decide +kernel
theorem dJ7_fill_d0a16_2 : decode cJ7_fill_d0a16 2 = .ok (.aload_n 0, 1) := by decide +kernel
theorem dJ7_fill_d0a16_3 : decode cJ7_fill_d0a16 3 = .ok (.arraylength, 1) := by decide +kernel
theorem dJ7_fill_d0a16_4 : decode cJ7_fill_d0a16 4 = .ok (.istore 4, 2) := by decide +kernel
theorem dJ7_fill_d0a16_6 : decode cJ7_fill_d0a16 6 = .ok (.iload_n 3, 1) := by decide +kernel
theorem dJ7_fill_d0a16_7 : decode cJ7_fill_d0a16 7 = .ok (.iload 4, 2) := by decide +kernel
theorem dJ7_fill_d0a16_9 : decode cJ7_fill_d0a16 9 = .ok (.if_icmp .ge 13, 3) := by decide +kernel
theorem dJ7_fill_d0a16_12 : decode cJ7_fill_d0a16 12 = .ok (.aload_n 0, 1) := by decide +kernel
theorem dJ7_fill_d0a16_13 : decode cJ7_fill_d0a16 13 = .ok (.iload_n 3, 1) := by decide +kernel
theorem dJ7_fill_d0a16_14 : decode cJ7_fill_d0a16 14 = .ok (.lload_n 1, 1) := by decide +kernel
theorem dJ7_fill_d0a16_15 : decode cJ7_fill_d0a16 15 = .ok (.lastore, 1) := by decide +kernel
theorem dJ7_fill_d0a16_16 : decode cJ7_fill_d0a16 16 = .ok (.iinc 3 1, 3) := by decide +kernel
theorem dJ7_fill_d0a16_19 : decode cJ7_fill_d0a16 19 = .ok (.goto (-13), 3) := by decide +kernel
theorem dJ7_fill_d0a16_22 : decode cJ7_fill_d0a16 22 = .ok (.return_, 1) := by decide +kernel
theorem dJ7_fill_53178_0 : decode cJ7_fill_53178 0 = .ok (.iconst 0, 1) := by decide +kernel
theorem dJ7_fill_53178_1 : decode cJ7_fill_53178 1 = .ok (.istore_n 2, 1) := by decide +kernel
theorem dJ7_fill_53178_2 : decode cJ7_fill_53178 2 = .ok (.aload_n 0, 1) := by decide +kernel
theorem dJ7_fill_53178_3 : decode cJ7_fill_53178 3 = .ok (.arraylength, 1) := by decide +kernel
theorem dJ7_fill_53178_4 : decode cJ7_fill_53178 4 = .ok (.istore_n 3, 1) := by decide +kernel
theorem dJ7_fill_53178_5 : decode cJ7_fill_53178 5 = .ok (.iload_n 2, 1) := by decide +kernel
theorem dJ7_fill_53178_6 : decode cJ7_fill_53178 6 = .ok (.iload_n 3, 1) := by decide +kernel
theorem dJ7_fill_53178_7 : decode cJ7_fill_53178 7 = .ok (.if_icmp .ge 13, 3) := by decide +kernel
theorem dJ7_fill_53178_10 : decode cJ7_fill_53178 10 = .ok (.aload_n 0, 1) := by decide +kernel
theorem dJ7_fill_53178_11 : decode cJ7_fill_53178 11 = .ok (.iload_n 2, 1) := by decide +kernel
theorem dJ7_fill_53178_12 : decode cJ7_fill_53178 12 = .ok (.iload_n 1, 1) := by decide +kernel
theorem dJ7_fill_53178_13 : decode cJ7_fill_53178 13 = .ok (.iastore, 1) := by decide +kernel
theorem dJ7_fill_53178_14 : decode cJ7_fill_53178 14 = .ok (.iinc 2 1, 3) := by decide +kernel
theorem dJ7_fill_53178_17 : decode cJ7_fill_53178 17 = .ok (.goto (-12), 3) := by decide +kernel
theorem dJ7_fill_53178_20 : decode cJ7_fill_53178 20 = .ok (.return_, 1) := by decide +kernel
