theorem dX0_init_0 : decode cX0_init 0 = .ok (.aload_n 0, 1) := by decide +kernel
theorem dX0_init_1 : decode cX0_init 1 = .ok (.invokespecial 3, 3) := by decide +kernel
theorem dX0_init_4 : decode cX0_init 4 = .ok (.aload_n 0, 1) := by decide +kernel
theorem dX0_init_5 : decode cX0_init 5 = .ok (.sipush 186, 3) := by decide +kernel
theorem dX0_init_8 : decode cX0_init 8 = .ok (.newarray .int, 2) := by decide +kernel
theorem dX0_init_10 : decode cX0_init 10 = .ok (.putfield 9, 3) := by decide +kernel
theorem dX0_init_13 : decode cX0_init 13 = .ok (.aload_n 0, 1) := by decide +kernel
theorem dX0_init_14 : decode cX0_init 14 = .ok (.bipush 31, 2) := by decide +kernel
theorem dX0_init_16 : decode cX0_init 16 = .ok (.newarray .int, 2) := by decide +kernel
theorem dX0_init_18 : decode cX0_init 18 = .ok (.putfield 15, 3) := by decide +kernel
theorem dX0_init_21 : decode cX0_init 21 = .ok (.aload_n 0, 1) := by decide +kernel
theorem dX0_init_22 : decode cX0_init 22 = .ok (.bipush 31, 2) := by decide +kernel
theorem dX0_init_24 : decode cX0_init 24 = .ok (.newarray .int, 2) := by decide +kernel
theorem dX0_init_26 : decode cX0_init 26 = .ok (.putfield 18, 3) := by decide +kernel
theorem dX0_init_29 : decode cX0_init 29 = .ok (.aload_n 0, 1) := by decide +kernel
theorem dX0_init_30 : decode cX0_init 30 = .ok (.aload_n 1, 1) := by decide +kernel
theorem dX0_init_31 : decode cX0_init 31 = .ok (.putfield 21, 3) := by decide +kernel
theorem dX0_init_34 : decode cX0_init 34 = .ok (.aload_n 0, 1) := by decide +kernel
theorem dX0_init_35 : decode cX0_init 35 = .ok (.aload_n 2, 1) := by decide +kernel
theorem dX0_init_36 : decode cX0_init 36 = .ok (.putfield 25, 3) := by decide +kernel
theorem dX0_init_39 : decode cX0_init 39 = .ok (.aload_n 0, 1) := by decide +kernel
theorem dX0_init_40 : decode cX0_init 40 = .ok (.aload_n 3, 1) := by decide +kernel
theorem dX0_init_41 : decode cX0_init 41 = .ok (.putfield 29, 3) := by decide +kernel
theorem dX0_init_44 : decode cX0_init 44 = .ok (.aload_n 0, 1) := by decide +kernel
theorem dX0_init_45 : decode cX0_init 45 = .ok (.aload 4, 2) := by decide +kernel
theorem dX0_init_47 : decode cX0_init 47 = .ok (.putfield 33, 3) := by decide +kernel
theorem dX0_init_50 : decode cX0_init 50 = .ok (.return_, 1) := by decide +kernel
theorem dX0_make_0 : decode cX0_make 0 = .ok (.iconst 0, 1) := by decide +kernel
theorem dX0_make_1 : decode cX0_make 1 = .ok (.istore_n 1, 1) := by decide +kernel
theorem dX0_make_2 : decode cX0_make 2 = .ok (.iload_n 1, 1) := by decide +kernel
theorem dX0_make_3 : decode cX0_make 3 = .ok (.aload_n 0, 1) := by decide +kernel
theorem dX0_make_4 : decode cX0_make 4 = .ok (.getfield 21, 3) := by decide +kernel
theorem dX0_make_7 : decode cX0_make 7 = .ok (.getfield 37, 3) := by decide +kernel
theorem dX0_make_10 : decode cX0_make 10 = .ok (.if_icmp .ge 62, 3) := by decide +kernel
theorem dX0_make_13 : decode cX0_make 13 = .ok (.aload_n 0, 1) := by decide +kernel
theorem dX0_make_14 : decode cX0_make 14 = .ok (.getfield 21, 3) := by decide +kernel
theorem dX0_make_17 : decode cX0_make 17 = .ok (.iload_n 1, 1) := by decide +kernel
theorem dX0_make_18 : decode cX0_make 18 = .ok (.iconst 1, 1) := by decide +kernel
theorem dX0_make_19 : decode cX0_make 19 = .ok (.isub, 1) := by decide +kernel
theorem dX0_make_20 : decode cX0_make 20 = .ok (.invokevirtual 43, 3) := by decide +kernel
theorem dX0_make_23 : decode cX0_make 23 = .ok (.aload_n 0, 1) := by decide +kernel
theorem dX0_make_24 : decode cX0_make 24 = .ok (.getfield 21, 3) := by decide +kernel
theorem dX0_make_27 : decode cX0_make 27 = .ok (.getfield 47, 3) := by decide +kernel
theorem dX0_make_30 : decode cX0_make 30 = .ok (.ifCond .le 20, 3) := by decide +kernel
theorem dX0_make_33 : decode cX0_make 33 = .ok (.aload_n 0, 1) := by decide +kernel
theorem dX0_make_34 : decode cX0_make 34 = .ok (.iload_n 1, 1) := by decide +kernel
theorem dX0_make_35 : decode cX0_make 35 = .ok (.aload_n 0, 1) := by decide +kernel
theorem dX0_make_36 : decode cX0_make 36 = .ok (.getfield 21, 3) := by decide +kernel
theorem dX0_make_39 : decode cX0_make 39 = .ok (.getfield 50, 3) := by decide +kernel
theorem dX0_make_42 : decode cX0_make 42 = .ok (.iconst 0, 1) := by decide +kernel
theorem dX0_make_43 : decode cX0_make 43 = .ok (.iaload, 1) := by decide +kernel
theorem dX0_make_44 : decode cX0_make 44 = .ok (.invokevirtual 53, 3) := by decide +kernel
theorem dX0_make_47 : decode cX0_make 47 = .ok (.goto 8, 3) := by decide +kernel
theorem dX0_make_50 : decode cX0_make 50 = .ok (.aload_n 0, 1) := by decide +kernel
theorem dX0_make_51 : decode cX0_make 51 = .ok (.iload_n 1, 1) := by decide +kernel
theorem dX0_make_52 : decode cX0_make 52 = .ok (.invokevirtual 57, 3) := by decide +kernel
theorem dX0_make_55 : decode cX0_make 55 = .ok (.aload_n 0, 1) := by decide +kernel
theorem dX0_make_56 : decode cX0_make 56 = .ok (.getfield 18, 3) := by decide +kernel
theorem dX0_make_59 : decode cX0_make 59 = .ok (.iload_n 1, 1) := by decide +kernel
theorem dX0_make_60 : decode cX0_make 60 = .ok (.aload_n 0, 1) := by decide +kernel
theorem dX0_make_61 : decode cX0_make 61 = .ok (.iload_n 1, 1) := by decide +kernel
theorem dX0_make_62 : decode cX0_make 62 = .ok (.invokevirtual 60, 3) := by decide +kernel
theorem dX0_make_65 : decode cX0_make 65 = .ok (.iastore, 1) := by decide +kernel
theorem dX0_make_66 : decode cX0_make 66 = .ok (.iinc 1 1, 3) := by decide +kernel
theorem dX0_make_69 : decode cX0_make 69 = .ok (.goto (-67), 3) := by decide +kernel
theorem dX0_make_72 : decode cX0_make 72 = .ok (.return_, 1) := by decide +kernel
theorem dX0_begin_0 : decode cX0_begin 0 = .ok (.aload_n 0, 1) := by decide +kernel
theorem dX0_begin_1 : decode cX0_begin 1 = .ok (.getfield 15, 3) := by decide +kernel
theorem dX0_begin_4 : decode cX0_begin 4 = .ok (.iload_n 1, 1) := by decide +kernel
theorem dX0_begin_5 : decode cX0_begin 5 = .ok (.iload_n 1, 1) := by decide +kernel
theorem dX0_begin_6 : decode cX0_begin 6 = .ok (.iastore, 1) := by decide +kernel
theorem dX0_begin_7 : decode cX0_begin 7 = .ok (.iconst 0, 1) := by decide +kernel
theorem dX0_begin_8 : decode cX0_begin 8 = .ok (.istore_n 2, 1) := by decide +kernel
theorem dX0_begin_9 : decode cX0_begin 9 = .ok (.iload_n 2, 1) := by decide +kernel
theorem dX0_begin_10 : decode cX0_begin 10 = .ok (.bipush 6, 2) := by decide +kernel
theorem dX0_begin_12 : decode cX0_begin 12 = .ok (.if_icmp .ge 21, 3) := by decide +kernel
theorem dX0_begin_15 : decode cX0_begin 15 = .ok (.aload_n 0, 1) := by decide +kernel
theorem dX0_begin_16 : decode cX0_begin 16 = .ok (.getfield 9, 3) := by decide +kernel
theorem dX0_begin_19 : decode cX0_begin 19 = .ok (.iload_n 1, 1) := by decide +kernel
theorem dX0_begin_20 : decode cX0_begin 20 = .ok (.bipush 6, 2) := by decide +kernel
theorem dX0_begin_22 : decode cX0_begin 22 = .ok (.imul, 1) := by decide +kernel
theorem dX0_begin_23 : decode cX0_begin 23 = .ok (.iload_n 2, 1) := by decide +kernel
theorem dX0_begin_24 : decode cX0_begin 24 = .ok (.iadd, 1) := by decide +kernel
theorem dX0_begin_25 : decode cX0_begin 25 = .ok (.iconst 0, 1) := by decide +kernel
theorem dX0_begin_26 : decode cX0_begin 26 = .ok (.iastore, 1) := by decide +kernel
theorem dX0_begin_27 : decode cX0_begin 27 = .ok (.iinc 2 1, 3) := by decide +kernel
theorem dX0_begin_30 : decode cX0_begin 30 = .ok (.goto (-21), 3) := by decide +kernel
theorem dX0_begin_33 : decode cX0_begin 33 = .ok (.return_, 1) := by decide +kernel
theorem dX0_goOn_0 : decode cX0_goOn 0 = .ok (.aload_n 0, 1) := by decide +kernel
theorem dX0_goOn_1 : decode cX0_goOn 1 = .ok (.getfield 15, 3) := by decide +kernel
theorem dX0_goOn_4 : decode cX0_goOn 4 = .ok (.iload_n 1, 1) := by decide +kernel
theorem dX0_goOn_5 : decode cX0_goOn 5 = .ok (.aload_n 0, 1) := by decide +kernel
theorem dX0_goOn_6 : decode cX0_goOn 6 = .ok (.getfield 15, 3) := by decide +kernel
theorem dX0_goOn_9 : decode cX0_goOn 9 = .ok (.iload_n 1, 1) := by decide +kernel
theorem dX0_goOn_10 : decode cX0_goOn 10 = .ok (.iconst 1, 1) := by decide +kernel
theorem dX0_goOn_11 : decode cX0_goOn 11 = .ok (.isub, 1) := by decide +kernel
theorem dX0_goOn_12 : decode cX0_goOn 12 = .ok (.iaload, 1) := by decide +kernel
theorem dX0_goOn_13 : decode cX0_goOn 13 = .ok (.iastore, 1) := by decide +kernel
theorem dX0_goOn_14 : decode cX0_goOn 14 = .ok (.aload_n 0, 1) := by decide +kernel
theorem dX0_goOn_15 : decode cX0_goOn 15 = .ok (.getfield 9, 3) := by decide +kernel
theorem dX0_goOn_18 : decode cX0_goOn 18 = .ok (.iload_n 1, 1) := by decide +kernel
theorem dX0_goOn_19 : decode cX0_goOn 19 = .ok (.iconst 1, 1) := by decide +kernel
theorem dX0_goOn_20 : decode cX0_goOn 20 = .ok (.isub, 1) := by decide +kernel
theorem dX0_goOn_21 : decode cX0_goOn 21 = .ok (.bipush 6, 2) := by decide +kernel
theorem dX0_goOn_23 : decode cX0_goOn 23 = .ok (.imul, 1) := by decide +kernel
theorem dX0_goOn_24 : decode cX0_goOn 24 = .ok (.aload_n 0, 1) := by decide +kernel
theorem dX0_goOn_25 : decode cX0_goOn 25 = .ok (.getfield 9, 3) := by decide +kernel
theorem dX0_goOn_28 : decode cX0_goOn 28 = .ok (.iload_n 1, 1) := by decide +kernel
theorem dX0_goOn_29 : decode cX0_goOn 29 = .ok (.bipush 6, 2) := by decide +kernel
theorem dX0_goOn_31 : decode cX0_goOn 31 = .ok (.imul, 1) := by decide +kernel
theorem dX0_goOn_32 : decode cX0_goOn 32 = .ok (.bipush 6, 2) := by decide +kernel
theorem dX0_goOn_34 : decode cX0_goOn 34 = .ok (.invokestatic 64, 3) := by decide +kernel
theorem dX0_goOn_37 : decode cX0_goOn 37 = .ok (.aload_n 0, 1) := by decide +kernel
theorem dX0_goOn_38 : decode cX0_goOn 38 = .ok (.iload_n 1, 1) := by decide +kernel
theorem dX0_goOn_39 : decode cX0_goOn 39 = .ok (.iload_n 1, 1) := by decide +kernel
theorem dX0_goOn_40 : decode cX0_goOn 40 = .ok (.iconst 1, 1) := by decide +kernel
theorem dX0_goOn_41 : decode cX0_goOn 41 = .ok (.isub, 1) := by decide +kernel
theorem dX0_goOn_42 : decode cX0_goOn 42 = .ok (.iload_n 2, 1) := by decide +kernel
theorem dX0_goOn_43 : decode cX0_goOn 43 = .ok (.iconst 1, 1) := by decide +kernel
theorem dX0_goOn_44 : decode cX0_goOn 44 = .ok (.invokevirtual 70, 3) := by decide +kernel
theorem dX0_goOn_47 : decode cX0_goOn 47 = .ok (.aload_n 0, 1) := by decide +kernel
theorem dX0_goOn_48 : decode cX0_goOn 48 = .ok (.iload_n 1, 1) := by decide +kernel
theorem dX0_goOn_49 : decode cX0_goOn 49 = .ok (.iload_n 1, 1) := by decide +kernel
theorem dX0_goOn_50 : decode cX0_goOn 50 = .ok (.iload_n 2, 1) := by decide +kernel
theorem dX0_goOn_51 : decode cX0_goOn 51 = .ok (.iconst (-1), 1) := by decide +kernel
theorem dX0_goOn_52 : decode cX0_goOn 52 = .ok (.invokevirtual 70, 3) := by decide +kernel
theorem dX0_goOn_55 : decode cX0_goOn 55 = .ok (.return_, 1) := by decide +kernel
theorem dX0_multiply_0 : decode cX0_multiply 0 = .ok (.aload_n 0, 1) := by decide +kernel
theorem dX0_multiply_1 : decode cX0_multiply 1 = .ok (.getfield 29, 3) := by decide +kernel
theorem dX0_multiply_4 : decode cX0_multiply 4 = .ok (.iload_n 2, 1) := by decide +kernel
theorem dX0_multiply_5 : decode cX0_multiply 5 = .ok (.aload_n 0, 1) := by decide +kernel
theorem dX0_multiply_6 : decode cX0_multiply 6 = .ok (.getfield 33, 3) := by decide +kernel
theorem dX0_multiply_9 : decode cX0_multiply 9 = .ok (.getfield 74, 3) := by decide +kernel
theorem dX0_multiply_12 : decode cX0_multiply 12 = .ok (.iload_n 2, 1) := by decide +kernel
theorem dX0_multiply_13 : decode cX0_multiply 13 = .ok (.iaload, 1) := by decide +kernel
theorem dX0_multiply_14 : decode cX0_multiply 14 = .ok (.invokevirtual 79, 3) := by decide +kernel
theorem dX0_multiply_17 : decode cX0_multiply 17 = .ok (.aload_n 0, 1) := by decide +kernel
theorem dX0_multiply_18 : decode cX0_multiply 18 = .ok (.getfield 29, 3) := by decide +kernel
theorem dX0_multiply_21 : decode cX0_multiply 21 = .ok (.getfield 84, 3) := by decide +kernel
theorem dX0_multiply_24 : decode cX0_multiply 24 = .ok (.iload_n 3, 1) := by decide +kernel
theorem dX0_multiply_25 : decode cX0_multiply 25 = .ok (.iaload, 1) := by decide +kernel
theorem dX0_multiply_26 : decode cX0_multiply 26 = .ok (.istore 5, 2) := by decide +kernel
theorem dX0_multiply_28 : decode cX0_multiply 28 = .ok (.iconst 0, 1) := by decide +kernel
theorem dX0_multiply_29 : decode cX0_multiply 29 = .ok (.istore 6, 2) := by decide +kernel
theorem dX0_multiply_31 : decode cX0_multiply 31 = .ok (.iload 6, 2) := by decide +kernel
theorem dX0_multiply_33 : decode cX0_multiply 33 = .ok (.bipush 6, 2) := by decide +kernel
theorem dX0_multiply_35 : decode cX0_multiply 35 = .ok (.if_icmp .ge 43, 3) := by decide +kernel
theorem dX0_multiply_38 : decode cX0_multiply 38 = .ok (.aload_n 0, 1) := by decide +kernel
theorem dX0_multiply_39 : decode cX0_multiply 39 = .ok (.getfield 9, 3) := by decide +kernel
theorem dX0_multiply_42 : decode cX0_multiply 42 = .ok (.iload_n 1, 1) := by decide +kernel
theorem dX0_multiply_43 : decode cX0_multiply 43 = .ok (.bipush 6, 2) := by decide +kernel
theorem dX0_multiply_45 : decode cX0_multiply 45 = .ok (.imul, 1) := by decide +kernel
theorem dX0_multiply_46 : decode cX0_multiply 46 = .ok (.iload 6, 2) := by decide +kernel
theorem dX0_multiply_48 : decode cX0_multiply 48 = .ok (.iadd, 1) := by decide +kernel
theorem dX0_multiply_49 : decode cX0_multiply 49 = .ok (.dup2, 1) := by decide +kernel
theorem dX0_multiply_50 : decode cX0_multiply 50 = .ok (.iaload, 1) := by decide +kernel
theorem dX0_multiply_51 : decode cX0_multiply 51 = .ok (.iload 4, 2) := by decide +kernel
theorem dX0_multiply_53 : decode cX0_multiply 53 = .ok (.aload_n 0, 1) := by decide +kernel
theorem dX0_multiply_54 : decode cX0_multiply 54 = .ok (.getfield 25, 3) := by decide +kernel
theorem dX0_multiply_57 : decode cX0_multiply 57 = .ok (.getfield 87, 3) := by decide +kernel
theorem dX0_multiply_60 : decode cX0_multiply 60 = .ok (.iload 5, 2) := by decide +kernel
theorem dX0_multiply_62 : decode cX0_multiply 62 = .ok (.bipush 6, 2) := by decide +kernel
theorem dX0_multiply_64 : decode cX0_multiply 64 = .ok (.imul, 1) := by decide +kernel
theorem dX0_multiply_65 : decode cX0_multiply 65 = .ok (.iload 6, 2) := by decide +kernel
theorem dX0_multiply_67 : decode cX0_multiply 67 = .ok (.iadd, 1) := by decide +kernel
theorem dX0_multiply_68 : decode cX0_multiply 68 = .ok (.iaload, 1) := by decide +kernel
theorem dX0_multiply_69 : decode cX0_multiply 69 = .ok (.imul, 1) := by decide +kernel
theorem dX0_multiply_70 : decode cX0_multiply 70 = .ok (.iadd, 1) := by decide +kernel
theorem dX0_multiply_71 : decode cX0_multiply 71 = .ok (.iastore, 1) := by decide +kernel
theorem dX0_multiply_72 : decode cX0_multiply 72 = .ok (.iinc 6 1, 3) := by decide +kernel
theorem dX0_multiply_75 : decode cX0_multiply 75 = .ok (.goto (-44), 3) := by decide +kernel
theorem dX0_multiply_78 : decode cX0_multiply 78 = .ok (.aload_n 0, 1) := by decide +kernel
theorem dX0_multiply_79 : decode cX0_multiply 79 = .ok (.getfield 9, 3) := by decide +kernel
theorem dX0_multiply_82 : decode cX0_multiply 82 = .ok (.iload_n 1, 1) := by decide +kernel
theorem dX0_multiply_83 : decode cX0_multiply 83 = .ok (.bipush 6, 2) := by decide +kernel
theorem dX0_multiply_85 : decode cX0_multiply 85 = .ok (.imul, 1) := by decide +kernel
theorem dX0_multiply_86 : decode cX0_multiply 86 = .ok (.dup2, 1) := by decide +kernel
theorem dX0_multiply_87 : decode cX0_multiply 87 = .ok (.iaload, 1) := by decide +kernel
theorem dX0_multiply_88 : decode cX0_multiply 88 = .ok (.iload 4, 2) := by decide +kernel
theorem dX0_multiply_90 : decode cX0_multiply 90 = .ok (.aload_n 0, 1) := by decide +kernel
theorem dX0_multiply_91 : decode cX0_multiply 91 = .ok (.getfield 29, 3) := by decide +kernel
theorem dX0_multiply_94 : decode cX0_multiply 94 = .ok (.iload_n 2, 1) := by decide +kernel
theorem dX0_multiply_95 : decode cX0_multiply 95 = .ok (.iload_n 3, 1) := by decide +kernel
theorem dX0_multiply_96 : decode cX0_multiply 96 = .ok (.invokevirtual 92, 3) := by decide +kernel
theorem dX0_multiply_99 : decode cX0_multiply 99 = .ok (.imul, 1) := by decide +kernel
theorem dX0_multiply_100 : decode cX0_multiply 100 = .ok (.iadd, 1) := by decide +kernel
theorem dX0_multiply_101 : decode cX0_multiply 101 = .ok (.iastore, 1) := by decide +kernel
theorem dX0_multiply_102 : decode cX0_multiply 102 = .ok (.return_, 1) := by decide +kernel
theorem dX0_driftOf_0 : decode cX0_driftOf 0 = .ok (.iconst 0, 1) := by decide +kernel
theorem dX0_driftOf_1 : decode cX0_driftOf 1 = .ok (.istore_n 2, 1) := by decide +kernel
theorem dX0_driftOf_2 : decode cX0_driftOf 2 = .ok (.iconst 0, 1) := by decide +kernel
theorem dX0_driftOf_3 : decode cX0_driftOf 3 = .ok (.istore_n 3, 1) := by decide +kernel
theorem dX0_driftOf_4 : decode cX0_driftOf 4 = .ok (.iload_n 3, 1) := by decide +kernel
theorem dX0_driftOf_5 : decode cX0_driftOf 5 = .ok (.bipush 6, 2) := by decide +kernel
theorem dX0_driftOf_7 : decode cX0_driftOf 7 = .ok (.if_icmp .ge 29, 3) := by decide +kernel
theorem dX0_driftOf_10 : decode cX0_driftOf 10 = .ok (.iload_n 2, 1) := by decide +kernel
theorem dX0_driftOf_11 : decode cX0_driftOf 11 = .ok (.aload_n 0, 1) := by decide +kernel
theorem dX0_driftOf_12 : decode cX0_driftOf 12 = .ok (.getfield 9, 3) := by decide +kernel
theorem dX0_driftOf_15 : decode cX0_driftOf 15 = .ok (.iload_n 1, 1) := by decide +kernel
theorem dX0_driftOf_16 : decode cX0_driftOf 16 = .ok (.bipush 6, 2) := by decide +kernel
theorem dX0_driftOf_18 : decode cX0_driftOf 18 = .ok (.imul, 1) := by decide +kernel
theorem dX0_driftOf_19 : decode cX0_driftOf 19 = .ok (.iload_n 3, 1) := by decide +kernel
theorem dX0_driftOf_20 : decode cX0_driftOf 20 = .ok (.iadd, 1) := by decide +kernel
theorem dX0_driftOf_21 : decode cX0_driftOf 21 = .ok (.iaload, 1) := by decide +kernel
theorem dX0_driftOf_22 : decode cX0_driftOf 22 = .ok (.getstatic 96, 3) := by decide +kernel
theorem dX0_driftOf_25 : decode cX0_driftOf 25 = .ok (.iload_n 3, 1) := by decide +kernel
theorem dX0_driftOf_26 : decode cX0_driftOf 26 = .ok (.iaload, 1) := by decide +kernel
theorem dX0_driftOf_27 : decode cX0_driftOf 27 = .ok (.imul, 1) := by decide +kernel
theorem dX0_driftOf_28 : decode cX0_driftOf 28 = .ok (.iadd, 1) := by decide +kernel
theorem dX0_driftOf_29 : decode cX0_driftOf 29 = .ok (.istore_n 2, 1) := by decide +kernel
theorem dX0_driftOf_30 : decode cX0_driftOf 30 = .ok (.iinc 3 1, 3) := by decide +kernel
theorem dX0_driftOf_33 : decode cX0_driftOf 33 = .ok (.goto (-29), 3) := by decide +kernel
theorem dX0_driftOf_36 : decode cX0_driftOf 36 = .ok (.iload_n 2, 1) := by decide +kernel
theorem dX0_driftOf_37 : decode cX0_driftOf 37 = .ok (.sipush 10000, 3) := by decide +kernel
theorem dX0_driftOf_40 : decode cX0_driftOf 40 = .ok (.aload_n 0, 1) := by decide +kernel
theorem dX0_driftOf_41 : decode cX0_driftOf 41 = .ok (.getfield 21, 3) := by decide +kernel
theorem dX0_driftOf_44 : decode cX0_driftOf 44 = .ok (.iload_n 1, 1) := by decide +kernel
theorem dX0_driftOf_45 : decode cX0_driftOf 45 = .ok (.invokevirtual 99, 3) := by decide +kernel
theorem dX0_driftOf_48 : decode cX0_driftOf 48 = .ok (.aload_n 0, 1) := by decide +kernel
theorem dX0_driftOf_49 : decode cX0_driftOf 49 = .ok (.getfield 21, 3) := by decide +kernel
theorem dX0_driftOf_52 : decode cX0_driftOf 52 = .ok (.aload_n 0, 1) := by decide +kernel
theorem dX0_driftOf_53 : decode cX0_driftOf 53 = .ok (.getfield 15, 3) := by decide +kernel
theorem dX0_driftOf_56 : decode cX0_driftOf 56 = .ok (.iload_n 1, 1) := by decide +kernel
theorem dX0_driftOf_57 : decode cX0_driftOf 57 = .ok (.iaload, 1) := by decide +kernel
theorem dX0_driftOf_58 : decode cX0_driftOf 58 = .ok (.invokevirtual 99, 3) := by decide +kernel
theorem dX0_driftOf_61 : decode cX0_driftOf 61 = .ok (.isub, 1) := by decide +kernel
theorem dX0_driftOf_62 : decode cX0_driftOf 62 = .ok (.imul, 1) := by decide +kernel
theorem dX0_driftOf_63 : decode cX0_driftOf 63 = .ok (.isub, 1) := by decide +kernel
theorem dX0_driftOf_64 : decode cX0_driftOf 64 = .ok (.ireturn, 1) := by decide +kernel
theorem dX0_findPump_0 : decode cX0_findPump 0 = .ok (.iconst 0, 1) := by decide +kernel
theorem dX0_findPump_1 : decode cX0_findPump 1 = .ok (.istore_n 2, 1) := by decide +kernel
theorem dX0_findPump_2 : decode cX0_findPump 2 = .ok (.iconst 0, 1) := by decide +kernel
theorem dX0_findPump_3 : decode cX0_findPump 3 = .ok (.istore_n 3, 1) := by decide +kernel
theorem dX0_findPump_4 : decode cX0_findPump 4 = .ok (.iload_n 3, 1) := by decide +kernel
theorem dX0_findPump_5 : decode cX0_findPump 5 = .ok (.aload_n 0, 1) := by decide +kernel
theorem dX0_findPump_6 : decode cX0_findPump 6 = .ok (.getfield 21, 3) := by decide +kernel
theorem dX0_findPump_9 : decode cX0_findPump 9 = .ok (.getfield 37, 3) := by decide +kernel
theorem dX0_findPump_12 : decode cX0_findPump 12 = .ok (.if_icmp .ge 55, 3) := by decide +kernel
theorem dX0_findPump_15 : decode cX0_findPump 15 = .ok (.iconst 0, 1) := by decide +kernel
theorem dX0_findPump_16 : decode cX0_findPump 16 = .ok (.istore 4, 2) := by decide +kernel
theorem dX0_findPump_18 : decode cX0_findPump 18 = .ok (.iload 4, 2) := by decide +kernel
theorem dX0_findPump_20 : decode cX0_findPump 20 = .ok (.iload_n 3, 1) := by decide +kernel
theorem dX0_findPump_21 : decode cX0_findPump 21 = .ok (.if_icmp .ge 40, 3) := by decide +kernel
theorem dX0_findPump_24 : decode cX0_findPump 24 = .ok (.aload_n 0, 1) := by decide +kernel
theorem dX0_findPump_25 : decode cX0_findPump 25 = .ok (.iload 4, 2) := by decide +kernel
theorem dX0_findPump_27 : decode cX0_findPump 27 = .ok (.iload_n 3, 1) := by decide +kernel
theorem dX0_findPump_28 : decode cX0_findPump 28 = .ok (.invokevirtual 102, 3) := by decide +kernel
theorem dX0_findPump_31 : decode cX0_findPump 31 = .ok (.ifCond .eq 24, 3) := by decide +kernel
theorem dX0_findPump_34 : decode cX0_findPump 34 = .ok (.iload_n 2, 1) := by decide +kernel
theorem dX0_findPump_35 : decode cX0_findPump 35 = .ok (.iload_n 1, 1) := by decide +kernel
theorem dX0_findPump_36 : decode cX0_findPump 36 = .ok (.if_icmp .ne 16, 3) := by decide +kernel
theorem dX0_findPump_39 : decode cX0_findPump 39 = .ok (.aload_n 0, 1) := by decide +kernel
theorem dX0_findPump_40 : decode cX0_findPump 40 = .ok (.iload 4, 2) := by decide +kernel
theorem dX0_findPump_42 : decode cX0_findPump 42 = .ok (.putfield 106, 3) := by decide +kernel
theorem dX0_findPump_45 : decode cX0_findPump 45 = .ok (.aload_n 0, 1) := by decide +kernel
theorem dX0_findPump_46 : decode cX0_findPump 46 = .ok (.iload_n 3, 1) := by decide +kernel
theorem dX0_findPump_47 : decode cX0_findPump 47 = .ok (.putfield 109, 3) := by decide +kernel
theorem dX0_findPump_50 : decode cX0_findPump 50 = .ok (.iconst 1, 1) := by decide +kernel
theorem dX0_findPump_51 : decode cX0_findPump 51 = .ok (.ireturn, 1) := by decide +kernel
theorem dX0_findPump_52 : decode cX0_findPump 52 = .ok (.iinc 2 1, 3) := by decide +kernel
theorem dX0_findPump_55 : decode cX0_findPump 55 = .ok (.iinc 4 1, 3) := by decide +kernel
theorem dX0_findPump_58 : decode cX0_findPump 58 = .ok (.goto (-40), 3) := by decide +kernel
theorem dX0_findPump_61 : decode cX0_findPump 61 = .ok (.iinc 3 1, 3) := by decide +kernel
theorem dX0_findPump_64 : decode cX0_findPump 64 = .ok (.goto (-60), 3) := by decide +kernel
theorem dX0_findPump_67 : decode cX0_findPump 67 = .ok (.iconst 0, 1) := by decide +kernel
theorem dX0_findPump_68 : decode cX0_findPump 68 = .ok (.ireturn, 1) := by decide +kernel
theorem dX0_isPump_0 : decode cX0_isPump 0 = .ok (.aload_n 0, 1) := by decide +kernel
theorem dX0_isPump_1 : decode cX0_isPump 1 = .ok (.getfield 15, 3) := by decide +kernel
theorem dX0_isPump_4 : decode cX0_isPump 4 = .ok (.iload_n 1, 1) := by decide +kernel
theorem dX0_isPump_5 : decode cX0_isPump 5 = .ok (.iaload, 1) := by decide +kernel
theorem dX0_isPump_6 : decode cX0_isPump 6 = .ok (.aload_n 0, 1) := by decide +kernel
theorem dX0_isPump_7 : decode cX0_isPump 7 = .ok (.getfield 15, 3) := by decide +kernel
theorem dX0_isPump_10 : decode cX0_isPump 10 = .ok (.iload_n 2, 1) := by decide +kernel
theorem dX0_isPump_11 : decode cX0_isPump 11 = .ok (.iaload, 1) := by decide +kernel
theorem dX0_isPump_12 : decode cX0_isPump 12 = .ok (.if_icmp .ne 41, 3) := by decide +kernel
theorem dX0_isPump_15 : decode cX0_isPump 15 = .ok (.aload_n 0, 1) := by decide +kernel
theorem dX0_isPump_16 : decode cX0_isPump 16 = .ok (.getfield 21, 3) := by decide +kernel
theorem dX0_isPump_19 : decode cX0_isPump 19 = .ok (.iload_n 1, 1) := by decide +kernel
theorem dX0_isPump_20 : decode cX0_isPump 20 = .ok (.invokevirtual 99, 3) := by decide +kernel
theorem dX0_isPump_23 : decode cX0_isPump 23 = .ok (.aload_n 0, 1) := by decide +kernel
theorem dX0_isPump_24 : decode cX0_isPump 24 = .ok (.getfield 21, 3) := by decide +kernel
theorem dX0_isPump_27 : decode cX0_isPump 27 = .ok (.iload_n 2, 1) := by decide +kernel
theorem dX0_isPump_28 : decode cX0_isPump 28 = .ok (.invokevirtual 99, 3) := by decide +kernel
theorem dX0_isPump_31 : decode cX0_isPump 31 = .ok (.if_icmp .ne 22, 3) := by decide +kernel
theorem dX0_isPump_34 : decode cX0_isPump 34 = .ok (.aload_n 0, 1) := by decide +kernel
theorem dX0_isPump_35 : decode cX0_isPump 35 = .ok (.getfield 18, 3) := by decide +kernel
theorem dX0_isPump_38 : decode cX0_isPump 38 = .ok (.iload_n 1, 1) := by decide +kernel
theorem dX0_isPump_39 : decode cX0_isPump 39 = .ok (.iaload, 1) := by decide +kernel
theorem dX0_isPump_40 : decode cX0_isPump 40 = .ok (.aload_n 0, 1) := by decide +kernel
theorem dX0_isPump_41 : decode cX0_isPump 41 = .ok (.getfield 18, 3) := by decide +kernel
theorem dX0_isPump_44 : decode cX0_isPump 44 = .ok (.iload_n 2, 1) := by decide +kernel
theorem dX0_isPump_45 : decode cX0_isPump 45 = .ok (.iaload, 1) := by decide +kernel
theorem dX0_isPump_46 : decode cX0_isPump 46 = .ok (.if_icmp .eq 7, 3) := by decide +kernel
theorem dX0_isPump_49 : decode cX0_isPump 49 = .ok (.iconst 1, 1) := by decide +kernel
theorem dX0_isPump_50 : decode cX0_isPump 50 = .ok (.goto 4, 3) := by decide +kernel
theorem dX0_isPump_53 : decode cX0_isPump 53 = .ok (.iconst 0, 1) := by decide +kernel
theorem dX0_isPump_54 : decode cX0_isPump 54 = .ok (.ireturn, 1) := by decide +kernel
theorem dX0_ofPump_0 : decode cX0_ofPump 0 = .ok (.iload_n 1, 1) := by decide +kernel
theorem dX0_ofPump_1 : decode cX0_ofPump 1 = .ok (.ifCond .ne 8, 3) := by decide +kernel
theorem dX0_ofPump_4 : decode cX0_ofPump 4 = .ok (.aload_n 0, 1) := by decide +kernel
theorem dX0_ofPump_5 : decode cX0_ofPump 5 = .ok (.getfield 106, 3) := by decide +kernel
theorem dX0_ofPump_8 : decode cX0_ofPump 8 = .ok (.ireturn, 1) := by decide +kernel
theorem dX0_ofPump_9 : decode cX0_ofPump 9 = .ok (.iload_n 1, 1) := by decide +kernel
theorem dX0_ofPump_10 : decode cX0_ofPump 10 = .ok (.iconst 1, 1) := by decide +kernel
theorem dX0_ofPump_11 : decode cX0_ofPump 11 = .ok (.if_icmp .ne 10, 3) := by decide +kernel
theorem dX0_ofPump_14 : decode cX0_ofPump 14 = .ok (.aload_n 0, 1) := by decide +kernel
theorem dX0_ofPump_15 : decode cX0_ofPump 15 = .ok (.getfield 109, 3) := by decide +kernel
theorem dX0_ofPump_18 : decode cX0_ofPump 18 = .ok (.goto 22, 3) := by decide +kernel
theorem dX0_ofPump_21 : decode cX0_ofPump 21 = .ok (.aload_n 0, 1) := by decide +kernel
theorem dX0_ofPump_22 : decode cX0_ofPump 22 = .ok (.getfield 18, 3) := by decide +kernel
theorem dX0_ofPump_25 : decode cX0_ofPump 25 = .ok (.aload_n 0, 1) := by decide +kernel
theorem dX0_ofPump_26 : decode cX0_ofPump 26 = .ok (.getfield 109, 3) := by decide +kernel
theorem dX0_ofPump_29 : decode cX0_ofPump 29 = .ok (.iaload, 1) := by decide +kernel
theorem dX0_ofPump_30 : decode cX0_ofPump 30 = .ok (.aload_n 0, 1) := by decide +kernel
theorem dX0_ofPump_31 : decode cX0_ofPump 31 = .ok (.getfield 18, 3) := by decide +kernel
theorem dX0_ofPump_34 : decode cX0_ofPump 34 = .ok (.aload_n 0, 1) := by decide +kernel
theorem dX0_ofPump_35 : decode cX0_ofPump 35 = .ok (.getfield 106, 3) := by decide +kernel
theorem dX0_ofPump_38 : decode cX0_ofPump 38 = .ok (.iaload, 1) := by decide +kernel
theorem dX0_ofPump_39 : decode cX0_ofPump 39 = .ok (.isub, 1) := by decide +kernel
theorem dX0_ofPump_40 : decode cX0_ofPump 40 = .ok (.ireturn, 1) := by decide +kernel
theorem dX1_init_0 : decode cX1_init 0 = .ok (.aload_n 0, 1) := by decide +kernel
theorem dX1_init_1 : decode cX1_init 1 = .ok (.invokespecial 3, 3) := by decide +kernel
theorem dX1_init_4 : decode cX1_init 4 = .ok (.aload_n 0, 1) := by decide +kernel
theorem dX1_init_5 : decode cX1_init 5 = .ok (.bipush 31, 2) := by decide +kernel
theorem dX1_init_7 : decode cX1_init 7 = .ok (.newarray .int, 2) := by decide +kernel
theorem dX1_init_9 : decode cX1_init 9 = .ok (.putfield 9, 3) := by decide +kernel
theorem dX1_init_12 : decode cX1_init 12 = .ok (.aload_n 0, 1) := by decide +kernel
theorem dX1_init_13 : decode cX1_init 13 = .ok (.bipush 31, 2) := by decide +kernel
theorem dX1_init_15 : decode cX1_init 15 = .ok (.newarray .int, 2) := by decide +kernel
theorem dX1_init_17 : decode cX1_init 17 = .ok (.putfield 15, 3) := by decide +kernel
theorem dX1_init_20 : decode cX1_init 20 = .ok (.aload_n 0, 1) := by decide +kernel
theorem dX1_init_21 : decode cX1_init 21 = .ok (.bipush 64, 2) := by decide +kernel
theorem dX1_init_23 : decode cX1_init 23 = .ok (.newarray .long, 2) := by decide +kernel
theorem dX1_init_25 : decode cX1_init 25 = .ok (.putfield 18, 3) := by decide +kernel
theorem dX1_init_28 : decode cX1_init 28 = .ok (.aload_n 0, 1) := by decide +kernel
theorem dX1_init_29 : decode cX1_init 29 = .ok (.bipush 64, 2) := by decide +kernel
theorem dX1_init_31 : decode cX1_init 31 = .ok (.newarray .long, 2) := by decide +kernel
theorem dX1_init_33 : decode cX1_init 33 = .ok (.putfield 22, 3) := by decide +kernel
theorem dX1_init_36 : decode cX1_init 36 = .ok (.aload_n 0, 1) := by decide +kernel
theorem dX1_init_37 : decode cX1_init 37 = .ok (.sipush 1984, 3) := by decide +kernel
theorem dX1_init_40 : decode cX1_init 40 = .ok (.newarray .int, 2) := by decide +kernel
theorem dX1_init_42 : decode cX1_init 42 = .ok (.putfield 25, 3) := by decide +kernel
theorem dX1_init_45 : decode cX1_init 45 = .ok (.aload_n 0, 1) := by decide +kernel
theorem dX1_init_46 : decode cX1_init 46 = .ok (.sipush 384, 3) := by decide +kernel
theorem dX1_init_49 : decode cX1_init 49 = .ok (.newarray .int, 2) := by decide +kernel
theorem dX1_init_51 : decode cX1_init 51 = .ok (.putfield 28, 3) := by decide +kernel
theorem dX1_init_54 : decode cX1_init 54 = .ok (.aload_n 0, 1) := by decide +kernel
theorem dX1_init_55 : decode cX1_init 55 = .ok (.sipush 384, 3) := by decide +kernel
theorem dX1_init_58 : decode cX1_init 58 = .ok (.newarray .int, 2) := by decide +kernel
theorem dX1_init_60 : decode cX1_init 60 = .ok (.putfield 31, 3) := by decide +kernel
theorem dX1_init_63 : decode cX1_init 63 = .ok (.aload_n 0, 1) := by decide +kernel
theorem dX1_init_64 : decode cX1_init 64 = .ok (.aload_n 1, 1) := by decide +kernel
theorem dX1_init_65 : decode cX1_init 65 = .ok (.putfield 34, 3) := by decide +kernel
theorem dX1_init_68 : decode cX1_init 68 = .ok (.aload_n 0, 1) := by decide +kernel
theorem dX1_init_69 : decode cX1_init 69 = .ok (.aload_n 2, 1) := by decide +kernel
theorem dX1_init_70 : decode cX1_init 70 = .ok (.putfield 38, 3) := by decide +kernel
theorem dX1_init_73 : decode cX1_init 73 = .ok (.aload_n 0, 1) := by decide +kernel
theorem dX1_init_74 : decode cX1_init 74 = .ok (.aload_n 3, 1) := by decide +kernel
theorem dX1_init_75 : decode cX1_init 75 = .ok (.putfield 42, 3) := by decide +kernel
theorem dX1_init_78 : decode cX1_init 78 = .ok (.return_, 1) := by decide +kernel
theorem dX1_make_0 : decode cX1_make 0 = .ok (.aload_n 0, 1) := by decide +kernel
theorem dX1_make_1 : decode cX1_make 1 = .ok (.invokevirtual 45, 3) := by decide +kernel
theorem dX1_make_4 : decode cX1_make 4 = .ok (.aload_n 0, 1) := by decide +kernel
theorem dX1_make_5 : decode cX1_make 5 = .ok (.getfield 34, 3) := by decide +kernel
theorem dX1_make_8 : decode cX1_make 8 = .ok (.getfield 48, 3) := by decide +kernel
theorem dX1_make_11 : decode cX1_make 11 = .ok (.iconst 1, 1) := by decide +kernel
theorem dX1_make_12 : decode cX1_make 12 = .ok (.isub, 1) := by decide +kernel
theorem dX1_make_13 : decode cX1_make 13 = .ok (.istore_n 1, 1) := by decide +kernel
theorem dX1_make_14 : decode cX1_make 14 = .ok (.iload_n 1, 1) := by decide +kernel
theorem dX1_make_15 : decode cX1_make 15 = .ok (.ifCond .lt 47, 3) := by decide +kernel
theorem dX1_make_18 : decode cX1_make 18 = .ok (.aload_n 0, 1) := by decide +kernel
theorem dX1_make_19 : decode cX1_make 19 = .ok (.iload_n 1, 1) := by decide +kernel
theorem dX1_make_20 : decode cX1_make 20 = .ok (.invokevirtual 54, 3) := by decide +kernel
theorem dX1_make_23 : decode cX1_make 23 = .ok (.iload_n 1, 1) := by decide +kernel
theorem dX1_make_24 : decode cX1_make 24 = .ok (.iconst 1, 1) := by decide +kernel
theorem dX1_make_25 : decode cX1_make 25 = .ok (.iadd, 1) := by decide +kernel
theorem dX1_make_26 : decode cX1_make 26 = .ok (.aload_n 0, 1) := by decide +kernel
theorem dX1_make_27 : decode cX1_make 27 = .ok (.getfield 34, 3) := by decide +kernel
theorem dX1_make_30 : decode cX1_make 30 = .ok (.getfield 48, 3) := by decide +kernel
theorem dX1_make_33 : decode cX1_make 33 = .ok (.if_icmp .ge 8, 3) := by decide +kernel
theorem dX1_make_36 : decode cX1_make 36 = .ok (.aload_n 0, 1) := by decide +kernel
theorem dX1_make_37 : decode cX1_make 37 = .ok (.iload_n 1, 1) := by decide +kernel
theorem dX1_make_38 : decode cX1_make 38 = .ok (.invokevirtual 58, 3) := by decide +kernel
theorem dX1_make_41 : decode cX1_make 41 = .ok (.aload_n 0, 1) := by decide +kernel
theorem dX1_make_42 : decode cX1_make 42 = .ok (.getfield 18, 3) := by decide +kernel
theorem dX1_make_45 : decode cX1_make 45 = .ok (.iconst 0, 1) := by decide +kernel
theorem dX1_make_46 : decode cX1_make 46 = .ok (.aload_n 0, 1) := by decide +kernel
theorem dX1_make_47 : decode cX1_make 47 = .ok (.getfield 22, 3) := by decide +kernel
theorem dX1_make_50 : decode cX1_make 50 = .ok (.iconst 0, 1) := by decide +kernel
theorem dX1_make_51 : decode cX1_make 51 = .ok (.bipush 64, 2) := by decide +kernel
theorem dX1_make_53 : decode cX1_make 53 = .ok (.invokestatic 61, 3) := by decide +kernel
theorem dX1_make_56 : decode cX1_make 56 = .ok (.iinc 1 (-1), 3) := by decide +kernel
theorem dX1_make_59 : decode cX1_make 59 = .ok (.goto (-45), 3) := by decide +kernel
theorem dX1_make_62 : decode cX1_make 62 = .ok (.aload_n 0, 1) := by decide +kernel
theorem dX1_make_63 : decode cX1_make 63 = .ok (.invokevirtual 67, 3) := by decide +kernel
theorem dX1_make_66 : decode cX1_make 66 = .ok (.lreturn, 1) := by decide +kernel
theorem dX1_countReadings_0 : decode cX1_countReadings 0 = .ok (.iconst 0, 1) := by decide +kernel
theorem dX1_countReadings_1 : decode cX1_countReadings 1 = .ok (.istore_n 1, 1) := by decide +kernel
theorem dX1_countReadings_2 : decode cX1_countReadings 2 = .ok (.iload_n 1, 1) := by decide +kernel
theorem dX1_countReadings_3 : decode cX1_countReadings 3 = .ok (.aload_n 0, 1) := by decide +kernel
theorem dX1_countReadings_4 : decode cX1_countReadings 4 = .ok (.getfield 34, 3) := by decide +kernel
theorem dX1_countReadings_7 : decode cX1_countReadings 7 = .ok (.getfield 48, 3) := by decide +kernel
theorem dX1_countReadings_10 : decode cX1_countReadings 10 = .ok (.if_icmp .ge 28, 3) := by decide +kernel
theorem dX1_countReadings_13 : decode cX1_countReadings 13 = .ok (.aload_n 0, 1) := by decide +kernel
theorem dX1_countReadings_14 : decode cX1_countReadings 14 = .ok (.getfield 15, 3) := by decide +kernel
theorem dX1_countReadings_17 : decode cX1_countReadings 17 = .ok (.iload_n 1, 1) := by decide +kernel
theorem dX1_countReadings_18 : decode cX1_countReadings 18 = .ok (.aload_n 0, 1) := by decide +kernel
theorem dX1_countReadings_19 : decode cX1_countReadings 19 = .ok (.getfield 38, 3) := by decide +kernel
theorem dX1_countReadings_22 : decode cX1_countReadings 22 = .ok (.iload_n 1, 1) := by decide +kernel
theorem dX1_countReadings_23 : decode cX1_countReadings 23 = .ok (.invokevirtual 71, 3) := by decide +kernel
theorem dX1_countReadings_26 : decode cX1_countReadings 26 = .ok (.bipush 64, 2) := by decide +kernel
theorem dX1_countReadings_28 : decode cX1_countReadings 28 = .ok (.invokestatic 77, 3) := by decide +kernel
theorem dX1_countReadings_31 : decode cX1_countReadings 31 = .ok (.iastore, 1) := by decide +kernel
theorem dX1_countReadings_32 : decode cX1_countReadings 32 = .ok (.iinc 1 1, 3) := by decide +kernel
theorem dX1_countReadings_35 : decode cX1_countReadings 35 = .ok (.goto (-33), 3) := by decide +kernel
theorem dX1_countReadings_38 : decode cX1_countReadings 38 = .ok (.return_, 1) := by decide +kernel
theorem dX1_weighReadings_0 : decode cX1_weighReadings 0 = .ok (.iconst 0, 1) := by decide +kernel
theorem dX1_weighReadings_1 : decode cX1_weighReadings 1 = .ok (.istore_n 2, 1) := by decide +kernel
theorem dX1_weighReadings_2 : decode cX1_weighReadings 2 = .ok (.iload_n 2, 1) := by decide +kernel
theorem dX1_weighReadings_3 : decode cX1_weighReadings 3 = .ok (.aload_n 0, 1) := by decide +kernel
theorem dX1_weighReadings_4 : decode cX1_weighReadings 4 = .ok (.getfield 15, 3) := by decide +kernel
theorem dX1_weighReadings_7 : decode cX1_weighReadings 7 = .ok (.iload_n 1, 1) := by decide +kernel
theorem dX1_weighReadings_8 : decode cX1_weighReadings 8 = .ok (.iaload, 1) := by decide +kernel
theorem dX1_weighReadings_9 : decode cX1_weighReadings 9 = .ok (.if_icmp .ge 41, 3) := by decide +kernel
theorem dX1_weighReadings_12 : decode cX1_weighReadings 12 = .ok (.aload_n 0, 1) := by decide +kernel
theorem dX1_weighReadings_13 : decode cX1_weighReadings 13 = .ok (.getfield 38, 3) := by decide +kernel
theorem dX1_weighReadings_16 : decode cX1_weighReadings 16 = .ok (.iload_n 1, 1) := by decide +kernel
theorem dX1_weighReadings_17 : decode cX1_weighReadings 17 = .ok (.iload_n 2, 1) := by decide +kernel
theorem dX1_weighReadings_18 : decode cX1_weighReadings 18 = .ok (.invokevirtual 83, 3) := by decide +kernel
theorem dX1_weighReadings_21 : decode cX1_weighReadings 21 = .ok (.aload_n 0, 1) := by decide +kernel
theorem dX1_weighReadings_22 : decode cX1_weighReadings 22 = .ok (.getfield 18, 3) := by decide +kernel
theorem dX1_weighReadings_25 : decode cX1_weighReadings 25 = .ok (.iload_n 2, 1) := by decide +kernel
theorem dX1_weighReadings_26 : decode cX1_weighReadings 26 = .ok (.aload_n 0, 1) := by decide +kernel
theorem dX1_weighReadings_27 : decode cX1_weighReadings 27 = .ok (.getfield 42, 3) := by decide +kernel
theorem dX1_weighReadings_30 : decode cX1_weighReadings 30 = .ok (.iconst 0, 1) := by decide +kernel
theorem dX1_weighReadings_31 : decode cX1_weighReadings 31 = .ok (.iaload, 1) := by decide +kernel
theorem dX1_weighReadings_32 : decode cX1_weighReadings 32 = .ok (.i2l, 1) := by decide +kernel
theorem dX1_weighReadings_33 : decode cX1_weighReadings 33 = .ok (.aload_n 0, 1) := by decide +kernel
theorem dX1_weighReadings_34 : decode cX1_weighReadings 34 = .ok (.getfield 38, 3) := by decide +kernel
theorem dX1_weighReadings_37 : decode cX1_weighReadings 37 = .ok (.iload_n 1, 1) := by decide +kernel
theorem dX1_weighReadings_38 : decode cX1_weighReadings 38 = .ok (.invokevirtual 87, 3) := by decide +kernel
theorem dX1_weighReadings_41 : decode cX1_weighReadings 41 = .ok (.i2l, 1) := by decide +kernel
theorem dX1_weighReadings_42 : decode cX1_weighReadings 42 = .ok (.lmul, 1) := by decide +kernel
theorem dX1_weighReadings_43 : decode cX1_weighReadings 43 = .ok (.lastore, 1) := by decide +kernel
theorem dX1_weighReadings_44 : decode cX1_weighReadings 44 = .ok (.iinc 2 1, 3) := by decide +kernel
theorem dX1_weighReadings_47 : decode cX1_weighReadings 47 = .ok (.goto (-45), 3) := by decide +kernel
theorem dX1_weighReadings_50 : decode cX1_weighReadings 50 = .ok (.return_, 1) := by decide +kernel
theorem dX1_joinNext_0 : decode cX1_joinNext 0 = .ok (.aload_n 0, 1) := by decide +kernel
theorem dX1_joinNext_1 : decode cX1_joinNext 1 = .ok (.getfield 34, 3) := by decide +kernel
theorem dX1_joinNext_4 : decode cX1_joinNext 4 = .ok (.iload_n 1, 1) := by decide +kernel
theorem dX1_joinNext_5 : decode cX1_joinNext 5 = .ok (.invokevirtual 90, 3) := by decide +kernel
theorem dX1_joinNext_8 : decode cX1_joinNext 8 = .ok (.aload_n 0, 1) := by decide +kernel
theorem dX1_joinNext_9 : decode cX1_joinNext 9 = .ok (.iload_n 1, 1) := by decide +kernel
theorem dX1_joinNext_10 : decode cX1_joinNext 10 = .ok (.aload_n 0, 1) := by decide +kernel
theorem dX1_joinNext_11 : decode cX1_joinNext 11 = .ok (.getfield 28, 3) := by decide +kernel
theorem dX1_joinNext_14 : decode cX1_joinNext 14 = .ok (.invokevirtual 93, 3) := by decide +kernel
theorem dX1_joinNext_17 : decode cX1_joinNext 17 = .ok (.aload_n 0, 1) := by decide +kernel
theorem dX1_joinNext_18 : decode cX1_joinNext 18 = .ok (.iload_n 1, 1) := by decide +kernel
theorem dX1_joinNext_19 : decode cX1_joinNext 19 = .ok (.iconst 1, 1) := by decide +kernel
theorem dX1_joinNext_20 : decode cX1_joinNext 20 = .ok (.iadd, 1) := by decide +kernel
theorem dX1_joinNext_21 : decode cX1_joinNext 21 = .ok (.aload_n 0, 1) := by decide +kernel
theorem dX1_joinNext_22 : decode cX1_joinNext 22 = .ok (.getfield 31, 3) := by decide +kernel
theorem dX1_joinNext_25 : decode cX1_joinNext 25 = .ok (.invokevirtual 93, 3) := by decide +kernel
theorem dX1_joinNext_28 : decode cX1_joinNext 28 = .ok (.iconst 0, 1) := by decide +kernel
theorem dX1_joinNext_29 : decode cX1_joinNext 29 = .ok (.istore_n 2, 1) := by decide +kernel
theorem dX1_joinNext_30 : decode cX1_joinNext 30 = .ok (.iload_n 2, 1) := by decide +kernel
theorem dX1_joinNext_31 : decode cX1_joinNext 31 = .ok (.aload_n 0, 1) := by decide +kernel
theorem dX1_joinNext_32 : decode cX1_joinNext 32 = .ok (.getfield 15, 3) := by decide +kernel
theorem dX1_joinNext_35 : decode cX1_joinNext 35 = .ok (.iload_n 1, 1) := by decide +kernel
theorem dX1_joinNext_36 : decode cX1_joinNext 36 = .ok (.iaload, 1) := by decide +kernel
theorem dX1_joinNext_37 : decode cX1_joinNext 37 = .ok (.if_icmp .ge 15, 3) := by decide +kernel
theorem dX1_joinNext_40 : decode cX1_joinNext 40 = .ok (.aload_n 0, 1) := by decide +kernel
theorem dX1_joinNext_41 : decode cX1_joinNext 41 = .ok (.iload_n 1, 1) := by decide +kernel
theorem dX1_joinNext_42 : decode cX1_joinNext 42 = .ok (.iload_n 2, 1) := by decide +kernel
theorem dX1_joinNext_43 : decode cX1_joinNext 43 = .ok (.invokevirtual 97, 3) := by decide +kernel
theorem dX1_joinNext_46 : decode cX1_joinNext 46 = .ok (.iinc 2 1, 3) := by decide +kernel
theorem dX1_joinNext_49 : decode cX1_joinNext 49 = .ok (.goto (-19), 3) := by decide +kernel
theorem dX1_joinNext_52 : decode cX1_joinNext 52 = .ok (.return_, 1) := by decide +kernel
theorem dX1_fillOffsets_0 : decode cX1_fillOffsets 0 = .ok (.sipush 10000, 3) := by decide +kernel
theorem dX1_fillOffsets_3 : decode cX1_fillOffsets 3 = .ok (.aload_n 0, 1) := by decide +kernel
theorem dX1_fillOffsets_4 : decode cX1_fillOffsets 4 = .ok (.getfield 34, 3) := by decide +kernel
theorem dX1_fillOffsets_7 : decode cX1_fillOffsets 7 = .ok (.iload_n 1, 1) := by decide +kernel
theorem dX1_fillOffsets_8 : decode cX1_fillOffsets 8 = .ok (.invokevirtual 100, 3) := by decide +kernel
theorem dX1_fillOffsets_11 : decode cX1_fillOffsets 11 = .ok (.imul, 1) := by decide +kernel
theorem dX1_fillOffsets_12 : decode cX1_fillOffsets 12 = .ok (.istore_n 3, 1) := by decide +kernel
theorem dX1_fillOffsets_13 : decode cX1_fillOffsets 13 = .ok (.iconst 0, 1) := by decide +kernel
theorem dX1_fillOffsets_14 : decode cX1_fillOffsets 14 = .ok (.istore 4, 2) := by decide +kernel
theorem dX1_fillOffsets_16 : decode cX1_fillOffsets 16 = .ok (.iload 4, 2) := by decide +kernel
theorem dX1_fillOffsets_18 : decode cX1_fillOffsets 18 = .ok (.aload_n 0, 1) := by decide +kernel
theorem dX1_fillOffsets_19 : decode cX1_fillOffsets 19 = .ok (.getfield 15, 3) := by decide +kernel
theorem dX1_fillOffsets_22 : decode cX1_fillOffsets 22 = .ok (.iload_n 1, 1) := by decide +kernel
theorem dX1_fillOffsets_23 : decode cX1_fillOffsets 23 = .ok (.iaload, 1) := by decide +kernel
theorem dX1_fillOffsets_24 : decode cX1_fillOffsets 24 = .ok (.if_icmp .ge 70, 3) := by decide +kernel
theorem dX1_fillOffsets_27 : decode cX1_fillOffsets 27 = .ok (.aload_n 0, 1) := by decide +kernel
theorem dX1_fillOffsets_28 : decode cX1_fillOffsets 28 = .ok (.getfield 38, 3) := by decide +kernel
theorem dX1_fillOffsets_31 : decode cX1_fillOffsets 31 = .ok (.iload_n 1, 1) := by decide +kernel
theorem dX1_fillOffsets_32 : decode cX1_fillOffsets 32 = .ok (.iload 4, 2) := by decide +kernel
theorem dX1_fillOffsets_34 : decode cX1_fillOffsets 34 = .ok (.invokevirtual 83, 3) := by decide +kernel
theorem dX1_fillOffsets_37 : decode cX1_fillOffsets 37 = .ok (.iconst 0, 1) := by decide +kernel
theorem dX1_fillOffsets_38 : decode cX1_fillOffsets 38 = .ok (.istore 5, 2) := by decide +kernel
theorem dX1_fillOffsets_40 : decode cX1_fillOffsets 40 = .ok (.iload 5, 2) := by decide +kernel
theorem dX1_fillOffsets_42 : decode cX1_fillOffsets 42 = .ok (.aload_n 0, 1) := by decide +kernel
theorem dX1_fillOffsets_43 : decode cX1_fillOffsets 43 = .ok (.getfield 34, 3) := by decide +kernel
theorem dX1_fillOffsets_46 : decode cX1_fillOffsets 46 = .ok (.getfield 103, 3) := by decide +kernel
theorem dX1_fillOffsets_49 : decode cX1_fillOffsets 49 = .ok (.if_icmp .ge 39, 3) := by decide +kernel
theorem dX1_fillOffsets_52 : decode cX1_fillOffsets 52 = .ok (.aload_n 2, 1) := by decide +kernel
theorem dX1_fillOffsets_53 : decode cX1_fillOffsets 53 = .ok (.iload 4, 2) := by decide +kernel
theorem dX1_fillOffsets_55 : decode cX1_fillOffsets 55 = .ok (.bipush 6, 2) := by decide +kernel
theorem dX1_fillOffsets_57 : decode cX1_fillOffsets 57 = .ok (.imul, 1) := by decide +kernel
theorem dX1_fillOffsets_58 : decode cX1_fillOffsets 58 = .ok (.iload 5, 2) := by decide +kernel
theorem dX1_fillOffsets_60 : decode cX1_fillOffsets 60 = .ok (.iadd, 1) := by decide +kernel
theorem dX1_fillOffsets_61 : decode cX1_fillOffsets 61 = .ok (.iload_n 3, 1) := by decide +kernel
theorem dX1_fillOffsets_62 : decode cX1_fillOffsets 62 = .ok (.aload_n 0, 1) := by decide +kernel
theorem dX1_fillOffsets_63 : decode cX1_fillOffsets 63 = .ok (.getfield 38, 3) := by decide +kernel
theorem dX1_fillOffsets_66 : decode cX1_fillOffsets 66 = .ok (.iload_n 1, 1) := by decide +kernel
theorem dX1_fillOffsets_67 : decode cX1_fillOffsets 67 = .ok (.aload_n 0, 1) := by decide +kernel
theorem dX1_fillOffsets_68 : decode cX1_fillOffsets 68 = .ok (.getfield 34, 3) := by decide +kernel
theorem dX1_fillOffsets_71 : decode cX1_fillOffsets 71 = .ok (.getfield 106, 3) := by decide +kernel
theorem dX1_fillOffsets_74 : decode cX1_fillOffsets 74 = .ok (.iload 5, 2) := by decide +kernel
theorem dX1_fillOffsets_76 : decode cX1_fillOffsets 76 = .ok (.iaload, 1) := by decide +kernel
theorem dX1_fillOffsets_77 : decode cX1_fillOffsets 77 = .ok (.invokevirtual 109, 3) := by decide +kernel
theorem dX1_fillOffsets_80 : decode cX1_fillOffsets 80 = .ok (.iadd, 1) := by decide +kernel
theorem dX1_fillOffsets_81 : decode cX1_fillOffsets 81 = .ok (.iastore, 1) := by decide +kernel
theorem dX1_fillOffsets_82 : decode cX1_fillOffsets 82 = .ok (.iinc 5 1, 3) := by decide +kernel
theorem dX1_fillOffsets_85 : decode cX1_fillOffsets 85 = .ok (.goto (-45), 3) := by decide +kernel
theorem dX1_fillOffsets_88 : decode cX1_fillOffsets 88 = .ok (.iinc 4 1, 3) := by decide +kernel
theorem dX1_fillOffsets_91 : decode cX1_fillOffsets 91 = .ok (.goto (-75), 3) := by decide +kernel
theorem dX1_fillOffsets_94 : decode cX1_fillOffsets 94 = .ok (.return_, 1) := by decide +kernel
theorem dX1_joinReading_0 : decode cX1_joinReading 0 = .ok (.ldc2_w 112, 3) := by decide +kernel
theorem dX1_joinReading_3 : decode cX1_joinReading 3 = .ok (.lstore_n 3, 1) := by decide +kernel
theorem dX1_joinReading_4 : decode cX1_joinReading 4 = .ok (.iconst 0, 1) := by decide +kernel
theorem dX1_joinReading_5 : decode cX1_joinReading 5 = .ok (.istore 5, 2) := by decide +kernel
theorem dX1_joinReading_7 : decode cX1_joinReading 7 = .ok (.iconst 0, 1) := by decide +kernel
theorem dX1_joinReading_8 : decode cX1_joinReading 8 = .ok (.istore 6, 2) := by decide +kernel
theorem dX1_joinReading_10 : decode cX1_joinReading 10 = .ok (.iload 6, 2) := by decide +kernel
theorem dX1_joinReading_12 : decode cX1_joinReading 12 = .ok (.aload_n 0, 1) := by decide +kernel
theorem dX1_joinReading_13 : decode cX1_joinReading 13 = .ok (.getfield 15, 3) := by decide +kernel
theorem dX1_joinReading_16 : decode cX1_joinReading 16 = .ok (.iload_n 1, 1) := by decide +kernel
theorem dX1_joinReading_17 : decode cX1_joinReading 17 = .ok (.iconst 1, 1) := by decide +kernel
theorem dX1_joinReading_18 : decode cX1_joinReading 18 = .ok (.iadd, 1) := by decide +kernel
theorem dX1_joinReading_19 : decode cX1_joinReading 19 = .ok (.iaload, 1) := by decide +kernel
theorem dX1_joinReading_20 : decode cX1_joinReading 20 = .ok (.if_icmp .ge 60, 3) := by decide +kernel
theorem dX1_joinReading_23 : decode cX1_joinReading 23 = .ok (.aload_n 0, 1) := by decide +kernel
theorem dX1_joinReading_24 : decode cX1_joinReading 24 = .ok (.getfield 22, 3) := by decide +kernel
theorem dX1_joinReading_27 : decode cX1_joinReading 27 = .ok (.iload 6, 2) := by decide +kernel
theorem dX1_joinReading_29 : decode cX1_joinReading 29 = .ok (.laload, 1) := by decide +kernel
theorem dX1_joinReading_30 : decode cX1_joinReading 30 = .ok (.lload_n 3, 1) := by decide +kernel
theorem dX1_joinReading_31 : decode cX1_joinReading 31 = .ok (.lcmp, 1) := by decide +kernel
theorem dX1_joinReading_32 : decode cX1_joinReading 32 = .ok (.ifCond .ge 42, 3) := by decide +kernel
theorem dX1_joinReading_35 : decode cX1_joinReading 35 = .ok (.aload_n 0, 1) := by decide +kernel
theorem dX1_joinReading_36 : decode cX1_joinReading 36 = .ok (.getfield 22, 3) := by decide +kernel
theorem dX1_joinReading_39 : decode cX1_joinReading 39 = .ok (.iload 6, 2) := by decide +kernel
theorem dX1_joinReading_41 : decode cX1_joinReading 41 = .ok (.laload, 1) := by decide +kernel
theorem dX1_joinReading_42 : decode cX1_joinReading 42 = .ok (.aload_n 0, 1) := by decide +kernel
theorem dX1_joinReading_43 : decode cX1_joinReading 43 = .ok (.getfield 42, 3) := by decide +kernel
theorem dX1_joinReading_46 : decode cX1_joinReading 46 = .ok (.iconst 1, 1) := by decide +kernel
theorem dX1_joinReading_47 : decode cX1_joinReading 47 = .ok (.iaload, 1) := by decide +kernel
theorem dX1_joinReading_48 : decode cX1_joinReading 48 = .ok (.i2l, 1) := by decide +kernel
theorem dX1_joinReading_49 : decode cX1_joinReading 49 = .ok (.aload_n 0, 1) := by decide +kernel
theorem dX1_joinReading_50 : decode cX1_joinReading 50 = .ok (.iload_n 2, 1) := by decide +kernel
theorem dX1_joinReading_51 : decode cX1_joinReading 51 = .ok (.iload 6, 2) := by decide +kernel
theorem dX1_joinReading_53 : decode cX1_joinReading 53 = .ok (.invokevirtual 114, 3) := by decide +kernel
theorem dX1_joinReading_56 : decode cX1_joinReading 56 = .ok (.lmul, 1) := by decide +kernel
theorem dX1_joinReading_57 : decode cX1_joinReading 57 = .ok (.ladd, 1) := by decide +kernel
theorem dX1_joinReading_58 : decode cX1_joinReading 58 = .ok (.lstore 7, 2) := by decide +kernel
theorem dX1_joinReading_60 : decode cX1_joinReading 60 = .ok (.lload 7, 2) := by decide +kernel
theorem dX1_joinReading_62 : decode cX1_joinReading 62 = .ok (.lload_n 3, 1) := by decide +kernel
theorem dX1_joinReading_63 : decode cX1_joinReading 63 = .ok (.lcmp, 1) := by decide +kernel
theorem dX1_joinReading_64 : decode cX1_joinReading 64 = .ok (.ifCond .ge 10, 3) := by decide +kernel
theorem dX1_joinReading_67 : decode cX1_joinReading 67 = .ok (.lload 7, 2) := by decide +kernel
theorem dX1_joinReading_69 : decode cX1_joinReading 69 = .ok (.lstore_n 3, 1) := by decide +kernel
theorem dX1_joinReading_70 : decode cX1_joinReading 70 = .ok (.iload 6, 2) := by decide +kernel
theorem dX1_joinReading_72 : decode cX1_joinReading 72 = .ok (.istore 5, 2) := by decide +kernel
theorem dX1_joinReading_74 : decode cX1_joinReading 74 = .ok (.iinc 6 1, 3) := by decide +kernel
theorem dX1_joinReading_77 : decode cX1_joinReading 77 = .ok (.goto (-67), 3) := by decide +kernel
theorem dX1_joinReading_80 : decode cX1_joinReading 80 = .ok (.aload_n 0, 1) := by decide +kernel
theorem dX1_joinReading_81 : decode cX1_joinReading 81 = .ok (.getfield 18, 3) := by decide +kernel
theorem dX1_joinReading_84 : decode cX1_joinReading 84 = .ok (.iload_n 2, 1) := by decide +kernel
theorem dX1_joinReading_85 : decode cX1_joinReading 85 = .ok (.dup2, 1) := by decide +kernel
theorem dX1_joinReading_86 : decode cX1_joinReading 86 = .ok (.laload, 1) := by decide +kernel
theorem dX1_joinReading_87 : decode cX1_joinReading 87 = .ok (.lload_n 3, 1) := by decide +kernel
theorem dX1_joinReading_88 : decode cX1_joinReading 88 = .ok (.ladd, 1) := by decide +kernel
theorem dX1_joinReading_89 : decode cX1_joinReading 89 = .ok (.lastore, 1) := by decide +kernel
theorem dX1_joinReading_90 : decode cX1_joinReading 90 = .ok (.aload_n 0, 1) := by decide +kernel
theorem dX1_joinReading_91 : decode cX1_joinReading 91 = .ok (.getfield 25, 3) := by decide +kernel
theorem dX1_joinReading_94 : decode cX1_joinReading 94 = .ok (.iload_n 1, 1) := by decide +kernel
theorem dX1_joinReading_95 : decode cX1_joinReading 95 = .ok (.bipush 64, 2) := by decide +kernel
theorem dX1_joinReading_97 : decode cX1_joinReading 97 = .ok (.imul, 1) := by decide +kernel
theorem dX1_joinReading_98 : decode cX1_joinReading 98 = .ok (.iload_n 2, 1) := by decide +kernel
theorem dX1_joinReading_99 : decode cX1_joinReading 99 = .ok (.iadd, 1) := by decide +kernel
theorem dX1_joinReading_100 : decode cX1_joinReading 100 = .ok (.iload 5, 2) := by decide +kernel
theorem dX1_joinReading_102 : decode cX1_joinReading 102 = .ok (.iastore, 1) := by decide +kernel
theorem dX1_joinReading_103 : decode cX1_joinReading 103 = .ok (.return_, 1) := by decide +kernel
theorem dX1_strain_0 : decode cX1_strain 0 = .ok (.aload_n 0, 1) := by decide +kernel
theorem dX1_strain_1 : decode cX1_strain 1 = .ok (.getfield 34, 3) := by decide +kernel
theorem dX1_strain_4 : decode cX1_strain 4 = .ok (.getfield 103, 3) := by decide +kernel
theorem dX1_strain_7 : decode cX1_strain 7 = .ok (.istore_n 3, 1) := by decide +kernel
theorem dX1_strain_8 : decode cX1_strain 8 = .ok (.iload_n 3, 1) := by decide +kernel
theorem dX1_strain_9 : decode cX1_strain 9 = .ok (.iconst 1, 1) := by decide +kernel
theorem dX1_strain_10 : decode cX1_strain 10 = .ok (.if_icmp .ge 5, 3) := by decide +kernel
theorem dX1_strain_13 : decode cX1_strain 13 = .ok (.lconst 0, 1) := by decide +kernel
theorem dX1_strain_14 : decode cX1_strain 14 = .ok (.lreturn, 1) := by decide +kernel
theorem dX1_strain_15 : decode cX1_strain 15 = .ok (.lconst 0, 1) := by decide +kernel
theorem dX1_strain_16 : decode cX1_strain 16 = .ok (.lstore 4, 2) := by decide +kernel
theorem dX1_strain_18 : decode cX1_strain 18 = .ok (.lconst 0, 1) := by decide +kernel
theorem dX1_strain_19 : decode cX1_strain 19 = .ok (.lstore 6, 2) := by decide +kernel
theorem dX1_strain_21 : decode cX1_strain 21 = .ok (.iconst 0, 1) := by decide +kernel
theorem dX1_strain_22 : decode cX1_strain 22 = .ok (.istore 8, 2) := by decide +kernel
theorem dX1_strain_24 : decode cX1_strain 24 = .ok (.iload 8, 2) := by decide +kernel
theorem dX1_strain_26 : decode cX1_strain 26 = .ok (.iload_n 3, 1) := by decide +kernel
theorem dX1_strain_27 : decode cX1_strain 27 = .ok (.if_icmp .ge 54, 3) := by decide +kernel
theorem dX1_strain_30 : decode cX1_strain 30 = .ok (.aload_n 0, 1) := by decide +kernel
theorem dX1_strain_31 : decode cX1_strain 31 = .ok (.getfield 31, 3) := by decide +kernel
theorem dX1_strain_34 : decode cX1_strain 34 = .ok (.iload_n 2, 1) := by decide +kernel
theorem dX1_strain_35 : decode cX1_strain 35 = .ok (.bipush 6, 2) := by decide +kernel
theorem dX1_strain_37 : decode cX1_strain 37 = .ok (.imul, 1) := by decide +kernel
theorem dX1_strain_38 : decode cX1_strain 38 = .ok (.iload 8, 2) := by decide +kernel
theorem dX1_strain_40 : decode cX1_strain 40 = .ok (.iadd, 1) := by decide +kernel
theorem dX1_strain_41 : decode cX1_strain 41 = .ok (.iaload, 1) := by decide +kernel
theorem dX1_strain_42 : decode cX1_strain 42 = .ok (.aload_n 0, 1) := by decide +kernel
theorem dX1_strain_43 : decode cX1_strain 43 = .ok (.getfield 28, 3) := by decide +kernel
theorem dX1_strain_46 : decode cX1_strain 46 = .ok (.iload_n 1, 1) := by decide +kernel
theorem dX1_strain_47 : decode cX1_strain 47 = .ok (.bipush 6, 2) := by decide +kernel
theorem dX1_strain_49 : decode cX1_strain 49 = .ok (.imul, 1) := by decide +kernel
theorem dX1_strain_50 : decode cX1_strain 50 = .ok (.iload 8, 2) := by decide +kernel
theorem dX1_strain_52 : decode cX1_strain 52 = .ok (.iadd, 1) := by decide +kernel
theorem dX1_strain_53 : decode cX1_strain 53 = .ok (.iaload, 1) := by decide +kernel
theorem dX1_strain_54 : decode cX1_strain 54 = .ok (.isub, 1) := by decide +kernel
theorem dX1_strain_55 : decode cX1_strain 55 = .ok (.i2l, 1) := by decide +kernel
theorem dX1_strain_56 : decode cX1_strain 56 = .ok (.lstore 9, 2) := by decide +kernel
theorem dX1_strain_58 : decode cX1_strain 58 = .ok (.lload 4, 2) := by decide +kernel
theorem dX1_strain_60 : decode cX1_strain 60 = .ok (.lload 9, 2) := by decide +kernel
theorem dX1_strain_62 : decode cX1_strain 62 = .ok (.ladd, 1) := by decide +kernel
theorem dX1_strain_63 : decode cX1_strain 63 = .ok (.lstore 4, 2) := by decide +kernel
theorem dX1_strain_65 : decode cX1_strain 65 = .ok (.lload 6, 2) := by decide +kernel
theorem dX1_strain_67 : decode cX1_strain 67 = .ok (.lload 9, 2) := by decide +kernel
theorem dX1_strain_69 : decode cX1_strain 69 = .ok (.lload 9, 2) := by decide +kernel
theorem dX1_strain_71 : decode cX1_strain 71 = .ok (.lmul, 1) := by decide +kernel
theorem dX1_strain_72 : decode cX1_strain 72 = .ok (.ladd, 1) := by decide +kernel
theorem dX1_strain_73 : decode cX1_strain 73 = .ok (.lstore 6, 2) := by decide +kernel
theorem dX1_strain_75 : decode cX1_strain 75 = .ok (.iinc 8 1, 3) := by decide +kernel
theorem dX1_strain_78 : decode cX1_strain 78 = .ok (.goto (-54), 3) := by decide +kernel
theorem dX1_strain_81 : decode cX1_strain 81 = .ok (.bipush 60, 2) := by decide +kernel
theorem dX1_strain_83 : decode cX1_strain 83 = .ok (.iload_n 3, 1) := by decide +kernel
theorem dX1_strain_84 : decode cX1_strain 84 = .ok (.idiv, 1) := by decide +kernel
theorem dX1_strain_85 : decode cX1_strain 85 = .ok (.i2l, 1) := by decide +kernel
theorem dX1_strain_86 : decode cX1_strain 86 = .ok (.iload_n 3, 1) := by decide +kernel
theorem dX1_strain_87 : decode cX1_strain 87 = .ok (.i2l, 1) := by decide +kernel
theorem dX1_strain_88 : decode cX1_strain 88 = .ok (.lload 6, 2) := by decide +kernel
theorem dX1_strain_90 : decode cX1_strain 90 = .ok (.lmul, 1) := by decide +kernel
theorem dX1_strain_91 : decode cX1_strain 91 = .ok (.lload 4, 2) := by decide +kernel
theorem dX1_strain_93 : decode cX1_strain 93 = .ok (.lload 4, 2) := by decide +kernel
theorem dX1_strain_95 : decode cX1_strain 95 = .ok (.lmul, 1) := by decide +kernel
theorem dX1_strain_96 : decode cX1_strain 96 = .ok (.lsub, 1) := by decide +kernel
theorem dX1_strain_97 : decode cX1_strain 97 = .ok (.lmul, 1) := by decide +kernel
theorem dX1_strain_98 : decode cX1_strain 98 = .ok (.lreturn, 1) := by decide +kernel
theorem dX1_followLeast_0 : decode cX1_followLeast 0 = .ok (.iconst 0, 1) := by decide +kernel
theorem dX1_followLeast_1 : decode cX1_followLeast 1 = .ok (.istore_n 1, 1) := by decide +kernel
theorem dX1_followLeast_2 : decode cX1_followLeast 2 = .ok (.iconst 1, 1) := by decide +kernel
theorem dX1_followLeast_3 : decode cX1_followLeast 3 = .ok (.istore_n 2, 1) := by decide +kernel
theorem dX1_followLeast_4 : decode cX1_followLeast 4 = .ok (.iload_n 2, 1) := by decide +kernel
theorem dX1_followLeast_5 : decode cX1_followLeast 5 = .ok (.aload_n 0, 1) := by decide +kernel
theorem dX1_followLeast_6 : decode cX1_followLeast 6 = .ok (.getfield 15, 3) := by decide +kernel
theorem dX1_followLeast_9 : decode cX1_followLeast 9 = .ok (.iconst 0, 1) := by decide +kernel
theorem dX1_followLeast_10 : decode cX1_followLeast 10 = .ok (.iaload, 1) := by decide +kernel
theorem dX1_followLeast_11 : decode cX1_followLeast 11 = .ok (.if_icmp .ge 27, 3) := by decide +kernel
theorem dX1_followLeast_14 : decode cX1_followLeast 14 = .ok (.aload_n 0, 1) := by decide +kernel
theorem dX1_followLeast_15 : decode cX1_followLeast 15 = .ok (.getfield 18, 3) := by decide +kernel
theorem dX1_followLeast_18 : decode cX1_followLeast 18 = .ok (.iload_n 2, 1) := by decide +kernel
theorem dX1_followLeast_19 : decode cX1_followLeast 19 = .ok (.laload, 1) := by decide +kernel
theorem dX1_followLeast_20 : decode cX1_followLeast 20 = .ok (.aload_n 0, 1) := by decide +kernel
theorem dX1_followLeast_21 : decode cX1_followLeast 21 = .ok (.getfield 18, 3) := by decide +kernel
theorem dX1_followLeast_24 : decode cX1_followLeast 24 = .ok (.iload_n 1, 1) := by decide +kernel
theorem dX1_followLeast_25 : decode cX1_followLeast 25 = .ok (.laload, 1) := by decide +kernel
theorem dX1_followLeast_26 : decode cX1_followLeast 26 = .ok (.lcmp, 1) := by decide +kernel
theorem dX1_followLeast_27 : decode cX1_followLeast 27 = .ok (.ifCond .ge 5, 3) := by decide +kernel
theorem dX1_followLeast_30 : decode cX1_followLeast 30 = .ok (.iload_n 2, 1) := by decide +kernel
theorem dX1_followLeast_31 : decode cX1_followLeast 31 = .ok (.istore_n 1, 1) := by decide +kernel
theorem dX1_followLeast_32 : decode cX1_followLeast 32 = .ok (.iinc 2 1, 3) := by decide +kernel
theorem dX1_followLeast_35 : decode cX1_followLeast 35 = .ok (.goto (-31), 3) := by decide +kernel
theorem dX1_followLeast_38 : decode cX1_followLeast 38 = .ok (.aload_n 0, 1) := by decide +kernel
theorem dX1_followLeast_39 : decode cX1_followLeast 39 = .ok (.getfield 18, 3) := by decide +kernel
theorem dX1_followLeast_42 : decode cX1_followLeast 42 = .ok (.iload_n 1, 1) := by decide +kernel
theorem dX1_followLeast_43 : decode cX1_followLeast 43 = .ok (.laload, 1) := by decide +kernel
theorem dX1_followLeast_44 : decode cX1_followLeast 44 = .ok (.lstore_n 2, 1) := by decide +kernel
theorem dX1_followLeast_45 : decode cX1_followLeast 45 = .ok (.iconst 0, 1) := by decide +kernel
theorem dX1_followLeast_46 : decode cX1_followLeast 46 = .ok (.istore 4, 2) := by decide +kernel
theorem dX1_followLeast_48 : decode cX1_followLeast 48 = .ok (.iload 4, 2) := by decide +kernel
theorem dX1_followLeast_50 : decode cX1_followLeast 50 = .ok (.aload_n 0, 1) := by decide +kernel
theorem dX1_followLeast_51 : decode cX1_followLeast 51 = .ok (.getfield 34, 3) := by decide +kernel
theorem dX1_followLeast_54 : decode cX1_followLeast 54 = .ok (.getfield 48, 3) := by decide +kernel
theorem dX1_followLeast_57 : decode cX1_followLeast 57 = .ok (.if_icmp .ge 30, 3) := by decide +kernel
theorem dX1_followLeast_60 : decode cX1_followLeast 60 = .ok (.aload_n 0, 1) := by decide +kernel
theorem dX1_followLeast_61 : decode cX1_followLeast 61 = .ok (.getfield 9, 3) := by decide +kernel
theorem dX1_followLeast_64 : decode cX1_followLeast 64 = .ok (.iload 4, 2) := by decide +kernel
theorem dX1_followLeast_66 : decode cX1_followLeast 66 = .ok (.iload_n 1, 1) := by decide +kernel
theorem dX1_followLeast_67 : decode cX1_followLeast 67 = .ok (.iastore, 1) := by decide +kernel
theorem dX1_followLeast_68 : decode cX1_followLeast 68 = .ok (.aload_n 0, 1) := by decide +kernel
theorem dX1_followLeast_69 : decode cX1_followLeast 69 = .ok (.getfield 25, 3) := by decide +kernel
theorem dX1_followLeast_72 : decode cX1_followLeast 72 = .ok (.iload 4, 2) := by decide +kernel
theorem dX1_followLeast_74 : decode cX1_followLeast 74 = .ok (.bipush 64, 2) := by decide +kernel
theorem dX1_followLeast_76 : decode cX1_followLeast 76 = .ok (.imul, 1) := by decide +kernel
theorem dX1_followLeast_77 : decode cX1_followLeast 77 = .ok (.iload_n 1, 1) := by decide +kernel
theorem dX1_followLeast_78 : decode cX1_followLeast 78 = .ok (.iadd, 1) := by decide +kernel
theorem dX1_followLeast_79 : decode cX1_followLeast 79 = .ok (.iaload, 1) := by decide +kernel
theorem dX1_followLeast_80 : decode cX1_followLeast 80 = .ok (.istore_n 1, 1) := by decide +kernel
theorem dX1_followLeast_81 : decode cX1_followLeast 81 = .ok (.iinc 4 1, 3) := by decide +kernel
theorem dX1_followLeast_84 : decode cX1_followLeast 84 = .ok (.goto (-36), 3) := by decide +kernel
theorem dX1_followLeast_87 : decode cX1_followLeast 87 = .ok (.lload_n 2, 1) := by decide +kernel
theorem dX1_followLeast_88 : decode cX1_followLeast 88 = .ok (.lreturn, 1) := by decide +kernel
theorem dX2_init_0 : decode cX2_init 0 = .ok (.aload_n 0, 1) := by decide +kernel
theorem dX2_init_1 : decode cX2_init 1 = .ok (.invokespecial 3, 3) := by decide +kernel
theorem dX2_init_4 : decode cX2_init 4 = .ok (.aload_n 0, 1) := by decide +kernel
theorem dX2_init_5 : decode cX2_init 5 = .ok (.new 9, 3) := by decide +kernel
theorem dX2_init_8 : decode cX2_init 8 = .ok (.dup, 1) := by decide +kernel
theorem dX2_init_9 : decode cX2_init 9 = .ok (.invokespecial 11, 3) := by decide +kernel
theorem dX2_init_12 : decode cX2_init 12 = .ok (.putfield 12, 3) := by decide +kernel
theorem dX2_init_15 : decode cX2_init 15 = .ok (.aload_n 0, 1) := by decide +kernel
theorem dX2_init_16 : decode cX2_init 16 = .ok (.new 9, 3) := by decide +kernel
theorem dX2_init_19 : decode cX2_init 19 = .ok (.dup, 1) := by decide +kernel
theorem dX2_init_20 : decode cX2_init 20 = .ok (.invokespecial 11, 3) := by decide +kernel
theorem dX2_init_23 : decode cX2_init 23 = .ok (.putfield 18, 3) := by decide +kernel
theorem dX2_init_26 : decode cX2_init 26 = .ok (.aload_n 0, 1) := by decide +kernel
theorem dX2_init_27 : decode cX2_init 27 = .ok (.new 9, 3) := by decide +kernel
theorem dX2_init_30 : decode cX2_init 30 = .ok (.dup, 1) := by decide +kernel
theorem dX2_init_31 : decode cX2_init 31 = .ok (.invokespecial 11, 3) := by decide +kernel
theorem dX2_init_34 : decode cX2_init 34 = .ok (.putfield 21, 3) := by decide +kernel
theorem dX2_init_37 : decode cX2_init 37 = .ok (.aload_n 0, 1) := by decide +kernel
theorem dX2_init_38 : decode cX2_init 38 = .ok (.new 9, 3) := by decide +kernel
theorem dX2_init_41 : decode cX2_init 41 = .ok (.dup, 1) := by decide +kernel
theorem dX2_init_42 : decode cX2_init 42 = .ok (.invokespecial 11, 3) := by decide +kernel
theorem dX2_init_45 : decode cX2_init 45 = .ok (.putfield 24, 3) := by decide +kernel
theorem dX2_init_48 : decode cX2_init 48 = .ok (.return_, 1) := by decide +kernel
theorem dX2_take_0 : decode cX2_take 0 = .ok (.aload_n 0, 1) := by decide +kernel
theorem dX2_take_1 : decode cX2_take 1 = .ok (.getfield 12, 3) := by decide +kernel
theorem dX2_take_4 : decode cX2_take 4 = .ok (.aload_n 1, 1) := by decide +kernel
theorem dX2_take_5 : decode cX2_take 5 = .ok (.invokevirtual 27, 3) := by decide +kernel
theorem dX2_take_8 : decode cX2_take 8 = .ok (.aload_n 0, 1) := by decide +kernel
theorem dX2_take_9 : decode cX2_take 9 = .ok (.getfield 18, 3) := by decide +kernel
theorem dX2_take_12 : decode cX2_take 12 = .ok (.aload_n 2, 1) := by decide +kernel
theorem dX2_take_13 : decode cX2_take 13 = .ok (.invokevirtual 27, 3) := by decide +kernel
theorem dX2_take_16 : decode cX2_take 16 = .ok (.return_, 1) := by decide +kernel
theorem dX2_addWhole_0 : decode cX2_addWhole 0 = .ok (.aload_n 0, 1) := by decide +kernel
theorem dX2_addWhole_1 : decode cX2_addWhole 1 = .ok (.getfield 21, 3) := by decide +kernel
theorem dX2_addWhole_4 : decode cX2_addWhole 4 = .ok (.aload_n 0, 1) := by decide +kernel
theorem dX2_addWhole_5 : decode cX2_addWhole 5 = .ok (.getfield 18, 3) := by decide +kernel
theorem dX2_addWhole_8 : decode cX2_addWhole 8 = .ok (.invokevirtual 27, 3) := by decide +kernel
theorem dX2_addWhole_11 : decode cX2_addWhole 11 = .ok (.aload_n 0, 1) := by decide +kernel
theorem dX2_addWhole_12 : decode cX2_addWhole 12 = .ok (.getfield 21, 3) := by decide +kernel
theorem dX2_addWhole_15 : decode cX2_addWhole 15 = .ok (.iload_n 1, 1) := by decide +kernel
theorem dX2_addWhole_16 : decode cX2_addWhole 16 = .ok (.iconst 0, 1) := by decide +kernel
theorem dX2_addWhole_17 : decode cX2_addWhole 17 = .ok (.invokevirtual 31, 3) := by decide +kernel
theorem dX2_addWhole_20 : decode cX2_addWhole 20 = .ok (.aload_n 0, 1) := by decide +kernel
theorem dX2_addWhole_21 : decode cX2_addWhole 21 = .ok (.getfield 12, 3) := by decide +kernel
theorem dX2_addWhole_24 : decode cX2_addWhole 24 = .ok (.aload_n 0, 1) := by decide +kernel
theorem dX2_addWhole_25 : decode cX2_addWhole 25 = .ok (.getfield 21, 3) := by decide +kernel
theorem dX2_addWhole_28 : decode cX2_addWhole 28 = .ok (.invokevirtual 35, 3) := by decide +kernel
theorem dX2_addWhole_31 : decode cX2_addWhole 31 = .ok (.return_, 1) := by decide +kernel
theorem dX2_bringToLowestTerms_0 : decode cX2_bringToLowestTerms 0 = .ok (.aload_n 0, 1) := by decide +kernel
theorem dX2_bringToLowestTerms_1 : decode cX2_bringToLowestTerms 1 = .ok (.getfield 12, 3) := by decide +kernel
theorem dX2_bringToLowestTerms_4 : decode cX2_bringToLowestTerms 4 = .ok (.iconst 0, 1) := by decide +kernel
theorem dX2_bringToLowestTerms_5 : decode cX2_bringToLowestTerms 5 = .ok (.invokevirtual 38, 3) := by decide +kernel
theorem dX2_bringToLowestTerms_8 : decode cX2_bringToLowestTerms 8 = .ok (.ifCond .eq 12, 3) := by decide +kernel
theorem dX2_bringToLowestTerms_11 : decode cX2_bringToLowestTerms 11 = .ok (.aload_n 0, 1) := by decide +kernel
theorem dX2_bringToLowestTerms_12 : decode cX2_bringToLowestTerms 12 = .ok (.getfield 18, 3) := by decide +kernel
theorem dX2_bringToLowestTerms_15 : decode cX2_bringToLowestTerms 15 = .ok (.iconst 1, 1) := by decide +kernel
theorem dX2_bringToLowestTerms_16 : decode cX2_bringToLowestTerms 16 = .ok (.invokevirtual 42, 3) := by decide +kernel
theorem dX2_bringToLowestTerms_19 : decode cX2_bringToLowestTerms 19 = .ok (.return_, 1) := by decide +kernel
theorem dX2_bringToLowestTerms_20 : decode cX2_bringToLowestTerms 20 = .ok (.aload_n 0, 1) := by decide +kernel
theorem dX2_bringToLowestTerms_21 : decode cX2_bringToLowestTerms 21 = .ok (.getfield 12, 3) := by decide +kernel
theorem dX2_bringToLowestTerms_24 : decode cX2_bringToLowestTerms 24 = .ok (.invokevirtual 46, 3) := by decide +kernel
theorem dX2_bringToLowestTerms_27 : decode cX2_bringToLowestTerms 27 = .ok (.aload_n 0, 1) := by decide +kernel
theorem dX2_bringToLowestTerms_28 : decode cX2_bringToLowestTerms 28 = .ok (.getfield 18, 3) := by decide +kernel
theorem dX2_bringToLowestTerms_31 : decode cX2_bringToLowestTerms 31 = .ok (.invokevirtual 46, 3) := by decide +kernel
theorem dX2_bringToLowestTerms_34 : decode cX2_bringToLowestTerms 34 = .ok (.invokestatic 50, 3) := by decide +kernel
theorem dX2_bringToLowestTerms_37 : decode cX2_bringToLowestTerms 37 = .ok (.istore_n 1, 1) := by decide +kernel
theorem dX2_bringToLowestTerms_38 : decode cX2_bringToLowestTerms 38 = .ok (.aload_n 0, 1) := by decide +kernel
theorem dX2_bringToLowestTerms_39 : decode cX2_bringToLowestTerms 39 = .ok (.getfield 12, 3) := by decide +kernel
theorem dX2_bringToLowestTerms_42 : decode cX2_bringToLowestTerms 42 = .ok (.iload_n 1, 1) := by decide +kernel
theorem dX2_bringToLowestTerms_43 : decode cX2_bringToLowestTerms 43 = .ok (.invokevirtual 56, 3) := by decide +kernel
theorem dX2_bringToLowestTerms_46 : decode cX2_bringToLowestTerms 46 = .ok (.aload_n 0, 1) := by decide +kernel
theorem dX2_bringToLowestTerms_47 : decode cX2_bringToLowestTerms 47 = .ok (.getfield 18, 3) := by decide +kernel
theorem dX2_bringToLowestTerms_50 : decode cX2_bringToLowestTerms 50 = .ok (.iload_n 1, 1) := by decide +kernel
theorem dX2_bringToLowestTerms_51 : decode cX2_bringToLowestTerms 51 = .ok (.invokevirtual 56, 3) := by decide +kernel
theorem dX2_bringToLowestTerms_54 : decode cX2_bringToLowestTerms 54 = .ok (.aload_n 0, 1) := by decide +kernel
theorem dX2_bringToLowestTerms_55 : decode cX2_bringToLowestTerms 55 = .ok (.invokevirtual 59, 3) := by decide +kernel
theorem dX2_bringToLowestTerms_58 : decode cX2_bringToLowestTerms 58 = .ok (.aload_n 0, 1) := by decide +kernel
theorem dX2_bringToLowestTerms_59 : decode cX2_bringToLowestTerms 59 = .ok (.getfield 12, 3) := by decide +kernel
theorem dX2_bringToLowestTerms_62 : decode cX2_bringToLowestTerms 62 = .ok (.aload_n 0, 1) := by decide +kernel
theorem dX2_bringToLowestTerms_63 : decode cX2_bringToLowestTerms 63 = .ok (.getfield 21, 3) := by decide +kernel
theorem dX2_bringToLowestTerms_66 : decode cX2_bringToLowestTerms 66 = .ok (.invokevirtual 62, 3) := by decide +kernel
theorem dX2_bringToLowestTerms_69 : decode cX2_bringToLowestTerms 69 = .ok (.aload_n 0, 1) := by decide +kernel
theorem dX2_bringToLowestTerms_70 : decode cX2_bringToLowestTerms 70 = .ok (.getfield 18, 3) := by decide +kernel
theorem dX2_bringToLowestTerms_73 : decode cX2_bringToLowestTerms 73 = .ok (.aload_n 0, 1) := by decide +kernel
theorem dX2_bringToLowestTerms_74 : decode cX2_bringToLowestTerms 74 = .ok (.getfield 21, 3) := by decide +kernel
theorem dX2_bringToLowestTerms_77 : decode cX2_bringToLowestTerms 77 = .ok (.invokevirtual 62, 3) := by decide +kernel
theorem dX2_bringToLowestTerms_80 : decode cX2_bringToLowestTerms 80 = .ok (.return_, 1) := by decide +kernel
theorem dX2_findOddDivisor_0 : decode cX2_findOddDivisor 0 = .ok (.aload_n 0, 1) := by decide +kernel
theorem dX2_findOddDivisor_1 : decode cX2_findOddDivisor 1 = .ok (.getfield 21, 3) := by decide +kernel
theorem dX2_findOddDivisor_4 : decode cX2_findOddDivisor 4 = .ok (.aload_n 0, 1) := by decide +kernel
theorem dX2_findOddDivisor_5 : decode cX2_findOddDivisor 5 = .ok (.getfield 12, 3) := by decide +kernel
theorem dX2_findOddDivisor_8 : decode cX2_findOddDivisor 8 = .ok (.invokevirtual 27, 3) := by decide +kernel
theorem dX2_findOddDivisor_11 : decode cX2_findOddDivisor 11 = .ok (.aload_n 0, 1) := by decide +kernel
theorem dX2_findOddDivisor_12 : decode cX2_findOddDivisor 12 = .ok (.getfield 24, 3) := by decide +kernel
theorem dX2_findOddDivisor_15 : decode cX2_findOddDivisor 15 = .ok (.aload_n 0, 1) := by decide +kernel
theorem dX2_findOddDivisor_16 : decode cX2_findOddDivisor 16 = .ok (.getfield 18, 3) := by decide +kernel
theorem dX2_findOddDivisor_19 : decode cX2_findOddDivisor 19 = .ok (.invokevirtual 27, 3) := by decide +kernel
theorem dX2_findOddDivisor_22 : decode cX2_findOddDivisor 22 = .ok (.aload_n 0, 1) := by decide +kernel
theorem dX2_findOddDivisor_23 : decode cX2_findOddDivisor 23 = .ok (.getfield 21, 3) := by decide +kernel
theorem dX2_findOddDivisor_26 : decode cX2_findOddDivisor 26 = .ok (.aload_n 0, 1) := by decide +kernel
theorem dX2_findOddDivisor_27 : decode cX2_findOddDivisor 27 = .ok (.getfield 21, 3) := by decide +kernel
theorem dX2_findOddDivisor_30 : decode cX2_findOddDivisor 30 = .ok (.invokevirtual 46, 3) := by decide +kernel
theorem dX2_findOddDivisor_33 : decode cX2_findOddDivisor 33 = .ok (.invokevirtual 56, 3) := by decide +kernel
theorem dX2_findOddDivisor_36 : decode cX2_findOddDivisor 36 = .ok (.aload_n 0, 1) := by decide +kernel
theorem dX2_findOddDivisor_37 : decode cX2_findOddDivisor 37 = .ok (.getfield 24, 3) := by decide +kernel
theorem dX2_findOddDivisor_40 : decode cX2_findOddDivisor 40 = .ok (.aload_n 0, 1) := by decide +kernel
theorem dX2_findOddDivisor_41 : decode cX2_findOddDivisor 41 = .ok (.getfield 24, 3) := by decide +kernel
theorem dX2_findOddDivisor_44 : decode cX2_findOddDivisor 44 = .ok (.invokevirtual 46, 3) := by decide +kernel
theorem dX2_findOddDivisor_47 : decode cX2_findOddDivisor 47 = .ok (.invokevirtual 56, 3) := by decide +kernel
theorem dX2_findOddDivisor_50 : decode cX2_findOddDivisor 50 = .ok (.iconst 0, 1) := by decide +kernel
theorem dX2_findOddDivisor_51 : decode cX2_findOddDivisor 51 = .ok (.istore_n 1, 1) := by decide +kernel
theorem dX2_findOddDivisor_52 : decode cX2_findOddDivisor 52 = .ok (.iload_n 1, 1) := by decide +kernel
theorem dX2_findOddDivisor_53 : decode cX2_findOddDivisor 53 = .ok (.sipush 720, 3) := by decide +kernel
theorem dX2_findOddDivisor_56 : decode cX2_findOddDivisor 56 = .ok (.if_icmp .ge 69, 3) := by decide +kernel
theorem dX2_findOddDivisor_59 : decode cX2_findOddDivisor 59 = .ok (.aload_n 0, 1) := by decide +kernel
theorem dX2_findOddDivisor_60 : decode cX2_findOddDivisor 60 = .ok (.getfield 21, 3) := by decide +kernel
theorem dX2_findOddDivisor_63 : decode cX2_findOddDivisor 63 = .ok (.aload_n 0, 1) := by decide +kernel
theorem dX2_findOddDivisor_64 : decode cX2_findOddDivisor 64 = .ok (.getfield 24, 3) := by decide +kernel
theorem dX2_findOddDivisor_67 : decode cX2_findOddDivisor 67 = .ok (.invokevirtual 65, 3) := by decide +kernel
theorem dX2_findOddDivisor_70 : decode cX2_findOddDivisor 70 = .ok (.istore_n 2, 1) := by decide +kernel
theorem dX2_findOddDivisor_71 : decode cX2_findOddDivisor 71 = .ok (.iload_n 2, 1) := by decide +kernel
theorem dX2_findOddDivisor_72 : decode cX2_findOddDivisor 72 = .ok (.ifCond .ne 4, 3) := by decide +kernel
theorem dX2_findOddDivisor_75 : decode cX2_findOddDivisor 75 = .ok (.return_, 1) := by decide +kernel
theorem dX2_findOddDivisor_76 : decode cX2_findOddDivisor 76 = .ok (.iload_n 2, 1) := by decide +kernel
theorem dX2_findOddDivisor_77 : decode cX2_findOddDivisor 77 = .ok (.ifCond .le 10, 3) := by decide +kernel
theorem dX2_findOddDivisor_80 : decode cX2_findOddDivisor 80 = .ok (.aload_n 0, 1) := by decide +kernel
theorem dX2_findOddDivisor_81 : decode cX2_findOddDivisor 81 = .ok (.getfield 21, 3) := by decide +kernel
theorem dX2_findOddDivisor_84 : decode cX2_findOddDivisor 84 = .ok (.goto 7, 3) := by decide +kernel
theorem dX2_findOddDivisor_87 : decode cX2_findOddDivisor 87 = .ok (.aload_n 0, 1) := by decide +kernel
theorem dX2_findOddDivisor_88 : decode cX2_findOddDivisor 88 = .ok (.getfield 24, 3) := by decide +kernel
theorem dX2_findOddDivisor_91 : decode cX2_findOddDivisor 91 = .ok (.astore_n 3, 1) := by decide +kernel
theorem dX2_findOddDivisor_92 : decode cX2_findOddDivisor 92 = .ok (.aload_n 3, 1) := by decide +kernel
theorem dX2_findOddDivisor_93 : decode cX2_findOddDivisor 93 = .ok (.iload_n 2, 1) := by decide +kernel
theorem dX2_findOddDivisor_94 : decode cX2_findOddDivisor 94 = .ok (.ifCond .le 10, 3) := by decide +kernel
theorem dX2_findOddDivisor_97 : decode cX2_findOddDivisor 97 = .ok (.aload_n 0, 1) := by decide +kernel
theorem dX2_findOddDivisor_98 : decode cX2_findOddDivisor 98 = .ok (.getfield 24, 3) := by decide +kernel
theorem dX2_findOddDivisor_101 : decode cX2_findOddDivisor 101 = .ok (.goto 7, 3) := by decide +kernel
theorem dX2_findOddDivisor_104 : decode cX2_findOddDivisor 104 = .ok (.aload_n 0, 1) := by decide +kernel
theorem dX2_findOddDivisor_105 : decode cX2_findOddDivisor 105 = .ok (.getfield 21, 3) := by decide +kernel
theorem dX2_findOddDivisor_108 : decode cX2_findOddDivisor 108 = .ok (.invokevirtual 69, 3) := by decide +kernel
theorem dX2_findOddDivisor_111 : decode cX2_findOddDivisor 111 = .ok (.aload_n 3, 1) := by decide +kernel
theorem dX2_findOddDivisor_112 : decode cX2_findOddDivisor 112 = .ok (.aload_n 3, 1) := by decide +kernel
theorem dX2_findOddDivisor_113 : decode cX2_findOddDivisor 113 = .ok (.invokevirtual 46, 3) := by decide +kernel
theorem dX2_findOddDivisor_116 : decode cX2_findOddDivisor 116 = .ok (.invokevirtual 56, 3) := by decide +kernel
theorem dX2_findOddDivisor_119 : decode cX2_findOddDivisor 119 = .ok (.iinc 1 1, 3) := by decide +kernel
theorem dX2_findOddDivisor_122 : decode cX2_findOddDivisor 122 = .ok (.goto (-70), 3) := by decide +kernel
theorem dX2_findOddDivisor_125 : decode cX2_findOddDivisor 125 = .ok (.return_, 1) := by decide +kernel
theorem dX2_rounded_0 : decode cX2_rounded 0 = .ok (.aload_n 0, 1) := by decide +kernel
theorem dX2_rounded_1 : decode cX2_rounded 1 = .ok (.getfield 21, 3) := by decide +kernel
theorem dX2_rounded_4 : decode cX2_rounded 4 = .ok (.aload_n 0, 1) := by decide +kernel
theorem dX2_rounded_5 : decode cX2_rounded 5 = .ok (.getfield 18, 3) := by decide +kernel
theorem dX2_rounded_8 : decode cX2_rounded 8 = .ok (.invokevirtual 27, 3) := by decide +kernel
theorem dX2_rounded_11 : decode cX2_rounded 11 = .ok (.aload_n 0, 1) := by decide +kernel
theorem dX2_rounded_12 : decode cX2_rounded 12 = .ok (.getfield 12, 3) := by decide +kernel
theorem dX2_rounded_15 : decode cX2_rounded 15 = .ok (.iconst 2, 1) := by decide +kernel
theorem dX2_rounded_16 : decode cX2_rounded 16 = .ok (.iconst 0, 1) := by decide +kernel
theorem dX2_rounded_17 : decode cX2_rounded 17 = .ok (.invokevirtual 31, 3) := by decide +kernel
theorem dX2_rounded_20 : decode cX2_rounded 20 = .ok (.aload_n 0, 1) := by decide +kernel
theorem dX2_rounded_21 : decode cX2_rounded 21 = .ok (.getfield 12, 3) := by decide +kernel
theorem dX2_rounded_24 : decode cX2_rounded 24 = .ok (.aload_n 0, 1) := by decide +kernel
theorem dX2_rounded_25 : decode cX2_rounded 25 = .ok (.getfield 21, 3) := by decide +kernel
theorem dX2_rounded_28 : decode cX2_rounded 28 = .ok (.invokevirtual 35, 3) := by decide +kernel
theorem dX2_rounded_31 : decode cX2_rounded 31 = .ok (.aload_n 0, 1) := by decide +kernel
theorem dX2_rounded_32 : decode cX2_rounded 32 = .ok (.getfield 18, 3) := by decide +kernel
theorem dX2_rounded_35 : decode cX2_rounded 35 = .ok (.iconst 2, 1) := by decide +kernel
theorem dX2_rounded_36 : decode cX2_rounded 36 = .ok (.iconst 0, 1) := by decide +kernel
theorem dX2_rounded_37 : decode cX2_rounded 37 = .ok (.invokevirtual 31, 3) := by decide +kernel
theorem dX2_rounded_40 : decode cX2_rounded 40 = .ok (.aload_n 0, 1) := by decide +kernel
theorem dX2_rounded_41 : decode cX2_rounded 41 = .ok (.invokevirtual 72, 3) := by decide +kernel
theorem dX2_rounded_44 : decode cX2_rounded 44 = .ok (.istore_n 1, 1) := by decide +kernel
theorem dX2_rounded_45 : decode cX2_rounded 45 = .ok (.aload_n 0, 1) := by decide +kernel
theorem dX2_rounded_46 : decode cX2_rounded 46 = .ok (.getfield 12, 3) := by decide +kernel
theorem dX2_rounded_49 : decode cX2_rounded 49 = .ok (.getfield 75, 3) := by decide +kernel
theorem dX2_rounded_52 : decode cX2_rounded 52 = .ok (.ifCond .ne 5, 3) := by decide +kernel
theorem dX2_rounded_55 : decode cX2_rounded 55 = .ok (.iload_n 1, 1) := by decide +kernel
theorem dX2_rounded_56 : decode cX2_rounded 56 = .ok (.ireturn, 1) := by decide +kernel
theorem dX2_rounded_57 : decode cX2_rounded 57 = .ok (.aload_n 0, 1) := by decide +kernel
theorem dX2_rounded_58 : decode cX2_rounded 58 = .ok (.getfield 21, 3) := by decide +kernel
theorem dX2_rounded_61 : decode cX2_rounded 61 = .ok (.aload_n 0, 1) := by decide +kernel
theorem dX2_rounded_62 : decode cX2_rounded 62 = .ok (.getfield 18, 3) := by decide +kernel
theorem dX2_rounded_65 : decode cX2_rounded 65 = .ok (.invokevirtual 27, 3) := by decide +kernel
theorem dX2_rounded_68 : decode cX2_rounded 68 = .ok (.aload_n 0, 1) := by decide +kernel
theorem dX2_rounded_69 : decode cX2_rounded 69 = .ok (.getfield 21, 3) := by decide +kernel
theorem dX2_rounded_72 : decode cX2_rounded 72 = .ok (.iload_n 1, 1) := by decide +kernel
theorem dX2_rounded_73 : decode cX2_rounded 73 = .ok (.iconst 0, 1) := by decide +kernel
theorem dX2_rounded_74 : decode cX2_rounded 74 = .ok (.invokevirtual 31, 3) := by decide +kernel
theorem dX2_rounded_77 : decode cX2_rounded 77 = .ok (.aload_n 0, 1) := by decide +kernel
theorem dX2_rounded_78 : decode cX2_rounded 78 = .ok (.getfield 21, 3) := by decide +kernel
theorem dX2_rounded_81 : decode cX2_rounded 81 = .ok (.aload_n 0, 1) := by decide +kernel
theorem dX2_rounded_82 : decode cX2_rounded 82 = .ok (.getfield 12, 3) := by decide +kernel
theorem dX2_rounded_85 : decode cX2_rounded 85 = .ok (.invokevirtual 65, 3) := by decide +kernel
theorem dX2_rounded_88 : decode cX2_rounded 88 = .ok (.ifCond .ne 8, 3) := by decide +kernel
theorem dX2_rounded_91 : decode cX2_rounded 91 = .ok (.iload_n 1, 1) := by decide +kernel
theorem dX2_rounded_92 : decode cX2_rounded 92 = .ok (.ineg, 1) := by decide +kernel
theorem dX2_rounded_93 : decode cX2_rounded 93 = .ok (.goto 7, 3) := by decide +kernel
theorem dX2_rounded_96 : decode cX2_rounded 96 = .ok (.iload_n 1, 1) := by decide +kernel
theorem dX2_rounded_97 : decode cX2_rounded 97 = .ok (.ineg, 1) := by decide +kernel
theorem dX2_rounded_98 : decode cX2_rounded 98 = .ok (.iconst 1, 1) := by decide +kernel
theorem dX2_rounded_99 : decode cX2_rounded 99 = .ok (.isub, 1) := by decide +kernel
theorem dX2_rounded_100 : decode cX2_rounded 100 = .ok (.ireturn, 1) := by decide +kernel
theorem dX2_quotientOfSizes_0 : decode cX2_quotientOfSizes 0 = .ok (.iconst 0, 1) := by decide +kernel
theorem dX2_quotientOfSizes_1 : decode cX2_quotientOfSizes 1 = .ok (.istore_n 1, 1) := by decide +kernel
theorem dX2_quotientOfSizes_2 : decode cX2_quotientOfSizes 2 = .ok (.ldc 79, 2) := by decide +kernel
theorem dX2_quotientOfSizes_4 : decode cX2_quotientOfSizes 4 = .ok (.istore_n 2, 1) := by decide +kernel
theorem dX2_quotientOfSizes_5 : decode cX2_quotientOfSizes 5 = .ok (.iload_n 2, 1) := by decide +kernel
theorem dX2_quotientOfSizes_6 : decode cX2_quotientOfSizes 6 = .ok (.ifCond .le 50, 3) := by decide +kernel
theorem dX2_quotientOfSizes_9 : decode cX2_quotientOfSizes 9 = .ok (.aload_n 0, 1) := by decide +kernel
theorem dX2_quotientOfSizes_10 : decode cX2_quotientOfSizes 10 = .ok (.getfield 21, 3) := by decide +kernel
theorem dX2_quotientOfSizes_13 : decode cX2_quotientOfSizes 13 = .ok (.aload_n 0, 1) := by decide +kernel
theorem dX2_quotientOfSizes_14 : decode cX2_quotientOfSizes 14 = .ok (.getfield 18, 3) := by decide +kernel
theorem dX2_quotientOfSizes_17 : decode cX2_quotientOfSizes 17 = .ok (.invokevirtual 27, 3) := by decide +kernel
theorem dX2_quotientOfSizes_20 : decode cX2_quotientOfSizes 20 = .ok (.aload_n 0, 1) := by decide +kernel
theorem dX2_quotientOfSizes_21 : decode cX2_quotientOfSizes 21 = .ok (.getfield 21, 3) := by decide +kernel
theorem dX2_quotientOfSizes_24 : decode cX2_quotientOfSizes 24 = .ok (.iload_n 1, 1) := by decide +kernel
theorem dX2_quotientOfSizes_25 : decode cX2_quotientOfSizes 25 = .ok (.iload_n 2, 1) := by decide +kernel
theorem dX2_quotientOfSizes_26 : decode cX2_quotientOfSizes 26 = .ok (.iadd, 1) := by decide +kernel
theorem dX2_quotientOfSizes_27 : decode cX2_quotientOfSizes 27 = .ok (.iconst 0, 1) := by decide +kernel
theorem dX2_quotientOfSizes_28 : decode cX2_quotientOfSizes 28 = .ok (.invokevirtual 31, 3) := by decide +kernel
theorem dX2_quotientOfSizes_31 : decode cX2_quotientOfSizes 31 = .ok (.aload_n 0, 1) := by decide +kernel
theorem dX2_quotientOfSizes_32 : decode cX2_quotientOfSizes 32 = .ok (.getfield 21, 3) := by decide +kernel
theorem dX2_quotientOfSizes_35 : decode cX2_quotientOfSizes 35 = .ok (.aload_n 0, 1) := by decide +kernel
theorem dX2_quotientOfSizes_36 : decode cX2_quotientOfSizes 36 = .ok (.getfield 12, 3) := by decide +kernel
theorem dX2_quotientOfSizes_39 : decode cX2_quotientOfSizes 39 = .ok (.invokevirtual 65, 3) := by decide +kernel
theorem dX2_quotientOfSizes_42 : decode cX2_quotientOfSizes 42 = .ok (.ifCond .gt 7, 3) := by decide +kernel
theorem dX2_quotientOfSizes_45 : decode cX2_quotientOfSizes 45 = .ok (.iload_n 1, 1) := by decide +kernel
theorem dX2_quotientOfSizes_46 : decode cX2_quotientOfSizes 46 = .ok (.iload_n 2, 1) := by decide +kernel
theorem dX2_quotientOfSizes_47 : decode cX2_quotientOfSizes 47 = .ok (.iadd, 1) := by decide +kernel
theorem dX2_quotientOfSizes_48 : decode cX2_quotientOfSizes 48 = .ok (.istore_n 1, 1) := by decide +kernel
theorem dX2_quotientOfSizes_49 : decode cX2_quotientOfSizes 49 = .ok (.iload_n 2, 1) := by decide +kernel
theorem dX2_quotientOfSizes_50 : decode cX2_quotientOfSizes 50 = .ok (.iconst 1, 1) := by decide +kernel
theorem dX2_quotientOfSizes_51 : decode cX2_quotientOfSizes 51 = .ok (.ishr, 1) := by decide +kernel
theorem dX2_quotientOfSizes_52 : decode cX2_quotientOfSizes 52 = .ok (.istore_n 2, 1) := by decide +kernel
theorem dX2_quotientOfSizes_53 : decode cX2_quotientOfSizes 53 = .ok (.goto (-48), 3) := by decide +kernel
theorem dX2_quotientOfSizes_56 : decode cX2_quotientOfSizes 56 = .ok (.iload_n 1, 1) := by decide +kernel
theorem dX2_quotientOfSizes_57 : decode cX2_quotientOfSizes 57 = .ok (.ireturn, 1) := by decide +kernel
theorem dX3_init_0 : decode cX3_init 0 = .ok (.aload_n 0, 1) := by decide +kernel
theorem dX3_init_1 : decode cX3_init 1 = .ok (.invokespecial 3, 3) := by decide +kernel
theorem dX3_init_4 : decode cX3_init 4 = .ok (.aload_n 0, 1) := by decide +kernel
theorem dX3_init_5 : decode cX3_init 5 = .ok (.bipush 37, 2) := by decide +kernel
theorem dX3_init_7 : decode cX3_init 7 = .ok (.newarray .int, 2) := by decide +kernel
theorem dX3_init_9 : decode cX3_init 9 = .ok (.putfield 9, 3) := by decide +kernel
theorem dX3_init_12 : decode cX3_init 12 = .ok (.aload_n 0, 1) := by decide +kernel
theorem dX3_init_13 : decode cX3_init 13 = .ok (.bipush 37, 2) := by decide +kernel
theorem dX3_init_15 : decode cX3_init 15 = .ok (.newarray .int, 2) := by decide +kernel
theorem dX3_init_17 : decode cX3_init 17 = .ok (.putfield 15, 3) := by decide +kernel
theorem dX3_init_20 : decode cX3_init 20 = .ok (.aload_n 0, 1) := by decide +kernel
theorem dX3_init_21 : decode cX3_init 21 = .ok (.bipush 37, 2) := by decide +kernel
theorem dX3_init_23 : decode cX3_init 23 = .ok (.newarray .int, 2) := by decide +kernel
theorem dX3_init_25 : decode cX3_init 25 = .ok (.putfield 18, 3) := by decide +kernel
theorem dX3_init_28 : decode cX3_init 28 = .ok (.aload_n 0, 1) := by decide +kernel
theorem dX3_init_29 : decode cX3_init 29 = .ok (.sipush 222, 3) := by decide +kernel
theorem dX3_init_32 : decode cX3_init 32 = .ok (.newarray .int, 2) := by decide +kernel
theorem dX3_init_34 : decode cX3_init 34 = .ok (.putfield 21, 3) := by decide +kernel
theorem dX3_init_37 : decode cX3_init 37 = .ok (.aload_n 0, 1) := by decide +kernel
theorem dX3_init_38 : decode cX3_init 38 = .ok (.bipush 12, 2) := by decide +kernel
theorem dX3_init_40 : decode cX3_init 40 = .ok (.newarray .int, 2) := by decide +kernel
theorem dX3_init_42 : decode cX3_init 42 = .ok (.putfield 24, 3) := by decide +kernel
theorem dX3_init_45 : decode cX3_init 45 = .ok (.iconst 0, 1) := by decide +kernel
theorem dX3_init_46 : decode cX3_init 46 = .ok (.istore_n 1, 1) := by decide +kernel
theorem dX3_init_47 : decode cX3_init 47 = .ok (.iload_n 1, 1) := by decide +kernel
theorem dX3_init_48 : decode cX3_init 48 = .ok (.bipush 12, 2) := by decide +kernel
theorem dX3_init_50 : decode cX3_init 50 = .ok (.if_icmp .ge 25, 3) := by decide +kernel
theorem dX3_init_53 : decode cX3_init 53 = .ok (.aload_n 0, 1) := by decide +kernel
theorem dX3_init_54 : decode cX3_init 54 = .ok (.iload_n 1, 1) := by decide +kernel
theorem dX3_init_55 : decode cX3_init 55 = .ok (.getstatic 27, 3) := by decide +kernel
theorem dX3_init_58 : decode cX3_init 58 = .ok (.iload_n 1, 1) := by decide +kernel
theorem dX3_init_59 : decode cX3_init 59 = .ok (.iaload, 1) := by decide +kernel
theorem dX3_init_60 : decode cX3_init 60 = .ok (.getstatic 30, 3) := by decide +kernel
theorem dX3_init_63 : decode cX3_init 63 = .ok (.iload_n 1, 1) := by decide +kernel
theorem dX3_init_64 : decode cX3_init 64 = .ok (.iaload, 1) := by decide +kernel
theorem dX3_init_65 : decode cX3_init 65 = .ok (.invokevirtual 33, 3) := by decide +kernel
theorem dX3_init_68 : decode cX3_init 68 = .ok (.pop, 1) := by decide +kernel
theorem dX3_init_69 : decode cX3_init 69 = .ok (.iinc 1 1, 3) := by decide +kernel
theorem dX3_init_72 : decode cX3_init 72 = .ok (.goto (-25), 3) := by decide +kernel
theorem dX3_init_75 : decode cX3_init 75 = .ok (.aload_n 0, 1) := by decide +kernel
theorem dX3_init_76 : decode cX3_init 76 = .ok (.bipush 36, 2) := by decide +kernel
theorem dX3_init_78 : decode cX3_init 78 = .ok (.iconst 1, 1) := by decide +kernel
theorem dX3_init_79 : decode cX3_init 79 = .ok (.iconst 1, 1) := by decide +kernel
theorem dX3_init_80 : decode cX3_init 80 = .ok (.invokevirtual 37, 3) := by decide +kernel
theorem dX3_init_83 : decode cX3_init 83 = .ok (.return_, 1) := by decide +kernel
theorem dX3_isAllowed_0 : decode cX3_isAllowed 0 = .ok (.iload_n 0, 1) := by decide +kernel
theorem dX3_isAllowed_1 : decode cX3_isAllowed 1 = .ok (.iconst 1, 1) := by decide +kernel
theorem dX3_isAllowed_2 : decode cX3_isAllowed 2 = .ok (.if_icmp .lt 22, 3) := by decide +kernel
theorem dX3_isAllowed_5 : decode cX3_isAllowed 5 = .ok (.iload_n 0, 1) := by decide +kernel
theorem dX3_isAllowed_6 : decode cX3_isAllowed 6 = .ok (.sipush 9999, 3) := by decide +kernel
theorem dX3_isAllowed_9 : decode cX3_isAllowed 9 = .ok (.if_icmp .gt 15, 3) := by decide +kernel
theorem dX3_isAllowed_12 : decode cX3_isAllowed 12 = .ok (.iload_n 1, 1) := by decide +kernel
theorem dX3_isAllowed_13 : decode cX3_isAllowed 13 = .ok (.iconst 1, 1) := by decide +kernel
theorem dX3_isAllowed_14 : decode cX3_isAllowed 14 = .ok (.if_icmp .lt 10, 3) := by decide +kernel
theorem dX3_isAllowed_17 : decode cX3_isAllowed 17 = .ok (.iload_n 1, 1) := by decide +kernel
theorem dX3_isAllowed_18 : decode cX3_isAllowed 18 = .ok (.sipush 9999, 3) := by decide +kernel
theorem dX3_isAllowed_21 : decode cX3_isAllowed 21 = .ok (.if_icmp .le 5, 3) := by decide +kernel
theorem dX3_isAllowed_24 : decode cX3_isAllowed 24 = .ok (.iconst 0, 1) := by decide +kernel
theorem dX3_isAllowed_25 : decode cX3_isAllowed 25 = .ok (.ireturn, 1) := by decide +kernel
theorem dX3_isAllowed_26 : decode cX3_isAllowed 26 = .ok (.iload_n 0, 1) := by decide +kernel
theorem dX3_isAllowed_27 : decode cX3_isAllowed 27 = .ok (.iload_n 1, 1) := by decide +kernel
theorem dX3_isAllowed_28 : decode cX3_isAllowed 28 = .ok (.if_icmp .lt 10, 3) := by decide +kernel
theorem dX3_isAllowed_31 : decode cX3_isAllowed 31 = .ok (.iload_n 0, 1) := by decide +kernel
theorem dX3_isAllowed_32 : decode cX3_isAllowed 32 = .ok (.iconst 2, 1) := by decide +kernel
theorem dX3_isAllowed_33 : decode cX3_isAllowed 33 = .ok (.iload_n 1, 1) := by decide +kernel
theorem dX3_isAllowed_34 : decode cX3_isAllowed 34 = .ok (.imul, 1) := by decide +kernel
theorem dX3_isAllowed_35 : decode cX3_isAllowed 35 = .ok (.if_icmp .lt 5, 3) := by decide +kernel
theorem dX3_isAllowed_38 : decode cX3_isAllowed 38 = .ok (.iconst 0, 1) := by decide +kernel
theorem dX3_isAllowed_39 : decode cX3_isAllowed 39 = .ok (.ireturn, 1) := by decide +kernel
theorem dX3_isAllowed_40 : decode cX3_isAllowed 40 = .ok (.iload_n 0, 1) := by decide +kernel
theorem dX3_isAllowed_41 : decode cX3_isAllowed 41 = .ok (.invokestatic 41, 3) := by decide +kernel
theorem dX3_isAllowed_44 : decode cX3_isAllowed 44 = .ok (.ifCond .eq 22, 3) := by decide +kernel
theorem dX3_isAllowed_47 : decode cX3_isAllowed 47 = .ok (.iload_n 1, 1) := by decide +kernel
theorem dX3_isAllowed_48 : decode cX3_isAllowed 48 = .ok (.invokestatic 41, 3) := by decide +kernel
theorem dX3_isAllowed_51 : decode cX3_isAllowed 51 = .ok (.ifCond .eq 15, 3) := by decide +kernel
theorem dX3_isAllowed_54 : decode cX3_isAllowed 54 = .ok (.iload_n 0, 1) := by decide +kernel
theorem dX3_isAllowed_55 : decode cX3_isAllowed 55 = .ok (.iload_n 1, 1) := by decide +kernel
theorem dX3_isAllowed_56 : decode cX3_isAllowed 56 = .ok (.invokestatic 45, 3) := by decide +kernel
theorem dX3_isAllowed_59 : decode cX3_isAllowed 59 = .ok (.ifCond .ne 7, 3) := by decide +kernel
theorem dX3_isAllowed_62 : decode cX3_isAllowed 62 = .ok (.iconst 1, 1) := by decide +kernel
theorem dX3_isAllowed_63 : decode cX3_isAllowed 63 = .ok (.goto 4, 3) := by decide +kernel
theorem dX3_isAllowed_66 : decode cX3_isAllowed 66 = .ok (.iconst 0, 1) := by decide +kernel
theorem dX3_isAllowed_67 : decode cX3_isAllowed 67 = .ok (.ireturn, 1) := by decide +kernel
theorem dX3_hasSmallPrimes_0 : decode cX3_hasSmallPrimes 0 = .ok (.iload_n 0, 1) := by decide +kernel
theorem dX3_hasSmallPrimes_1 : decode cX3_hasSmallPrimes 1 = .ok (.istore_n 1, 1) := by decide +kernel
theorem dX3_hasSmallPrimes_2 : decode cX3_hasSmallPrimes 2 = .ok (.iconst 0, 1) := by decide +kernel
theorem dX3_hasSmallPrimes_3 : decode cX3_hasSmallPrimes 3 = .ok (.istore_n 2, 1) := by decide +kernel
theorem dX3_hasSmallPrimes_4 : decode cX3_hasSmallPrimes 4 = .ok (.iload_n 2, 1) := by decide +kernel
theorem dX3_hasSmallPrimes_5 : decode cX3_hasSmallPrimes 5 = .ok (.bipush 6, 2) := by decide +kernel
theorem dX3_hasSmallPrimes_7 : decode cX3_hasSmallPrimes 7 = .ok (.if_icmp .ge 41, 3) := by decide +kernel
theorem dX3_hasSmallPrimes_10 : decode cX3_hasSmallPrimes 10 = .ok (.iconst 0, 1) := by decide +kernel
theorem dX3_hasSmallPrimes_11 : decode cX3_hasSmallPrimes 11 = .ok (.istore_n 3, 1) := by decide +kernel
theorem dX3_hasSmallPrimes_12 : decode cX3_hasSmallPrimes 12 = .ok (.iload_n 3, 1) := by decide +kernel
theorem dX3_hasSmallPrimes_13 : decode cX3_hasSmallPrimes 13 = .ok (.bipush 14, 2) := by decide +kernel
theorem dX3_hasSmallPrimes_15 : decode cX3_hasSmallPrimes 15 = .ok (.if_icmp .ge 27, 3) := by decide +kernel
theorem dX3_hasSmallPrimes_18 : decode cX3_hasSmallPrimes 18 = .ok (.iload_n 1, 1) := by decide +kernel
theorem dX3_hasSmallPrimes_19 : decode cX3_hasSmallPrimes 19 = .ok (.getstatic 49, 3) := by decide +kernel
theorem dX3_hasSmallPrimes_22 : decode cX3_hasSmallPrimes 22 = .ok (.iload_n 2, 1) := by decide +kernel
theorem dX3_hasSmallPrimes_23 : decode cX3_hasSmallPrimes 23 = .ok (.iaload, 1) := by decide +kernel
theorem dX3_hasSmallPrimes_24 : decode cX3_hasSmallPrimes 24 = .ok (.irem, 1) := by decide +kernel
theorem dX3_hasSmallPrimes_25 : decode cX3_hasSmallPrimes 25 = .ok (.ifCond .ne 17, 3) := by decide +kernel
theorem dX3_hasSmallPrimes_28 : decode cX3_hasSmallPrimes 28 = .ok (.iload_n 1, 1) := by decide +kernel
theorem dX3_hasSmallPrimes_29 : decode cX3_hasSmallPrimes 29 = .ok (.getstatic 49, 3) := by decide +kernel
theorem dX3_hasSmallPrimes_32 : decode cX3_hasSmallPrimes 32 = .ok (.iload_n 2, 1) := by decide +kernel
theorem dX3_hasSmallPrimes_33 : decode cX3_hasSmallPrimes 33 = .ok (.iaload, 1) := by decide +kernel
theorem dX3_hasSmallPrimes_34 : decode cX3_hasSmallPrimes 34 = .ok (.idiv, 1) := by decide +kernel
theorem dX3_hasSmallPrimes_35 : decode cX3_hasSmallPrimes 35 = .ok (.istore_n 1, 1) := by decide +kernel
theorem dX3_hasSmallPrimes_36 : decode cX3_hasSmallPrimes 36 = .ok (.iinc 3 1, 3) := by decide +kernel
theorem dX3_hasSmallPrimes_39 : decode cX3_hasSmallPrimes 39 = .ok (.goto (-27), 3) := by decide +kernel
theorem dX3_hasSmallPrimes_42 : decode cX3_hasSmallPrimes 42 = .ok (.iinc 2 1, 3) := by decide +kernel
theorem dX3_hasSmallPrimes_45 : decode cX3_hasSmallPrimes 45 = .ok (.goto (-41), 3) := by decide +kernel
theorem dX3_hasSmallPrimes_48 : decode cX3_hasSmallPrimes 48 = .ok (.iload_n 1, 1) := by decide +kernel
theorem dX3_hasSmallPrimes_49 : decode cX3_hasSmallPrimes 49 = .ok (.iconst 1, 1) := by decide +kernel
theorem dX3_hasSmallPrimes_50 : decode cX3_hasSmallPrimes 50 = .ok (.if_icmp .ne 7, 3) := by decide +kernel
theorem dX3_hasSmallPrimes_53 : decode cX3_hasSmallPrimes 53 = .ok (.iconst 1, 1) := by decide +kernel
theorem dX3_hasSmallPrimes_54 : decode cX3_hasSmallPrimes 54 = .ok (.goto 4, 3) := by decide +kernel
theorem dX3_hasSmallPrimes_57 : decode cX3_hasSmallPrimes 57 = .ok (.iconst 0, 1) := by decide +kernel
theorem dX3_hasSmallPrimes_58 : decode cX3_hasSmallPrimes 58 = .ok (.ireturn, 1) := by decide +kernel
theorem dX3_shareSmallPrime_0 : decode cX3_shareSmallPrime 0 = .ok (.iconst 0, 1) := by decide +kernel
theorem dX3_shareSmallPrime_1 : decode cX3_shareSmallPrime 1 = .ok (.istore_n 2, 1) := by decide +kernel
theorem dX3_shareSmallPrime_2 : decode cX3_shareSmallPrime 2 = .ok (.iload_n 2, 1) := by decide +kernel
theorem dX3_shareSmallPrime_3 : decode cX3_shareSmallPrime 3 = .ok (.bipush 6, 2) := by decide +kernel
theorem dX3_shareSmallPrime_5 : decode cX3_shareSmallPrime 5 = .ok (.if_icmp .ge 31, 3) := by decide +kernel
theorem dX3_shareSmallPrime_8 : decode cX3_shareSmallPrime 8 = .ok (.iload_n 0, 1) := by decide +kernel
theorem dX3_shareSmallPrime_9 : decode cX3_shareSmallPrime 9 = .ok (.getstatic 49, 3) := by decide +kernel
theorem dX3_shareSmallPrime_12 : decode cX3_shareSmallPrime 12 = .ok (.iload_n 2, 1) := by decide +kernel
theorem dX3_shareSmallPrime_13 : decode cX3_shareSmallPrime 13 = .ok (.iaload, 1) := by decide +kernel
theorem dX3_shareSmallPrime_14 : decode cX3_shareSmallPrime 14 = .ok (.irem, 1) := by decide +kernel
theorem dX3_shareSmallPrime_15 : decode cX3_shareSmallPrime 15 = .ok (.ifCond .ne 15, 3) := by decide +kernel
theorem dX3_shareSmallPrime_18 : decode cX3_shareSmallPrime 18 = .ok (.iload_n 1, 1) := by decide +kernel
theorem dX3_shareSmallPrime_19 : decode cX3_shareSmallPrime 19 = .ok (.getstatic 49, 3) := by decide +kernel
theorem dX3_shareSmallPrime_22 : decode cX3_shareSmallPrime 22 = .ok (.iload_n 2, 1) := by decide +kernel
theorem dX3_shareSmallPrime_23 : decode cX3_shareSmallPrime 23 = .ok (.iaload, 1) := by decide +kernel
theorem dX3_shareSmallPrime_24 : decode cX3_shareSmallPrime 24 = .ok (.irem, 1) := by decide +kernel
theorem dX3_shareSmallPrime_25 : decode cX3_shareSmallPrime 25 = .ok (.ifCond .ne 5, 3) := by decide +kernel
theorem dX3_shareSmallPrime_28 : decode cX3_shareSmallPrime 28 = .ok (.iconst 1, 1) := by decide +kernel
theorem dX3_shareSmallPrime_29 : decode cX3_shareSmallPrime 29 = .ok (.ireturn, 1) := by decide +kernel
theorem dX3_shareSmallPrime_30 : decode cX3_shareSmallPrime 30 = .ok (.iinc 2 1, 3) := by decide +kernel
theorem dX3_shareSmallPrime_33 : decode cX3_shareSmallPrime 33 = .ok (.goto (-31), 3) := by decide +kernel
theorem dX3_shareSmallPrime_36 : decode cX3_shareSmallPrime 36 = .ok (.iconst 0, 1) := by decide +kernel
theorem dX3_shareSmallPrime_37 : decode cX3_shareSmallPrime 37 = .ok (.ireturn, 1) := by decide +kernel
theorem dX3_powerIn_0 : decode cX3_powerIn 0 = .ok (.iconst 0, 1) := by decide +kernel
theorem dX3_powerIn_1 : decode cX3_powerIn 1 = .ok (.istore_n 2, 1) := by decide +kernel
theorem dX3_powerIn_2 : decode cX3_powerIn 2 = .ok (.iload_n 0, 1) := by decide +kernel
theorem dX3_powerIn_3 : decode cX3_powerIn 3 = .ok (.istore_n 3, 1) := by decide +kernel
theorem dX3_powerIn_4 : decode cX3_powerIn 4 = .ok (.iload_n 2, 1) := by decide +kernel
theorem dX3_powerIn_5 : decode cX3_powerIn 5 = .ok (.bipush 14, 2) := by decide +kernel
theorem dX3_powerIn_7 : decode cX3_powerIn 7 = .ok (.if_icmp .ge 19, 3) := by decide +kernel
theorem dX3_powerIn_10 : decode cX3_powerIn 10 = .ok (.iload_n 3, 1) := by decide +kernel
theorem dX3_powerIn_11 : decode cX3_powerIn 11 = .ok (.iload_n 1, 1) := by decide +kernel
theorem dX3_powerIn_12 : decode cX3_powerIn 12 = .ok (.irem, 1) := by decide +kernel
theorem dX3_powerIn_13 : decode cX3_powerIn 13 = .ok (.ifCond .ne 13, 3) := by decide +kernel
theorem dX3_powerIn_16 : decode cX3_powerIn 16 = .ok (.iload_n 3, 1) := by decide +kernel
theorem dX3_powerIn_17 : decode cX3_powerIn 17 = .ok (.iload_n 1, 1) := by decide +kernel
theorem dX3_powerIn_18 : decode cX3_powerIn 18 = .ok (.idiv, 1) := by decide +kernel
theorem dX3_powerIn_19 : decode cX3_powerIn 19 = .ok (.istore_n 3, 1) := by decide +kernel
theorem dX3_powerIn_20 : decode cX3_powerIn 20 = .ok (.iinc 2 1, 3) := by decide +kernel
theorem dX3_powerIn_23 : decode cX3_powerIn 23 = .ok (.goto (-19), 3) := by decide +kernel
theorem dX3_powerIn_26 : decode cX3_powerIn 26 = .ok (.iload_n 2, 1) := by decide +kernel
theorem dX3_powerIn_27 : decode cX3_powerIn 27 = .ok (.ireturn, 1) := by decide +kernel
theorem dX3_holds_0 : decode cX3_holds 0 = .ok (.iconst 0, 1) := by decide +kernel
theorem dX3_holds_1 : decode cX3_holds 1 = .ok (.istore 4, 2) := by decide +kernel
theorem dX3_holds_3 : decode cX3_holds 3 = .ok (.iload 4, 2) := by decide +kernel
theorem dX3_holds_5 : decode cX3_holds 5 = .ok (.aload_n 0, 1) := by decide +kernel
theorem dX3_holds_6 : decode cX3_holds 6 = .ok (.getfield 24, 3) := by decide +kernel
theorem dX3_holds_9 : decode cX3_holds 9 = .ok (.iload_n 1, 1) := by decide +kernel
theorem dX3_holds_10 : decode cX3_holds 10 = .ok (.iaload, 1) := by decide +kernel
theorem dX3_holds_11 : decode cX3_holds 11 = .ok (.if_icmp .ge 41, 3) := by decide +kernel
theorem dX3_holds_14 : decode cX3_holds 14 = .ok (.iload_n 1, 1) := by decide +kernel
theorem dX3_holds_15 : decode cX3_holds 15 = .ok (.iconst 3, 1) := by decide +kernel
theorem dX3_holds_16 : decode cX3_holds 16 = .ok (.imul, 1) := by decide +kernel
theorem dX3_holds_17 : decode cX3_holds 17 = .ok (.iload 4, 2) := by decide +kernel
theorem dX3_holds_19 : decode cX3_holds 19 = .ok (.iadd, 1) := by decide +kernel
theorem dX3_holds_20 : decode cX3_holds 20 = .ok (.istore 5, 2) := by decide +kernel
theorem dX3_holds_22 : decode cX3_holds 22 = .ok (.aload_n 0, 1) := by decide +kernel
theorem dX3_holds_23 : decode cX3_holds 23 = .ok (.getfield 9, 3) := by decide +kernel
theorem dX3_holds_26 : decode cX3_holds 26 = .ok (.iload 5, 2) := by decide +kernel
theorem dX3_holds_28 : decode cX3_holds 28 = .ok (.iaload, 1) := by decide +kernel
theorem dX3_holds_29 : decode cX3_holds 29 = .ok (.iload_n 2, 1) := by decide +kernel
theorem dX3_holds_30 : decode cX3_holds 30 = .ok (.if_icmp .ne 16, 3) := by decide +kernel
theorem dX3_holds_33 : decode cX3_holds 33 = .ok (.aload_n 0, 1) := by decide +kernel
theorem dX3_holds_34 : decode cX3_holds 34 = .ok (.getfield 15, 3) := by decide +kernel
theorem dX3_holds_37 : decode cX3_holds 37 = .ok (.iload 5, 2) := by decide +kernel
theorem dX3_holds_39 : decode cX3_holds 39 = .ok (.iaload, 1) := by decide +kernel
theorem dX3_holds_40 : decode cX3_holds 40 = .ok (.iload_n 3, 1) := by decide +kernel
theorem dX3_holds_41 : decode cX3_holds 41 = .ok (.if_icmp .ne 5, 3) := by decide +kernel
theorem dX3_holds_44 : decode cX3_holds 44 = .ok (.iconst 1, 1) := by decide +kernel
theorem dX3_holds_45 : decode cX3_holds 45 = .ok (.ireturn, 1) := by decide +kernel
theorem dX3_holds_46 : decode cX3_holds 46 = .ok (.iinc 4 1, 3) := by decide +kernel
theorem dX3_holds_49 : decode cX3_holds 49 = .ok (.goto (-46), 3) := by decide +kernel
theorem dX3_holds_52 : decode cX3_holds 52 = .ok (.iconst 0, 1) := by decide +kernel
theorem dX3_holds_53 : decode cX3_holds 53 = .ok (.ireturn, 1) := by decide +kernel
theorem dX3_append_0 : decode cX3_append 0 = .ok (.aload_n 0, 1) := by decide +kernel
theorem dX3_append_1 : decode cX3_append 1 = .ok (.getfield 24, 3) := by decide +kernel
theorem dX3_append_4 : decode cX3_append 4 = .ok (.iload_n 1, 1) := by decide +kernel
theorem dX3_append_5 : decode cX3_append 5 = .ok (.iaload, 1) := by decide +kernel
theorem dX3_append_6 : decode cX3_append 6 = .ok (.istore 4, 2) := by decide +kernel
theorem dX3_append_8 : decode cX3_append 8 = .ok (.aload_n 0, 1) := by decide +kernel
theorem dX3_append_9 : decode cX3_append 9 = .ok (.iload_n 1, 1) := by decide +kernel
theorem dX3_append_10 : decode cX3_append 10 = .ok (.iconst 3, 1) := by decide +kernel
theorem dX3_append_11 : decode cX3_append 11 = .ok (.imul, 1) := by decide +kernel
theorem dX3_append_12 : decode cX3_append 12 = .ok (.iload 4, 2) := by decide +kernel
theorem dX3_append_14 : decode cX3_append 14 = .ok (.iadd, 1) := by decide +kernel
theorem dX3_append_15 : decode cX3_append 15 = .ok (.iload_n 2, 1) := by decide +kernel
theorem dX3_append_16 : decode cX3_append 16 = .ok (.iload_n 3, 1) := by decide +kernel
theorem dX3_append_17 : decode cX3_append 17 = .ok (.invokevirtual 37, 3) := by decide +kernel
theorem dX3_append_20 : decode cX3_append 20 = .ok (.aload_n 0, 1) := by decide +kernel
theorem dX3_append_21 : decode cX3_append 21 = .ok (.getfield 24, 3) := by decide +kernel
theorem dX3_append_24 : decode cX3_append 24 = .ok (.iload_n 1, 1) := by decide +kernel
theorem dX3_append_25 : decode cX3_append 25 = .ok (.iload 4, 2) := by decide +kernel
theorem dX3_append_27 : decode cX3_append 27 = .ok (.iconst 1, 1) := by decide +kernel
theorem dX3_append_28 : decode cX3_append 28 = .ok (.iadd, 1) := by decide +kernel
theorem dX3_append_29 : decode cX3_append 29 = .ok (.iastore, 1) := by decide +kernel
theorem dX3_append_30 : decode cX3_append 30 = .ok (.iload 4, 2) := by decide +kernel
theorem dX3_append_32 : decode cX3_append 32 = .ok (.ireturn, 1) := by decide +kernel
theorem dX3_store_0 : decode cX3_store 0 = .ok (.aload_n 0, 1) := by decide +kernel
theorem dX3_store_1 : decode cX3_store 1 = .ok (.getfield 9, 3) := by decide +kernel
theorem dX3_store_4 : decode cX3_store 4 = .ok (.iload_n 1, 1) := by decide +kernel
theorem dX3_store_5 : decode cX3_store 5 = .ok (.iload_n 2, 1) := by decide +kernel
theorem dX3_store_6 : decode cX3_store 6 = .ok (.iastore, 1) := by decide +kernel
theorem dX3_store_7 : decode cX3_store 7 = .ok (.aload_n 0, 1) := by decide +kernel
theorem dX3_store_8 : decode cX3_store 8 = .ok (.getfield 15, 3) := by decide +kernel
theorem dX3_store_11 : decode cX3_store 11 = .ok (.iload_n 1, 1) := by decide +kernel
theorem dX3_store_12 : decode cX3_store 12 = .ok (.iload_n 3, 1) := by decide +kernel
theorem dX3_store_13 : decode cX3_store 13 = .ok (.iastore, 1) := by decide +kernel
theorem dX3_store_14 : decode cX3_store 14 = .ok (.aload_n 0, 1) := by decide +kernel
theorem dX3_store_15 : decode cX3_store 15 = .ok (.getfield 18, 3) := by decide +kernel
theorem dX3_store_18 : decode cX3_store 18 = .ok (.iload_n 1, 1) := by decide +kernel
theorem dX3_store_19 : decode cX3_store 19 = .ok (.iconst 0, 1) := by decide +kernel
theorem dX3_store_20 : decode cX3_store 20 = .ok (.iastore, 1) := by decide +kernel
theorem dX3_store_21 : decode cX3_store 21 = .ok (.iconst 0, 1) := by decide +kernel
theorem dX3_store_22 : decode cX3_store 22 = .ok (.istore 4, 2) := by decide +kernel
theorem dX3_store_24 : decode cX3_store 24 = .ok (.iload 4, 2) := by decide +kernel
theorem dX3_store_26 : decode cX3_store 26 = .ok (.bipush 6, 2) := by decide +kernel
theorem dX3_store_28 : decode cX3_store 28 = .ok (.if_icmp .ge 64, 3) := by decide +kernel
theorem dX3_store_31 : decode cX3_store 31 = .ok (.iload_n 2, 1) := by decide +kernel
theorem dX3_store_32 : decode cX3_store 32 = .ok (.getstatic 49, 3) := by decide +kernel
theorem dX3_store_35 : decode cX3_store 35 = .ok (.iload 4, 2) := by decide +kernel
theorem dX3_store_37 : decode cX3_store 37 = .ok (.iaload, 1) := by decide +kernel
theorem dX3_store_38 : decode cX3_store 38 = .ok (.invokestatic 52, 3) := by decide +kernel
theorem dX3_store_41 : decode cX3_store 41 = .ok (.iload_n 3, 1) := by decide +kernel
theorem dX3_store_42 : decode cX3_store 42 = .ok (.getstatic 49, 3) := by decide +kernel
theorem dX3_store_45 : decode cX3_store 45 = .ok (.iload 4, 2) := by decide +kernel
theorem dX3_store_47 : decode cX3_store 47 = .ok (.iaload, 1) := by decide +kernel
theorem dX3_store_48 : decode cX3_store 48 = .ok (.invokestatic 52, 3) := by decide +kernel
theorem dX3_store_51 : decode cX3_store 51 = .ok (.isub, 1) := by decide +kernel
theorem dX3_store_52 : decode cX3_store 52 = .ok (.istore 5, 2) := by decide +kernel
theorem dX3_store_54 : decode cX3_store 54 = .ok (.aload_n 0, 1) := by decide +kernel
theorem dX3_store_55 : decode cX3_store 55 = .ok (.getfield 21, 3) := by decide +kernel
theorem dX3_store_58 : decode cX3_store 58 = .ok (.iload_n 1, 1) := by decide +kernel
theorem dX3_store_59 : decode cX3_store 59 = .ok (.bipush 6, 2) := by decide +kernel
theorem dX3_store_61 : decode cX3_store 61 = .ok (.imul, 1) := by decide +kernel
theorem dX3_store_62 : decode cX3_store 62 = .ok (.iload 4, 2) := by decide +kernel
theorem dX3_store_64 : decode cX3_store 64 = .ok (.iadd, 1) := by decide +kernel
theorem dX3_store_65 : decode cX3_store 65 = .ok (.iload 5, 2) := by decide +kernel
theorem dX3_store_67 : decode cX3_store 67 = .ok (.iastore, 1) := by decide +kernel
theorem dX3_store_68 : decode cX3_store 68 = .ok (.aload_n 0, 1) := by decide +kernel
theorem dX3_store_69 : decode cX3_store 69 = .ok (.getfield 18, 3) := by decide +kernel
theorem dX3_store_72 : decode cX3_store 72 = .ok (.iload_n 1, 1) := by decide +kernel
theorem dX3_store_73 : decode cX3_store 73 = .ok (.dup2, 1) := by decide +kernel
theorem dX3_store_74 : decode cX3_store 74 = .ok (.iaload, 1) := by decide +kernel
theorem dX3_store_75 : decode cX3_store 75 = .ok (.iload 5, 2) := by decide +kernel
theorem dX3_store_77 : decode cX3_store 77 = .ok (.getstatic 56, 3) := by decide +kernel
theorem dX3_store_80 : decode cX3_store 80 = .ok (.iload 4, 2) := by decide +kernel
theorem dX3_store_82 : decode cX3_store 82 = .ok (.iaload, 1) := by decide +kernel
theorem dX3_store_83 : decode cX3_store 83 = .ok (.imul, 1) := by decide +kernel
theorem dX3_store_84 : decode cX3_store 84 = .ok (.iadd, 1) := by decide +kernel
theorem dX3_store_85 : decode cX3_store 85 = .ok (.iastore, 1) := by decide +kernel
theorem dX3_store_86 : decode cX3_store 86 = .ok (.iinc 4 1, 3) := by decide +kernel
theorem dX3_store_89 : decode cX3_store 89 = .ok (.goto (-65), 3) := by decide +kernel
theorem dX3_store_92 : decode cX3_store 92 = .ok (.return_, 1) := by decide +kernel
theorem dX3_removeAll_0 : decode cX3_removeAll 0 = .ok (.aload_n 0, 1) := by decide +kernel
theorem dX3_removeAll_1 : decode cX3_removeAll 1 = .ok (.getfield 24, 3) := by decide +kernel
theorem dX3_removeAll_4 : decode cX3_removeAll 4 = .ok (.iload_n 1, 1) := by decide +kernel
theorem dX3_removeAll_5 : decode cX3_removeAll 5 = .ok (.iaload, 1) := by decide +kernel
theorem dX3_removeAll_6 : decode cX3_removeAll 6 = .ok (.istore_n 2, 1) := by decide +kernel
theorem dX3_removeAll_7 : decode cX3_removeAll 7 = .ok (.aload_n 0, 1) := by decide +kernel
theorem dX3_removeAll_8 : decode cX3_removeAll 8 = .ok (.getfield 24, 3) := by decide +kernel
theorem dX3_removeAll_11 : decode cX3_removeAll 11 = .ok (.iload_n 1, 1) := by decide +kernel
theorem dX3_removeAll_12 : decode cX3_removeAll 12 = .ok (.iconst 0, 1) := by decide +kernel
theorem dX3_removeAll_13 : decode cX3_removeAll 13 = .ok (.iastore, 1) := by decide +kernel
theorem dX3_removeAll_14 : decode cX3_removeAll 14 = .ok (.iload_n 2, 1) := by decide +kernel
theorem dX3_removeAll_15 : decode cX3_removeAll 15 = .ok (.ireturn, 1) := by decide +kernel
theorem dX3_harshness_0 : decode cX3_harshness 0 = .ok (.iconst 0, 1) := by decide +kernel
theorem dX3_harshness_1 : decode cX3_harshness 1 = .ok (.istore_n 3, 1) := by decide +kernel
theorem dX3_harshness_2 : decode cX3_harshness 2 = .ok (.iconst 1, 1) := by decide +kernel
theorem dX3_harshness_3 : decode cX3_harshness 3 = .ok (.istore 4, 2) := by decide +kernel
theorem dX3_harshness_5 : decode cX3_harshness 5 = .ok (.iload 4, 2) := by decide +kernel
theorem dX3_harshness_7 : decode cX3_harshness 7 = .ok (.bipush 6, 2) := by decide +kernel
theorem dX3_harshness_9 : decode cX3_harshness 9 = .ok (.if_icmp .ge 53, 3) := by decide +kernel
theorem dX3_harshness_12 : decode cX3_harshness 12 = .ok (.aload_n 0, 1) := by decide +kernel
theorem dX3_harshness_13 : decode cX3_harshness 13 = .ok (.getfield 21, 3) := by decide +kernel
theorem dX3_harshness_16 : decode cX3_harshness 16 = .ok (.iload_n 1, 1) := by decide +kernel
theorem dX3_harshness_17 : decode cX3_harshness 17 = .ok (.bipush 6, 2) := by decide +kernel
theorem dX3_harshness_19 : decode cX3_harshness 19 = .ok (.imul, 1) := by decide +kernel
theorem dX3_harshness_20 : decode cX3_harshness 20 = .ok (.iload 4, 2) := by decide +kernel
theorem dX3_harshness_22 : decode cX3_harshness 22 = .ok (.iadd, 1) := by decide +kernel
theorem dX3_harshness_23 : decode cX3_harshness 23 = .ok (.iaload, 1) := by decide +kernel
theorem dX3_harshness_24 : decode cX3_harshness 24 = .ok (.aload_n 0, 1) := by decide +kernel
theorem dX3_harshness_25 : decode cX3_harshness 25 = .ok (.getfield 21, 3) := by decide +kernel
theorem dX3_harshness_28 : decode cX3_harshness 28 = .ok (.iload_n 2, 1) := by decide +kernel
theorem dX3_harshness_29 : decode cX3_harshness 29 = .ok (.bipush 6, 2) := by decide +kernel
theorem dX3_harshness_31 : decode cX3_harshness 31 = .ok (.imul, 1) := by decide +kernel
theorem dX3_harshness_32 : decode cX3_harshness 32 = .ok (.iload 4, 2) := by decide +kernel
theorem dX3_harshness_34 : decode cX3_harshness 34 = .ok (.iadd, 1) := by decide +kernel
theorem dX3_harshness_35 : decode cX3_harshness 35 = .ok (.iaload, 1) := by decide +kernel
theorem dX3_harshness_36 : decode cX3_harshness 36 = .ok (.isub, 1) := by decide +kernel
theorem dX3_harshness_37 : decode cX3_harshness 37 = .ok (.istore 5, 2) := by decide +kernel
theorem dX3_harshness_39 : decode cX3_harshness 39 = .ok (.iload_n 3, 1) := by decide +kernel
theorem dX3_harshness_40 : decode cX3_harshness 40 = .ok (.iload 5, 2) := by decide +kernel
theorem dX3_harshness_42 : decode cX3_harshness 42 = .ok (.invokestatic 59, 3) := by decide +kernel
theorem dX3_harshness_45 : decode cX3_harshness 45 = .ok (.getstatic 49, 3) := by decide +kernel
theorem dX3_harshness_48 : decode cX3_harshness 48 = .ok (.iload 4, 2) := by decide +kernel
theorem dX3_harshness_50 : decode cX3_harshness 50 = .ok (.iaload, 1) := by decide +kernel
theorem dX3_harshness_51 : decode cX3_harshness 51 = .ok (.iconst 1, 1) := by decide +kernel
theorem dX3_harshness_52 : decode cX3_harshness 52 = .ok (.isub, 1) := by decide +kernel
theorem dX3_harshness_53 : decode cX3_harshness 53 = .ok (.imul, 1) := by decide +kernel
theorem dX3_harshness_54 : decode cX3_harshness 54 = .ok (.iadd, 1) := by decide +kernel
theorem dX3_harshness_55 : decode cX3_harshness 55 = .ok (.istore_n 3, 1) := by decide +kernel
theorem dX3_harshness_56 : decode cX3_harshness 56 = .ok (.iinc 4 1, 3) := by decide +kernel
theorem dX3_harshness_59 : decode cX3_harshness 59 = .ok (.goto (-54), 3) := by decide +kernel
theorem dX3_harshness_62 : decode cX3_harshness 62 = .ok (.iload_n 3, 1) := by decide +kernel
theorem dX3_harshness_63 : decode cX3_harshness 63 = .ok (.ireturn, 1) := by decide +kernel
theorem dX4_init_0 : decode cX4_init 0 = .ok (.aload_n 0, 1) := by decide +kernel
theorem dX4_init_1 : decode cX4_init 1 = .ok (.invokespecial 3, 3) := by decide +kernel
theorem dX4_init_4 : decode cX4_init 4 = .ok (.aload_n 0, 1) := by decide +kernel
theorem dX4_init_5 : decode cX4_init 5 = .ok (.bipush 16, 2) := by decide +kernel
theorem dX4_init_7 : decode cX4_init 7 = .ok (.newarray .int, 2) := by decide +kernel
theorem dX4_init_9 : decode cX4_init 9 = .ok (.putfield 9, 3) := by decide +kernel
theorem dX4_init_12 : decode cX4_init 12 = .ok (.aload_n 0, 1) := by decide +kernel
theorem dX4_init_13 : decode cX4_init 13 = .ok (.aload_n 1, 1) := by decide +kernel
theorem dX4_init_14 : decode cX4_init 14 = .ok (.putfield 15, 3) := by decide +kernel
theorem dX4_init_17 : decode cX4_init 17 = .ok (.aload_n 0, 1) := by decide +kernel
theorem dX4_init_18 : decode cX4_init 18 = .ok (.aload_n 2, 1) := by decide +kernel
theorem dX4_init_19 : decode cX4_init 19 = .ok (.putfield 19, 3) := by decide +kernel
theorem dX4_init_22 : decode cX4_init 22 = .ok (.return_, 1) := by decide +kernel
theorem dX4_has_0 : decode cX4_has 0 = .ok (.aload_n 0, 1) := by decide +kernel
theorem dX4_has_1 : decode cX4_has 1 = .ok (.getfield 15, 3) := by decide +kernel
theorem dX4_has_4 : decode cX4_has 4 = .ok (.iload_n 1, 1) := by decide +kernel
theorem dX4_has_5 : decode cX4_has 5 = .ok (.invokevirtual 23, 3) := by decide +kernel
theorem dX4_has_8 : decode cX4_has 8 = .ok (.ifCond .eq 20, 3) := by decide +kernel
theorem dX4_has_11 : decode cX4_has 11 = .ok (.iload_n 2, 1) := by decide +kernel
theorem dX4_has_12 : decode cX4_has 12 = .ok (.ifCond .lt 16, 3) := by decide +kernel
theorem dX4_has_15 : decode cX4_has 15 = .ok (.iload_n 2, 1) := by decide +kernel
theorem dX4_has_16 : decode cX4_has 16 = .ok (.aload_n 0, 1) := by decide +kernel
theorem dX4_has_17 : decode cX4_has 17 = .ok (.iload_n 1, 1) := by decide +kernel
theorem dX4_has_18 : decode cX4_has 18 = .ok (.invokevirtual 29, 3) := by decide +kernel
theorem dX4_has_21 : decode cX4_has 21 = .ok (.if_icmp .ge 7, 3) := by decide +kernel
theorem dX4_has_24 : decode cX4_has 24 = .ok (.iconst 1, 1) := by decide +kernel
theorem dX4_has_25 : decode cX4_has 25 = .ok (.goto 4, 3) := by decide +kernel
theorem dX4_has_28 : decode cX4_has 28 = .ok (.iconst 0, 1) := by decide +kernel
theorem dX4_has_29 : decode cX4_has 29 = .ok (.ireturn, 1) := by decide +kernel
theorem dX4_countOf_0 : decode cX4_countOf 0 = .ok (.iconst 1, 1) := by decide +kernel
theorem dX4_countOf_1 : decode cX4_countOf 1 = .ok (.istore_n 2, 1) := by decide +kernel
theorem dX4_countOf_2 : decode cX4_countOf 2 = .ok (.iconst 0, 1) := by decide +kernel
theorem dX4_countOf_3 : decode cX4_countOf 3 = .ok (.istore_n 3, 1) := by decide +kernel
theorem dX4_countOf_4 : decode cX4_countOf 4 = .ok (.iload_n 3, 1) := by decide +kernel
theorem dX4_countOf_5 : decode cX4_countOf 5 = .ok (.aload_n 0, 1) := by decide +kernel
theorem dX4_countOf_6 : decode cX4_countOf 6 = .ok (.getfield 15, 3) := by decide +kernel
theorem dX4_countOf_9 : decode cX4_countOf 9 = .ok (.getfield 33, 3) := by decide +kernel
theorem dX4_countOf_12 : decode cX4_countOf 12 = .ok (.iload_n 1, 1) := by decide +kernel
theorem dX4_countOf_13 : decode cX4_countOf 13 = .ok (.iaload, 1) := by decide +kernel
theorem dX4_countOf_14 : decode cX4_countOf 14 = .ok (.if_icmp .ge 57, 3) := by decide +kernel
theorem dX4_countOf_17 : decode cX4_countOf 17 = .ok (.aload_n 0, 1) := by decide +kernel
theorem dX4_countOf_18 : decode cX4_countOf 18 = .ok (.getfield 15, 3) := by decide +kernel
theorem dX4_countOf_21 : decode cX4_countOf 21 = .ok (.getfield 36, 3) := by decide +kernel
theorem dX4_countOf_24 : decode cX4_countOf 24 = .ok (.iload_n 1, 1) := by decide +kernel
theorem dX4_countOf_25 : decode cX4_countOf 25 = .ok (.bipush 6, 2) := by decide +kernel
theorem dX4_countOf_27 : decode cX4_countOf 27 = .ok (.imul, 1) := by decide +kernel
theorem dX4_countOf_28 : decode cX4_countOf 28 = .ok (.iload_n 3, 1) := by decide +kernel
theorem dX4_countOf_29 : decode cX4_countOf 29 = .ok (.iadd, 1) := by decide +kernel
theorem dX4_countOf_30 : decode cX4_countOf 30 = .ok (.iaload, 1) := by decide +kernel
theorem dX4_countOf_31 : decode cX4_countOf 31 = .ok (.istore 4, 2) := by decide +kernel
theorem dX4_countOf_33 : decode cX4_countOf 33 = .ok (.iload 4, 2) := by decide +kernel
theorem dX4_countOf_35 : decode cX4_countOf 35 = .ok (.aload_n 0, 1) := by decide +kernel
theorem dX4_countOf_36 : decode cX4_countOf 36 = .ok (.getfield 15, 3) := by decide +kernel
theorem dX4_countOf_39 : decode cX4_countOf 39 = .ok (.getfield 39, 3) := by decide +kernel
theorem dX4_countOf_42 : decode cX4_countOf 42 = .ok (.iload_n 1, 1) := by decide +kernel
theorem dX4_countOf_43 : decode cX4_countOf 43 = .ok (.iaload, 1) := by decide +kernel
theorem dX4_countOf_44 : decode cX4_countOf 44 = .ok (.if_icmp .eq 21, 3) := by decide +kernel
theorem dX4_countOf_47 : decode cX4_countOf 47 = .ok (.iload_n 2, 1) := by decide +kernel
theorem dX4_countOf_48 : decode cX4_countOf 48 = .ok (.aload_n 0, 1) := by decide +kernel
theorem dX4_countOf_49 : decode cX4_countOf 49 = .ok (.getfield 19, 3) := by decide +kernel
theorem dX4_countOf_52 : decode cX4_countOf 52 = .ok (.getfield 42, 3) := by decide +kernel
theorem dX4_countOf_55 : decode cX4_countOf 55 = .ok (.aload_n 0, 1) := by decide +kernel
theorem dX4_countOf_56 : decode cX4_countOf 56 = .ok (.iload_n 1, 1) := by decide +kernel
theorem dX4_countOf_57 : decode cX4_countOf 57 = .ok (.iload 4, 2) := by decide +kernel
theorem dX4_countOf_59 : decode cX4_countOf 59 = .ok (.invokevirtual 47, 3) := by decide +kernel
theorem dX4_countOf_62 : decode cX4_countOf 62 = .ok (.iaload, 1) := by decide +kernel
theorem dX4_countOf_63 : decode cX4_countOf 63 = .ok (.imul, 1) := by decide +kernel
theorem dX4_countOf_64 : decode cX4_countOf 64 = .ok (.istore_n 2, 1) := by decide +kernel
theorem dX4_countOf_65 : decode cX4_countOf 65 = .ok (.iinc 3 1, 3) := by decide +kernel
theorem dX4_countOf_68 : decode cX4_countOf 68 = .ok (.goto (-64), 3) := by decide +kernel
theorem dX4_countOf_71 : decode cX4_countOf 71 = .ok (.iload_n 2, 1) := by decide +kernel
theorem dX4_countOf_72 : decode cX4_countOf 72 = .ok (.ireturn, 1) := by decide +kernel
theorem dX4_leastCount_0 : decode cX4_leastCount 0 = .ok (.bipush 64, 2) := by decide +kernel
theorem dX4_leastCount_2 : decode cX4_leastCount 2 = .ok (.istore_n 1, 1) := by decide +kernel
theorem dX4_leastCount_3 : decode cX4_leastCount 3 = .ok (.iconst 0, 1) := by decide +kernel
theorem dX4_leastCount_4 : decode cX4_leastCount 4 = .ok (.istore_n 2, 1) := by decide +kernel
theorem dX4_leastCount_5 : decode cX4_leastCount 5 = .ok (.iload_n 2, 1) := by decide +kernel
theorem dX4_leastCount_6 : decode cX4_leastCount 6 = .ok (.aload_n 0, 1) := by decide +kernel
theorem dX4_leastCount_7 : decode cX4_leastCount 7 = .ok (.getfield 15, 3) := by decide +kernel
theorem dX4_leastCount_10 : decode cX4_leastCount 10 = .ok (.getfield 51, 3) := by decide +kernel
theorem dX4_leastCount_13 : decode cX4_leastCount 13 = .ok (.if_icmp .ge 19, 3) := by decide +kernel
theorem dX4_leastCount_16 : decode cX4_leastCount 16 = .ok (.iload_n 1, 1) := by decide +kernel
theorem dX4_leastCount_17 : decode cX4_leastCount 17 = .ok (.aload_n 0, 1) := by decide +kernel
theorem dX4_leastCount_18 : decode cX4_leastCount 18 = .ok (.iload_n 2, 1) := by decide +kernel
theorem dX4_leastCount_19 : decode cX4_leastCount 19 = .ok (.invokevirtual 29, 3) := by decide +kernel
theorem dX4_leastCount_22 : decode cX4_leastCount 22 = .ok (.invokestatic 55, 3) := by decide +kernel
theorem dX4_leastCount_25 : decode cX4_leastCount 25 = .ok (.istore_n 1, 1) := by decide +kernel
theorem dX4_leastCount_26 : decode cX4_leastCount 26 = .ok (.iinc 2 1, 3) := by decide +kernel
theorem dX4_leastCount_29 : decode cX4_leastCount 29 = .ok (.goto (-24), 3) := by decide +kernel
theorem dX4_leastCount_32 : decode cX4_leastCount 32 = .ok (.iload_n 1, 1) := by decide +kernel
theorem dX4_leastCount_33 : decode cX4_leastCount 33 = .ok (.ireturn, 1) := by decide +kernel
theorem dX4_greatestCount_0 : decode cX4_greatestCount 0 = .ok (.iconst 0, 1) := by decide +kernel
theorem dX4_greatestCount_1 : decode cX4_greatestCount 1 = .ok (.istore_n 1, 1) := by decide +kernel
theorem dX4_greatestCount_2 : decode cX4_greatestCount 2 = .ok (.iconst 0, 1) := by decide +kernel
theorem dX4_greatestCount_3 : decode cX4_greatestCount 3 = .ok (.istore_n 2, 1) := by decide +kernel
theorem dX4_greatestCount_4 : decode cX4_greatestCount 4 = .ok (.iload_n 2, 1) := by decide +kernel
theorem dX4_greatestCount_5 : decode cX4_greatestCount 5 = .ok (.aload_n 0, 1) := by decide +kernel
theorem dX4_greatestCount_6 : decode cX4_greatestCount 6 = .ok (.getfield 15, 3) := by decide +kernel
theorem dX4_greatestCount_9 : decode cX4_greatestCount 9 = .ok (.getfield 51, 3) := by decide +kernel
theorem dX4_greatestCount_12 : decode cX4_greatestCount 12 = .ok (.if_icmp .ge 19, 3) := by decide +kernel
theorem dX4_greatestCount_15 : decode cX4_greatestCount 15 = .ok (.iload_n 1, 1) := by decide +kernel
theorem dX4_greatestCount_16 : decode cX4_greatestCount 16 = .ok (.aload_n 0, 1) := by decide +kernel
theorem dX4_greatestCount_17 : decode cX4_greatestCount 17 = .ok (.iload_n 2, 1) := by decide +kernel
theorem dX4_greatestCount_18 : decode cX4_greatestCount 18 = .ok (.invokevirtual 29, 3) := by decide +kernel
theorem dX4_greatestCount_21 : decode cX4_greatestCount 21 = .ok (.invokestatic 60, 3) := by decide +kernel
theorem dX4_greatestCount_24 : decode cX4_greatestCount 24 = .ok (.istore_n 1, 1) := by decide +kernel
theorem dX4_greatestCount_25 : decode cX4_greatestCount 25 = .ok (.iinc 2 1, 3) := by decide +kernel
theorem dX4_greatestCount_28 : decode cX4_greatestCount 28 = .ok (.goto (-24), 3) := by decide +kernel
theorem dX4_greatestCount_31 : decode cX4_greatestCount 31 = .ok (.iload_n 1, 1) := by decide +kernel
theorem dX4_greatestCount_32 : decode cX4_greatestCount 32 = .ok (.ireturn, 1) := by decide +kernel
theorem dX4_stepsAboveBase_0 : decode cX4_stepsAboveBase 0 = .ok (.aload_n 0, 1) := by decide +kernel
theorem dX4_stepsAboveBase_1 : decode cX4_stepsAboveBase 1 = .ok (.getfield 15, 3) := by decide +kernel
theorem dX4_stepsAboveBase_4 : decode cX4_stepsAboveBase 4 = .ok (.getfield 63, 3) := by decide +kernel
theorem dX4_stepsAboveBase_7 : decode cX4_stepsAboveBase 7 = .ok (.iload_n 2, 1) := by decide +kernel
theorem dX4_stepsAboveBase_8 : decode cX4_stepsAboveBase 8 = .ok (.iaload, 1) := by decide +kernel
theorem dX4_stepsAboveBase_9 : decode cX4_stepsAboveBase 9 = .ok (.aload_n 0, 1) := by decide +kernel
theorem dX4_stepsAboveBase_10 : decode cX4_stepsAboveBase 10 = .ok (.getfield 15, 3) := by decide +kernel
theorem dX4_stepsAboveBase_13 : decode cX4_stepsAboveBase 13 = .ok (.getfield 63, 3) := by decide +kernel
theorem dX4_stepsAboveBase_16 : decode cX4_stepsAboveBase 16 = .ok (.aload_n 0, 1) := by decide +kernel
theorem dX4_stepsAboveBase_17 : decode cX4_stepsAboveBase 17 = .ok (.getfield 15, 3) := by decide +kernel
theorem dX4_stepsAboveBase_20 : decode cX4_stepsAboveBase 20 = .ok (.getfield 39, 3) := by decide +kernel
theorem dX4_stepsAboveBase_23 : decode cX4_stepsAboveBase 23 = .ok (.iload_n 1, 1) := by decide +kernel
theorem dX4_stepsAboveBase_24 : decode cX4_stepsAboveBase 24 = .ok (.iaload, 1) := by decide +kernel
theorem dX4_stepsAboveBase_25 : decode cX4_stepsAboveBase 25 = .ok (.iaload, 1) := by decide +kernel
theorem dX4_stepsAboveBase_26 : decode cX4_stepsAboveBase 26 = .ok (.isub, 1) := by decide +kernel
theorem dX4_stepsAboveBase_27 : decode cX4_stepsAboveBase 27 = .ok (.ireturn, 1) := by decide +kernel
theorem dX4_typeOf_0 : decode cX4_typeOf 0 = .ok (.aload_n 0, 1) := by decide +kernel
theorem dX4_typeOf_1 : decode cX4_typeOf 1 = .ok (.iload_n 1, 1) := by decide +kernel
theorem dX4_typeOf_2 : decode cX4_typeOf 2 = .ok (.iload_n 2, 1) := by decide +kernel
theorem dX4_typeOf_3 : decode cX4_typeOf 3 = .ok (.invokevirtual 66, 3) := by decide +kernel
theorem dX4_typeOf_6 : decode cX4_typeOf 6 = .ok (.bipush 12, 2) := by decide +kernel
theorem dX4_typeOf_8 : decode cX4_typeOf 8 = .ok (.invokestatic 69, 3) := by decide +kernel
theorem dX4_typeOf_11 : decode cX4_typeOf 11 = .ok (.ireturn, 1) := by decide +kernel
theorem dX4_octavesOf_0 : decode cX4_octavesOf 0 = .ok (.aload_n 0, 1) := by decide +kernel
theorem dX4_octavesOf_1 : decode cX4_octavesOf 1 = .ok (.iload_n 1, 1) := by decide +kernel
theorem dX4_octavesOf_2 : decode cX4_octavesOf 2 = .ok (.iload_n 2, 1) := by decide +kernel
theorem dX4_octavesOf_3 : decode cX4_octavesOf 3 = .ok (.invokevirtual 66, 3) := by decide +kernel
theorem dX4_octavesOf_6 : decode cX4_octavesOf 6 = .ok (.bipush 12, 2) := by decide +kernel
theorem dX4_octavesOf_8 : decode cX4_octavesOf 8 = .ok (.idiv, 1) := by decide +kernel
theorem dX4_octavesOf_9 : decode cX4_octavesOf 9 = .ok (.ireturn, 1) := by decide +kernel
theorem dX4_open_0 : decode cX4_open 0 = .ok (.iload_n 2, 1) := by decide +kernel
theorem dX4_open_1 : decode cX4_open 1 = .ok (.istore_n 3, 1) := by decide +kernel
theorem dX4_open_2 : decode cX4_open 2 = .ok (.aload_n 0, 1) := by decide +kernel
theorem dX4_open_3 : decode cX4_open 3 = .ok (.getfield 15, 3) := by decide +kernel
theorem dX4_open_6 : decode cX4_open 6 = .ok (.getfield 33, 3) := by decide +kernel
theorem dX4_open_9 : decode cX4_open 9 = .ok (.iload_n 1, 1) := by decide +kernel
theorem dX4_open_10 : decode cX4_open 10 = .ok (.iaload, 1) := by decide +kernel
theorem dX4_open_11 : decode cX4_open 11 = .ok (.iconst 1, 1) := by decide +kernel
theorem dX4_open_12 : decode cX4_open 12 = .ok (.isub, 1) := by decide +kernel
theorem dX4_open_13 : decode cX4_open 13 = .ok (.istore 4, 2) := by decide +kernel
theorem dX4_open_15 : decode cX4_open 15 = .ok (.iload 4, 2) := by decide +kernel
theorem dX4_open_17 : decode cX4_open 17 = .ok (.ifCond .lt 100, 3) := by decide +kernel
theorem dX4_open_20 : decode cX4_open 20 = .ok (.aload_n 0, 1) := by decide +kernel
theorem dX4_open_21 : decode cX4_open 21 = .ok (.getfield 15, 3) := by decide +kernel
theorem dX4_open_24 : decode cX4_open 24 = .ok (.getfield 36, 3) := by decide +kernel
theorem dX4_open_27 : decode cX4_open 27 = .ok (.iload_n 1, 1) := by decide +kernel
theorem dX4_open_28 : decode cX4_open 28 = .ok (.bipush 6, 2) := by decide +kernel
theorem dX4_open_30 : decode cX4_open 30 = .ok (.imul, 1) := by decide +kernel
theorem dX4_open_31 : decode cX4_open 31 = .ok (.iload 4, 2) := by decide +kernel
theorem dX4_open_33 : decode cX4_open 33 = .ok (.iadd, 1) := by decide +kernel
theorem dX4_open_34 : decode cX4_open 34 = .ok (.iaload, 1) := by decide +kernel
theorem dX4_open_35 : decode cX4_open 35 = .ok (.istore 5, 2) := by decide +kernel
theorem dX4_open_37 : decode cX4_open 37 = .ok (.aload_n 0, 1) := by decide +kernel
theorem dX4_open_38 : decode cX4_open 38 = .ok (.iload_n 1, 1) := by decide +kernel
theorem dX4_open_39 : decode cX4_open 39 = .ok (.iload 5, 2) := by decide +kernel
theorem dX4_open_41 : decode cX4_open 41 = .ok (.invokevirtual 47, 3) := by decide +kernel
theorem dX4_open_44 : decode cX4_open 44 = .ok (.istore 6, 2) := by decide +kernel
theorem dX4_open_46 : decode cX4_open 46 = .ok (.aload_n 0, 1) := by decide +kernel
theorem dX4_open_47 : decode cX4_open 47 = .ok (.getfield 19, 3) := by decide +kernel
theorem dX4_open_50 : decode cX4_open 50 = .ok (.getfield 42, 3) := by decide +kernel
theorem dX4_open_53 : decode cX4_open 53 = .ok (.iload 6, 2) := by decide +kernel
theorem dX4_open_55 : decode cX4_open 55 = .ok (.iaload, 1) := by decide +kernel
theorem dX4_open_56 : decode cX4_open 56 = .ok (.istore 7, 2) := by decide +kernel
theorem dX4_open_58 : decode cX4_open 58 = .ok (.iload 5, 2) := by decide +kernel
theorem dX4_open_60 : decode cX4_open 60 = .ok (.aload_n 0, 1) := by decide +kernel
theorem dX4_open_61 : decode cX4_open 61 = .ok (.getfield 15, 3) := by decide +kernel
theorem dX4_open_64 : decode cX4_open 64 = .ok (.getfield 39, 3) := by decide +kernel
theorem dX4_open_67 : decode cX4_open 67 = .ok (.iload_n 1, 1) := by decide +kernel
theorem dX4_open_68 : decode cX4_open 68 = .ok (.iaload, 1) := by decide +kernel
theorem dX4_open_69 : decode cX4_open 69 = .ok (.if_icmp .eq 9, 3) := by decide +kernel
theorem dX4_open_72 : decode cX4_open 72 = .ok (.iload 7, 2) := by decide +kernel
theorem dX4_open_74 : decode cX4_open 74 = .ok (.iconst 1, 1) := by decide +kernel
theorem dX4_open_75 : decode cX4_open 75 = .ok (.if_icmp .ge 15, 3) := by decide +kernel
theorem dX4_open_78 : decode cX4_open 78 = .ok (.aload_n 0, 1) := by decide +kernel
theorem dX4_open_79 : decode cX4_open 79 = .ok (.getfield 9, 3) := by decide +kernel
theorem dX4_open_82 : decode cX4_open 82 = .ok (.iload 5, 2) := by decide +kernel
theorem dX4_open_84 : decode cX4_open 84 = .ok (.bipush 36, 2) := by decide +kernel
theorem dX4_open_86 : decode cX4_open 86 = .ok (.iastore, 1) := by decide +kernel
theorem dX4_open_87 : decode cX4_open 87 = .ok (.goto 24, 3) := by decide +kernel
theorem dX4_open_90 : decode cX4_open 90 = .ok (.aload_n 0, 1) := by decide +kernel
theorem dX4_open_91 : decode cX4_open 91 = .ok (.getfield 9, 3) := by decide +kernel
theorem dX4_open_94 : decode cX4_open 94 = .ok (.iload 5, 2) := by decide +kernel
theorem dX4_open_96 : decode cX4_open 96 = .ok (.iload 6, 2) := by decide +kernel
theorem dX4_open_98 : decode cX4_open 98 = .ok (.iconst 3, 1) := by decide +kernel
theorem dX4_open_99 : decode cX4_open 99 = .ok (.imul, 1) := by decide +kernel
theorem dX4_open_100 : decode cX4_open 100 = .ok (.iload_n 3, 1) := by decide +kernel
theorem dX4_open_101 : decode cX4_open 101 = .ok (.iload 7, 2) := by decide +kernel
theorem dX4_open_103 : decode cX4_open 103 = .ok (.irem, 1) := by decide +kernel
theorem dX4_open_104 : decode cX4_open 104 = .ok (.iadd, 1) := by decide +kernel
theorem dX4_open_105 : decode cX4_open 105 = .ok (.iastore, 1) := by decide +kernel
theorem dX4_open_106 : decode cX4_open 106 = .ok (.iload_n 3, 1) := by decide +kernel
theorem dX4_open_107 : decode cX4_open 107 = .ok (.iload 7, 2) := by decide +kernel
theorem dX4_open_109 : decode cX4_open 109 = .ok (.idiv, 1) := by decide +kernel
theorem dX4_open_110 : decode cX4_open 110 = .ok (.istore_n 3, 1) := by decide +kernel
theorem dX4_open_111 : decode cX4_open 111 = .ok (.iinc 4 (-1), 3) := by decide +kernel
theorem dX4_open_114 : decode cX4_open 114 = .ok (.goto (-99), 3) := by decide +kernel
theorem dX4_open_117 : decode cX4_open 117 = .ok (.return_, 1) := by decide +kernel
theorem dX4_targetOf_0 : decode cX4_targetOf 0 = .ok (.ldc 72, 2) := by decide +kernel
theorem dX4_targetOf_2 : decode cX4_targetOf 2 = .ok (.aload_n 0, 1) := by decide +kernel
theorem dX4_targetOf_3 : decode cX4_targetOf 3 = .ok (.iload_n 1, 1) := by decide +kernel
theorem dX4_targetOf_4 : decode cX4_targetOf 4 = .ok (.iload_n 2, 1) := by decide +kernel
theorem dX4_targetOf_5 : decode cX4_targetOf 5 = .ok (.invokevirtual 73, 3) := by decide +kernel
theorem dX4_targetOf_8 : decode cX4_targetOf 8 = .ok (.imul, 1) := by decide +kernel
theorem dX4_targetOf_9 : decode cX4_targetOf 9 = .ok (.aload_n 0, 1) := by decide +kernel
theorem dX4_targetOf_10 : decode cX4_targetOf 10 = .ok (.getfield 19, 3) := by decide +kernel
theorem dX4_targetOf_13 : decode cX4_targetOf 13 = .ok (.getfield 76, 3) := by decide +kernel
theorem dX4_targetOf_16 : decode cX4_targetOf 16 = .ok (.aload_n 0, 1) := by decide +kernel
theorem dX4_targetOf_17 : decode cX4_targetOf 17 = .ok (.getfield 9, 3) := by decide +kernel
theorem dX4_targetOf_20 : decode cX4_targetOf 20 = .ok (.iload_n 2, 1) := by decide +kernel
theorem dX4_targetOf_21 : decode cX4_targetOf 21 = .ok (.iaload, 1) := by decide +kernel
theorem dX4_targetOf_22 : decode cX4_targetOf 22 = .ok (.iaload, 1) := by decide +kernel
theorem dX4_targetOf_23 : decode cX4_targetOf 23 = .ok (.iadd, 1) := by decide +kernel
theorem dX4_targetOf_24 : decode cX4_targetOf 24 = .ok (.ireturn, 1) := by decide +kernel
theorem dX4_deviationOf_0 : decode cX4_deviationOf 0 = .ok (.aload_n 0, 1) := by decide +kernel
theorem dX4_deviationOf_1 : decode cX4_deviationOf 1 = .ok (.iload_n 1, 1) := by decide +kernel
theorem dX4_deviationOf_2 : decode cX4_deviationOf 2 = .ok (.iload_n 2, 1) := by decide +kernel
theorem dX4_deviationOf_3 : decode cX4_deviationOf 3 = .ok (.invokevirtual 77, 3) := by decide +kernel
theorem dX4_deviationOf_6 : decode cX4_deviationOf 6 = .ok (.sipush 10000, 3) := by decide +kernel
theorem dX4_deviationOf_9 : decode cX4_deviationOf 9 = .ok (.aload_n 0, 1) := by decide +kernel
theorem dX4_deviationOf_10 : decode cX4_deviationOf 10 = .ok (.iload_n 1, 1) := by decide +kernel
theorem dX4_deviationOf_11 : decode cX4_deviationOf 11 = .ok (.iload_n 2, 1) := by decide +kernel
theorem dX4_deviationOf_12 : decode cX4_deviationOf 12 = .ok (.invokevirtual 66, 3) := by decide +kernel
theorem dX4_deviationOf_15 : decode cX4_deviationOf 15 = .ok (.imul, 1) := by decide +kernel
theorem dX4_deviationOf_16 : decode cX4_deviationOf 16 = .ok (.isub, 1) := by decide +kernel
theorem dX4_deviationOf_17 : decode cX4_deviationOf 17 = .ok (.ireturn, 1) := by decide +kernel
theorem dX4_harshness_0 : decode cX4_harshness 0 = .ok (.iconst 0, 1) := by decide +kernel
theorem dX4_harshness_1 : decode cX4_harshness 1 = .ok (.istore_n 2, 1) := by decide +kernel
theorem dX4_harshness_2 : decode cX4_harshness 2 = .ok (.iload_n 1, 1) := by decide +kernel
theorem dX4_harshness_3 : decode cX4_harshness 3 = .ok (.bipush 6, 2) := by decide +kernel
theorem dX4_harshness_5 : decode cX4_harshness 5 = .ok (.imul, 1) := by decide +kernel
theorem dX4_harshness_6 : decode cX4_harshness 6 = .ok (.istore_n 3, 1) := by decide +kernel
theorem dX4_harshness_7 : decode cX4_harshness 7 = .ok (.iconst 0, 1) := by decide +kernel
theorem dX4_harshness_8 : decode cX4_harshness 8 = .ok (.istore 4, 2) := by decide +kernel
theorem dX4_harshness_10 : decode cX4_harshness 10 = .ok (.iload 4, 2) := by decide +kernel
theorem dX4_harshness_12 : decode cX4_harshness 12 = .ok (.aload_n 0, 1) := by decide +kernel
theorem dX4_harshness_13 : decode cX4_harshness 13 = .ok (.getfield 15, 3) := by decide +kernel
theorem dX4_harshness_16 : decode cX4_harshness 16 = .ok (.getfield 33, 3) := by decide +kernel
theorem dX4_harshness_19 : decode cX4_harshness 19 = .ok (.iload_n 1, 1) := by decide +kernel
theorem dX4_harshness_20 : decode cX4_harshness 20 = .ok (.iaload, 1) := by decide +kernel
theorem dX4_harshness_21 : decode cX4_harshness 21 = .ok (.if_icmp .ge 83, 3) := by decide +kernel
theorem dX4_harshness_24 : decode cX4_harshness 24 = .ok (.aload_n 0, 1) := by decide +kernel
theorem dX4_harshness_25 : decode cX4_harshness 25 = .ok (.getfield 9, 3) := by decide +kernel
theorem dX4_harshness_28 : decode cX4_harshness 28 = .ok (.aload_n 0, 1) := by decide +kernel
theorem dX4_harshness_29 : decode cX4_harshness 29 = .ok (.getfield 15, 3) := by decide +kernel
theorem dX4_harshness_32 : decode cX4_harshness 32 = .ok (.getfield 36, 3) := by decide +kernel
theorem dX4_harshness_35 : decode cX4_harshness 35 = .ok (.iload_n 3, 1) := by decide +kernel
theorem dX4_harshness_36 : decode cX4_harshness 36 = .ok (.iload 4, 2) := by decide +kernel
theorem dX4_harshness_38 : decode cX4_harshness 38 = .ok (.iadd, 1) := by decide +kernel
theorem dX4_harshness_39 : decode cX4_harshness 39 = .ok (.iaload, 1) := by decide +kernel
theorem dX4_harshness_40 : decode cX4_harshness 40 = .ok (.iaload, 1) := by decide +kernel
theorem dX4_harshness_41 : decode cX4_harshness 41 = .ok (.istore 5, 2) := by decide +kernel
theorem dX4_harshness_43 : decode cX4_harshness 43 = .ok (.iload 4, 2) := by decide +kernel
theorem dX4_harshness_45 : decode cX4_harshness 45 = .ok (.iconst 1, 1) := by decide +kernel
theorem dX4_harshness_46 : decode cX4_harshness 46 = .ok (.iadd, 1) := by decide +kernel
theorem dX4_harshness_47 : decode cX4_harshness 47 = .ok (.istore 6, 2) := by decide +kernel
theorem dX4_harshness_49 : decode cX4_harshness 49 = .ok (.iload 6, 2) := by decide +kernel
theorem dX4_harshness_51 : decode cX4_harshness 51 = .ok (.aload_n 0, 1) := by decide +kernel
theorem dX4_harshness_52 : decode cX4_harshness 52 = .ok (.getfield 15, 3) := by decide +kernel
theorem dX4_harshness_55 : decode cX4_harshness 55 = .ok (.getfield 33, 3) := by decide +kernel
theorem dX4_harshness_58 : decode cX4_harshness 58 = .ok (.iload_n 1, 1) := by decide +kernel
theorem dX4_harshness_59 : decode cX4_harshness 59 = .ok (.iaload, 1) := by decide +kernel
theorem dX4_harshness_60 : decode cX4_harshness 60 = .ok (.if_icmp .ge 38, 3) := by decide +kernel
theorem dX4_harshness_63 : decode cX4_harshness 63 = .ok (.iload_n 2, 1) := by decide +kernel
theorem dX4_harshness_64 : decode cX4_harshness 64 = .ok (.aload_n 0, 1) := by decide +kernel
theorem dX4_harshness_65 : decode cX4_harshness 65 = .ok (.getfield 19, 3) := by decide +kernel
theorem dX4_harshness_68 : decode cX4_harshness 68 = .ok (.iload 5, 2) := by decide +kernel
theorem dX4_harshness_70 : decode cX4_harshness 70 = .ok (.aload_n 0, 1) := by decide +kernel
theorem dX4_harshness_71 : decode cX4_harshness 71 = .ok (.getfield 9, 3) := by decide +kernel
theorem dX4_harshness_74 : decode cX4_harshness 74 = .ok (.aload_n 0, 1) := by decide +kernel
theorem dX4_harshness_75 : decode cX4_harshness 75 = .ok (.getfield 15, 3) := by decide +kernel
theorem dX4_harshness_78 : decode cX4_harshness 78 = .ok (.getfield 36, 3) := by decide +kernel
theorem dX4_harshness_81 : decode cX4_harshness 81 = .ok (.iload_n 3, 1) := by decide +kernel
theorem dX4_harshness_82 : decode cX4_harshness 82 = .ok (.iload 6, 2) := by decide +kernel
theorem dX4_harshness_84 : decode cX4_harshness 84 = .ok (.iadd, 1) := by decide +kernel
theorem dX4_harshness_85 : decode cX4_harshness 85 = .ok (.iaload, 1) := by decide +kernel
theorem dX4_harshness_86 : decode cX4_harshness 86 = .ok (.iaload, 1) := by decide +kernel
theorem dX4_harshness_87 : decode cX4_harshness 87 = .ok (.invokevirtual 80, 3) := by decide +kernel
theorem dX4_harshness_90 : decode cX4_harshness 90 = .ok (.iadd, 1) := by decide +kernel
theorem dX4_harshness_91 : decode cX4_harshness 91 = .ok (.istore_n 2, 1) := by decide +kernel
theorem dX4_harshness_92 : decode cX4_harshness 92 = .ok (.iinc 6 1, 3) := by decide +kernel
theorem dX4_harshness_95 : decode cX4_harshness 95 = .ok (.goto (-46), 3) := by decide +kernel
theorem dX4_harshness_98 : decode cX4_harshness 98 = .ok (.iinc 4 1, 3) := by decide +kernel
theorem dX4_harshness_101 : decode cX4_harshness 101 = .ok (.goto (-91), 3) := by decide +kernel
theorem dX4_harshness_104 : decode cX4_harshness 104 = .ok (.iload_n 2, 1) := by decide +kernel
theorem dX4_harshness_105 : decode cX4_harshness 105 = .ok (.ireturn, 1) := by decide +kernel
